theorem dX0_init_0 : decode cX0_init 0 = .ok (.aload_n 0, 1) := by decide +kernel
theorem dX0_init_1 : decode cX0_init 1 = .ok (.invokespecial 3, 3) := by decide +kernel
theorem dX0_init_4 : decode cX0_init 4 = .ok (.return_, 1) := by decide +kernel
theorem dX0_hold_0 : decode cX0_hold 0 = .ok (.aload_n 0, 1) := by decide +kernel
theorem dX0_hold_1 : decode cX0_hold 1 = .ok (.iload_n 1, 1) := by decide +kernel
theorem dX0_hold_2 : decode cX0_hold 2 = .ok (.putfield 9, 3) := by decide +kernel
theorem dX0_hold_5 : decode cX0_hold 5 = .ok (.aload_n 0, 1) := by decide +kernel
theorem dX0_hold_6 : decode cX0_hold 6 = .ok (.iconst 0, 1) := by decide +kernel
theorem dX0_hold_7 : decode cX0_hold 7 = .ok (.putfield 15, 3) := by decide +kernel
theorem dX0_hold_10 : decode cX0_hold 10 = .ok (.iconst 0, 1) := by decide +kernel
theorem dX0_hold_11 : decode cX0_hold 11 = .ok (.istore 6, 2) := by decide +kernel
theorem dX0_hold_13 : decode cX0_hold 13 = .ok (.iload 6, 2) := by decide +kernel
theorem dX0_hold_15 : decode cX0_hold 15 = .ok (.iload 4, 2) := by decide +kernel
theorem dX0_hold_17 : decode cX0_hold 17 = .ok (.if_icmp .ge 98, 3) := by decide +kernel
theorem dX0_hold_20 : decode cX0_hold 20 = .ok (.aload_n 0, 1) := by decide +kernel
theorem dX0_hold_21 : decode cX0_hold 21 = .ok (.getfield 9, 3) := by decide +kernel
theorem dX0_hold_24 : decode cX0_hold 24 = .ok (.ifCond .le 91, 3) := by decide +kernel
theorem dX0_hold_27 : decode cX0_hold 27 = .ok (.aload_n 0, 1) := by decide +kernel
theorem dX0_hold_28 : decode cX0_hold 28 = .ok (.iconst 0, 1) := by decide +kernel
theorem dX0_hold_29 : decode cX0_hold 29 = .ok (.aload_n 0, 1) := by decide +kernel
theorem dX0_hold_30 : decode cX0_hold 30 = .ok (.getfield 9, 3) := by decide +kernel
theorem dX0_hold_33 : decode cX0_hold 33 = .ok (.iload_n 2, 1) := by decide +kernel
theorem dX0_hold_34 : decode cX0_hold 34 = .ok (.iload_n 3, 1) := by decide +kernel
theorem dX0_hold_35 : decode cX0_hold 35 = .ok (.iload 5, 2) := by decide +kernel
theorem dX0_hold_37 : decode cX0_hold 37 = .ok (.iload 6, 2) := by decide +kernel
theorem dX0_hold_39 : decode cX0_hold 39 = .ok (.invokestatic 18, 3) := by decide +kernel
theorem dX0_hold_42 : decode cX0_hold 42 = .ok (.isub, 1) := by decide +kernel
theorem dX0_hold_43 : decode cX0_hold 43 = .ok (.invokestatic 22, 3) := by decide +kernel
theorem dX0_hold_46 : decode cX0_hold 46 = .ok (.putfield 9, 3) := by decide +kernel
theorem dX0_hold_49 : decode cX0_hold 49 = .ok (.aload_n 0, 1) := by decide +kernel
theorem dX0_hold_50 : decode cX0_hold 50 = .ok (.iload 6, 2) := by decide +kernel
theorem dX0_hold_52 : decode cX0_hold 52 = .ok (.iconst 1, 1) := by decide +kernel
theorem dX0_hold_53 : decode cX0_hold 53 = .ok (.iadd, 1) := by decide +kernel
theorem dX0_hold_54 : decode cX0_hold 54 = .ok (.putfield 15, 3) := by decide +kernel
theorem dX0_hold_57 : decode cX0_hold 57 = .ok (.aload_n 0, 1) := by decide +kernel
theorem dX0_hold_58 : decode cX0_hold 58 = .ok (.getfield 15, 3) := by decide +kernel
theorem dX0_hold_61 : decode cX0_hold 61 = .ok (.iload 4, 2) := by decide +kernel
theorem dX0_hold_63 : decode cX0_hold 63 = .ok (.if_icmp .ge 14, 3) := by decide +kernel
theorem dX0_hold_66 : decode cX0_hold 66 = .ok (.aload_n 0, 1) := by decide +kernel
theorem dX0_hold_67 : decode cX0_hold 67 = .ok (.getfield 9, 3) := by decide +kernel
theorem dX0_hold_70 : decode cX0_hold 70 = .ok (.ifCond .le 7, 3) := by decide +kernel
theorem dX0_hold_73 : decode cX0_hold 73 = .ok (.iconst 1, 1) := by decide +kernel
theorem dX0_hold_74 : decode cX0_hold 74 = .ok (.goto 4, 3) := by decide +kernel
theorem dX0_hold_77 : decode cX0_hold 77 = .ok (.iconst 0, 1) := by decide +kernel
theorem dX0_hold_78 : decode cX0_hold 78 = .ok (.istore 7, 2) := by decide +kernel
theorem dX0_hold_80 : decode cX0_hold 80 = .ok (.iload 7, 2) := by decide +kernel
theorem dX0_hold_82 : decode cX0_hold 82 = .ok (.ifCond .eq 27, 3) := by decide +kernel
theorem dX0_hold_85 : decode cX0_hold 85 = .ok (.iload 6, 2) := by decide +kernel
theorem dX0_hold_87 : decode cX0_hold 87 = .ok (.iconst 3, 1) := by decide +kernel
theorem dX0_hold_88 : decode cX0_hold 88 = .ok (.irem, 1) := by decide +kernel
theorem dX0_hold_89 : decode cX0_hold 89 = .ok (.iconst 2, 1) := by decide +kernel
theorem dX0_hold_90 : decode cX0_hold 90 = .ok (.if_icmp .ne 19, 3) := by decide +kernel
theorem dX0_hold_93 : decode cX0_hold 93 = .ok (.aload_n 0, 1) := by decide +kernel
theorem dX0_hold_94 : decode cX0_hold 94 = .ok (.bipush 99, 2) := by decide +kernel
theorem dX0_hold_96 : decode cX0_hold 96 = .ok (.aload_n 0, 1) := by decide +kernel
theorem dX0_hold_97 : decode cX0_hold 97 = .ok (.getfield 9, 3) := by decide +kernel
theorem dX0_hold_100 : decode cX0_hold 100 = .ok (.iload 5, 2) := by decide +kernel
theorem dX0_hold_102 : decode cX0_hold 102 = .ok (.iadd, 1) := by decide +kernel
theorem dX0_hold_103 : decode cX0_hold 103 = .ok (.invokestatic 28, 3) := by decide +kernel
theorem dX0_hold_106 : decode cX0_hold 106 = .ok (.putfield 9, 3) := by decide +kernel
theorem dX0_hold_109 : decode cX0_hold 109 = .ok (.iinc 6 1, 3) := by decide +kernel
theorem dX0_hold_112 : decode cX0_hold 112 = .ok (.goto (-99), 3) := by decide +kernel
theorem dX0_hold_115 : decode cX0_hold 115 = .ok (.return_, 1) := by decide +kernel
theorem dX0_gotOff_0 : decode cX0_gotOff 0 = .ok (.iload_n 0, 1) := by decide +kernel
theorem dX0_gotOff_1 : decode cX0_gotOff 1 = .ok (.tableswitch 51 1 3 #[27, 31, 43], 27) := by decide +kernel
theorem dX0_gotOff_28 : decode cX0_gotOff 28 = .ok (.iload_n 1, 1) := by decide +kernel
theorem dX0_gotOff_29 : decode cX0_gotOff 29 = .ok (.iload_n 3, 1) := by decide +kernel
theorem dX0_gotOff_30 : decode cX0_gotOff 30 = .ok (.iadd, 1) := by decide +kernel
theorem dX0_gotOff_31 : decode cX0_gotOff 31 = .ok (.ireturn, 1) := by decide +kernel
theorem dX0_gotOff_32 : decode cX0_gotOff 32 = .ok (.iload_n 3, 1) := by decide +kernel
theorem dX0_gotOff_33 : decode cX0_gotOff 33 = .ok (.iconst 2, 1) := by decide +kernel
theorem dX0_gotOff_34 : decode cX0_gotOff 34 = .ok (.irem, 1) := by decide +kernel
theorem dX0_gotOff_35 : decode cX0_gotOff 35 = .ok (.ifCond .ne 7, 3) := by decide +kernel
theorem dX0_gotOff_38 : decode cX0_gotOff 38 = .ok (.iload_n 1, 1) := by decide +kernel
theorem dX0_gotOff_39 : decode cX0_gotOff 39 = .ok (.goto 4, 3) := by decide +kernel
theorem dX0_gotOff_42 : decode cX0_gotOff 42 = .ok (.iconst 0, 1) := by decide +kernel
theorem dX0_gotOff_43 : decode cX0_gotOff 43 = .ok (.ireturn, 1) := by decide +kernel
theorem dX0_gotOff_44 : decode cX0_gotOff 44 = .ok (.iconst 2, 1) := by decide +kernel
theorem dX0_gotOff_45 : decode cX0_gotOff 45 = .ok (.iload_n 1, 1) := by decide +kernel
theorem dX0_gotOff_46 : decode cX0_gotOff 46 = .ok (.imul, 1) := by decide +kernel
theorem dX0_gotOff_47 : decode cX0_gotOff 47 = .ok (.iload_n 2, 1) := by decide +kernel
theorem dX0_gotOff_48 : decode cX0_gotOff 48 = .ok (.iconst 2, 1) := by decide +kernel
theorem dX0_gotOff_49 : decode cX0_gotOff 49 = .ok (.idiv, 1) := by decide +kernel
theorem dX0_gotOff_50 : decode cX0_gotOff 50 = .ok (.iadd, 1) := by decide +kernel
theorem dX0_gotOff_51 : decode cX0_gotOff 51 = .ok (.ireturn, 1) := by decide +kernel
theorem dX0_gotOff_52 : decode cX0_gotOff 52 = .ok (.iload_n 1, 1) := by decide +kernel
theorem dX0_gotOff_53 : decode cX0_gotOff 53 = .ok (.ireturn, 1) := by decide +kernel
theorem dX1_init_0 : decode cX1_init 0 = .ok (.aload_n 0, 1) := by decide +kernel
theorem dX1_init_1 : decode cX1_init 1 = .ok (.invokespecial 3, 3) := by decide +kernel
theorem dX1_init_4 : decode cX1_init 4 = .ok (.aload_n 0, 1) := by decide +kernel
theorem dX1_init_5 : decode cX1_init 5 = .ok (.bipush 15, 2) := by decide +kernel
theorem dX1_init_7 : decode cX1_init 7 = .ok (.newarray .int, 2) := by decide +kernel
theorem dX1_init_9 : decode cX1_init 9 = .ok (.putfield 9, 3) := by decide +kernel
theorem dX1_init_12 : decode cX1_init 12 = .ok (.aload_n 0, 1) := by decide +kernel
theorem dX1_init_13 : decode cX1_init 13 = .ok (.bipush 15, 2) := by decide +kernel
theorem dX1_init_15 : decode cX1_init 15 = .ok (.newarray .int, 2) := by decide +kernel
theorem dX1_init_17 : decode cX1_init 17 = .ok (.putfield 15, 3) := by decide +kernel
theorem dX1_init_20 : decode cX1_init 20 = .ok (.return_, 1) := by decide +kernel
theorem dX1_add_0 : decode cX1_add 0 = .ok (.aload_n 0, 1) := by decide +kernel
theorem dX1_add_1 : decode cX1_add 1 = .ok (.getfield 18, 3) := by decide +kernel
theorem dX1_add_4 : decode cX1_add 4 = .ok (.bipush 15, 2) := by decide +kernel
theorem dX1_add_6 : decode cX1_add 6 = .ok (.if_icmp .lt 4, 3) := by decide +kernel
theorem dX1_add_9 : decode cX1_add 9 = .ok (.return_, 1) := by decide +kernel
theorem dX1_add_10 : decode cX1_add 10 = .ok (.aload_n 0, 1) := by decide +kernel
theorem dX1_add_11 : decode cX1_add 11 = .ok (.getfield 9, 3) := by decide +kernel
theorem dX1_add_14 : decode cX1_add 14 = .ok (.aload_n 0, 1) := by decide +kernel
theorem dX1_add_15 : decode cX1_add 15 = .ok (.getfield 18, 3) := by decide +kernel
theorem dX1_add_18 : decode cX1_add 18 = .ok (.iload_n 1, 1) := by decide +kernel
theorem dX1_add_19 : decode cX1_add 19 = .ok (.iastore, 1) := by decide +kernel
theorem dX1_add_20 : decode cX1_add 20 = .ok (.aload_n 0, 1) := by decide +kernel
theorem dX1_add_21 : decode cX1_add 21 = .ok (.getfield 15, 3) := by decide +kernel
theorem dX1_add_24 : decode cX1_add 24 = .ok (.aload_n 0, 1) := by decide +kernel
theorem dX1_add_25 : decode cX1_add 25 = .ok (.getfield 18, 3) := by decide +kernel
theorem dX1_add_28 : decode cX1_add 28 = .ok (.iload_n 2, 1) := by decide +kernel
theorem dX1_add_29 : decode cX1_add 29 = .ok (.iastore, 1) := by decide +kernel
theorem dX1_add_30 : decode cX1_add 30 = .ok (.aload_n 0, 1) := by decide +kernel
theorem dX1_add_31 : decode cX1_add 31 = .ok (.dup, 1) := by decide +kernel
theorem dX1_add_32 : decode cX1_add 32 = .ok (.getfield 18, 3) := by decide +kernel
theorem dX1_add_35 : decode cX1_add 35 = .ok (.iconst 1, 1) := by decide +kernel
theorem dX1_add_36 : decode cX1_add 36 = .ok (.iadd, 1) := by decide +kernel
theorem dX1_add_37 : decode cX1_add 37 = .ok (.putfield 18, 3) := by decide +kernel
theorem dX1_add_40 : decode cX1_add 40 = .ok (.return_, 1) := by decide +kernel
theorem dX1_firstFalse_0 : decode cX1_firstFalse 0 = .ok (.iconst 0, 1) := by decide +kernel
theorem dX1_firstFalse_1 : decode cX1_firstFalse 1 = .ok (.istore_n 2, 1) := by decide +kernel
theorem dX1_firstFalse_2 : decode cX1_firstFalse 2 = .ok (.iload_n 2, 1) := by decide +kernel
theorem dX1_firstFalse_3 : decode cX1_firstFalse 3 = .ok (.aload_n 0, 1) := by decide +kernel
theorem dX1_firstFalse_4 : decode cX1_firstFalse 4 = .ok (.getfield 18, 3) := by decide +kernel
theorem dX1_firstFalse_7 : decode cX1_firstFalse 7 = .ok (.if_icmp .ge 28, 3) := by decide +kernel
theorem dX1_firstFalse_10 : decode cX1_firstFalse 10 = .ok (.aload_n 1, 1) := by decide +kernel
theorem dX1_firstFalse_11 : decode cX1_firstFalse 11 = .ok (.aload_n 0, 1) := by decide +kernel
theorem dX1_firstFalse_12 : decode cX1_firstFalse 12 = .ok (.getfield 9, 3) := by decide +kernel
theorem dX1_firstFalse_15 : decode cX1_firstFalse 15 = .ok (.iload_n 2, 1) := by decide +kernel
theorem dX1_firstFalse_16 : decode cX1_firstFalse 16 = .ok (.iaload, 1) := by decide +kernel
theorem dX1_firstFalse_17 : decode cX1_firstFalse 17 = .ok (.iaload, 1) := by decide +kernel
theorem dX1_firstFalse_18 : decode cX1_firstFalse 18 = .ok (.aload_n 0, 1) := by decide +kernel
theorem dX1_firstFalse_19 : decode cX1_firstFalse 19 = .ok (.getfield 15, 3) := by decide +kernel
theorem dX1_firstFalse_22 : decode cX1_firstFalse 22 = .ok (.iload_n 2, 1) := by decide +kernel
theorem dX1_firstFalse_23 : decode cX1_firstFalse 23 = .ok (.iaload, 1) := by decide +kernel
theorem dX1_firstFalse_24 : decode cX1_firstFalse 24 = .ok (.if_icmp .eq 5, 3) := by decide +kernel
theorem dX1_firstFalse_27 : decode cX1_firstFalse 27 = .ok (.iload_n 2, 1) := by decide +kernel
theorem dX1_firstFalse_28 : decode cX1_firstFalse 28 = .ok (.ireturn, 1) := by decide +kernel
theorem dX1_firstFalse_29 : decode cX1_firstFalse 29 = .ok (.iinc 2 1, 3) := by decide +kernel
theorem dX1_firstFalse_32 : decode cX1_firstFalse 32 = .ok (.goto (-30), 3) := by decide +kernel
theorem dX1_firstFalse_35 : decode cX1_firstFalse 35 = .ok (.iconst (-1), 1) := by decide +kernel
theorem dX1_firstFalse_36 : decode cX1_firstFalse 36 = .ok (.ireturn, 1) := by decide +kernel
theorem dX2_init_0 : decode cX2_init 0 = .ok (.aload_n 0, 1) := by decide +kernel
theorem dX2_init_1 : decode cX2_init 1 = .ok (.invokespecial 3, 3) := by decide +kernel
theorem dX2_init_4 : decode cX2_init 4 = .ok (.aload_n 0, 1) := by decide +kernel
theorem dX2_init_5 : decode cX2_init 5 = .ok (.new 9, 3) := by decide +kernel
theorem dX2_init_8 : decode cX2_init 8 = .ok (.dup, 1) := by decide +kernel
theorem dX2_init_9 : decode cX2_init 9 = .ok (.invokespecial 11, 3) := by decide +kernel
theorem dX2_init_12 : decode cX2_init 12 = .ok (.putfield 12, 3) := by decide +kernel
theorem dX2_init_15 : decode cX2_init 15 = .ok (.aload_n 0, 1) := by decide +kernel
theorem dX2_init_16 : decode cX2_init 16 = .ok (.new 18, 3) := by decide +kernel
theorem dX2_init_19 : decode cX2_init 19 = .ok (.dup, 1) := by decide +kernel
theorem dX2_init_20 : decode cX2_init 20 = .ok (.invokespecial 20, 3) := by decide +kernel
theorem dX2_init_23 : decode cX2_init 23 = .ok (.putfield 21, 3) := by decide +kernel
theorem dX2_init_26 : decode cX2_init 26 = .ok (.aload_n 0, 1) := by decide +kernel
theorem dX2_init_27 : decode cX2_init 27 = .ok (.new 25, 3) := by decide +kernel
theorem dX2_init_30 : decode cX2_init 30 = .ok (.dup, 1) := by decide +kernel
theorem dX2_init_31 : decode cX2_init 31 = .ok (.invokespecial 27, 3) := by decide +kernel
theorem dX2_init_34 : decode cX2_init 34 = .ok (.putfield 28, 3) := by decide +kernel
theorem dX2_init_37 : decode cX2_init 37 = .ok (.return_, 1) := by decide +kernel
theorem dX2_isPerson_0 : decode cX2_isPerson 0 = .ok (.iload_n 1, 1) := by decide +kernel
theorem dX2_isPerson_1 : decode cX2_isPerson 1 = .ok (.ifCond .lt 18, 3) := by decide +kernel
theorem dX2_isPerson_4 : decode cX2_isPerson 4 = .ok (.iload_n 1, 1) := by decide +kernel
theorem dX2_isPerson_5 : decode cX2_isPerson 5 = .ok (.aload_n 0, 1) := by decide +kernel
theorem dX2_isPerson_6 : decode cX2_isPerson 6 = .ok (.getfield 12, 3) := by decide +kernel
theorem dX2_isPerson_9 : decode cX2_isPerson 9 = .ok (.getfield 32, 3) := by decide +kernel
theorem dX2_isPerson_12 : decode cX2_isPerson 12 = .ok (.if_icmp .ge 7, 3) := by decide +kernel
theorem dX2_isPerson_15 : decode cX2_isPerson 15 = .ok (.iconst 1, 1) := by decide +kernel
theorem dX2_isPerson_16 : decode cX2_isPerson 16 = .ok (.goto 4, 3) := by decide +kernel
theorem dX2_isPerson_19 : decode cX2_isPerson 19 = .ok (.iconst 0, 1) := by decide +kernel
theorem dX2_isPerson_20 : decode cX2_isPerson 20 = .ok (.ireturn, 1) := by decide +kernel
theorem dX2_isVillage_0 : decode cX2_isVillage 0 = .ok (.iload_n 1, 1) := by decide +kernel
theorem dX2_isVillage_1 : decode cX2_isVillage 1 = .ok (.ifCond .lt 18, 3) := by decide +kernel
theorem dX2_isVillage_4 : decode cX2_isVillage 4 = .ok (.iload_n 1, 1) := by decide +kernel
theorem dX2_isVillage_5 : decode cX2_isVillage 5 = .ok (.aload_n 0, 1) := by decide +kernel
theorem dX2_isVillage_6 : decode cX2_isVillage 6 = .ok (.getfield 12, 3) := by decide +kernel
theorem dX2_isVillage_9 : decode cX2_isVillage 9 = .ok (.getfield 36, 3) := by decide +kernel
theorem dX2_isVillage_12 : decode cX2_isVillage 12 = .ok (.if_icmp .ge 7, 3) := by decide +kernel
theorem dX2_isVillage_15 : decode cX2_isVillage 15 = .ok (.iconst 1, 1) := by decide +kernel
theorem dX2_isVillage_16 : decode cX2_isVillage 16 = .ok (.goto 4, 3) := by decide +kernel
theorem dX2_isVillage_19 : decode cX2_isVillage 19 = .ok (.iconst 0, 1) := by decide +kernel
theorem dX2_isVillage_20 : decode cX2_isVillage 20 = .ok (.ireturn, 1) := by decide +kernel
theorem dX2_untold_0 : decode cX2_untold 0 = .ok (.aload_n 0, 1) := by decide +kernel
theorem dX2_untold_1 : decode cX2_untold 1 = .ok (.getfield 12, 3) := by decide +kernel
theorem dX2_untold_4 : decode cX2_untold 4 = .ok (.invokevirtual 39, 3) := by decide +kernel
theorem dX2_untold_7 : decode cX2_untold 7 = .ok (.aload_n 0, 1) := by decide +kernel
theorem dX2_untold_8 : decode cX2_untold 8 = .ok (.getfield 21, 3) := by decide +kernel
theorem dX2_untold_11 : decode cX2_untold 11 = .ok (.getfield 43, 3) := by decide +kernel
theorem dX2_untold_14 : decode cX2_untold 14 = .ok (.iconst (-1), 1) := by decide +kernel
theorem dX2_untold_15 : decode cX2_untold 15 = .ok (.ixor, 1) := by decide +kernel
theorem dX2_untold_16 : decode cX2_untold 16 = .ok (.iand, 1) := by decide +kernel
theorem dX2_untold_17 : decode cX2_untold 17 = .ok (.ireturn, 1) := by decide +kernel
theorem dX2_fateful_0 : decode cX2_fateful 0 = .ok (.iconst 0, 1) := by decide +kernel
theorem dX2_fateful_1 : decode cX2_fateful 1 = .ok (.istore_n 1, 1) := by decide +kernel
theorem dX2_fateful_2 : decode cX2_fateful 2 = .ok (.iconst 0, 1) := by decide +kernel
theorem dX2_fateful_3 : decode cX2_fateful 3 = .ok (.istore_n 2, 1) := by decide +kernel
theorem dX2_fateful_4 : decode cX2_fateful 4 = .ok (.iload_n 2, 1) := by decide +kernel
theorem dX2_fateful_5 : decode cX2_fateful 5 = .ok (.aload_n 0, 1) := by decide +kernel
theorem dX2_fateful_6 : decode cX2_fateful 6 = .ok (.getfield 12, 3) := by decide +kernel
theorem dX2_fateful_9 : decode cX2_fateful 9 = .ok (.getfield 32, 3) := by decide +kernel
theorem dX2_fateful_12 : decode cX2_fateful 12 = .ok (.if_icmp .ge 27, 3) := by decide +kernel
theorem dX2_fateful_15 : decode cX2_fateful 15 = .ok (.aload_n 0, 1) := by decide +kernel
theorem dX2_fateful_16 : decode cX2_fateful 16 = .ok (.getfield 21, 3) := by decide +kernel
theorem dX2_fateful_19 : decode cX2_fateful 19 = .ok (.getfield 46, 3) := by decide +kernel
theorem dX2_fateful_22 : decode cX2_fateful 22 = .ok (.iload_n 2, 1) := by decide +kernel
theorem dX2_fateful_23 : decode cX2_fateful 23 = .ok (.iaload, 1) := by decide +kernel
theorem dX2_fateful_24 : decode cX2_fateful 24 = .ok (.ifCond .le 9, 3) := by decide +kernel
theorem dX2_fateful_27 : decode cX2_fateful 27 = .ok (.iload_n 1, 1) := by decide +kernel
theorem dX2_fateful_28 : decode cX2_fateful 28 = .ok (.iconst 1, 1) := by decide +kernel
theorem dX2_fateful_29 : decode cX2_fateful 29 = .ok (.iload_n 2, 1) := by decide +kernel
theorem dX2_fateful_30 : decode cX2_fateful 30 = .ok (.ishl, 1) := by decide +kernel
theorem dX2_fateful_31 : decode cX2_fateful 31 = .ok (.ior, 1) := by decide +kernel
theorem dX2_fateful_32 : decode cX2_fateful 32 = .ok (.istore_n 1, 1) := by decide +kernel
theorem dX2_fateful_33 : decode cX2_fateful 33 = .ok (.iinc 2 1, 3) := by decide +kernel
theorem dX2_fateful_36 : decode cX2_fateful 36 = .ok (.goto (-32), 3) := by decide +kernel
theorem dX2_fateful_39 : decode cX2_fateful 39 = .ok (.iload_n 1, 1) := by decide +kernel
theorem dX2_fateful_40 : decode cX2_fateful 40 = .ok (.ireturn, 1) := by decide +kernel
theorem dX2_canGoUp_0 : decode cX2_canGoUp 0 = .ok (.aload_n 0, 1) := by decide +kernel
theorem dX2_canGoUp_1 : decode cX2_canGoUp 1 = .ok (.getfield 21, 3) := by decide +kernel
theorem dX2_canGoUp_4 : decode cX2_canGoUp 4 = .ok (.getfield 50, 3) := by decide +kernel
theorem dX2_canGoUp_7 : decode cX2_canGoUp 7 = .ok (.iload_n 1, 1) := by decide +kernel
theorem dX2_canGoUp_8 : decode cX2_canGoUp 8 = .ok (.ishr, 1) := by decide +kernel
theorem dX2_canGoUp_9 : decode cX2_canGoUp 9 = .ok (.iconst 1, 1) := by decide +kernel
theorem dX2_canGoUp_10 : decode cX2_canGoUp 10 = .ok (.iand, 1) := by decide +kernel
theorem dX2_canGoUp_11 : decode cX2_canGoUp 11 = .ok (.ifCond .ne 7, 3) := by decide +kernel
theorem dX2_canGoUp_14 : decode cX2_canGoUp 14 = .ok (.iconst 1, 1) := by decide +kernel
theorem dX2_canGoUp_15 : decode cX2_canGoUp 15 = .ok (.goto 4, 3) := by decide +kernel
theorem dX2_canGoUp_18 : decode cX2_canGoUp 18 = .ok (.iconst 0, 1) := by decide +kernel
theorem dX2_canGoUp_19 : decode cX2_canGoUp 19 = .ok (.ireturn, 1) := by decide +kernel
theorem dX2_canAnswer_0 : decode cX2_canAnswer 0 = .ok (.aload_n 0, 1) := by decide +kernel
theorem dX2_canAnswer_1 : decode cX2_canAnswer 1 = .ok (.getfield 21, 3) := by decide +kernel
theorem dX2_canAnswer_4 : decode cX2_canAnswer 4 = .ok (.getfield 46, 3) := by decide +kernel
theorem dX2_canAnswer_7 : decode cX2_canAnswer 7 = .ok (.iload_n 1, 1) := by decide +kernel
theorem dX2_canAnswer_8 : decode cX2_canAnswer 8 = .ok (.iaload, 1) := by decide +kernel
theorem dX2_canAnswer_9 : decode cX2_canAnswer 9 = .ok (.ifCond .le 15, 3) := by decide +kernel
theorem dX2_canAnswer_12 : decode cX2_canAnswer 12 = .ok (.aload_n 0, 1) := by decide +kernel
theorem dX2_canAnswer_13 : decode cX2_canAnswer 13 = .ok (.iload_n 2, 1) := by decide +kernel
theorem dX2_canAnswer_14 : decode cX2_canAnswer 14 = .ok (.invokevirtual 53, 3) := by decide +kernel
theorem dX2_canAnswer_17 : decode cX2_canAnswer 17 = .ok (.ifCond .eq 7, 3) := by decide +kernel
theorem dX2_canAnswer_20 : decode cX2_canAnswer 20 = .ok (.iconst 1, 1) := by decide +kernel
theorem dX2_canAnswer_21 : decode cX2_canAnswer 21 = .ok (.goto 4, 3) := by decide +kernel
theorem dX2_canAnswer_24 : decode cX2_canAnswer 24 = .ok (.iconst 0, 1) := by decide +kernel
theorem dX2_canAnswer_25 : decode cX2_canAnswer 25 = .ok (.ireturn, 1) := by decide +kernel
theorem dX2_bargainBy_0 : decode cX2_bargainBy 0 = .ok (.aload_n 0, 1) := by decide +kernel
theorem dX2_bargainBy_1 : decode cX2_bargainBy 1 = .ok (.getfield 28, 3) := by decide +kernel
theorem dX2_bargainBy_4 : decode cX2_bargainBy 4 = .ok (.iload_n 2, 1) := by decide +kernel
theorem dX2_bargainBy_5 : decode cX2_bargainBy 5 = .ok (.aload_n 0, 1) := by decide +kernel
theorem dX2_bargainBy_6 : decode cX2_bargainBy 6 = .ok (.getfield 12, 3) := by decide +kernel
theorem dX2_bargainBy_9 : decode cX2_bargainBy 9 = .ok (.getfield 57, 3) := by decide +kernel
theorem dX2_bargainBy_12 : decode cX2_bargainBy 12 = .ok (.iload_n 1, 1) := by decide +kernel
theorem dX2_bargainBy_13 : decode cX2_bargainBy 13 = .ok (.iaload, 1) := by decide +kernel
theorem dX2_bargainBy_14 : decode cX2_bargainBy 14 = .ok (.aload_n 0, 1) := by decide +kernel
theorem dX2_bargainBy_15 : decode cX2_bargainBy 15 = .ok (.getfield 21, 3) := by decide +kernel
theorem dX2_bargainBy_18 : decode cX2_bargainBy 18 = .ok (.getfield 60, 3) := by decide +kernel
theorem dX2_bargainBy_21 : decode cX2_bargainBy 21 = .ok (.iload_n 1, 1) := by decide +kernel
theorem dX2_bargainBy_22 : decode cX2_bargainBy 22 = .ok (.iaload, 1) := by decide +kernel
theorem dX2_bargainBy_23 : decode cX2_bargainBy 23 = .ok (.aload_n 0, 1) := by decide +kernel
theorem dX2_bargainBy_24 : decode cX2_bargainBy 24 = .ok (.getfield 21, 3) := by decide +kernel
theorem dX2_bargainBy_27 : decode cX2_bargainBy 27 = .ok (.getfield 63, 3) := by decide +kernel
theorem dX2_bargainBy_30 : decode cX2_bargainBy 30 = .ok (.aload_n 0, 1) := by decide +kernel
theorem dX2_bargainBy_31 : decode cX2_bargainBy 31 = .ok (.getfield 12, 3) := by decide +kernel
theorem dX2_bargainBy_34 : decode cX2_bargainBy 34 = .ok (.getfield 66, 3) := by decide +kernel
theorem dX2_bargainBy_37 : decode cX2_bargainBy 37 = .ok (.invokevirtual 69, 3) := by decide +kernel
theorem dX2_bargainBy_40 : decode cX2_bargainBy 40 = .ok (.return_, 1) := by decide +kernel
theorem dX2_leftBy_0 : decode cX2_leftBy 0 = .ok (.aload_n 0, 1) := by decide +kernel
theorem dX2_leftBy_1 : decode cX2_leftBy 1 = .ok (.iload_n 1, 1) := by decide +kernel
theorem dX2_leftBy_2 : decode cX2_leftBy 2 = .ok (.iload_n 2, 1) := by decide +kernel
theorem dX2_leftBy_3 : decode cX2_leftBy 3 = .ok (.invokevirtual 73, 3) := by decide +kernel
theorem dX2_leftBy_6 : decode cX2_leftBy 6 = .ok (.aload_n 0, 1) := by decide +kernel
theorem dX2_leftBy_7 : decode cX2_leftBy 7 = .ok (.getfield 28, 3) := by decide +kernel
theorem dX2_leftBy_10 : decode cX2_leftBy 10 = .ok (.getfield 77, 3) := by decide +kernel
theorem dX2_leftBy_13 : decode cX2_leftBy 13 = .ok (.ireturn, 1) := by decide +kernel
theorem dX2_foretell_0 : decode cX2_foretell 0 = .ok (.aload_n 0, 1) := by decide +kernel
theorem dX2_foretell_1 : decode cX2_foretell 1 = .ok (.getfield 21, 3) := by decide +kernel
theorem dX2_foretell_4 : decode cX2_foretell 4 = .ok (.getfield 46, 3) := by decide +kernel
theorem dX2_foretell_7 : decode cX2_foretell 7 = .ok (.iload_n 1, 1) := by decide +kernel
theorem dX2_foretell_8 : decode cX2_foretell 8 = .ok (.iload_n 2, 1) := by decide +kernel
theorem dX2_foretell_9 : decode cX2_foretell 9 = .ok (.iastore, 1) := by decide +kernel
theorem dX2_foretell_10 : decode cX2_foretell 10 = .ok (.aload_n 0, 1) := by decide +kernel
theorem dX2_foretell_11 : decode cX2_foretell 11 = .ok (.getfield 21, 3) := by decide +kernel
theorem dX2_foretell_14 : decode cX2_foretell 14 = .ok (.dup, 1) := by decide +kernel
theorem dX2_foretell_15 : decode cX2_foretell 15 = .ok (.getfield 43, 3) := by decide +kernel
theorem dX2_foretell_18 : decode cX2_foretell 18 = .ok (.iconst 1, 1) := by decide +kernel
theorem dX2_foretell_19 : decode cX2_foretell 19 = .ok (.iload_n 1, 1) := by decide +kernel
theorem dX2_foretell_20 : decode cX2_foretell 20 = .ok (.ishl, 1) := by decide +kernel
theorem dX2_foretell_21 : decode cX2_foretell 21 = .ok (.ior, 1) := by decide +kernel
theorem dX2_foretell_22 : decode cX2_foretell 22 = .ok (.putfield 43, 3) := by decide +kernel
theorem dX2_foretell_25 : decode cX2_foretell 25 = .ok (.return_, 1) := by decide +kernel
theorem dX2_answerBack_0 : decode cX2_answerBack 0 = .ok (.aload_n 0, 1) := by decide +kernel
theorem dX2_answerBack_1 : decode cX2_answerBack 1 = .ok (.iload_n 2, 1) := by decide +kernel
theorem dX2_answerBack_2 : decode cX2_answerBack 2 = .ok (.aload_n 0, 1) := by decide +kernel
theorem dX2_answerBack_3 : decode cX2_answerBack 3 = .ok (.getfield 21, 3) := by decide +kernel
theorem dX2_answerBack_6 : decode cX2_answerBack 6 = .ok (.getfield 46, 3) := by decide +kernel
theorem dX2_answerBack_9 : decode cX2_answerBack 9 = .ok (.iload_n 1, 1) := by decide +kernel
theorem dX2_answerBack_10 : decode cX2_answerBack 10 = .ok (.iaload, 1) := by decide +kernel
theorem dX2_answerBack_11 : decode cX2_answerBack 11 = .ok (.invokevirtual 80, 3) := by decide +kernel
theorem dX2_answerBack_14 : decode cX2_answerBack 14 = .ok (.istore_n 3, 1) := by decide +kernel
theorem dX2_answerBack_15 : decode cX2_answerBack 15 = .ok (.iconst 0, 1) := by decide +kernel
theorem dX2_answerBack_16 : decode cX2_answerBack 16 = .ok (.aload_n 0, 1) := by decide +kernel
theorem dX2_answerBack_17 : decode cX2_answerBack 17 = .ok (.getfield 21, 3) := by decide +kernel
theorem dX2_answerBack_20 : decode cX2_answerBack 20 = .ok (.getfield 46, 3) := by decide +kernel
theorem dX2_answerBack_23 : decode cX2_answerBack 23 = .ok (.iload_n 1, 1) := by decide +kernel
theorem dX2_answerBack_24 : decode cX2_answerBack 24 = .ok (.iaload, 1) := by decide +kernel
theorem dX2_answerBack_25 : decode cX2_answerBack 25 = .ok (.iload_n 3, 1) := by decide +kernel
theorem dX2_answerBack_26 : decode cX2_answerBack 26 = .ok (.isub, 1) := by decide +kernel
theorem dX2_answerBack_27 : decode cX2_answerBack 27 = .ok (.invokestatic 84, 3) := by decide +kernel
theorem dX2_answerBack_30 : decode cX2_answerBack 30 = .ok (.istore 4, 2) := by decide +kernel
theorem dX2_answerBack_32 : decode cX2_answerBack 32 = .ok (.aload_n 0, 1) := by decide +kernel
theorem dX2_answerBack_33 : decode cX2_answerBack 33 = .ok (.getfield 21, 3) := by decide +kernel
theorem dX2_answerBack_36 : decode cX2_answerBack 36 = .ok (.getfield 46, 3) := by decide +kernel
theorem dX2_answerBack_39 : decode cX2_answerBack 39 = .ok (.iload_n 1, 1) := by decide +kernel
theorem dX2_answerBack_40 : decode cX2_answerBack 40 = .ok (.iload_n 3, 1) := by decide +kernel
theorem dX2_answerBack_41 : decode cX2_answerBack 41 = .ok (.iastore, 1) := by decide +kernel
theorem dX2_answerBack_42 : decode cX2_answerBack 42 = .ok (.aload_n 0, 1) := by decide +kernel
theorem dX2_answerBack_43 : decode cX2_answerBack 43 = .ok (.getfield 21, 3) := by decide +kernel
theorem dX2_answerBack_46 : decode cX2_answerBack 46 = .ok (.sipush 9999, 3) := by decide +kernel
theorem dX2_answerBack_49 : decode cX2_answerBack 49 = .ok (.aload_n 0, 1) := by decide +kernel
theorem dX2_answerBack_50 : decode cX2_answerBack 50 = .ok (.getfield 21, 3) := by decide +kernel
theorem dX2_answerBack_53 : decode cX2_answerBack 53 = .ok (.getfield 89, 3) := by decide +kernel
theorem dX2_answerBack_56 : decode cX2_answerBack 56 = .ok (.iload 4, 2) := by decide +kernel
theorem dX2_answerBack_58 : decode cX2_answerBack 58 = .ok (.iadd, 1) := by decide +kernel
theorem dX2_answerBack_59 : decode cX2_answerBack 59 = .ok (.invokestatic 92, 3) := by decide +kernel
theorem dX2_answerBack_62 : decode cX2_answerBack 62 = .ok (.putfield 89, 3) := by decide +kernel
theorem dX2_answerBack_65 : decode cX2_answerBack 65 = .ok (.aload_n 0, 1) := by decide +kernel
theorem dX2_answerBack_66 : decode cX2_answerBack 66 = .ok (.getfield 21, 3) := by decide +kernel
theorem dX2_answerBack_69 : decode cX2_answerBack 69 = .ok (.iconst 1, 1) := by decide +kernel
theorem dX2_answerBack_70 : decode cX2_answerBack 70 = .ok (.aload_n 0, 1) := by decide +kernel
theorem dX2_answerBack_71 : decode cX2_answerBack 71 = .ok (.getfield 21, 3) := by decide +kernel
theorem dX2_answerBack_74 : decode cX2_answerBack 74 = .ok (.getfield 63, 3) := by decide +kernel
theorem dX2_answerBack_77 : decode cX2_answerBack 77 = .ok (.iconst 1, 1) := by decide +kernel
theorem dX2_answerBack_78 : decode cX2_answerBack 78 = .ok (.isub, 1) := by decide +kernel
theorem dX2_answerBack_79 : decode cX2_answerBack 79 = .ok (.invokestatic 84, 3) := by decide +kernel
theorem dX2_answerBack_82 : decode cX2_answerBack 82 = .ok (.putfield 63, 3) := by decide +kernel
theorem dX2_answerBack_85 : decode cX2_answerBack 85 = .ok (.aload_n 0, 1) := by decide +kernel
theorem dX2_answerBack_86 : decode cX2_answerBack 86 = .ok (.getfield 21, 3) := by decide +kernel
theorem dX2_answerBack_89 : decode cX2_answerBack 89 = .ok (.dup, 1) := by decide +kernel
theorem dX2_answerBack_90 : decode cX2_answerBack 90 = .ok (.getfield 50, 3) := by decide +kernel
theorem dX2_answerBack_93 : decode cX2_answerBack 93 = .ok (.iconst 1, 1) := by decide +kernel
theorem dX2_answerBack_94 : decode cX2_answerBack 94 = .ok (.iload_n 2, 1) := by decide +kernel
theorem dX2_answerBack_95 : decode cX2_answerBack 95 = .ok (.ishl, 1) := by decide +kernel
theorem dX2_answerBack_96 : decode cX2_answerBack 96 = .ok (.ior, 1) := by decide +kernel
theorem dX2_answerBack_97 : decode cX2_answerBack 97 = .ok (.putfield 50, 3) := by decide +kernel
theorem dX2_answerBack_100 : decode cX2_answerBack 100 = .ok (.return_, 1) := by decide +kernel
theorem dX2_passYear_0 : decode cX2_passYear 0 = .ok (.iconst 0, 1) := by decide +kernel
theorem dX2_passYear_1 : decode cX2_passYear 1 = .ok (.istore_n 1, 1) := by decide +kernel
theorem dX2_passYear_2 : decode cX2_passYear 2 = .ok (.iload_n 1, 1) := by decide +kernel
theorem dX2_passYear_3 : decode cX2_passYear 3 = .ok (.aload_n 0, 1) := by decide +kernel
theorem dX2_passYear_4 : decode cX2_passYear 4 = .ok (.getfield 12, 3) := by decide +kernel
theorem dX2_passYear_7 : decode cX2_passYear 7 = .ok (.getfield 32, 3) := by decide +kernel
theorem dX2_passYear_10 : decode cX2_passYear 10 = .ok (.if_icmp .ge 36, 3) := by decide +kernel
theorem dX2_passYear_13 : decode cX2_passYear 13 = .ok (.aload_n 0, 1) := by decide +kernel
theorem dX2_passYear_14 : decode cX2_passYear 14 = .ok (.getfield 21, 3) := by decide +kernel
theorem dX2_passYear_17 : decode cX2_passYear 17 = .ok (.iload_n 1, 1) := by decide +kernel
theorem dX2_passYear_18 : decode cX2_passYear 18 = .ok (.aload_n 0, 1) := by decide +kernel
theorem dX2_passYear_19 : decode cX2_passYear 19 = .ok (.getfield 21, 3) := by decide +kernel
theorem dX2_passYear_22 : decode cX2_passYear 22 = .ok (.getfield 46, 3) := by decide +kernel
theorem dX2_passYear_25 : decode cX2_passYear 25 = .ok (.iload_n 1, 1) := by decide +kernel
theorem dX2_passYear_26 : decode cX2_passYear 26 = .ok (.iaload, 1) := by decide +kernel
theorem dX2_passYear_27 : decode cX2_passYear 27 = .ok (.invokevirtual 95, 3) := by decide +kernel
theorem dX2_passYear_30 : decode cX2_passYear 30 = .ok (.aload_n 0, 1) := by decide +kernel
theorem dX2_passYear_31 : decode cX2_passYear 31 = .ok (.getfield 21, 3) := by decide +kernel
theorem dX2_passYear_34 : decode cX2_passYear 34 = .ok (.getfield 46, 3) := by decide +kernel
theorem dX2_passYear_37 : decode cX2_passYear 37 = .ok (.iload_n 1, 1) := by decide +kernel
theorem dX2_passYear_38 : decode cX2_passYear 38 = .ok (.iconst 0, 1) := by decide +kernel
theorem dX2_passYear_39 : decode cX2_passYear 39 = .ok (.iastore, 1) := by decide +kernel
theorem dX2_passYear_40 : decode cX2_passYear 40 = .ok (.iinc 1 1, 3) := by decide +kernel
theorem dX2_passYear_43 : decode cX2_passYear 43 = .ok (.goto (-41), 3) := by decide +kernel
theorem dX2_passYear_46 : decode cX2_passYear 46 = .ok (.iconst 0, 1) := by decide +kernel
theorem dX2_passYear_47 : decode cX2_passYear 47 = .ok (.istore_n 1, 1) := by decide +kernel
theorem dX2_passYear_48 : decode cX2_passYear 48 = .ok (.iload_n 1, 1) := by decide +kernel
theorem dX2_passYear_49 : decode cX2_passYear 49 = .ok (.aload_n 0, 1) := by decide +kernel
theorem dX2_passYear_50 : decode cX2_passYear 50 = .ok (.getfield 12, 3) := by decide +kernel
theorem dX2_passYear_53 : decode cX2_passYear 53 = .ok (.getfield 36, 3) := by decide +kernel
theorem dX2_passYear_56 : decode cX2_passYear 56 = .ok (.if_icmp .ge 41, 3) := by decide +kernel
theorem dX2_passYear_59 : decode cX2_passYear 59 = .ok (.aload_n 0, 1) := by decide +kernel
theorem dX2_passYear_60 : decode cX2_passYear 60 = .ok (.iload_n 1, 1) := by decide +kernel
theorem dX2_passYear_61 : decode cX2_passYear 61 = .ok (.aload_n 0, 1) := by decide +kernel
theorem dX2_passYear_62 : decode cX2_passYear 62 = .ok (.getfield 21, 3) := by decide +kernel
theorem dX2_passYear_65 : decode cX2_passYear 65 = .ok (.getfield 89, 3) := by decide +kernel
theorem dX2_passYear_68 : decode cX2_passYear 68 = .ok (.invokevirtual 98, 3) := by decide +kernel
theorem dX2_passYear_71 : decode cX2_passYear 71 = .ok (.istore_n 2, 1) := by decide +kernel
theorem dX2_passYear_72 : decode cX2_passYear 72 = .ok (.aload_n 0, 1) := by decide +kernel
theorem dX2_passYear_73 : decode cX2_passYear 73 = .ok (.iload_n 1, 1) := by decide +kernel
theorem dX2_passYear_74 : decode cX2_passYear 74 = .ok (.iload_n 2, 1) := by decide +kernel
theorem dX2_passYear_75 : decode cX2_passYear 75 = .ok (.invokevirtual 101, 3) := by decide +kernel
theorem dX2_passYear_78 : decode cX2_passYear 78 = .ok (.aload_n 0, 1) := by decide +kernel
theorem dX2_passYear_79 : decode cX2_passYear 79 = .ok (.getfield 21, 3) := by decide +kernel
theorem dX2_passYear_82 : decode cX2_passYear 82 = .ok (.dup, 1) := by decide +kernel
theorem dX2_passYear_83 : decode cX2_passYear 83 = .ok (.getfield 89, 3) := by decide +kernel
theorem dX2_passYear_86 : decode cX2_passYear 86 = .ok (.iload_n 2, 1) := by decide +kernel
theorem dX2_passYear_87 : decode cX2_passYear 87 = .ok (.isub, 1) := by decide +kernel
theorem dX2_passYear_88 : decode cX2_passYear 88 = .ok (.putfield 89, 3) := by decide +kernel
theorem dX2_passYear_91 : decode cX2_passYear 91 = .ok (.iinc 1 1, 3) := by decide +kernel
theorem dX2_passYear_94 : decode cX2_passYear 94 = .ok (.goto (-46), 3) := by decide +kernel
theorem dX2_passYear_97 : decode cX2_passYear 97 = .ok (.aload_n 0, 1) := by decide +kernel
theorem dX2_passYear_98 : decode cX2_passYear 98 = .ok (.getfield 21, 3) := by decide +kernel
theorem dX2_passYear_101 : decode cX2_passYear 101 = .ok (.iconst 0, 1) := by decide +kernel
theorem dX2_passYear_102 : decode cX2_passYear 102 = .ok (.putfield 43, 3) := by decide +kernel
theorem dX2_passYear_105 : decode cX2_passYear 105 = .ok (.aload_n 0, 1) := by decide +kernel
theorem dX2_passYear_106 : decode cX2_passYear 106 = .ok (.getfield 21, 3) := by decide +kernel
theorem dX2_passYear_109 : decode cX2_passYear 109 = .ok (.iconst 0, 1) := by decide +kernel
theorem dX2_passYear_110 : decode cX2_passYear 110 = .ok (.putfield 50, 3) := by decide +kernel
theorem dX2_passYear_113 : decode cX2_passYear 113 = .ok (.aload_n 0, 1) := by decide +kernel
theorem dX2_passYear_114 : decode cX2_passYear 114 = .ok (.getfield 21, 3) := by decide +kernel
theorem dX2_passYear_117 : decode cX2_passYear 117 = .ok (.aload_n 0, 1) := by decide +kernel
theorem dX2_passYear_118 : decode cX2_passYear 118 = .ok (.getfield 12, 3) := by decide +kernel
theorem dX2_passYear_121 : decode cX2_passYear 121 = .ok (.getfield 104, 3) := by decide +kernel
theorem dX2_passYear_124 : decode cX2_passYear 124 = .ok (.putfield 63, 3) := by decide +kernel
theorem dX2_passYear_127 : decode cX2_passYear 127 = .ok (.aload_n 0, 1) := by decide +kernel
theorem dX2_passYear_128 : decode cX2_passYear 128 = .ok (.getfield 21, 3) := by decide +kernel
theorem dX2_passYear_131 : decode cX2_passYear 131 = .ok (.dup, 1) := by decide +kernel
theorem dX2_passYear_132 : decode cX2_passYear 132 = .ok (.getfield 105, 3) := by decide +kernel
theorem dX2_passYear_135 : decode cX2_passYear 135 = .ok (.iconst 1, 1) := by decide +kernel
theorem dX2_passYear_136 : decode cX2_passYear 136 = .ok (.iadd, 1) := by decide +kernel
theorem dX2_passYear_137 : decode cX2_passYear 137 = .ok (.putfield 105, 3) := by decide +kernel
theorem dX2_passYear_140 : decode cX2_passYear 140 = .ok (.return_, 1) := by decide +kernel
theorem dX2_hurtVillage_0 : decode cX2_hurtVillage 0 = .ok (.aload_n 0, 1) := by decide +kernel
theorem dX2_hurtVillage_1 : decode cX2_hurtVillage 1 = .ok (.getfield 12, 3) := by decide +kernel
theorem dX2_hurtVillage_4 : decode cX2_hurtVillage 4 = .ok (.getfield 108, 3) := by decide +kernel
theorem dX2_hurtVillage_7 : decode cX2_hurtVillage 7 = .ok (.iload_n 1, 1) := by decide +kernel
theorem dX2_hurtVillage_8 : decode cX2_hurtVillage 8 = .ok (.iaload, 1) := by decide +kernel
theorem dX2_hurtVillage_9 : decode cX2_hurtVillage 9 = .ok (.invokestatic 111, 3) := by decide +kernel
theorem dX2_hurtVillage_12 : decode cX2_hurtVillage 12 = .ok (.istore_n 3, 1) := by decide +kernel
theorem dX2_hurtVillage_13 : decode cX2_hurtVillage 13 = .ok (.iload_n 3, 1) := by decide +kernel
theorem dX2_hurtVillage_14 : decode cX2_hurtVillage 14 = .ok (.ifCond .ne 4, 3) := by decide +kernel
theorem dX2_hurtVillage_17 : decode cX2_hurtVillage 17 = .ok (.return_, 1) := by decide +kernel
theorem dX2_hurtVillage_18 : decode cX2_hurtVillage 18 = .ok (.iload_n 2, 1) := by decide +kernel
theorem dX2_hurtVillage_19 : decode cX2_hurtVillage 19 = .ok (.iload_n 3, 1) := by decide +kernel
theorem dX2_hurtVillage_20 : decode cX2_hurtVillage 20 = .ok (.idiv, 1) := by decide +kernel
theorem dX2_hurtVillage_21 : decode cX2_hurtVillage 21 = .ok (.istore 4, 2) := by decide +kernel
theorem dX2_hurtVillage_23 : decode cX2_hurtVillage 23 = .ok (.iconst 0, 1) := by decide +kernel
theorem dX2_hurtVillage_24 : decode cX2_hurtVillage 24 = .ok (.istore 5, 2) := by decide +kernel
theorem dX2_hurtVillage_26 : decode cX2_hurtVillage 26 = .ok (.iload 5, 2) := by decide +kernel
theorem dX2_hurtVillage_28 : decode cX2_hurtVillage 28 = .ok (.aload_n 0, 1) := by decide +kernel
theorem dX2_hurtVillage_29 : decode cX2_hurtVillage 29 = .ok (.getfield 12, 3) := by decide +kernel
theorem dX2_hurtVillage_32 : decode cX2_hurtVillage 32 = .ok (.getfield 32, 3) := by decide +kernel
theorem dX2_hurtVillage_35 : decode cX2_hurtVillage 35 = .ok (.if_icmp .ge 34, 3) := by decide +kernel
theorem dX2_hurtVillage_38 : decode cX2_hurtVillage 38 = .ok (.aload_n 0, 1) := by decide +kernel
theorem dX2_hurtVillage_39 : decode cX2_hurtVillage 39 = .ok (.getfield 12, 3) := by decide +kernel
theorem dX2_hurtVillage_42 : decode cX2_hurtVillage 42 = .ok (.getfield 117, 3) := by decide +kernel
theorem dX2_hurtVillage_45 : decode cX2_hurtVillage 45 = .ok (.iload 5, 2) := by decide +kernel
theorem dX2_hurtVillage_47 : decode cX2_hurtVillage 47 = .ok (.iaload, 1) := by decide +kernel
theorem dX2_hurtVillage_48 : decode cX2_hurtVillage 48 = .ok (.iload_n 1, 1) := by decide +kernel
theorem dX2_hurtVillage_49 : decode cX2_hurtVillage 49 = .ok (.if_icmp .ne 14, 3) := by decide +kernel
theorem dX2_hurtVillage_52 : decode cX2_hurtVillage 52 = .ok (.aload_n 0, 1) := by decide +kernel
theorem dX2_hurtVillage_53 : decode cX2_hurtVillage 53 = .ok (.getfield 21, 3) := by decide +kernel
theorem dX2_hurtVillage_56 : decode cX2_hurtVillage 56 = .ok (.iload 5, 2) := by decide +kernel
theorem dX2_hurtVillage_58 : decode cX2_hurtVillage 58 = .ok (.iload 4, 2) := by decide +kernel
theorem dX2_hurtVillage_60 : decode cX2_hurtVillage 60 = .ok (.invokevirtual 95, 3) := by decide +kernel
theorem dX2_hurtVillage_63 : decode cX2_hurtVillage 63 = .ok (.iinc 5 1, 3) := by decide +kernel
theorem dX2_hurtVillage_66 : decode cX2_hurtVillage 66 = .ok (.goto (-40), 3) := by decide +kernel
theorem dX2_hurtVillage_69 : decode cX2_hurtVillage 69 = .ok (.return_, 1) := by decide +kernel
theorem dX2_actByDraws_0 : decode cX2_actByDraws 0 = .ok (.aload_n 0, 1) := by decide +kernel
theorem dX2_actByDraws_1 : decode cX2_actByDraws 1 = .ok (.getfield 12, 3) := by decide +kernel
theorem dX2_actByDraws_4 : decode cX2_actByDraws 4 = .ok (.getfield 32, 3) := by decide +kernel
theorem dX2_actByDraws_7 : decode cX2_actByDraws 7 = .ok (.ifCond .ne 4, 3) := by decide +kernel
theorem dX2_actByDraws_10 : decode cX2_actByDraws 10 = .ok (.return_, 1) := by decide +kernel
theorem dX2_actByDraws_11 : decode cX2_actByDraws 11 = .ok (.aload_n 1, 1) := by decide +kernel
theorem dX2_actByDraws_12 : decode cX2_actByDraws 12 = .ok (.iconst 4, 1) := by decide +kernel
theorem dX2_actByDraws_13 : decode cX2_actByDraws 13 = .ok (.invokevirtual 120, 3) := by decide +kernel
theorem dX2_actByDraws_16 : decode cX2_actByDraws 16 = .ok (.istore_n 2, 1) := by decide +kernel
theorem dX2_actByDraws_17 : decode cX2_actByDraws 17 = .ok (.aload_n 1, 1) := by decide +kernel
theorem dX2_actByDraws_18 : decode cX2_actByDraws 18 = .ok (.aload_n 0, 1) := by decide +kernel
theorem dX2_actByDraws_19 : decode cX2_actByDraws 19 = .ok (.getfield 12, 3) := by decide +kernel
theorem dX2_actByDraws_22 : decode cX2_actByDraws 22 = .ok (.getfield 32, 3) := by decide +kernel
theorem dX2_actByDraws_25 : decode cX2_actByDraws 25 = .ok (.invokevirtual 120, 3) := by decide +kernel
theorem dX2_actByDraws_28 : decode cX2_actByDraws 28 = .ok (.istore_n 3, 1) := by decide +kernel
theorem dX2_actByDraws_29 : decode cX2_actByDraws 29 = .ok (.aload_n 1, 1) := by decide +kernel
theorem dX2_actByDraws_30 : decode cX2_actByDraws 30 = .ok (.bipush 100, 2) := by decide +kernel
theorem dX2_actByDraws_32 : decode cX2_actByDraws 32 = .ok (.invokevirtual 120, 3) := by decide +kernel
theorem dX2_actByDraws_35 : decode cX2_actByDraws 35 = .ok (.istore 4, 2) := by decide +kernel
theorem dX2_actByDraws_37 : decode cX2_actByDraws 37 = .ok (.aload_n 0, 1) := by decide +kernel
theorem dX2_actByDraws_38 : decode cX2_actByDraws 38 = .ok (.iload_n 3, 1) := by decide +kernel
theorem dX2_actByDraws_39 : decode cX2_actByDraws 39 = .ok (.invokevirtual 125, 3) := by decide +kernel
theorem dX2_actByDraws_42 : decode cX2_actByDraws 42 = .ok (.ifCond .ne 4, 3) := by decide +kernel
theorem dX2_actByDraws_45 : decode cX2_actByDraws 45 = .ok (.return_, 1) := by decide +kernel
theorem dX2_actByDraws_46 : decode cX2_actByDraws 46 = .ok (.iload_n 2, 1) := by decide +kernel
theorem dX2_actByDraws_47 : decode cX2_actByDraws 47 = .ok (.iconst 1, 1) := by decide +kernel
theorem dX2_actByDraws_48 : decode cX2_actByDraws 48 = .ok (.if_icmp .gt 13, 3) := by decide +kernel
theorem dX2_actByDraws_51 : decode cX2_actByDraws 51 = .ok (.aload_n 0, 1) := by decide +kernel
theorem dX2_actByDraws_52 : decode cX2_actByDraws 52 = .ok (.iload_n 3, 1) := by decide +kernel
theorem dX2_actByDraws_53 : decode cX2_actByDraws 53 = .ok (.iload 4, 2) := by decide +kernel
theorem dX2_actByDraws_55 : decode cX2_actByDraws 55 = .ok (.invokevirtual 128, 3) := by decide +kernel
theorem dX2_actByDraws_58 : decode cX2_actByDraws 58 = .ok (.goto 42, 3) := by decide +kernel
theorem dX2_actByDraws_61 : decode cX2_actByDraws 61 = .ok (.iload_n 2, 1) := by decide +kernel
theorem dX2_actByDraws_62 : decode cX2_actByDraws 62 = .ok (.iconst 3, 1) := by decide +kernel
theorem dX2_actByDraws_63 : decode cX2_actByDraws 63 = .ok (.if_icmp .ne 22, 3) := by decide +kernel
theorem dX2_actByDraws_66 : decode cX2_actByDraws 66 = .ok (.aload_n 0, 1) := by decide +kernel
theorem dX2_actByDraws_67 : decode cX2_actByDraws 67 = .ok (.getfield 21, 3) := by decide +kernel
theorem dX2_actByDraws_70 : decode cX2_actByDraws 70 = .ok (.getfield 60, 3) := by decide +kernel
theorem dX2_actByDraws_73 : decode cX2_actByDraws 73 = .ok (.iload_n 3, 1) := by decide +kernel
theorem dX2_actByDraws_74 : decode cX2_actByDraws 74 = .ok (.iload 4, 2) := by decide +kernel
theorem dX2_actByDraws_76 : decode cX2_actByDraws 76 = .ok (.bipush 9, 2) := by decide +kernel
theorem dX2_actByDraws_78 : decode cX2_actByDraws 78 = .ok (.irem, 1) := by decide +kernel
theorem dX2_actByDraws_79 : decode cX2_actByDraws 79 = .ok (.iconst 1, 1) := by decide +kernel
theorem dX2_actByDraws_80 : decode cX2_actByDraws 80 = .ok (.iadd, 1) := by decide +kernel
theorem dX2_actByDraws_81 : decode cX2_actByDraws 81 = .ok (.iastore, 1) := by decide +kernel
theorem dX2_actByDraws_82 : decode cX2_actByDraws 82 = .ok (.goto 18, 3) := by decide +kernel
theorem dX2_actByDraws_85 : decode cX2_actByDraws 85 = .ok (.aload_n 0, 1) := by decide +kernel
theorem dX2_actByDraws_86 : decode cX2_actByDraws 86 = .ok (.iload_n 3, 1) := by decide +kernel
theorem dX2_actByDraws_87 : decode cX2_actByDraws 87 = .ok (.iload_n 3, 1) := by decide +kernel
theorem dX2_actByDraws_88 : decode cX2_actByDraws 88 = .ok (.invokevirtual 131, 3) := by decide +kernel
theorem dX2_actByDraws_91 : decode cX2_actByDraws 91 = .ok (.ifCond .eq 9, 3) := by decide +kernel
theorem dX2_actByDraws_94 : decode cX2_actByDraws 94 = .ok (.aload_n 0, 1) := by decide +kernel
theorem dX2_actByDraws_95 : decode cX2_actByDraws 95 = .ok (.iload_n 3, 1) := by decide +kernel
theorem dX2_actByDraws_96 : decode cX2_actByDraws 96 = .ok (.iload_n 3, 1) := by decide +kernel
theorem dX2_actByDraws_97 : decode cX2_actByDraws 97 = .ok (.invokevirtual 135, 3) := by decide +kernel
theorem dX2_actByDraws_100 : decode cX2_actByDraws 100 = .ok (.return_, 1) := by decide +kernel
theorem dX2_canTake_0 : decode cX2_canTake 0 = .ok (.aload_n 0, 1) := by decide +kernel
theorem dX2_canTake_1 : decode cX2_canTake 1 = .ok (.getfield 12, 3) := by decide +kernel
theorem dX2_canTake_4 : decode cX2_canTake 4 = .ok (.getfield 108, 3) := by decide +kernel
theorem dX2_canTake_7 : decode cX2_canTake 7 = .ok (.iload_n 1, 1) := by decide +kernel
theorem dX2_canTake_8 : decode cX2_canTake 8 = .ok (.iaload, 1) := by decide +kernel
theorem dX2_canTake_9 : decode cX2_canTake 9 = .ok (.istore_n 3, 1) := by decide +kernel
theorem dX2_canTake_10 : decode cX2_canTake 10 = .ok (.iload_n 3, 1) := by decide +kernel
theorem dX2_canTake_11 : decode cX2_canTake 11 = .ok (.ifCond .eq 23, 3) := by decide +kernel
theorem dX2_canTake_14 : decode cX2_canTake 14 = .ok (.iload_n 3, 1) := by decide +kernel
theorem dX2_canTake_15 : decode cX2_canTake 15 = .ok (.iload_n 2, 1) := by decide +kernel
theorem dX2_canTake_16 : decode cX2_canTake 16 = .ok (.iconst (-1), 1) := by decide +kernel
theorem dX2_canTake_17 : decode cX2_canTake 17 = .ok (.ixor, 1) := by decide +kernel
theorem dX2_canTake_18 : decode cX2_canTake 18 = .ok (.iand, 1) := by decide +kernel
theorem dX2_canTake_19 : decode cX2_canTake 19 = .ok (.ifCond .ne 15, 3) := by decide +kernel
theorem dX2_canTake_22 : decode cX2_canTake 22 = .ok (.aload_n 0, 1) := by decide +kernel
theorem dX2_canTake_23 : decode cX2_canTake 23 = .ok (.getfield 21, 3) := by decide +kernel
theorem dX2_canTake_26 : decode cX2_canTake 26 = .ok (.getfield 138, 3) := by decide +kernel
theorem dX2_canTake_29 : decode cX2_canTake 29 = .ok (.iload_n 1, 1) := by decide +kernel
theorem dX2_canTake_30 : decode cX2_canTake 30 = .ok (.iaload, 1) := by decide +kernel
theorem dX2_canTake_31 : decode cX2_canTake 31 = .ok (.goto 4, 3) := by decide +kernel
theorem dX2_canTake_34 : decode cX2_canTake 34 = .ok (.iconst 0, 1) := by decide +kernel
theorem dX2_canTake_35 : decode cX2_canTake 35 = .ok (.ireturn, 1) := by decide +kernel
theorem dX2_taken_0 : decode cX2_taken 0 = .ok (.iload_n 2, 1) := by decide +kernel
theorem dX2_taken_1 : decode cX2_taken 1 = .ok (.aload_n 0, 1) := by decide +kernel
theorem dX2_taken_2 : decode cX2_taken 2 = .ok (.iload_n 1, 1) := by decide +kernel
theorem dX2_taken_3 : decode cX2_taken 3 = .ok (.aload_n 0, 1) := by decide +kernel
theorem dX2_taken_4 : decode cX2_taken 4 = .ok (.invokevirtual 141, 3) := by decide +kernel
theorem dX2_taken_7 : decode cX2_taken 7 = .ok (.invokevirtual 144, 3) := by decide +kernel
theorem dX2_taken_10 : decode cX2_taken 10 = .ok (.invokestatic 92, 3) := by decide +kernel
theorem dX2_taken_13 : decode cX2_taken 13 = .ok (.ireturn, 1) := by decide +kernel
theorem dX2_canTakeTogether_0 : decode cX2_canTakeTogether 0 = .ok (.iconst 0, 1) := by decide +kernel
theorem dX2_canTakeTogether_1 : decode cX2_canTakeTogether 1 = .ok (.istore_n 2, 1) := by decide +kernel
theorem dX2_canTakeTogether_2 : decode cX2_canTakeTogether 2 = .ok (.iconst 0, 1) := by decide +kernel
theorem dX2_canTakeTogether_3 : decode cX2_canTakeTogether 3 = .ok (.istore_n 3, 1) := by decide +kernel
theorem dX2_canTakeTogether_4 : decode cX2_canTakeTogether 4 = .ok (.iload_n 3, 1) := by decide +kernel
theorem dX2_canTakeTogether_5 : decode cX2_canTakeTogether 5 = .ok (.aload_n 0, 1) := by decide +kernel
theorem dX2_canTakeTogether_6 : decode cX2_canTakeTogether 6 = .ok (.getfield 12, 3) := by decide +kernel
theorem dX2_canTakeTogether_9 : decode cX2_canTakeTogether 9 = .ok (.getfield 36, 3) := by decide +kernel
theorem dX2_canTakeTogether_12 : decode cX2_canTakeTogether 12 = .ok (.if_icmp .ge 18, 3) := by decide +kernel
theorem dX2_canTakeTogether_15 : decode cX2_canTakeTogether 15 = .ok (.iload_n 2, 1) := by decide +kernel
theorem dX2_canTakeTogether_16 : decode cX2_canTakeTogether 16 = .ok (.aload_n 0, 1) := by decide +kernel
theorem dX2_canTakeTogether_17 : decode cX2_canTakeTogether 17 = .ok (.iload_n 3, 1) := by decide +kernel
theorem dX2_canTakeTogether_18 : decode cX2_canTakeTogether 18 = .ok (.iload_n 1, 1) := by decide +kernel
theorem dX2_canTakeTogether_19 : decode cX2_canTakeTogether 19 = .ok (.invokevirtual 144, 3) := by decide +kernel
theorem dX2_canTakeTogether_22 : decode cX2_canTakeTogether 22 = .ok (.iadd, 1) := by decide +kernel
theorem dX2_canTakeTogether_23 : decode cX2_canTakeTogether 23 = .ok (.istore_n 2, 1) := by decide +kernel
theorem dX2_canTakeTogether_24 : decode cX2_canTakeTogether 24 = .ok (.iinc 3 1, 3) := by decide +kernel
theorem dX2_canTakeTogether_27 : decode cX2_canTakeTogether 27 = .ok (.goto (-23), 3) := by decide +kernel
theorem dX2_canTakeTogether_30 : decode cX2_canTakeTogether 30 = .ok (.iload_n 2, 1) := by decide +kernel
theorem dX2_canTakeTogether_31 : decode cX2_canTakeTogether 31 = .ok (.ireturn, 1) := by decide +kernel
theorem dX2_had_0 : decode cX2_had 0 = .ok (.aload_n 0, 1) := by decide +kernel
theorem dX2_had_1 : decode cX2_had 1 = .ok (.getfield 21, 3) := by decide +kernel
theorem dX2_had_4 : decode cX2_had 4 = .ok (.getfield 89, 3) := by decide +kernel
theorem dX2_had_7 : decode cX2_had 7 = .ok (.istore_n 2, 1) := by decide +kernel
theorem dX2_had_8 : decode cX2_had 8 = .ok (.iconst 0, 1) := by decide +kernel
theorem dX2_had_9 : decode cX2_had 9 = .ok (.istore_n 3, 1) := by decide +kernel
theorem dX2_had_10 : decode cX2_had 10 = .ok (.iload_n 3, 1) := by decide +kernel
theorem dX2_had_11 : decode cX2_had 11 = .ok (.iload_n 1, 1) := by decide +kernel
theorem dX2_had_12 : decode cX2_had 12 = .ok (.if_icmp .ge 18, 3) := by decide +kernel
theorem dX2_had_15 : decode cX2_had 15 = .ok (.iload_n 2, 1) := by decide +kernel
theorem dX2_had_16 : decode cX2_had 16 = .ok (.aload_n 0, 1) := by decide +kernel
theorem dX2_had_17 : decode cX2_had 17 = .ok (.iload_n 3, 1) := by decide +kernel
theorem dX2_had_18 : decode cX2_had 18 = .ok (.iload_n 2, 1) := by decide +kernel
theorem dX2_had_19 : decode cX2_had 19 = .ok (.invokevirtual 98, 3) := by decide +kernel
theorem dX2_had_22 : decode cX2_had 22 = .ok (.isub, 1) := by decide +kernel
theorem dX2_had_23 : decode cX2_had 23 = .ok (.istore_n 2, 1) := by decide +kernel
theorem dX2_had_24 : decode cX2_had 24 = .ok (.iinc 3 1, 3) := by decide +kernel
theorem dX2_had_27 : decode cX2_had 27 = .ok (.goto (-17), 3) := by decide +kernel
theorem dX2_had_30 : decode cX2_had 30 = .ok (.aload_n 0, 1) := by decide +kernel
theorem dX2_had_31 : decode cX2_had 31 = .ok (.iload_n 1, 1) := by decide +kernel
theorem dX2_had_32 : decode cX2_had 32 = .ok (.iload_n 2, 1) := by decide +kernel
theorem dX2_had_33 : decode cX2_had 33 = .ok (.invokevirtual 98, 3) := by decide +kernel
theorem dX2_had_36 : decode cX2_had 36 = .ok (.ireturn, 1) := by decide +kernel
theorem dX2_isBorne_0 : decode cX2_isBorne 0 = .ok (.aload_n 0, 1) := by decide +kernel
theorem dX2_isBorne_1 : decode cX2_isBorne 1 = .ok (.getfield 21, 3) := by decide +kernel
theorem dX2_isBorne_4 : decode cX2_isBorne 4 = .ok (.getfield 89, 3) := by decide +kernel
theorem dX2_isBorne_7 : decode cX2_isBorne 7 = .ok (.aload_n 0, 1) := by decide +kernel
theorem dX2_isBorne_8 : decode cX2_isBorne 8 = .ok (.aload_n 0, 1) := by decide +kernel
theorem dX2_isBorne_9 : decode cX2_isBorne 9 = .ok (.invokevirtual 141, 3) := by decide +kernel
theorem dX2_isBorne_12 : decode cX2_isBorne 12 = .ok (.invokevirtual 147, 3) := by decide +kernel
theorem dX2_isBorne_15 : decode cX2_isBorne 15 = .ok (.if_icmp .gt 7, 3) := by decide +kernel
theorem dX2_isBorne_18 : decode cX2_isBorne 18 = .ok (.iconst 1, 1) := by decide +kernel
theorem dX2_isBorne_19 : decode cX2_isBorne 19 = .ok (.goto 4, 3) := by decide +kernel
theorem dX2_isBorne_22 : decode cX2_isBorne 22 = .ok (.iconst 0, 1) := by decide +kernel
theorem dX2_isBorne_23 : decode cX2_isBorne 23 = .ok (.ireturn, 1) := by decide +kernel
theorem dX2_madeUp_0 : decode cX2_madeUp 0 = .ok (.aload_n 0, 1) := by decide +kernel
theorem dX2_madeUp_1 : decode cX2_madeUp 1 = .ok (.getfield 21, 3) := by decide +kernel
theorem dX2_madeUp_4 : decode cX2_madeUp 4 = .ok (.getfield 89, 3) := by decide +kernel
theorem dX2_madeUp_7 : decode cX2_madeUp 7 = .ok (.istore_n 1, 1) := by decide +kernel
theorem dX2_madeUp_8 : decode cX2_madeUp 8 = .ok (.aload_n 0, 1) := by decide +kernel
theorem dX2_madeUp_9 : decode cX2_madeUp 9 = .ok (.aload_n 0, 1) := by decide +kernel
theorem dX2_madeUp_10 : decode cX2_madeUp 10 = .ok (.getfield 12, 3) := by decide +kernel
theorem dX2_madeUp_13 : decode cX2_madeUp 13 = .ok (.invokevirtual 39, 3) := by decide +kernel
theorem dX2_madeUp_16 : decode cX2_madeUp 16 = .ok (.invokevirtual 147, 3) := by decide +kernel
theorem dX2_madeUp_19 : decode cX2_madeUp 19 = .ok (.istore_n 2, 1) := by decide +kernel
theorem dX2_madeUp_20 : decode cX2_madeUp 20 = .ok (.iconst 0, 1) := by decide +kernel
theorem dX2_madeUp_21 : decode cX2_madeUp 21 = .ok (.istore_n 3, 1) := by decide +kernel
theorem dX2_madeUp_22 : decode cX2_madeUp 22 = .ok (.iload_n 3, 1) := by decide +kernel
theorem dX2_madeUp_23 : decode cX2_madeUp 23 = .ok (.bipush 60, 2) := by decide +kernel
theorem dX2_madeUp_25 : decode cX2_madeUp 25 = .ok (.if_icmp .gt 34, 3) := by decide +kernel
theorem dX2_madeUp_28 : decode cX2_madeUp 28 = .ok (.iload_n 1, 1) := by decide +kernel
theorem dX2_madeUp_29 : decode cX2_madeUp 29 = .ok (.ifCond .gt 5, 3) := by decide +kernel
theorem dX2_madeUp_32 : decode cX2_madeUp 32 = .ok (.iload_n 3, 1) := by decide +kernel
theorem dX2_madeUp_33 : decode cX2_madeUp 33 = .ok (.ireturn, 1) := by decide +kernel
theorem dX2_madeUp_34 : decode cX2_madeUp 34 = .ok (.iload_n 1, 1) := by decide +kernel
theorem dX2_madeUp_35 : decode cX2_madeUp 35 = .ok (.iload_n 3, 1) := by decide +kernel
theorem dX2_madeUp_36 : decode cX2_madeUp 36 = .ok (.ifCond .ne 14, 3) := by decide +kernel
theorem dX2_madeUp_39 : decode cX2_madeUp 39 = .ok (.aload_n 0, 1) := by decide +kernel
theorem dX2_madeUp_40 : decode cX2_madeUp 40 = .ok (.aload_n 0, 1) := by decide +kernel
theorem dX2_madeUp_41 : decode cX2_madeUp 41 = .ok (.invokevirtual 141, 3) := by decide +kernel
theorem dX2_madeUp_44 : decode cX2_madeUp 44 = .ok (.invokevirtual 147, 3) := by decide +kernel
theorem dX2_madeUp_47 : decode cX2_madeUp 47 = .ok (.goto 4, 3) := by decide +kernel
theorem dX2_madeUp_50 : decode cX2_madeUp 50 = .ok (.iload_n 2, 1) := by decide +kernel
theorem dX2_madeUp_51 : decode cX2_madeUp 51 = .ok (.isub, 1) := by decide +kernel
theorem dX2_madeUp_52 : decode cX2_madeUp 52 = .ok (.istore_n 1, 1) := by decide +kernel
theorem dX2_madeUp_53 : decode cX2_madeUp 53 = .ok (.iinc 3 1, 3) := by decide +kernel
theorem dX2_madeUp_56 : decode cX2_madeUp 56 = .ok (.goto (-34), 3) := by decide +kernel
theorem dX2_madeUp_59 : decode cX2_madeUp 59 = .ok (.iconst (-1), 1) := by decide +kernel
theorem dX2_madeUp_60 : decode cX2_madeUp 60 = .ok (.ireturn, 1) := by decide +kernel
theorem dX2_rid_0 : decode cX2_rid 0 = .ok (.iconst 0, 1) := by decide +kernel
theorem dX2_rid_1 : decode cX2_rid 1 = .ok (.istore_n 2, 1) := by decide +kernel
theorem dX2_rid_2 : decode cX2_rid 2 = .ok (.bipush 64, 2) := by decide +kernel
theorem dX2_rid_4 : decode cX2_rid 4 = .ok (.istore_n 3, 1) := by decide +kernel
theorem dX2_rid_5 : decode cX2_rid 5 = .ok (.iload_n 3, 1) := by decide +kernel
theorem dX2_rid_6 : decode cX2_rid 6 = .ok (.ifCond .le 35, 3) := by decide +kernel
theorem dX2_rid_9 : decode cX2_rid 9 = .ok (.iload_n 2, 1) := by decide +kernel
theorem dX2_rid_10 : decode cX2_rid 10 = .ok (.iload_n 3, 1) := by decide +kernel
theorem dX2_rid_11 : decode cX2_rid 11 = .ok (.iadd, 1) := by decide +kernel
theorem dX2_rid_12 : decode cX2_rid 12 = .ok (.istore 4, 2) := by decide +kernel
theorem dX2_rid_14 : decode cX2_rid 14 = .ok (.iload 4, 2) := by decide +kernel
theorem dX2_rid_16 : decode cX2_rid 16 = .ok (.bipush 99, 2) := by decide +kernel
theorem dX2_rid_18 : decode cX2_rid 18 = .ok (.if_icmp .gt 16, 3) := by decide +kernel
theorem dX2_rid_21 : decode cX2_rid 21 = .ok (.aload_n 0, 1) := by decide +kernel
theorem dX2_rid_22 : decode cX2_rid 22 = .ok (.iload_n 1, 1) := by decide +kernel
theorem dX2_rid_23 : decode cX2_rid 23 = .ok (.iload 4, 2) := by decide +kernel
theorem dX2_rid_25 : decode cX2_rid 25 = .ok (.invokevirtual 80, 3) := by decide +kernel
theorem dX2_rid_28 : decode cX2_rid 28 = .ok (.ifCond .ne 6, 3) := by decide +kernel
theorem dX2_rid_31 : decode cX2_rid 31 = .ok (.iload 4, 2) := by decide +kernel
theorem dX2_rid_33 : decode cX2_rid 33 = .ok (.istore_n 2, 1) := by decide +kernel
theorem dX2_rid_34 : decode cX2_rid 34 = .ok (.iload_n 3, 1) := by decide +kernel
theorem dX2_rid_35 : decode cX2_rid 35 = .ok (.iconst 2, 1) := by decide +kernel
theorem dX2_rid_36 : decode cX2_rid 36 = .ok (.idiv, 1) := by decide +kernel
theorem dX2_rid_37 : decode cX2_rid 37 = .ok (.istore_n 3, 1) := by decide +kernel
theorem dX2_rid_38 : decode cX2_rid 38 = .ok (.goto (-33), 3) := by decide +kernel
theorem dX2_rid_41 : decode cX2_rid 41 = .ok (.iload_n 2, 1) := by decide +kernel
theorem dX2_rid_42 : decode cX2_rid 42 = .ok (.ireturn, 1) := by decide +kernel
theorem dX2_bestFor_0 : decode cX2_bestFor 0 = .ok (.iconst (-1), 1) := by decide +kernel
theorem dX2_bestFor_1 : decode cX2_bestFor 1 = .ok (.istore_n 2, 1) := by decide +kernel
theorem dX2_bestFor_2 : decode cX2_bestFor 2 = .ok (.bipush 100, 2) := by decide +kernel
theorem dX2_bestFor_4 : decode cX2_bestFor 4 = .ok (.istore_n 3, 1) := by decide +kernel
theorem dX2_bestFor_5 : decode cX2_bestFor 5 = .ok (.iconst 0, 1) := by decide +kernel
theorem dX2_bestFor_6 : decode cX2_bestFor 6 = .ok (.istore 4, 2) := by decide +kernel
theorem dX2_bestFor_8 : decode cX2_bestFor 8 = .ok (.iload 4, 2) := by decide +kernel
theorem dX2_bestFor_10 : decode cX2_bestFor 10 = .ok (.aload_n 0, 1) := by decide +kernel
theorem dX2_bestFor_11 : decode cX2_bestFor 11 = .ok (.getfield 12, 3) := by decide +kernel
theorem dX2_bestFor_14 : decode cX2_bestFor 14 = .ok (.getfield 32, 3) := by decide +kernel
theorem dX2_bestFor_17 : decode cX2_bestFor 17 = .ok (.if_icmp .ge 42, 3) := by decide +kernel
theorem dX2_bestFor_20 : decode cX2_bestFor 20 = .ok (.aload_n 0, 1) := by decide +kernel
theorem dX2_bestFor_21 : decode cX2_bestFor 21 = .ok (.iload 4, 2) := by decide +kernel
theorem dX2_bestFor_23 : decode cX2_bestFor 23 = .ok (.invokevirtual 53, 3) := by decide +kernel
theorem dX2_bestFor_26 : decode cX2_bestFor 26 = .ok (.ifCond .ne 6, 3) := by decide +kernel
theorem dX2_bestFor_29 : decode cX2_bestFor 29 = .ok (.goto 24, 3) := by decide +kernel
theorem dX2_bestFor_32 : decode cX2_bestFor 32 = .ok (.aload_n 0, 1) := by decide +kernel
theorem dX2_bestFor_33 : decode cX2_bestFor 33 = .ok (.iload 4, 2) := by decide +kernel
theorem dX2_bestFor_35 : decode cX2_bestFor 35 = .ok (.iload_n 1, 1) := by decide +kernel
theorem dX2_bestFor_36 : decode cX2_bestFor 36 = .ok (.invokevirtual 80, 3) := by decide +kernel
theorem dX2_bestFor_39 : decode cX2_bestFor 39 = .ok (.istore 5, 2) := by decide +kernel
theorem dX2_bestFor_41 : decode cX2_bestFor 41 = .ok (.iload 5, 2) := by decide +kernel
theorem dX2_bestFor_43 : decode cX2_bestFor 43 = .ok (.iload_n 3, 1) := by decide +kernel
theorem dX2_bestFor_44 : decode cX2_bestFor 44 = .ok (.if_icmp .ge 9, 3) := by decide +kernel
theorem dX2_bestFor_47 : decode cX2_bestFor 47 = .ok (.iload 5, 2) := by decide +kernel
theorem dX2_bestFor_49 : decode cX2_bestFor 49 = .ok (.istore_n 3, 1) := by decide +kernel
theorem dX2_bestFor_50 : decode cX2_bestFor 50 = .ok (.iload 4, 2) := by decide +kernel
theorem dX2_bestFor_52 : decode cX2_bestFor 52 = .ok (.istore_n 2, 1) := by decide +kernel
theorem dX2_bestFor_53 : decode cX2_bestFor 53 = .ok (.iinc 4 1, 3) := by decide +kernel
theorem dX2_bestFor_56 : decode cX2_bestFor 56 = .ok (.goto (-48), 3) := by decide +kernel
theorem dX2_bestFor_59 : decode cX2_bestFor 59 = .ok (.iload_n 2, 1) := by decide +kernel
theorem dX2_bestFor_60 : decode cX2_bestFor 60 = .ok (.ireturn, 1) := by decide +kernel
theorem dX2_worst_0 : decode cX2_worst 0 = .ok (.iconst (-1), 1) := by decide +kernel
theorem dX2_worst_1 : decode cX2_worst 1 = .ok (.istore_n 1, 1) := by decide +kernel
theorem dX2_worst_2 : decode cX2_worst 2 = .ok (.iconst (-1), 1) := by decide +kernel
theorem dX2_worst_3 : decode cX2_worst 3 = .ok (.istore_n 2, 1) := by decide +kernel
theorem dX2_worst_4 : decode cX2_worst 4 = .ok (.iconst 0, 1) := by decide +kernel
theorem dX2_worst_5 : decode cX2_worst 5 = .ok (.istore_n 3, 1) := by decide +kernel
theorem dX2_worst_6 : decode cX2_worst 6 = .ok (.iload_n 3, 1) := by decide +kernel
theorem dX2_worst_7 : decode cX2_worst 7 = .ok (.aload_n 0, 1) := by decide +kernel
theorem dX2_worst_8 : decode cX2_worst 8 = .ok (.getfield 12, 3) := by decide +kernel
theorem dX2_worst_11 : decode cX2_worst 11 = .ok (.getfield 32, 3) := by decide +kernel
theorem dX2_worst_14 : decode cX2_worst 14 = .ok (.if_icmp .ge 34, 3) := by decide +kernel
theorem dX2_worst_17 : decode cX2_worst 17 = .ok (.aload_n 0, 1) := by decide +kernel
theorem dX2_worst_18 : decode cX2_worst 18 = .ok (.getfield 21, 3) := by decide +kernel
theorem dX2_worst_21 : decode cX2_worst 21 = .ok (.getfield 150, 3) := by decide +kernel
theorem dX2_worst_24 : decode cX2_worst 24 = .ok (.iload_n 3, 1) := by decide +kernel
theorem dX2_worst_25 : decode cX2_worst 25 = .ok (.iaload, 1) := by decide +kernel
theorem dX2_worst_26 : decode cX2_worst 26 = .ok (.iload_n 2, 1) := by decide +kernel
theorem dX2_worst_27 : decode cX2_worst 27 = .ok (.if_icmp .le 15, 3) := by decide +kernel
theorem dX2_worst_30 : decode cX2_worst 30 = .ok (.aload_n 0, 1) := by decide +kernel
theorem dX2_worst_31 : decode cX2_worst 31 = .ok (.getfield 21, 3) := by decide +kernel
theorem dX2_worst_34 : decode cX2_worst 34 = .ok (.getfield 150, 3) := by decide +kernel
theorem dX2_worst_37 : decode cX2_worst 37 = .ok (.iload_n 3, 1) := by decide +kernel
theorem dX2_worst_38 : decode cX2_worst 38 = .ok (.iaload, 1) := by decide +kernel
theorem dX2_worst_39 : decode cX2_worst 39 = .ok (.istore_n 2, 1) := by decide +kernel
theorem dX2_worst_40 : decode cX2_worst 40 = .ok (.iload_n 3, 1) := by decide +kernel
theorem dX2_worst_41 : decode cX2_worst 41 = .ok (.istore_n 1, 1) := by decide +kernel
theorem dX2_worst_42 : decode cX2_worst 42 = .ok (.iinc 3 1, 3) := by decide +kernel
theorem dX2_worst_45 : decode cX2_worst 45 = .ok (.goto (-39), 3) := by decide +kernel
theorem dX2_worst_48 : decode cX2_worst 48 = .ok (.iload_n 1, 1) := by decide +kernel
theorem dX2_worst_49 : decode cX2_worst 49 = .ok (.ireturn, 1) := by decide +kernel
theorem dX2_harmIn_0 : decode cX2_harmIn 0 = .ok (.iconst 0, 1) := by decide +kernel
theorem dX2_harmIn_1 : decode cX2_harmIn 1 = .ok (.istore_n 2, 1) := by decide +kernel
theorem dX2_harmIn_2 : decode cX2_harmIn 2 = .ok (.iconst 0, 1) := by decide +kernel
theorem dX2_harmIn_3 : decode cX2_harmIn 3 = .ok (.istore_n 3, 1) := by decide +kernel
theorem dX2_harmIn_4 : decode cX2_harmIn 4 = .ok (.iload_n 3, 1) := by decide +kernel
theorem dX2_harmIn_5 : decode cX2_harmIn 5 = .ok (.aload_n 0, 1) := by decide +kernel
theorem dX2_harmIn_6 : decode cX2_harmIn 6 = .ok (.getfield 12, 3) := by decide +kernel
theorem dX2_harmIn_9 : decode cX2_harmIn 9 = .ok (.getfield 32, 3) := by decide +kernel
theorem dX2_harmIn_12 : decode cX2_harmIn 12 = .ok (.if_icmp .ge 34, 3) := by decide +kernel
theorem dX2_harmIn_15 : decode cX2_harmIn 15 = .ok (.aload_n 0, 1) := by decide +kernel
theorem dX2_harmIn_16 : decode cX2_harmIn 16 = .ok (.getfield 12, 3) := by decide +kernel
theorem dX2_harmIn_19 : decode cX2_harmIn 19 = .ok (.getfield 117, 3) := by decide +kernel
theorem dX2_harmIn_22 : decode cX2_harmIn 22 = .ok (.iload_n 3, 1) := by decide +kernel
theorem dX2_harmIn_23 : decode cX2_harmIn 23 = .ok (.iaload, 1) := by decide +kernel
theorem dX2_harmIn_24 : decode cX2_harmIn 24 = .ok (.iload_n 1, 1) := by decide +kernel
theorem dX2_harmIn_25 : decode cX2_harmIn 25 = .ok (.if_icmp .ne 15, 3) := by decide +kernel
theorem dX2_harmIn_28 : decode cX2_harmIn 28 = .ok (.iload_n 2, 1) := by decide +kernel
theorem dX2_harmIn_29 : decode cX2_harmIn 29 = .ok (.aload_n 0, 1) := by decide +kernel
theorem dX2_harmIn_30 : decode cX2_harmIn 30 = .ok (.getfield 21, 3) := by decide +kernel
theorem dX2_harmIn_33 : decode cX2_harmIn 33 = .ok (.getfield 150, 3) := by decide +kernel
theorem dX2_harmIn_36 : decode cX2_harmIn 36 = .ok (.iload_n 3, 1) := by decide +kernel
theorem dX2_harmIn_37 : decode cX2_harmIn 37 = .ok (.iaload, 1) := by decide +kernel
theorem dX2_harmIn_38 : decode cX2_harmIn 38 = .ok (.iadd, 1) := by decide +kernel
theorem dX2_harmIn_39 : decode cX2_harmIn 39 = .ok (.istore_n 2, 1) := by decide +kernel
theorem dX2_harmIn_40 : decode cX2_harmIn 40 = .ok (.iinc 3 1, 3) := by decide +kernel
theorem dX2_harmIn_43 : decode cX2_harmIn 43 = .ok (.goto (-39), 3) := by decide +kernel
theorem dX2_harmIn_46 : decode cX2_harmIn 46 = .ok (.iload_n 2, 1) := by decide +kernel
theorem dX2_harmIn_47 : decode cX2_harmIn 47 = .ok (.ireturn, 1) := by decide +kernel
theorem dX2_shareOf_0 : decode cX2_shareOf 0 = .ok (.aload_n 0, 1) := by decide +kernel
theorem dX2_shareOf_1 : decode cX2_shareOf 1 = .ok (.iload_n 1, 1) := by decide +kernel
theorem dX2_shareOf_2 : decode cX2_shareOf 2 = .ok (.invokevirtual 153, 3) := by decide +kernel
theorem dX2_shareOf_5 : decode cX2_shareOf 5 = .ok (.istore_n 3, 1) := by decide +kernel
theorem dX2_shareOf_6 : decode cX2_shareOf 6 = .ok (.iload_n 3, 1) := by decide +kernel
theorem dX2_shareOf_7 : decode cX2_shareOf 7 = .ok (.iconst (-1), 1) := by decide +kernel
theorem dX2_shareOf_8 : decode cX2_shareOf 8 = .ok (.if_icmp .ne 5, 3) := by decide +kernel
theorem dX2_shareOf_11 : decode cX2_shareOf 11 = .ok (.iconst (-1), 1) := by decide +kernel
theorem dX2_shareOf_12 : decode cX2_shareOf 12 = .ok (.ireturn, 1) := by decide +kernel
theorem dX2_shareOf_13 : decode cX2_shareOf 13 = .ok (.iload_n 1, 1) := by decide +kernel
theorem dX2_shareOf_14 : decode cX2_shareOf 14 = .ok (.istore 4, 2) := by decide +kernel
theorem dX2_shareOf_16 : decode cX2_shareOf 16 = .ok (.iconst 0, 1) := by decide +kernel
theorem dX2_shareOf_17 : decode cX2_shareOf 17 = .ok (.istore 5, 2) := by decide +kernel
theorem dX2_shareOf_19 : decode cX2_shareOf 19 = .ok (.iload 5, 2) := by decide +kernel
theorem dX2_shareOf_21 : decode cX2_shareOf 21 = .ok (.iload_n 2, 1) := by decide +kernel
theorem dX2_shareOf_22 : decode cX2_shareOf 22 = .ok (.if_icmp .ge 23, 3) := by decide +kernel
theorem dX2_shareOf_25 : decode cX2_shareOf 25 = .ok (.iload 4, 2) := by decide +kernel
theorem dX2_shareOf_27 : decode cX2_shareOf 27 = .ok (.aload_n 0, 1) := by decide +kernel
theorem dX2_shareOf_28 : decode cX2_shareOf 28 = .ok (.iload 4, 2) := by decide +kernel
theorem dX2_shareOf_30 : decode cX2_shareOf 30 = .ok (.iload 5, 2) := by decide +kernel
theorem dX2_shareOf_32 : decode cX2_shareOf 32 = .ok (.iload_n 3, 1) := by decide +kernel
theorem dX2_shareOf_33 : decode cX2_shareOf 33 = .ok (.invokevirtual 156, 3) := by decide +kernel
theorem dX2_shareOf_36 : decode cX2_shareOf 36 = .ok (.isub, 1) := by decide +kernel
theorem dX2_shareOf_37 : decode cX2_shareOf 37 = .ok (.istore 4, 2) := by decide +kernel
theorem dX2_shareOf_39 : decode cX2_shareOf 39 = .ok (.iinc 5 1, 3) := by decide +kernel
theorem dX2_shareOf_42 : decode cX2_shareOf 42 = .ok (.goto (-23), 3) := by decide +kernel
theorem dX2_shareOf_45 : decode cX2_shareOf 45 = .ok (.aload_n 0, 1) := by decide +kernel
theorem dX2_shareOf_46 : decode cX2_shareOf 46 = .ok (.iload 4, 2) := by decide +kernel
theorem dX2_shareOf_48 : decode cX2_shareOf 48 = .ok (.iload_n 2, 1) := by decide +kernel
theorem dX2_shareOf_49 : decode cX2_shareOf 49 = .ok (.iload_n 3, 1) := by decide +kernel
theorem dX2_shareOf_50 : decode cX2_shareOf 50 = .ok (.invokevirtual 156, 3) := by decide +kernel
theorem dX2_shareOf_53 : decode cX2_shareOf 53 = .ok (.ireturn, 1) := by decide +kernel
theorem dX2_shareAhead_0 : decode cX2_shareAhead 0 = .ok (.iconst 0, 1) := by decide +kernel
theorem dX2_shareAhead_1 : decode cX2_shareAhead 1 = .ok (.iload_n 1, 1) := by decide +kernel
theorem dX2_shareAhead_2 : decode cX2_shareAhead 2 = .ok (.aload_n 0, 1) := by decide +kernel
theorem dX2_shareAhead_3 : decode cX2_shareAhead 3 = .ok (.iload_n 2, 1) := by decide +kernel
theorem dX2_shareAhead_4 : decode cX2_shareAhead 4 = .ok (.iconst 1, 1) := by decide +kernel
theorem dX2_shareAhead_5 : decode cX2_shareAhead 5 = .ok (.iadd, 1) := by decide +kernel
theorem dX2_shareAhead_6 : decode cX2_shareAhead 6 = .ok (.iload_n 3, 1) := by decide +kernel
theorem dX2_shareAhead_7 : decode cX2_shareAhead 7 = .ok (.invokevirtual 160, 3) := by decide +kernel
theorem dX2_shareAhead_10 : decode cX2_shareAhead 10 = .ok (.isub, 1) := by decide +kernel
theorem dX2_shareAhead_11 : decode cX2_shareAhead 11 = .ok (.invokestatic 84, 3) := by decide +kernel
theorem dX2_shareAhead_14 : decode cX2_shareAhead 14 = .ok (.ireturn, 1) := by decide +kernel
theorem dX2_leastCeiling_0 : decode cX2_leastCeiling 0 = .ok (.iconst 0, 1) := by decide +kernel
theorem dX2_leastCeiling_1 : decode cX2_leastCeiling 1 = .ok (.istore_n 2, 1) := by decide +kernel
theorem dX2_leastCeiling_2 : decode cX2_leastCeiling 2 = .ok (.iload_n 2, 1) := by decide +kernel
theorem dX2_leastCeiling_3 : decode cX2_leastCeiling 3 = .ok (.bipush 99, 2) := by decide +kernel
theorem dX2_leastCeiling_5 : decode cX2_leastCeiling 5 = .ok (.if_icmp .gt 21, 3) := by decide +kernel
theorem dX2_leastCeiling_8 : decode cX2_leastCeiling 8 = .ok (.aload_n 0, 1) := by decide +kernel
theorem dX2_leastCeiling_9 : decode cX2_leastCeiling 9 = .ok (.iconst 0, 1) := by decide +kernel
theorem dX2_leastCeiling_10 : decode cX2_leastCeiling 10 = .ok (.iload_n 2, 1) := by decide +kernel
theorem dX2_leastCeiling_11 : decode cX2_leastCeiling 11 = .ok (.invokevirtual 160, 3) := by decide +kernel
theorem dX2_leastCeiling_14 : decode cX2_leastCeiling 14 = .ok (.iload_n 1, 1) := by decide +kernel
theorem dX2_leastCeiling_15 : decode cX2_leastCeiling 15 = .ok (.if_icmp .lt 5, 3) := by decide +kernel
theorem dX2_leastCeiling_18 : decode cX2_leastCeiling 18 = .ok (.iload_n 2, 1) := by decide +kernel
theorem dX2_leastCeiling_19 : decode cX2_leastCeiling 19 = .ok (.ireturn, 1) := by decide +kernel
theorem dX2_leastCeiling_20 : decode cX2_leastCeiling 20 = .ok (.iinc 2 1, 3) := by decide +kernel
theorem dX2_leastCeiling_23 : decode cX2_leastCeiling 23 = .ok (.goto (-21), 3) := by decide +kernel
theorem dX2_leastCeiling_26 : decode cX2_leastCeiling 26 = .ok (.iconst (-1), 1) := by decide +kernel
theorem dX2_leastCeiling_27 : decode cX2_leastCeiling 27 = .ok (.ireturn, 1) := by decide +kernel
theorem dX2_roomFrom_0 : decode cX2_roomFrom 0 = .ok (.iconst 0, 1) := by decide +kernel
theorem dX2_roomFrom_1 : decode cX2_roomFrom 1 = .ok (.istore_n 3, 1) := by decide +kernel
theorem dX2_roomFrom_2 : decode cX2_roomFrom 2 = .ok (.iload_n 1, 1) := by decide +kernel
theorem dX2_roomFrom_3 : decode cX2_roomFrom 3 = .ok (.istore 4, 2) := by decide +kernel
theorem dX2_roomFrom_5 : decode cX2_roomFrom 5 = .ok (.iload 4, 2) := by decide +kernel
theorem dX2_roomFrom_7 : decode cX2_roomFrom 7 = .ok (.aload_n 0, 1) := by decide +kernel
theorem dX2_roomFrom_8 : decode cX2_roomFrom 8 = .ok (.getfield 12, 3) := by decide +kernel
theorem dX2_roomFrom_11 : decode cX2_roomFrom 11 = .ok (.getfield 36, 3) := by decide +kernel
theorem dX2_roomFrom_14 : decode cX2_roomFrom 14 = .ok (.if_icmp .ge 26, 3) := by decide +kernel
theorem dX2_roomFrom_17 : decode cX2_roomFrom 17 = .ok (.iload_n 3, 1) := by decide +kernel
theorem dX2_roomFrom_18 : decode cX2_roomFrom 18 = .ok (.iload_n 2, 1) := by decide +kernel
theorem dX2_roomFrom_19 : decode cX2_roomFrom 19 = .ok (.aload_n 0, 1) := by decide +kernel
theorem dX2_roomFrom_20 : decode cX2_roomFrom 20 = .ok (.getfield 21, 3) := by decide +kernel
theorem dX2_roomFrom_23 : decode cX2_roomFrom 23 = .ok (.getfield 138, 3) := by decide +kernel
theorem dX2_roomFrom_26 : decode cX2_roomFrom 26 = .ok (.iload 4, 2) := by decide +kernel
theorem dX2_roomFrom_28 : decode cX2_roomFrom 28 = .ok (.iaload, 1) := by decide +kernel
theorem dX2_roomFrom_29 : decode cX2_roomFrom 29 = .ok (.invokestatic 92, 3) := by decide +kernel
theorem dX2_roomFrom_32 : decode cX2_roomFrom 32 = .ok (.iadd, 1) := by decide +kernel
theorem dX2_roomFrom_33 : decode cX2_roomFrom 33 = .ok (.istore_n 3, 1) := by decide +kernel
theorem dX2_roomFrom_34 : decode cX2_roomFrom 34 = .ok (.iinc 4 1, 3) := by decide +kernel
theorem dX2_roomFrom_37 : decode cX2_roomFrom 37 = .ok (.goto (-32), 3) := by decide +kernel
theorem dX2_roomFrom_40 : decode cX2_roomFrom 40 = .ok (.iload_n 3, 1) := by decide +kernel
theorem dX2_roomFrom_41 : decode cX2_roomFrom 41 = .ok (.ireturn, 1) := by decide +kernel
theorem dX3_init_0 : decode cX3_init 0 = .ok (.aload_n 0, 1) := by decide +kernel
theorem dX3_init_1 : decode cX3_init 1 = .ok (.invokespecial 1, 3) := by decide +kernel
theorem dX3_init_4 : decode cX3_init 4 = .ok (.return_, 1) := by decide +kernel
theorem dX3_next_0 : decode cX3_next 0 = .ok (.aload_n 0, 1) := by decide +kernel
theorem dX3_next_1 : decode cX3_next 1 = .ok (.aload_n 0, 1) := by decide +kernel
theorem dX3_next_2 : decode cX3_next 2 = .ok (.getfield 7, 3) := by decide +kernel
theorem dX3_next_5 : decode cX3_next 5 = .ok (.i2l, 1) := by decide +kernel
theorem dX3_next_6 : decode cX3_next 6 = .ok (.ldc2_w 13, 3) := by decide +kernel
theorem dX3_next_9 : decode cX3_next 9 = .ok (.lmul, 1) := by decide +kernel
theorem dX3_next_10 : decode cX3_next 10 = .ok (.ldc2_w 15, 3) := by decide +kernel
theorem dX3_next_13 : decode cX3_next 13 = .ok (.ladd, 1) := by decide +kernel
theorem dX3_next_14 : decode cX3_next 14 = .ok (.ldc2_w 17, 3) := by decide +kernel
theorem dX3_next_17 : decode cX3_next 17 = .ok (.land, 1) := by decide +kernel
theorem dX3_next_18 : decode cX3_next 18 = .ok (.l2i, 1) := by decide +kernel
theorem dX3_next_19 : decode cX3_next 19 = .ok (.putfield 7, 3) := by decide +kernel
theorem dX3_next_22 : decode cX3_next 22 = .ok (.iload_n 1, 1) := by decide +kernel
theorem dX3_next_23 : decode cX3_next 23 = .ok (.ifCond .le 15, 3) := by decide +kernel
theorem dX3_next_26 : decode cX3_next 26 = .ok (.aload_n 0, 1) := by decide +kernel
theorem dX3_next_27 : decode cX3_next 27 = .ok (.getfield 7, 3) := by decide +kernel
theorem dX3_next_30 : decode cX3_next 30 = .ok (.ldc 19, 2) := by decide +kernel
theorem dX3_next_32 : decode cX3_next 32 = .ok (.idiv, 1) := by decide +kernel
theorem dX3_next_33 : decode cX3_next 33 = .ok (.iload_n 1, 1) := by decide +kernel
theorem dX3_next_34 : decode cX3_next 34 = .ok (.irem, 1) := by decide +kernel
theorem dX3_next_35 : decode cX3_next 35 = .ok (.goto 4, 3) := by decide +kernel
theorem dX3_next_38 : decode cX3_next 38 = .ok (.iconst 0, 1) := by decide +kernel
theorem dX3_next_39 : decode cX3_next 39 = .ok (.ireturn, 1) := by decide +kernel
theorem dX4_init_0 : decode cX4_init 0 = .ok (.aload_n 0, 1) := by decide +kernel
theorem dX4_init_1 : decode cX4_init 1 = .ok (.invokespecial 3, 3) := by decide +kernel
theorem dX4_init_4 : decode cX4_init 4 = .ok (.aload_n 0, 1) := by decide +kernel
theorem dX4_init_5 : decode cX4_init 5 = .ok (.bipush 7, 2) := by decide +kernel
theorem dX4_init_7 : decode cX4_init 7 = .ok (.newarray .int, 2) := by decide +kernel
theorem dX4_init_9 : decode cX4_init 9 = .ok (.putfield 9, 3) := by decide +kernel
theorem dX4_init_12 : decode cX4_init 12 = .ok (.aload_n 0, 1) := by decide +kernel
theorem dX4_init_13 : decode cX4_init 13 = .ok (.bipush 7, 2) := by decide +kernel
theorem dX4_init_15 : decode cX4_init 15 = .ok (.newarray .int, 2) := by decide +kernel
theorem dX4_init_17 : decode cX4_init 17 = .ok (.putfield 15, 3) := by decide +kernel
theorem dX4_init_20 : decode cX4_init 20 = .ok (.aload_n 0, 1) := by decide +kernel
theorem dX4_init_21 : decode cX4_init 21 = .ok (.bipush 7, 2) := by decide +kernel
theorem dX4_init_23 : decode cX4_init 23 = .ok (.newarray .int, 2) := by decide +kernel
theorem dX4_init_25 : decode cX4_init 25 = .ok (.putfield 18, 3) := by decide +kernel
theorem dX4_init_28 : decode cX4_init 28 = .ok (.aload_n 0, 1) := by decide +kernel
theorem dX4_init_29 : decode cX4_init 29 = .ok (.bipush 7, 2) := by decide +kernel
theorem dX4_init_31 : decode cX4_init 31 = .ok (.newarray .int, 2) := by decide +kernel
theorem dX4_init_33 : decode cX4_init 33 = .ok (.putfield 21, 3) := by decide +kernel
theorem dX4_init_36 : decode cX4_init 36 = .ok (.aload_n 0, 1) := by decide +kernel
theorem dX4_init_37 : decode cX4_init 37 = .ok (.iconst 4, 1) := by decide +kernel
theorem dX4_init_38 : decode cX4_init 38 = .ok (.newarray .int, 2) := by decide +kernel
theorem dX4_init_40 : decode cX4_init 40 = .ok (.putfield 24, 3) := by decide +kernel
theorem dX4_init_43 : decode cX4_init 43 = .ok (.aload_n 0, 1) := by decide +kernel
theorem dX4_init_44 : decode cX4_init 44 = .ok (.iconst 4, 1) := by decide +kernel
theorem dX4_init_45 : decode cX4_init 45 = .ok (.newarray .int, 2) := by decide +kernel
theorem dX4_init_47 : decode cX4_init 47 = .ok (.putfield 27, 3) := by decide +kernel
theorem dX4_init_50 : decode cX4_init 50 = .ok (.return_, 1) := by decide +kernel
theorem dX4_clear_0 : decode cX4_clear 0 = .ok (.aload_n 0, 1) := by decide +kernel
theorem dX4_clear_1 : decode cX4_clear 1 = .ok (.iconst 0, 1) := by decide +kernel
theorem dX4_clear_2 : decode cX4_clear 2 = .ok (.putfield 30, 3) := by decide +kernel
theorem dX4_clear_5 : decode cX4_clear 5 = .ok (.aload_n 0, 1) := by decide +kernel
theorem dX4_clear_6 : decode cX4_clear 6 = .ok (.iconst 0, 1) := by decide +kernel
theorem dX4_clear_7 : decode cX4_clear 7 = .ok (.putfield 34, 3) := by decide +kernel
theorem dX4_clear_10 : decode cX4_clear 10 = .ok (.aload_n 0, 1) := by decide +kernel
theorem dX4_clear_11 : decode cX4_clear 11 = .ok (.iconst 0, 1) := by decide +kernel
theorem dX4_clear_12 : decode cX4_clear 12 = .ok (.putfield 38, 3) := by decide +kernel
theorem dX4_clear_15 : decode cX4_clear 15 = .ok (.aload_n 0, 1) := by decide +kernel
theorem dX4_clear_16 : decode cX4_clear 16 = .ok (.iconst 0, 1) := by decide +kernel
theorem dX4_clear_17 : decode cX4_clear 17 = .ok (.putfield 41, 3) := by decide +kernel
theorem dX4_clear_20 : decode cX4_clear 20 = .ok (.aload_n 0, 1) := by decide +kernel
theorem dX4_clear_21 : decode cX4_clear 21 = .ok (.iconst 0, 1) := by decide +kernel
theorem dX4_clear_22 : decode cX4_clear 22 = .ok (.putfield 44, 3) := by decide +kernel
theorem dX4_clear_25 : decode cX4_clear 25 = .ok (.aload_n 0, 1) := by decide +kernel
theorem dX4_clear_26 : decode cX4_clear 26 = .ok (.getfield 27, 3) := by decide +kernel
theorem dX4_clear_29 : decode cX4_clear 29 = .ok (.iconst 0, 1) := by decide +kernel
theorem dX4_clear_30 : decode cX4_clear 30 = .ok (.invokestatic 47, 3) := by decide +kernel
theorem dX4_clear_33 : decode cX4_clear 33 = .ok (.return_, 1) := by decide +kernel
theorem dX4_addVillage_0 : decode cX4_addVillage 0 = .ok (.aload_n 0, 1) := by decide +kernel
theorem dX4_addVillage_1 : decode cX4_addVillage 1 = .ok (.getfield 41, 3) := by decide +kernel
theorem dX4_addVillage_4 : decode cX4_addVillage 4 = .ok (.iconst 4, 1) := by decide +kernel
theorem dX4_addVillage_5 : decode cX4_addVillage 5 = .ok (.if_icmp .lt 4, 3) := by decide +kernel
theorem dX4_addVillage_8 : decode cX4_addVillage 8 = .ok (.return_, 1) := by decide +kernel
theorem dX4_addVillage_9 : decode cX4_addVillage 9 = .ok (.aload_n 0, 1) := by decide +kernel
theorem dX4_addVillage_10 : decode cX4_addVillage 10 = .ok (.getfield 24, 3) := by decide +kernel
theorem dX4_addVillage_13 : decode cX4_addVillage 13 = .ok (.aload_n 0, 1) := by decide +kernel
theorem dX4_addVillage_14 : decode cX4_addVillage 14 = .ok (.getfield 41, 3) := by decide +kernel
theorem dX4_addVillage_17 : decode cX4_addVillage 17 = .ok (.iload_n 1, 1) := by decide +kernel
theorem dX4_addVillage_18 : decode cX4_addVillage 18 = .ok (.iastore, 1) := by decide +kernel
theorem dX4_addVillage_19 : decode cX4_addVillage 19 = .ok (.aload_n 0, 1) := by decide +kernel
theorem dX4_addVillage_20 : decode cX4_addVillage 20 = .ok (.dup, 1) := by decide +kernel
theorem dX4_addVillage_21 : decode cX4_addVillage 21 = .ok (.getfield 41, 3) := by decide +kernel
theorem dX4_addVillage_24 : decode cX4_addVillage 24 = .ok (.iconst 1, 1) := by decide +kernel
theorem dX4_addVillage_25 : decode cX4_addVillage 25 = .ok (.iadd, 1) := by decide +kernel
theorem dX4_addVillage_26 : decode cX4_addVillage 26 = .ok (.putfield 41, 3) := by decide +kernel
theorem dX4_addVillage_29 : decode cX4_addVillage 29 = .ok (.return_, 1) := by decide +kernel
theorem dX4_addPerson_0 : decode cX4_addPerson 0 = .ok (.aload_n 0, 1) := by decide +kernel
theorem dX4_addPerson_1 : decode cX4_addPerson 1 = .ok (.getfield 44, 3) := by decide +kernel
theorem dX4_addPerson_4 : decode cX4_addPerson 4 = .ok (.bipush 7, 2) := by decide +kernel
theorem dX4_addPerson_6 : decode cX4_addPerson 6 = .ok (.if_icmp .ge 15, 3) := by decide +kernel
theorem dX4_addPerson_9 : decode cX4_addPerson 9 = .ok (.iload_n 2, 1) := by decide +kernel
theorem dX4_addPerson_10 : decode cX4_addPerson 10 = .ok (.ifCond .lt 11, 3) := by decide +kernel
theorem dX4_addPerson_13 : decode cX4_addPerson 13 = .ok (.iload_n 2, 1) := by decide +kernel
theorem dX4_addPerson_14 : decode cX4_addPerson 14 = .ok (.aload_n 0, 1) := by decide +kernel
theorem dX4_addPerson_15 : decode cX4_addPerson 15 = .ok (.getfield 41, 3) := by decide +kernel
theorem dX4_addPerson_18 : decode cX4_addPerson 18 = .ok (.if_icmp .lt 4, 3) := by decide +kernel
theorem dX4_addPerson_21 : decode cX4_addPerson 21 = .ok (.return_, 1) := by decide +kernel
theorem dX4_addPerson_22 : decode cX4_addPerson 22 = .ok (.aload_n 0, 1) := by decide +kernel
theorem dX4_addPerson_23 : decode cX4_addPerson 23 = .ok (.getfield 9, 3) := by decide +kernel
theorem dX4_addPerson_26 : decode cX4_addPerson 26 = .ok (.aload_n 0, 1) := by decide +kernel
theorem dX4_addPerson_27 : decode cX4_addPerson 27 = .ok (.getfield 44, 3) := by decide +kernel
theorem dX4_addPerson_30 : decode cX4_addPerson 30 = .ok (.iload_n 1, 1) := by decide +kernel
theorem dX4_addPerson_31 : decode cX4_addPerson 31 = .ok (.iastore, 1) := by decide +kernel
theorem dX4_addPerson_32 : decode cX4_addPerson 32 = .ok (.aload_n 0, 1) := by decide +kernel
theorem dX4_addPerson_33 : decode cX4_addPerson 33 = .ok (.getfield 15, 3) := by decide +kernel
theorem dX4_addPerson_36 : decode cX4_addPerson 36 = .ok (.aload_n 0, 1) := by decide +kernel
theorem dX4_addPerson_37 : decode cX4_addPerson 37 = .ok (.getfield 44, 3) := by decide +kernel
theorem dX4_addPerson_40 : decode cX4_addPerson 40 = .ok (.iload_n 2, 1) := by decide +kernel
theorem dX4_addPerson_41 : decode cX4_addPerson 41 = .ok (.iastore, 1) := by decide +kernel
theorem dX4_addPerson_42 : decode cX4_addPerson 42 = .ok (.aload_n 0, 1) := by decide +kernel
theorem dX4_addPerson_43 : decode cX4_addPerson 43 = .ok (.getfield 18, 3) := by decide +kernel
theorem dX4_addPerson_46 : decode cX4_addPerson 46 = .ok (.aload_n 0, 1) := by decide +kernel
theorem dX4_addPerson_47 : decode cX4_addPerson 47 = .ok (.getfield 44, 3) := by decide +kernel
theorem dX4_addPerson_50 : decode cX4_addPerson 50 = .ok (.iload_n 3, 1) := by decide +kernel
theorem dX4_addPerson_51 : decode cX4_addPerson 51 = .ok (.iastore, 1) := by decide +kernel
theorem dX4_addPerson_52 : decode cX4_addPerson 52 = .ok (.aload_n 0, 1) := by decide +kernel
theorem dX4_addPerson_53 : decode cX4_addPerson 53 = .ok (.getfield 21, 3) := by decide +kernel
theorem dX4_addPerson_56 : decode cX4_addPerson 56 = .ok (.aload_n 0, 1) := by decide +kernel
theorem dX4_addPerson_57 : decode cX4_addPerson 57 = .ok (.getfield 44, 3) := by decide +kernel
theorem dX4_addPerson_60 : decode cX4_addPerson 60 = .ok (.iload 4, 2) := by decide +kernel
theorem dX4_addPerson_62 : decode cX4_addPerson 62 = .ok (.iastore, 1) := by decide +kernel
theorem dX4_addPerson_63 : decode cX4_addPerson 63 = .ok (.aload_n 0, 1) := by decide +kernel
theorem dX4_addPerson_64 : decode cX4_addPerson 64 = .ok (.getfield 27, 3) := by decide +kernel
theorem dX4_addPerson_67 : decode cX4_addPerson 67 = .ok (.iload_n 2, 1) := by decide +kernel
theorem dX4_addPerson_68 : decode cX4_addPerson 68 = .ok (.dup2, 1) := by decide +kernel
theorem dX4_addPerson_69 : decode cX4_addPerson 69 = .ok (.iaload, 1) := by decide +kernel
theorem dX4_addPerson_70 : decode cX4_addPerson 70 = .ok (.iconst 1, 1) := by decide +kernel
theorem dX4_addPerson_71 : decode cX4_addPerson 71 = .ok (.aload_n 0, 1) := by decide +kernel
theorem dX4_addPerson_72 : decode cX4_addPerson 72 = .ok (.getfield 44, 3) := by decide +kernel
theorem dX4_addPerson_75 : decode cX4_addPerson 75 = .ok (.ishl, 1) := by decide +kernel
theorem dX4_addPerson_76 : decode cX4_addPerson 76 = .ok (.ior, 1) := by decide +kernel
theorem dX4_addPerson_77 : decode cX4_addPerson 77 = .ok (.iastore, 1) := by decide +kernel
theorem dX4_addPerson_78 : decode cX4_addPerson 78 = .ok (.aload_n 0, 1) := by decide +kernel
theorem dX4_addPerson_79 : decode cX4_addPerson 79 = .ok (.dup, 1) := by decide +kernel
theorem dX4_addPerson_80 : decode cX4_addPerson 80 = .ok (.getfield 44, 3) := by decide +kernel
theorem dX4_addPerson_83 : decode cX4_addPerson 83 = .ok (.iconst 1, 1) := by decide +kernel
theorem dX4_addPerson_84 : decode cX4_addPerson 84 = .ok (.iadd, 1) := by decide +kernel
theorem dX4_addPerson_85 : decode cX4_addPerson 85 = .ok (.putfield 44, 3) := by decide +kernel
theorem dX4_addPerson_88 : decode cX4_addPerson 88 = .ok (.return_, 1) := by decide +kernel
theorem dX4_settleFrom_0 : decode cX4_settleFrom 0 = .ok (.iconst 0, 1) := by decide +kernel
theorem dX4_settleFrom_1 : decode cX4_settleFrom 1 = .ok (.istore_n 1, 1) := by decide +kernel
theorem dX4_settleFrom_2 : decode cX4_settleFrom 2 = .ok (.iload_n 1, 1) := by decide +kernel
theorem dX4_settleFrom_3 : decode cX4_settleFrom 3 = .ok (.aload_n 0, 1) := by decide +kernel
theorem dX4_settleFrom_4 : decode cX4_settleFrom 4 = .ok (.getfield 44, 3) := by decide +kernel
theorem dX4_settleFrom_7 : decode cX4_settleFrom 7 = .ok (.if_icmp .ge 29, 3) := by decide +kernel
theorem dX4_settleFrom_10 : decode cX4_settleFrom 10 = .ok (.aload_n 0, 1) := by decide +kernel
theorem dX4_settleFrom_11 : decode cX4_settleFrom 11 = .ok (.getfield 21, 3) := by decide +kernel
theorem dX4_settleFrom_14 : decode cX4_settleFrom 14 = .ok (.iload_n 1, 1) := by decide +kernel
theorem dX4_settleFrom_15 : decode cX4_settleFrom 15 = .ok (.iaload, 1) := by decide +kernel
theorem dX4_settleFrom_16 : decode cX4_settleFrom 16 = .ok (.aload_n 0, 1) := by decide +kernel
theorem dX4_settleFrom_17 : decode cX4_settleFrom 17 = .ok (.getfield 44, 3) := by decide +kernel
theorem dX4_settleFrom_20 : decode cX4_settleFrom 20 = .ok (.if_icmp .lt 10, 3) := by decide +kernel
theorem dX4_settleFrom_23 : decode cX4_settleFrom 23 = .ok (.aload_n 0, 1) := by decide +kernel
theorem dX4_settleFrom_24 : decode cX4_settleFrom 24 = .ok (.getfield 21, 3) := by decide +kernel
theorem dX4_settleFrom_27 : decode cX4_settleFrom 27 = .ok (.iload_n 1, 1) := by decide +kernel
theorem dX4_settleFrom_28 : decode cX4_settleFrom 28 = .ok (.iconst (-1), 1) := by decide +kernel
theorem dX4_settleFrom_29 : decode cX4_settleFrom 29 = .ok (.iastore, 1) := by decide +kernel
theorem dX4_settleFrom_30 : decode cX4_settleFrom 30 = .ok (.iinc 1 1, 3) := by decide +kernel
theorem dX4_settleFrom_33 : decode cX4_settleFrom 33 = .ok (.goto (-31), 3) := by decide +kernel
theorem dX4_settleFrom_36 : decode cX4_settleFrom 36 = .ok (.return_, 1) := by decide +kernel
theorem dX4_everybody_0 : decode cX4_everybody 0 = .ok (.iconst 1, 1) := by decide +kernel
theorem dX4_everybody_1 : decode cX4_everybody 1 = .ok (.aload_n 0, 1) := by decide +kernel
theorem dX4_everybody_2 : decode cX4_everybody 2 = .ok (.getfield 44, 3) := by decide +kernel
theorem dX4_everybody_5 : decode cX4_everybody 5 = .ok (.ishl, 1) := by decide +kernel
theorem dX4_everybody_6 : decode cX4_everybody 6 = .ok (.iconst 1, 1) := by decide +kernel
theorem dX4_everybody_7 : decode cX4_everybody 7 = .ok (.isub, 1) := by decide +kernel
theorem dX4_everybody_8 : decode cX4_everybody 8 = .ok (.ireturn, 1) := by decide +kernel
theorem dX4_ringOf_0 : decode cX4_ringOf 0 = .ok (.iload_n 1, 1) := by decide +kernel
theorem dX4_ringOf_1 : decode cX4_ringOf 1 = .ok (.istore_n 2, 1) := by decide +kernel
theorem dX4_ringOf_2 : decode cX4_ringOf 2 = .ok (.iconst 0, 1) := by decide +kernel
theorem dX4_ringOf_3 : decode cX4_ringOf 3 = .ok (.istore_n 3, 1) := by decide +kernel
theorem dX4_ringOf_4 : decode cX4_ringOf 4 = .ok (.iload_n 3, 1) := by decide +kernel
theorem dX4_ringOf_5 : decode cX4_ringOf 5 = .ok (.aload_n 0, 1) := by decide +kernel
theorem dX4_ringOf_6 : decode cX4_ringOf 6 = .ok (.getfield 44, 3) := by decide +kernel
theorem dX4_ringOf_9 : decode cX4_ringOf 9 = .ok (.if_icmp .ge 21, 3) := by decide +kernel
theorem dX4_ringOf_12 : decode cX4_ringOf 12 = .ok (.iload_n 2, 1) := by decide +kernel
theorem dX4_ringOf_13 : decode cX4_ringOf 13 = .ok (.iconst (-1), 1) := by decide +kernel
theorem dX4_ringOf_14 : decode cX4_ringOf 14 = .ok (.if_icmp .eq 16, 3) := by decide +kernel
theorem dX4_ringOf_17 : decode cX4_ringOf 17 = .ok (.aload_n 0, 1) := by decide +kernel
theorem dX4_ringOf_18 : decode cX4_ringOf 18 = .ok (.getfield 21, 3) := by decide +kernel
theorem dX4_ringOf_21 : decode cX4_ringOf 21 = .ok (.iload_n 2, 1) := by decide +kernel
theorem dX4_ringOf_22 : decode cX4_ringOf 22 = .ok (.iaload, 1) := by decide +kernel
theorem dX4_ringOf_23 : decode cX4_ringOf 23 = .ok (.istore_n 2, 1) := by decide +kernel
theorem dX4_ringOf_24 : decode cX4_ringOf 24 = .ok (.iinc 3 1, 3) := by decide +kernel
theorem dX4_ringOf_27 : decode cX4_ringOf 27 = .ok (.goto (-23), 3) := by decide +kernel
theorem dX4_ringOf_30 : decode cX4_ringOf 30 = .ok (.iload_n 2, 1) := by decide +kernel
theorem dX4_ringOf_31 : decode cX4_ringOf 31 = .ok (.iconst (-1), 1) := by decide +kernel
theorem dX4_ringOf_32 : decode cX4_ringOf 32 = .ok (.if_icmp .ne 5, 3) := by decide +kernel
theorem dX4_ringOf_35 : decode cX4_ringOf 35 = .ok (.iconst (-1), 1) := by decide +kernel
theorem dX4_ringOf_36 : decode cX4_ringOf 36 = .ok (.ireturn, 1) := by decide +kernel
theorem dX4_ringOf_37 : decode cX4_ringOf 37 = .ok (.iconst 1, 1) := by decide +kernel
theorem dX4_ringOf_38 : decode cX4_ringOf 38 = .ok (.istore_n 3, 1) := by decide +kernel
theorem dX4_ringOf_39 : decode cX4_ringOf 39 = .ok (.aload_n 0, 1) := by decide +kernel
theorem dX4_ringOf_40 : decode cX4_ringOf 40 = .ok (.getfield 21, 3) := by decide +kernel
theorem dX4_ringOf_43 : decode cX4_ringOf 43 = .ok (.iload_n 2, 1) := by decide +kernel
theorem dX4_ringOf_44 : decode cX4_ringOf 44 = .ok (.iaload, 1) := by decide +kernel
theorem dX4_ringOf_45 : decode cX4_ringOf 45 = .ok (.istore 4, 2) := by decide +kernel
theorem dX4_ringOf_47 : decode cX4_ringOf 47 = .ok (.iload 4, 2) := by decide +kernel
theorem dX4_ringOf_49 : decode cX4_ringOf 49 = .ok (.iload_n 2, 1) := by decide +kernel
theorem dX4_ringOf_50 : decode cX4_ringOf 50 = .ok (.if_icmp .eq 32, 3) := by decide +kernel
theorem dX4_ringOf_53 : decode cX4_ringOf 53 = .ok (.iload 4, 2) := by decide +kernel
theorem dX4_ringOf_55 : decode cX4_ringOf 55 = .ok (.iconst (-1), 1) := by decide +kernel
theorem dX4_ringOf_56 : decode cX4_ringOf 56 = .ok (.if_icmp .eq 26, 3) := by decide +kernel
theorem dX4_ringOf_59 : decode cX4_ringOf 59 = .ok (.iload_n 3, 1) := by decide +kernel
theorem dX4_ringOf_60 : decode cX4_ringOf 60 = .ok (.aload_n 0, 1) := by decide +kernel
theorem dX4_ringOf_61 : decode cX4_ringOf 61 = .ok (.getfield 44, 3) := by decide +kernel
theorem dX4_ringOf_64 : decode cX4_ringOf 64 = .ok (.if_icmp .ge 18, 3) := by decide +kernel
theorem dX4_ringOf_67 : decode cX4_ringOf 67 = .ok (.iinc 3 1, 3) := by decide +kernel
theorem dX4_ringOf_70 : decode cX4_ringOf 70 = .ok (.aload_n 0, 1) := by decide +kernel
theorem dX4_ringOf_71 : decode cX4_ringOf 71 = .ok (.getfield 21, 3) := by decide +kernel
theorem dX4_ringOf_74 : decode cX4_ringOf 74 = .ok (.iload 4, 2) := by decide +kernel
theorem dX4_ringOf_76 : decode cX4_ringOf 76 = .ok (.iaload, 1) := by decide +kernel
theorem dX4_ringOf_77 : decode cX4_ringOf 77 = .ok (.istore 4, 2) := by decide +kernel
theorem dX4_ringOf_79 : decode cX4_ringOf 79 = .ok (.goto (-32), 3) := by decide +kernel
theorem dX4_ringOf_82 : decode cX4_ringOf 82 = .ok (.iload_n 3, 1) := by decide +kernel
theorem dX4_ringOf_83 : decode cX4_ringOf 83 = .ok (.ireturn, 1) := by decide +kernel
theorem dX4_firstOf_0 : decode cX4_firstOf 0 = .ok (.iload_n 1, 1) := by decide +kernel
theorem dX4_firstOf_1 : decode cX4_firstOf 1 = .ok (.istore_n 2, 1) := by decide +kernel
theorem dX4_firstOf_2 : decode cX4_firstOf 2 = .ok (.iconst 0, 1) := by decide +kernel
theorem dX4_firstOf_3 : decode cX4_firstOf 3 = .ok (.istore_n 3, 1) := by decide +kernel
theorem dX4_firstOf_4 : decode cX4_firstOf 4 = .ok (.iload_n 3, 1) := by decide +kernel
theorem dX4_firstOf_5 : decode cX4_firstOf 5 = .ok (.aload_n 0, 1) := by decide +kernel
theorem dX4_firstOf_6 : decode cX4_firstOf 6 = .ok (.getfield 44, 3) := by decide +kernel
theorem dX4_firstOf_9 : decode cX4_firstOf 9 = .ok (.if_icmp .ge 28, 3) := by decide +kernel
theorem dX4_firstOf_12 : decode cX4_firstOf 12 = .ok (.aload_n 0, 1) := by decide +kernel
theorem dX4_firstOf_13 : decode cX4_firstOf 13 = .ok (.getfield 21, 3) := by decide +kernel
theorem dX4_firstOf_16 : decode cX4_firstOf 16 = .ok (.iload_n 2, 1) := by decide +kernel
theorem dX4_firstOf_17 : decode cX4_firstOf 17 = .ok (.iaload, 1) := by decide +kernel
theorem dX4_firstOf_18 : decode cX4_firstOf 18 = .ok (.iconst (-1), 1) := by decide +kernel
theorem dX4_firstOf_19 : decode cX4_firstOf 19 = .ok (.if_icmp .ne 5, 3) := by decide +kernel
theorem dX4_firstOf_22 : decode cX4_firstOf 22 = .ok (.iload_n 2, 1) := by decide +kernel
theorem dX4_firstOf_23 : decode cX4_firstOf 23 = .ok (.ireturn, 1) := by decide +kernel
theorem dX4_firstOf_24 : decode cX4_firstOf 24 = .ok (.aload_n 0, 1) := by decide +kernel
theorem dX4_firstOf_25 : decode cX4_firstOf 25 = .ok (.getfield 21, 3) := by decide +kernel
theorem dX4_firstOf_28 : decode cX4_firstOf 28 = .ok (.iload_n 2, 1) := by decide +kernel
theorem dX4_firstOf_29 : decode cX4_firstOf 29 = .ok (.iaload, 1) := by decide +kernel
theorem dX4_firstOf_30 : decode cX4_firstOf 30 = .ok (.istore_n 2, 1) := by decide +kernel
theorem dX4_firstOf_31 : decode cX4_firstOf 31 = .ok (.iinc 3 1, 3) := by decide +kernel
theorem dX4_firstOf_34 : decode cX4_firstOf 34 = .ok (.goto (-30), 3) := by decide +kernel
theorem dX4_firstOf_37 : decode cX4_firstOf 37 = .ok (.iconst (-1), 1) := by decide +kernel
theorem dX4_firstOf_38 : decode cX4_firstOf 38 = .ok (.ireturn, 1) := by decide +kernel
theorem dX5_init_0 : decode cX5_init 0 = .ok (.aload_n 0, 1) := by decide +kernel
theorem dX5_init_1 : decode cX5_init 1 = .ok (.invokespecial 3, 3) := by decide +kernel
theorem dX5_init_4 : decode cX5_init 4 = .ok (.aload_n 0, 1) := by decide +kernel
theorem dX5_init_5 : decode cX5_init 5 = .ok (.iconst 2, 1) := by decide +kernel
theorem dX5_init_6 : decode cX5_init 6 = .ok (.newarray .boolean, 2) := by decide +kernel
theorem dX5_init_8 : decode cX5_init 8 = .ok (.putfield 9, 3) := by decide +kernel
theorem dX5_init_11 : decode cX5_init 11 = .ok (.aload_n 0, 1) := by decide +kernel
theorem dX5_init_12 : decode cX5_init 12 = .ok (.iconst 2, 1) := by decide +kernel
theorem dX5_init_13 : decode cX5_init 13 = .ok (.anewarray 15, 3) := by decide +kernel
theorem dX5_init_16 : decode cX5_init 16 = .ok (.putfield 17, 3) := by decide +kernel
theorem dX5_init_19 : decode cX5_init 19 = .ok (.aload_n 0, 1) := by decide +kernel
theorem dX5_init_20 : decode cX5_init 20 = .ok (.iconst 2, 1) := by decide +kernel
theorem dX5_init_21 : decode cX5_init 21 = .ok (.newarray .int, 2) := by decide +kernel
theorem dX5_init_23 : decode cX5_init 23 = .ok (.putfield 21, 3) := by decide +kernel
theorem dX5_init_26 : decode cX5_init 26 = .ok (.iconst 0, 1) := by decide +kernel
theorem dX5_init_27 : decode cX5_init 27 = .ok (.istore_n 1, 1) := by decide +kernel
theorem dX5_init_28 : decode cX5_init 28 = .ok (.iload_n 1, 1) := by decide +kernel
theorem dX5_init_29 : decode cX5_init 29 = .ok (.iconst 2, 1) := by decide +kernel
theorem dX5_init_30 : decode cX5_init 30 = .ok (.if_icmp .ge 22, 3) := by decide +kernel
theorem dX5_init_33 : decode cX5_init 33 = .ok (.aload_n 0, 1) := by decide +kernel
theorem dX5_init_34 : decode cX5_init 34 = .ok (.getfield 17, 3) := by decide +kernel
theorem dX5_init_37 : decode cX5_init 37 = .ok (.iload_n 1, 1) := by decide +kernel
theorem dX5_init_38 : decode cX5_init 38 = .ok (.new 15, 3) := by decide +kernel
theorem dX5_init_41 : decode cX5_init 41 = .ok (.dup, 1) := by decide +kernel
theorem dX5_init_42 : decode cX5_init 42 = .ok (.invokespecial 25, 3) := by decide +kernel
theorem dX5_init_45 : decode cX5_init 45 = .ok (.aastore, 1) := by decide +kernel
theorem dX5_init_46 : decode cX5_init 46 = .ok (.iinc 1 1, 3) := by decide +kernel
theorem dX5_init_49 : decode cX5_init 49 = .ok (.goto (-21), 3) := by decide +kernel
theorem dX5_init_52 : decode cX5_init 52 = .ok (.return_, 1) := by decide +kernel
theorem dX5_take_0 : decode cX5_take 0 = .ok (.iload_n 1, 1) := by decide +kernel
theorem dX5_take_1 : decode cX5_take 1 = .ok (.ifCond .lt 8, 3) := by decide +kernel
theorem dX5_take_4 : decode cX5_take 4 = .ok (.iload_n 1, 1) := by decide +kernel
theorem dX5_take_5 : decode cX5_take 5 = .ok (.iconst 2, 1) := by decide +kernel
theorem dX5_take_6 : decode cX5_take 6 = .ok (.if_icmp .lt 4, 3) := by decide +kernel
theorem dX5_take_9 : decode cX5_take 9 = .ok (.return_, 1) := by decide +kernel
theorem dX5_take_10 : decode cX5_take 10 = .ok (.aload_n 0, 1) := by decide +kernel
theorem dX5_take_11 : decode cX5_take 11 = .ok (.getfield 17, 3) := by decide +kernel
theorem dX5_take_14 : decode cX5_take 14 = .ok (.iload_n 1, 1) := by decide +kernel
theorem dX5_take_15 : decode cX5_take 15 = .ok (.aaload, 1) := by decide +kernel
theorem dX5_take_16 : decode cX5_take 16 = .ok (.aload_n 2, 1) := by decide +kernel
theorem dX5_take_17 : decode cX5_take 17 = .ok (.invokevirtual 26, 3) := by decide +kernel
theorem dX5_take_20 : decode cX5_take 20 = .ok (.aload_n 0, 1) := by decide +kernel
theorem dX5_take_21 : decode cX5_take 21 = .ok (.getfield 21, 3) := by decide +kernel
theorem dX5_take_24 : decode cX5_take 24 = .ok (.iload_n 1, 1) := by decide +kernel
theorem dX5_take_25 : decode cX5_take 25 = .ok (.iload_n 3, 1) := by decide +kernel
theorem dX5_take_26 : decode cX5_take 26 = .ok (.iastore, 1) := by decide +kernel
theorem dX5_take_27 : decode cX5_take 27 = .ok (.aload_n 0, 1) := by decide +kernel
theorem dX5_take_28 : decode cX5_take 28 = .ok (.getfield 9, 3) := by decide +kernel
theorem dX5_take_31 : decode cX5_take 31 = .ok (.iload_n 1, 1) := by decide +kernel
theorem dX5_take_32 : decode cX5_take 32 = .ok (.iconst 1, 1) := by decide +kernel
theorem dX5_take_33 : decode cX5_take 33 = .ok (.bastore, 1) := by decide +kernel
theorem dX5_take_34 : decode cX5_take 34 = .ok (.return_, 1) := by decide +kernel
theorem dX5_forget_0 : decode cX5_forget 0 = .ok (.iconst 0, 1) := by decide +kernel
theorem dX5_forget_1 : decode cX5_forget 1 = .ok (.istore_n 1, 1) := by decide +kernel
theorem dX5_forget_2 : decode cX5_forget 2 = .ok (.iload_n 1, 1) := by decide +kernel
theorem dX5_forget_3 : decode cX5_forget 3 = .ok (.iconst 2, 1) := by decide +kernel
theorem dX5_forget_4 : decode cX5_forget 4 = .ok (.if_icmp .ge 16, 3) := by decide +kernel
theorem dX5_forget_7 : decode cX5_forget 7 = .ok (.aload_n 0, 1) := by decide +kernel
theorem dX5_forget_8 : decode cX5_forget 8 = .ok (.getfield 9, 3) := by decide +kernel
theorem dX5_forget_11 : decode cX5_forget 11 = .ok (.iload_n 1, 1) := by decide +kernel
theorem dX5_forget_12 : decode cX5_forget 12 = .ok (.iconst 0, 1) := by decide +kernel
theorem dX5_forget_13 : decode cX5_forget 13 = .ok (.bastore, 1) := by decide +kernel
theorem dX5_forget_14 : decode cX5_forget 14 = .ok (.iinc 1 1, 3) := by decide +kernel
theorem dX5_forget_17 : decode cX5_forget 17 = .ok (.goto (-15), 3) := by decide +kernel
theorem dX5_forget_20 : decode cX5_forget 20 = .ok (.return_, 1) := by decide +kernel
theorem dX6_init_0 : decode cX6_init 0 = .ok (.aload_n 0, 1) := by decide +kernel
theorem dX6_init_1 : decode cX6_init 1 = .ok (.invokespecial 3, 3) := by decide +kernel
theorem dX6_init_4 : decode cX6_init 4 = .ok (.aload_n 0, 1) := by decide +kernel
theorem dX6_init_5 : decode cX6_init 5 = .ok (.bipush 7, 2) := by decide +kernel
theorem dX6_init_7 : decode cX6_init 7 = .ok (.newarray .int, 2) := by decide +kernel
theorem dX6_init_9 : decode cX6_init 9 = .ok (.putfield 9, 3) := by decide +kernel
theorem dX6_init_12 : decode cX6_init 12 = .ok (.aload_n 0, 1) := by decide +kernel
theorem dX6_init_13 : decode cX6_init 13 = .ok (.bipush 7, 2) := by decide +kernel
theorem dX6_init_15 : decode cX6_init 15 = .ok (.newarray .int, 2) := by decide +kernel
theorem dX6_init_17 : decode cX6_init 17 = .ok (.putfield 15, 3) := by decide +kernel
theorem dX6_init_20 : decode cX6_init 20 = .ok (.aload_n 0, 1) := by decide +kernel
theorem dX6_init_21 : decode cX6_init 21 = .ok (.bipush 49, 2) := by decide +kernel
theorem dX6_init_23 : decode cX6_init 23 = .ok (.newarray .int, 2) := by decide +kernel
theorem dX6_init_25 : decode cX6_init 25 = .ok (.putfield 18, 3) := by decide +kernel
theorem dX6_init_28 : decode cX6_init 28 = .ok (.aload_n 0, 1) := by decide +kernel
theorem dX6_init_29 : decode cX6_init 29 = .ok (.sipush 1024, 3) := by decide +kernel
theorem dX6_init_32 : decode cX6_init 32 = .ok (.newarray .int, 2) := by decide +kernel
theorem dX6_init_34 : decode cX6_init 34 = .ok (.putfield 21, 3) := by decide +kernel
theorem dX6_init_37 : decode cX6_init 37 = .ok (.return_, 1) := by decide +kernel
theorem dX6_work_0 : decode cX6_work 0 = .ok (.aload_n 0, 1) := by decide +kernel
theorem dX6_work_1 : decode cX6_work 1 = .ok (.aload_n 1, 1) := by decide +kernel
theorem dX6_work_2 : decode cX6_work 2 = .ok (.getfield 24, 3) := by decide +kernel
theorem dX6_work_5 : decode cX6_work 5 = .ok (.getfield 30, 3) := by decide +kernel
theorem dX6_work_8 : decode cX6_work 8 = .ok (.putfield 36, 3) := by decide +kernel
theorem dX6_work_11 : decode cX6_work 11 = .ok (.aload_n 0, 1) := by decide +kernel
theorem dX6_work_12 : decode cX6_work 12 = .ok (.aload_n 1, 1) := by decide +kernel
theorem dX6_work_13 : decode cX6_work 13 = .ok (.invokevirtual 37, 3) := by decide +kernel
theorem dX6_work_16 : decode cX6_work 16 = .ok (.iconst 0, 1) := by decide +kernel
theorem dX6_work_17 : decode cX6_work 17 = .ok (.istore_n 2, 1) := by decide +kernel
theorem dX6_work_18 : decode cX6_work 18 = .ok (.iload_n 2, 1) := by decide +kernel
theorem dX6_work_19 : decode cX6_work 19 = .ok (.iconst 1, 1) := by decide +kernel
theorem dX6_work_20 : decode cX6_work 20 = .ok (.aload_n 0, 1) := by decide +kernel
theorem dX6_work_21 : decode cX6_work 21 = .ok (.getfield 36, 3) := by decide +kernel
theorem dX6_work_24 : decode cX6_work 24 = .ok (.ishl, 1) := by decide +kernel
theorem dX6_work_25 : decode cX6_work 25 = .ok (.if_icmp .ge 25, 3) := by decide +kernel
theorem dX6_work_28 : decode cX6_work 28 = .ok (.aload_n 0, 1) := by decide +kernel
theorem dX6_work_29 : decode cX6_work 29 = .ok (.getfield 21, 3) := by decide +kernel
theorem dX6_work_32 : decode cX6_work 32 = .ok (.aload_n 0, 1) := by decide +kernel
theorem dX6_work_33 : decode cX6_work 33 = .ok (.getfield 36, 3) := by decide +kernel
theorem dX6_work_36 : decode cX6_work 36 = .ok (.sipush 128, 3) := by decide +kernel
theorem dX6_work_39 : decode cX6_work 39 = .ok (.imul, 1) := by decide +kernel
theorem dX6_work_40 : decode cX6_work 40 = .ok (.iload_n 2, 1) := by decide +kernel
theorem dX6_work_41 : decode cX6_work 41 = .ok (.iadd, 1) := by decide +kernel
theorem dX6_work_42 : decode cX6_work 42 = .ok (.iconst 0, 1) := by decide +kernel
theorem dX6_work_43 : decode cX6_work 43 = .ok (.iastore, 1) := by decide +kernel
theorem dX6_work_44 : decode cX6_work 44 = .ok (.iinc 2 1, 3) := by decide +kernel
theorem dX6_work_47 : decode cX6_work 47 = .ok (.goto (-29), 3) := by decide +kernel
theorem dX6_work_50 : decode cX6_work 50 = .ok (.aload_n 0, 1) := by decide +kernel
theorem dX6_work_51 : decode cX6_work 51 = .ok (.getfield 36, 3) := by decide +kernel
theorem dX6_work_54 : decode cX6_work 54 = .ok (.iconst 1, 1) := by decide +kernel
theorem dX6_work_55 : decode cX6_work 55 = .ok (.isub, 1) := by decide +kernel
theorem dX6_work_56 : decode cX6_work 56 = .ok (.istore_n 2, 1) := by decide +kernel
theorem dX6_work_57 : decode cX6_work 57 = .ok (.iload_n 2, 1) := by decide +kernel
theorem dX6_work_58 : decode cX6_work 58 = .ok (.ifCond .lt 45, 3) := by decide +kernel
theorem dX6_work_61 : decode cX6_work 61 = .ok (.iconst 0, 1) := by decide +kernel
theorem dX6_work_62 : decode cX6_work 62 = .ok (.istore_n 3, 1) := by decide +kernel
theorem dX6_work_63 : decode cX6_work 63 = .ok (.iload_n 3, 1) := by decide +kernel
theorem dX6_work_64 : decode cX6_work 64 = .ok (.iconst 1, 1) := by decide +kernel
theorem dX6_work_65 : decode cX6_work 65 = .ok (.aload_n 0, 1) := by decide +kernel
theorem dX6_work_66 : decode cX6_work 66 = .ok (.getfield 36, 3) := by decide +kernel
theorem dX6_work_69 : decode cX6_work 69 = .ok (.ishl, 1) := by decide +kernel
theorem dX6_work_70 : decode cX6_work 70 = .ok (.if_icmp .ge 27, 3) := by decide +kernel
theorem dX6_work_73 : decode cX6_work 73 = .ok (.aload_n 0, 1) := by decide +kernel
theorem dX6_work_74 : decode cX6_work 74 = .ok (.getfield 21, 3) := by decide +kernel
theorem dX6_work_77 : decode cX6_work 77 = .ok (.iload_n 2, 1) := by decide +kernel
theorem dX6_work_78 : decode cX6_work 78 = .ok (.sipush 128, 3) := by decide +kernel
theorem dX6_work_81 : decode cX6_work 81 = .ok (.imul, 1) := by decide +kernel
theorem dX6_work_82 : decode cX6_work 82 = .ok (.iload_n 3, 1) := by decide +kernel
theorem dX6_work_83 : decode cX6_work 83 = .ok (.iadd, 1) := by decide +kernel
theorem dX6_work_84 : decode cX6_work 84 = .ok (.aload_n 0, 1) := by decide +kernel
theorem dX6_work_85 : decode cX6_work 85 = .ok (.iload_n 2, 1) := by decide +kernel
theorem dX6_work_86 : decode cX6_work 86 = .ok (.iload_n 3, 1) := by decide +kernel
theorem dX6_work_87 : decode cX6_work 87 = .ok (.invokevirtual 41, 3) := by decide +kernel
theorem dX6_work_90 : decode cX6_work 90 = .ok (.iastore, 1) := by decide +kernel
theorem dX6_work_91 : decode cX6_work 91 = .ok (.iinc 3 1, 3) := by decide +kernel
theorem dX6_work_94 : decode cX6_work 94 = .ok (.goto (-31), 3) := by decide +kernel
theorem dX6_work_97 : decode cX6_work 97 = .ok (.iinc 2 (-1), 3) := by decide +kernel
theorem dX6_work_100 : decode cX6_work 100 = .ok (.goto (-43), 3) := by decide +kernel
theorem dX6_work_103 : decode cX6_work 103 = .ok (.aload_n 0, 1) := by decide +kernel
theorem dX6_work_104 : decode cX6_work 104 = .ok (.invokevirtual 45, 3) := by decide +kernel
theorem dX6_work_107 : decode cX6_work 107 = .ok (.return_, 1) := by decide +kernel
theorem dX6_total_0 : decode cX6_total 0 = .ok (.aload_n 0, 1) := by decide +kernel
theorem dX6_total_1 : decode cX6_total 1 = .ok (.getfield 21, 3) := by decide +kernel
theorem dX6_total_4 : decode cX6_total 4 = .ok (.iconst 0, 1) := by decide +kernel
theorem dX6_total_5 : decode cX6_total 5 = .ok (.iaload, 1) := by decide +kernel
theorem dX6_total_6 : decode cX6_total 6 = .ok (.ireturn, 1) := by decide +kernel
theorem dX6_tryAll_0 : decode cX6_tryAll 0 = .ok (.iconst 0, 1) := by decide +kernel
theorem dX6_tryAll_1 : decode cX6_tryAll 1 = .ok (.istore_n 2, 1) := by decide +kernel
theorem dX6_tryAll_2 : decode cX6_tryAll 2 = .ok (.iload_n 2, 1) := by decide +kernel
theorem dX6_tryAll_3 : decode cX6_tryAll 3 = .ok (.aload_n 0, 1) := by decide +kernel
theorem dX6_tryAll_4 : decode cX6_tryAll 4 = .ok (.getfield 36, 3) := by decide +kernel
theorem dX6_tryAll_7 : decode cX6_tryAll 7 = .ok (.if_icmp .ge 75, 3) := by decide +kernel
theorem dX6_tryAll_10 : decode cX6_tryAll 10 = .ok (.aload_n 0, 1) := by decide +kernel
theorem dX6_tryAll_11 : decode cX6_tryAll 11 = .ok (.getfield 15, 3) := by decide +kernel
theorem dX6_tryAll_14 : decode cX6_tryAll 14 = .ok (.iload_n 2, 1) := by decide +kernel
theorem dX6_tryAll_15 : decode cX6_tryAll 15 = .ok (.aload_n 1, 1) := by decide +kernel
theorem dX6_tryAll_16 : decode cX6_tryAll 16 = .ok (.getfield 48, 3) := by decide +kernel
theorem dX6_tryAll_19 : decode cX6_tryAll 19 = .ok (.getfield 52, 3) := by decide +kernel
theorem dX6_tryAll_22 : decode cX6_tryAll 22 = .ok (.iload_n 2, 1) := by decide +kernel
theorem dX6_tryAll_23 : decode cX6_tryAll 23 = .ok (.iaload, 1) := by decide +kernel
theorem dX6_tryAll_24 : decode cX6_tryAll 24 = .ok (.iastore, 1) := by decide +kernel
theorem dX6_tryAll_25 : decode cX6_tryAll 25 = .ok (.iconst 0, 1) := by decide +kernel
theorem dX6_tryAll_26 : decode cX6_tryAll 26 = .ok (.istore_n 3, 1) := by decide +kernel
theorem dX6_tryAll_27 : decode cX6_tryAll 27 = .ok (.iload_n 3, 1) := by decide +kernel
theorem dX6_tryAll_28 : decode cX6_tryAll 28 = .ok (.aload_n 0, 1) := by decide +kernel
theorem dX6_tryAll_29 : decode cX6_tryAll 29 = .ok (.getfield 36, 3) := by decide +kernel
theorem dX6_tryAll_32 : decode cX6_tryAll 32 = .ok (.if_icmp .ge 44, 3) := by decide +kernel
theorem dX6_tryAll_35 : decode cX6_tryAll 35 = .ok (.aload_n 0, 1) := by decide +kernel
theorem dX6_tryAll_36 : decode cX6_tryAll 36 = .ok (.getfield 18, 3) := by decide +kernel
theorem dX6_tryAll_39 : decode cX6_tryAll 39 = .ok (.iload_n 2, 1) := by decide +kernel
theorem dX6_tryAll_40 : decode cX6_tryAll 40 = .ok (.bipush 7, 2) := by decide +kernel
theorem dX6_tryAll_42 : decode cX6_tryAll 42 = .ok (.imul, 1) := by decide +kernel
theorem dX6_tryAll_43 : decode cX6_tryAll 43 = .ok (.iload_n 3, 1) := by decide +kernel
theorem dX6_tryAll_44 : decode cX6_tryAll 44 = .ok (.iadd, 1) := by decide +kernel
theorem dX6_tryAll_45 : decode cX6_tryAll 45 = .ok (.aload_n 1, 1) := by decide +kernel
theorem dX6_tryAll_46 : decode cX6_tryAll 46 = .ok (.iload_n 2, 1) := by decide +kernel
theorem dX6_tryAll_47 : decode cX6_tryAll 47 = .ok (.iload_n 3, 1) := by decide +kernel
theorem dX6_tryAll_48 : decode cX6_tryAll 48 = .ok (.invokevirtual 57, 3) := by decide +kernel
theorem dX6_tryAll_51 : decode cX6_tryAll 51 = .ok (.ifCond .eq 17, 3) := by decide +kernel
theorem dX6_tryAll_54 : decode cX6_tryAll 54 = .ok (.aload_n 1, 1) := by decide +kernel
theorem dX6_tryAll_55 : decode cX6_tryAll 55 = .ok (.iload_n 3, 1) := by decide +kernel
theorem dX6_tryAll_56 : decode cX6_tryAll 56 = .ok (.aload_n 0, 1) := by decide +kernel
theorem dX6_tryAll_57 : decode cX6_tryAll 57 = .ok (.getfield 15, 3) := by decide +kernel
theorem dX6_tryAll_60 : decode cX6_tryAll 60 = .ok (.iload_n 2, 1) := by decide +kernel
theorem dX6_tryAll_61 : decode cX6_tryAll 61 = .ok (.iaload, 1) := by decide +kernel
theorem dX6_tryAll_62 : decode cX6_tryAll 62 = .ok (.invokevirtual 61, 3) := by decide +kernel
theorem dX6_tryAll_65 : decode cX6_tryAll 65 = .ok (.goto 4, 3) := by decide +kernel
theorem dX6_tryAll_68 : decode cX6_tryAll 68 = .ok (.iconst (-1), 1) := by decide +kernel
theorem dX6_tryAll_69 : decode cX6_tryAll 69 = .ok (.iastore, 1) := by decide +kernel
theorem dX6_tryAll_70 : decode cX6_tryAll 70 = .ok (.iinc 3 1, 3) := by decide +kernel
theorem dX6_tryAll_73 : decode cX6_tryAll 73 = .ok (.goto (-46), 3) := by decide +kernel
theorem dX6_tryAll_76 : decode cX6_tryAll 76 = .ok (.iinc 2 1, 3) := by decide +kernel
theorem dX6_tryAll_79 : decode cX6_tryAll 79 = .ok (.goto (-77), 3) := by decide +kernel
theorem dX6_tryAll_82 : decode cX6_tryAll 82 = .ok (.return_, 1) := by decide +kernel
theorem dX6_leastFrom_0 : decode cX6_leastFrom 0 = .ok (.aload_n 0, 1) := by decide +kernel
theorem dX6_leastFrom_1 : decode cX6_leastFrom 1 = .ok (.getfield 15, 3) := by decide +kernel
theorem dX6_leastFrom_4 : decode cX6_leastFrom 4 = .ok (.iload_n 1, 1) := by decide +kernel
theorem dX6_leastFrom_5 : decode cX6_leastFrom 5 = .ok (.iaload, 1) := by decide +kernel
theorem dX6_leastFrom_6 : decode cX6_leastFrom 6 = .ok (.aload_n 0, 1) := by decide +kernel
theorem dX6_leastFrom_7 : decode cX6_leastFrom 7 = .ok (.getfield 21, 3) := by decide +kernel
theorem dX6_leastFrom_10 : decode cX6_leastFrom 10 = .ok (.iload_n 1, 1) := by decide +kernel
theorem dX6_leastFrom_11 : decode cX6_leastFrom 11 = .ok (.iconst 1, 1) := by decide +kernel
theorem dX6_leastFrom_12 : decode cX6_leastFrom 12 = .ok (.iadd, 1) := by decide +kernel
theorem dX6_leastFrom_13 : decode cX6_leastFrom 13 = .ok (.sipush 128, 3) := by decide +kernel
theorem dX6_leastFrom_16 : decode cX6_leastFrom 16 = .ok (.imul, 1) := by decide +kernel
theorem dX6_leastFrom_17 : decode cX6_leastFrom 17 = .ok (.iload_n 2, 1) := by decide +kernel
theorem dX6_leastFrom_18 : decode cX6_leastFrom 18 = .ok (.iadd, 1) := by decide +kernel
theorem dX6_leastFrom_19 : decode cX6_leastFrom 19 = .ok (.iaload, 1) := by decide +kernel
theorem dX6_leastFrom_20 : decode cX6_leastFrom 20 = .ok (.iadd, 1) := by decide +kernel
theorem dX6_leastFrom_21 : decode cX6_leastFrom 21 = .ok (.istore_n 3, 1) := by decide +kernel
theorem dX6_leastFrom_22 : decode cX6_leastFrom 22 = .ok (.iconst 0, 1) := by decide +kernel
theorem dX6_leastFrom_23 : decode cX6_leastFrom 23 = .ok (.istore 4, 2) := by decide +kernel
theorem dX6_leastFrom_25 : decode cX6_leastFrom 25 = .ok (.iload 4, 2) := by decide +kernel
theorem dX6_leastFrom_27 : decode cX6_leastFrom 27 = .ok (.aload_n 0, 1) := by decide +kernel
theorem dX6_leastFrom_28 : decode cX6_leastFrom 28 = .ok (.getfield 36, 3) := by decide +kernel
theorem dX6_leastFrom_31 : decode cX6_leastFrom 31 = .ok (.if_icmp .ge 33, 3) := by decide +kernel
theorem dX6_leastFrom_34 : decode cX6_leastFrom 34 = .ok (.aload_n 0, 1) := by decide +kernel
theorem dX6_leastFrom_35 : decode cX6_leastFrom 35 = .ok (.iload_n 1, 1) := by decide +kernel
theorem dX6_leastFrom_36 : decode cX6_leastFrom 36 = .ok (.iload 4, 2) := by decide +kernel
theorem dX6_leastFrom_38 : decode cX6_leastFrom 38 = .ok (.iload_n 2, 1) := by decide +kernel
theorem dX6_leastFrom_39 : decode cX6_leastFrom 39 = .ok (.invokevirtual 64, 3) := by decide +kernel
theorem dX6_leastFrom_42 : decode cX6_leastFrom 42 = .ok (.ifCond .eq 16, 3) := by decide +kernel
theorem dX6_leastFrom_45 : decode cX6_leastFrom 45 = .ok (.iload_n 3, 1) := by decide +kernel
theorem dX6_leastFrom_46 : decode cX6_leastFrom 46 = .ok (.aload_n 0, 1) := by decide +kernel
theorem dX6_leastFrom_47 : decode cX6_leastFrom 47 = .ok (.iload_n 1, 1) := by decide +kernel
theorem dX6_leastFrom_48 : decode cX6_leastFrom 48 = .ok (.iload 4, 2) := by decide +kernel
theorem dX6_leastFrom_50 : decode cX6_leastFrom 50 = .ok (.iload_n 2, 1) := by decide +kernel
theorem dX6_leastFrom_51 : decode cX6_leastFrom 51 = .ok (.invokevirtual 68, 3) := by decide +kernel
theorem dX6_leastFrom_54 : decode cX6_leastFrom 54 = .ok (.invokestatic 72, 3) := by decide +kernel
theorem dX6_leastFrom_57 : decode cX6_leastFrom 57 = .ok (.istore_n 3, 1) := by decide +kernel
theorem dX6_leastFrom_58 : decode cX6_leastFrom 58 = .ok (.iinc 4 1, 3) := by decide +kernel
theorem dX6_leastFrom_61 : decode cX6_leastFrom 61 = .ok (.goto (-36), 3) := by decide +kernel
theorem dX6_leastFrom_64 : decode cX6_leastFrom 64 = .ok (.iload_n 3, 1) := by decide +kernel
theorem dX6_leastFrom_65 : decode cX6_leastFrom 65 = .ok (.ireturn, 1) := by decide +kernel
theorem dX6_mayGo_0 : decode cX6_mayGo 0 = .ok (.iload_n 3, 1) := by decide +kernel
theorem dX6_mayGo_1 : decode cX6_mayGo 1 = .ok (.iload_n 2, 1) := by decide +kernel
theorem dX6_mayGo_2 : decode cX6_mayGo 2 = .ok (.ishr, 1) := by decide +kernel
theorem dX6_mayGo_3 : decode cX6_mayGo 3 = .ok (.iconst 1, 1) := by decide +kernel
theorem dX6_mayGo_4 : decode cX6_mayGo 4 = .ok (.iand, 1) := by decide +kernel
theorem dX6_mayGo_5 : decode cX6_mayGo 5 = .ok (.ifCond .ne 22, 3) := by decide +kernel
theorem dX6_mayGo_8 : decode cX6_mayGo 8 = .ok (.aload_n 0, 1) := by decide +kernel
theorem dX6_mayGo_9 : decode cX6_mayGo 9 = .ok (.getfield 18, 3) := by decide +kernel
theorem dX6_mayGo_12 : decode cX6_mayGo 12 = .ok (.iload_n 1, 1) := by decide +kernel
theorem dX6_mayGo_13 : decode cX6_mayGo 13 = .ok (.bipush 7, 2) := by decide +kernel
theorem dX6_mayGo_15 : decode cX6_mayGo 15 = .ok (.imul, 1) := by decide +kernel
theorem dX6_mayGo_16 : decode cX6_mayGo 16 = .ok (.iload_n 2, 1) := by decide +kernel
theorem dX6_mayGo_17 : decode cX6_mayGo 17 = .ok (.iadd, 1) := by decide +kernel
theorem dX6_mayGo_18 : decode cX6_mayGo 18 = .ok (.iaload, 1) := by decide +kernel
theorem dX6_mayGo_19 : decode cX6_mayGo 19 = .ok (.iconst (-1), 1) := by decide +kernel
theorem dX6_mayGo_20 : decode cX6_mayGo 20 = .ok (.if_icmp .eq 7, 3) := by decide +kernel
theorem dX6_mayGo_23 : decode cX6_mayGo 23 = .ok (.iconst 1, 1) := by decide +kernel
theorem dX6_mayGo_24 : decode cX6_mayGo 24 = .ok (.goto 4, 3) := by decide +kernel
theorem dX6_mayGo_27 : decode cX6_mayGo 27 = .ok (.iconst 0, 1) := by decide +kernel
theorem dX6_mayGo_28 : decode cX6_mayGo 28 = .ok (.ireturn, 1) := by decide +kernel
theorem dX6_leftWith_0 : decode cX6_leftWith 0 = .ok (.aload_n 0, 1) := by decide +kernel
theorem dX6_leftWith_1 : decode cX6_leftWith 1 = .ok (.getfield 18, 3) := by decide +kernel
theorem dX6_leftWith_4 : decode cX6_leftWith 4 = .ok (.iload_n 1, 1) := by decide +kernel
theorem dX6_leftWith_5 : decode cX6_leftWith 5 = .ok (.bipush 7, 2) := by decide +kernel
theorem dX6_leftWith_7 : decode cX6_leftWith 7 = .ok (.imul, 1) := by decide +kernel
theorem dX6_leftWith_8 : decode cX6_leftWith 8 = .ok (.iload_n 2, 1) := by decide +kernel
theorem dX6_leftWith_9 : decode cX6_leftWith 9 = .ok (.iadd, 1) := by decide +kernel
theorem dX6_leftWith_10 : decode cX6_leftWith 10 = .ok (.iaload, 1) := by decide +kernel
theorem dX6_leftWith_11 : decode cX6_leftWith 11 = .ok (.aload_n 0, 1) := by decide +kernel
theorem dX6_leftWith_12 : decode cX6_leftWith 12 = .ok (.getfield 21, 3) := by decide +kernel
theorem dX6_leftWith_15 : decode cX6_leftWith 15 = .ok (.iload_n 1, 1) := by decide +kernel
theorem dX6_leftWith_16 : decode cX6_leftWith 16 = .ok (.iconst 1, 1) := by decide +kernel
theorem dX6_leftWith_17 : decode cX6_leftWith 17 = .ok (.iadd, 1) := by decide +kernel
theorem dX6_leftWith_18 : decode cX6_leftWith 18 = .ok (.sipush 128, 3) := by decide +kernel
theorem dX6_leftWith_21 : decode cX6_leftWith 21 = .ok (.imul, 1) := by decide +kernel
theorem dX6_leftWith_22 : decode cX6_leftWith 22 = .ok (.iload_n 3, 1) := by decide +kernel
theorem dX6_leftWith_23 : decode cX6_leftWith 23 = .ok (.iconst 1, 1) := by decide +kernel
theorem dX6_leftWith_24 : decode cX6_leftWith 24 = .ok (.iload_n 2, 1) := by decide +kernel
theorem dX6_leftWith_25 : decode cX6_leftWith 25 = .ok (.ishl, 1) := by decide +kernel
theorem dX6_leftWith_26 : decode cX6_leftWith 26 = .ok (.ior, 1) := by decide +kernel
theorem dX6_leftWith_27 : decode cX6_leftWith 27 = .ok (.iadd, 1) := by decide +kernel
theorem dX6_leftWith_28 : decode cX6_leftWith 28 = .ok (.iaload, 1) := by decide +kernel
theorem dX6_leftWith_29 : decode cX6_leftWith 29 = .ok (.iadd, 1) := by decide +kernel
theorem dX6_leftWith_30 : decode cX6_leftWith 30 = .ok (.ireturn, 1) := by decide +kernel
theorem dX6_choose_0 : decode cX6_choose 0 = .ok (.iconst 0, 1) := by decide +kernel
theorem dX6_choose_1 : decode cX6_choose 1 = .ok (.istore_n 1, 1) := by decide +kernel
theorem dX6_choose_2 : decode cX6_choose 2 = .ok (.iconst 0, 1) := by decide +kernel
theorem dX6_choose_3 : decode cX6_choose 3 = .ok (.istore_n 2, 1) := by decide +kernel
theorem dX6_choose_4 : decode cX6_choose 4 = .ok (.iload_n 2, 1) := by decide +kernel
theorem dX6_choose_5 : decode cX6_choose 5 = .ok (.aload_n 0, 1) := by decide +kernel
theorem dX6_choose_6 : decode cX6_choose 6 = .ok (.getfield 36, 3) := by decide +kernel
theorem dX6_choose_9 : decode cX6_choose 9 = .ok (.if_icmp .ge 42, 3) := by decide +kernel
theorem dX6_choose_12 : decode cX6_choose 12 = .ok (.aload_n 0, 1) := by decide +kernel
theorem dX6_choose_13 : decode cX6_choose 13 = .ok (.getfield 9, 3) := by decide +kernel
theorem dX6_choose_16 : decode cX6_choose 16 = .ok (.iload_n 2, 1) := by decide +kernel
theorem dX6_choose_17 : decode cX6_choose 17 = .ok (.aload_n 0, 1) := by decide +kernel
theorem dX6_choose_18 : decode cX6_choose 18 = .ok (.iload_n 2, 1) := by decide +kernel
theorem dX6_choose_19 : decode cX6_choose 19 = .ok (.iload_n 1, 1) := by decide +kernel
theorem dX6_choose_20 : decode cX6_choose 20 = .ok (.invokevirtual 77, 3) := by decide +kernel
theorem dX6_choose_23 : decode cX6_choose 23 = .ok (.iastore, 1) := by decide +kernel
theorem dX6_choose_24 : decode cX6_choose 24 = .ok (.aload_n 0, 1) := by decide +kernel
theorem dX6_choose_25 : decode cX6_choose 25 = .ok (.getfield 9, 3) := by decide +kernel
theorem dX6_choose_28 : decode cX6_choose 28 = .ok (.iload_n 2, 1) := by decide +kernel
theorem dX6_choose_29 : decode cX6_choose 29 = .ok (.iaload, 1) := by decide +kernel
theorem dX6_choose_30 : decode cX6_choose 30 = .ok (.iconst (-1), 1) := by decide +kernel
theorem dX6_choose_31 : decode cX6_choose 31 = .ok (.if_icmp .eq 14, 3) := by decide +kernel
theorem dX6_choose_34 : decode cX6_choose 34 = .ok (.iload_n 1, 1) := by decide +kernel
theorem dX6_choose_35 : decode cX6_choose 35 = .ok (.iconst 1, 1) := by decide +kernel
theorem dX6_choose_36 : decode cX6_choose 36 = .ok (.aload_n 0, 1) := by decide +kernel
theorem dX6_choose_37 : decode cX6_choose 37 = .ok (.getfield 9, 3) := by decide +kernel
theorem dX6_choose_40 : decode cX6_choose 40 = .ok (.iload_n 2, 1) := by decide +kernel
theorem dX6_choose_41 : decode cX6_choose 41 = .ok (.iaload, 1) := by decide +kernel
theorem dX6_choose_42 : decode cX6_choose 42 = .ok (.ishl, 1) := by decide +kernel
theorem dX6_choose_43 : decode cX6_choose 43 = .ok (.ior, 1) := by decide +kernel
theorem dX6_choose_44 : decode cX6_choose 44 = .ok (.istore_n 1, 1) := by decide +kernel
theorem dX6_choose_45 : decode cX6_choose 45 = .ok (.iinc 2 1, 3) := by decide +kernel
theorem dX6_choose_48 : decode cX6_choose 48 = .ok (.goto (-44), 3) := by decide +kernel
theorem dX6_choose_51 : decode cX6_choose 51 = .ok (.return_, 1) := by decide +kernel
theorem dX6_firstGoer_0 : decode cX6_firstGoer 0 = .ok (.iconst 0, 1) := by decide +kernel
theorem dX6_firstGoer_1 : decode cX6_firstGoer 1 = .ok (.istore_n 3, 1) := by decide +kernel
theorem dX6_firstGoer_2 : decode cX6_firstGoer 2 = .ok (.iload_n 3, 1) := by decide +kernel
theorem dX6_firstGoer_3 : decode cX6_firstGoer 3 = .ok (.aload_n 0, 1) := by decide +kernel
theorem dX6_firstGoer_4 : decode cX6_firstGoer 4 = .ok (.getfield 36, 3) := by decide +kernel
theorem dX6_firstGoer_7 : decode cX6_firstGoer 7 = .ok (.if_icmp .ge 43, 3) := by decide +kernel
theorem dX6_firstGoer_10 : decode cX6_firstGoer 10 = .ok (.aload_n 0, 1) := by decide +kernel
theorem dX6_firstGoer_11 : decode cX6_firstGoer 11 = .ok (.iload_n 1, 1) := by decide +kernel
theorem dX6_firstGoer_12 : decode cX6_firstGoer 12 = .ok (.iload_n 3, 1) := by decide +kernel
theorem dX6_firstGoer_13 : decode cX6_firstGoer 13 = .ok (.iload_n 2, 1) := by decide +kernel
theorem dX6_firstGoer_14 : decode cX6_firstGoer 14 = .ok (.invokevirtual 64, 3) := by decide +kernel
theorem dX6_firstGoer_17 : decode cX6_firstGoer 17 = .ok (.ifCond .eq 27, 3) := by decide +kernel
theorem dX6_firstGoer_20 : decode cX6_firstGoer 20 = .ok (.aload_n 0, 1) := by decide +kernel
theorem dX6_firstGoer_21 : decode cX6_firstGoer 21 = .ok (.iload_n 1, 1) := by decide +kernel
theorem dX6_firstGoer_22 : decode cX6_firstGoer 22 = .ok (.iload_n 3, 1) := by decide +kernel
theorem dX6_firstGoer_23 : decode cX6_firstGoer 23 = .ok (.iload_n 2, 1) := by decide +kernel
theorem dX6_firstGoer_24 : decode cX6_firstGoer 24 = .ok (.invokevirtual 68, 3) := by decide +kernel
theorem dX6_firstGoer_27 : decode cX6_firstGoer 27 = .ok (.aload_n 0, 1) := by decide +kernel
theorem dX6_firstGoer_28 : decode cX6_firstGoer 28 = .ok (.getfield 21, 3) := by decide +kernel
theorem dX6_firstGoer_31 : decode cX6_firstGoer 31 = .ok (.iload_n 1, 1) := by decide +kernel
theorem dX6_firstGoer_32 : decode cX6_firstGoer 32 = .ok (.sipush 128, 3) := by decide +kernel
theorem dX6_firstGoer_35 : decode cX6_firstGoer 35 = .ok (.imul, 1) := by decide +kernel
theorem dX6_firstGoer_36 : decode cX6_firstGoer 36 = .ok (.iload_n 2, 1) := by decide +kernel
theorem dX6_firstGoer_37 : decode cX6_firstGoer 37 = .ok (.iadd, 1) := by decide +kernel
theorem dX6_firstGoer_38 : decode cX6_firstGoer 38 = .ok (.iaload, 1) := by decide +kernel
theorem dX6_firstGoer_39 : decode cX6_firstGoer 39 = .ok (.if_icmp .ne 5, 3) := by decide +kernel
theorem dX6_firstGoer_42 : decode cX6_firstGoer 42 = .ok (.iload_n 3, 1) := by decide +kernel
theorem dX6_firstGoer_43 : decode cX6_firstGoer 43 = .ok (.ireturn, 1) := by decide +kernel
theorem dX6_firstGoer_44 : decode cX6_firstGoer 44 = .ok (.iinc 3 1, 3) := by decide +kernel
theorem dX6_firstGoer_47 : decode cX6_firstGoer 47 = .ok (.goto (-45), 3) := by decide +kernel
theorem dX6_firstGoer_50 : decode cX6_firstGoer 50 = .ok (.iconst (-1), 1) := by decide +kernel
theorem dX6_firstGoer_51 : decode cX6_firstGoer 51 = .ok (.ireturn, 1) := by decide +kernel
theorem dX7_init_0 : decode cX7_init 0 = .ok (.aload_n 0, 1) := by decide +kernel
theorem dX7_init_1 : decode cX7_init 1 = .ok (.invokespecial 3, 3) := by decide +kernel
theorem dX7_init_4 : decode cX7_init 4 = .ok (.aload_n 0, 1) := by decide +kernel
theorem dX7_init_5 : decode cX7_init 5 = .ok (.bipush 16, 2) := by decide +kernel
theorem dX7_init_7 : decode cX7_init 7 = .ok (.anewarray 9, 3) := by decide +kernel
theorem dX7_init_10 : decode cX7_init 10 = .ok (.putfield 11, 3) := by decide +kernel
theorem dX7_init_13 : decode cX7_init 13 = .ok (.iconst 0, 1) := by decide +kernel
theorem dX7_init_14 : decode cX7_init 14 = .ok (.istore_n 1, 1) := by decide +kernel
theorem dX7_init_15 : decode cX7_init 15 = .ok (.iload_n 1, 1) := by decide +kernel
theorem dX7_init_16 : decode cX7_init 16 = .ok (.bipush 16, 2) := by decide +kernel
theorem dX7_init_18 : decode cX7_init 18 = .ok (.if_icmp .ge 22, 3) := by decide +kernel
theorem dX7_init_21 : decode cX7_init 21 = .ok (.aload_n 0, 1) := by decide +kernel
theorem dX7_init_22 : decode cX7_init 22 = .ok (.getfield 11, 3) := by decide +kernel
theorem dX7_init_25 : decode cX7_init 25 = .ok (.iload_n 1, 1) := by decide +kernel
theorem dX7_init_26 : decode cX7_init 26 = .ok (.new 9, 3) := by decide +kernel
theorem dX7_init_29 : decode cX7_init 29 = .ok (.dup, 1) := by decide +kernel
theorem dX7_init_30 : decode cX7_init 30 = .ok (.invokespecial 17, 3) := by decide +kernel
theorem dX7_init_33 : decode cX7_init 33 = .ok (.aastore, 1) := by decide +kernel
theorem dX7_init_34 : decode cX7_init 34 = .ok (.iinc 1 1, 3) := by decide +kernel
theorem dX7_init_37 : decode cX7_init 37 = .ok (.goto (-22), 3) := by decide +kernel
theorem dX7_init_40 : decode cX7_init 40 = .ok (.return_, 1) := by decide +kernel
theorem dX7_remember_0 : decode cX7_remember 0 = .ok (.aload_n 0, 1) := by decide +kernel
theorem dX7_remember_1 : decode cX7_remember 1 = .ok (.getfield 18, 3) := by decide +kernel
theorem dX7_remember_4 : decode cX7_remember 4 = .ok (.bipush 16, 2) := by decide +kernel
theorem dX7_remember_6 : decode cX7_remember 6 = .ok (.if_icmp .ne 26, 3) := by decide +kernel
theorem dX7_remember_9 : decode cX7_remember 9 = .ok (.aload_n 0, 1) := by decide +kernel
theorem dX7_remember_10 : decode cX7_remember 10 = .ok (.aload_n 0, 1) := by decide +kernel
theorem dX7_remember_11 : decode cX7_remember 11 = .ok (.getfield 22, 3) := by decide +kernel
theorem dX7_remember_14 : decode cX7_remember 14 = .ok (.iconst 1, 1) := by decide +kernel
theorem dX7_remember_15 : decode cX7_remember 15 = .ok (.iadd, 1) := by decide +kernel
theorem dX7_remember_16 : decode cX7_remember 16 = .ok (.bipush 16, 2) := by decide +kernel
theorem dX7_remember_18 : decode cX7_remember 18 = .ok (.irem, 1) := by decide +kernel
theorem dX7_remember_19 : decode cX7_remember 19 = .ok (.putfield 22, 3) := by decide +kernel
theorem dX7_remember_22 : decode cX7_remember 22 = .ok (.aload_n 0, 1) := by decide +kernel
theorem dX7_remember_23 : decode cX7_remember 23 = .ok (.dup, 1) := by decide +kernel
theorem dX7_remember_24 : decode cX7_remember 24 = .ok (.getfield 18, 3) := by decide +kernel
theorem dX7_remember_27 : decode cX7_remember 27 = .ok (.iconst 1, 1) := by decide +kernel
theorem dX7_remember_28 : decode cX7_remember 28 = .ok (.isub, 1) := by decide +kernel
theorem dX7_remember_29 : decode cX7_remember 29 = .ok (.putfield 18, 3) := by decide +kernel
theorem dX7_remember_32 : decode cX7_remember 32 = .ok (.aload_n 0, 1) := by decide +kernel
theorem dX7_remember_33 : decode cX7_remember 33 = .ok (.getfield 11, 3) := by decide +kernel
theorem dX7_remember_36 : decode cX7_remember 36 = .ok (.aload_n 0, 1) := by decide +kernel
theorem dX7_remember_37 : decode cX7_remember 37 = .ok (.getfield 22, 3) := by decide +kernel
theorem dX7_remember_40 : decode cX7_remember 40 = .ok (.aload_n 0, 1) := by decide +kernel
theorem dX7_remember_41 : decode cX7_remember 41 = .ok (.getfield 18, 3) := by decide +kernel
theorem dX7_remember_44 : decode cX7_remember 44 = .ok (.iadd, 1) := by decide +kernel
theorem dX7_remember_45 : decode cX7_remember 45 = .ok (.bipush 16, 2) := by decide +kernel
theorem dX7_remember_47 : decode cX7_remember 47 = .ok (.irem, 1) := by decide +kernel
theorem dX7_remember_48 : decode cX7_remember 48 = .ok (.aaload, 1) := by decide +kernel
theorem dX7_remember_49 : decode cX7_remember 49 = .ok (.aload_n 1, 1) := by decide +kernel
theorem dX7_remember_50 : decode cX7_remember 50 = .ok (.invokevirtual 25, 3) := by decide +kernel
theorem dX7_remember_53 : decode cX7_remember 53 = .ok (.aload_n 0, 1) := by decide +kernel
theorem dX7_remember_54 : decode cX7_remember 54 = .ok (.dup, 1) := by decide +kernel
theorem dX7_remember_55 : decode cX7_remember 55 = .ok (.getfield 18, 3) := by decide +kernel
theorem dX7_remember_58 : decode cX7_remember 58 = .ok (.iconst 1, 1) := by decide +kernel
theorem dX7_remember_59 : decode cX7_remember 59 = .ok (.iadd, 1) := by decide +kernel
theorem dX7_remember_60 : decode cX7_remember 60 = .ok (.putfield 18, 3) := by decide +kernel
theorem dX7_remember_63 : decode cX7_remember 63 = .ok (.return_, 1) := by decide +kernel
theorem dX7_restore_0 : decode cX7_restore 0 = .ok (.aload_n 0, 1) := by decide +kernel
theorem dX7_restore_1 : decode cX7_restore 1 = .ok (.getfield 18, 3) := by decide +kernel
theorem dX7_restore_4 : decode cX7_restore 4 = .ok (.ifCond .ne 4, 3) := by decide +kernel
theorem dX7_restore_7 : decode cX7_restore 7 = .ok (.return_, 1) := by decide +kernel
theorem dX7_restore_8 : decode cX7_restore 8 = .ok (.aload_n 0, 1) := by decide +kernel
theorem dX7_restore_9 : decode cX7_restore 9 = .ok (.dup, 1) := by decide +kernel
theorem dX7_restore_10 : decode cX7_restore 10 = .ok (.getfield 18, 3) := by decide +kernel
theorem dX7_restore_13 : decode cX7_restore 13 = .ok (.iconst 1, 1) := by decide +kernel
theorem dX7_restore_14 : decode cX7_restore 14 = .ok (.isub, 1) := by decide +kernel
theorem dX7_restore_15 : decode cX7_restore 15 = .ok (.putfield 18, 3) := by decide +kernel
theorem dX7_restore_18 : decode cX7_restore 18 = .ok (.aload_n 1, 1) := by decide +kernel
theorem dX7_restore_19 : decode cX7_restore 19 = .ok (.aload_n 0, 1) := by decide +kernel
theorem dX7_restore_20 : decode cX7_restore 20 = .ok (.getfield 11, 3) := by decide +kernel
theorem dX7_restore_23 : decode cX7_restore 23 = .ok (.aload_n 0, 1) := by decide +kernel
theorem dX7_restore_24 : decode cX7_restore 24 = .ok (.getfield 22, 3) := by decide +kernel
theorem dX7_restore_27 : decode cX7_restore 27 = .ok (.aload_n 0, 1) := by decide +kernel
theorem dX7_restore_28 : decode cX7_restore 28 = .ok (.getfield 18, 3) := by decide +kernel
theorem dX7_restore_31 : decode cX7_restore 31 = .ok (.iadd, 1) := by decide +kernel
theorem dX7_restore_32 : decode cX7_restore 32 = .ok (.bipush 16, 2) := by decide +kernel
theorem dX7_restore_34 : decode cX7_restore 34 = .ok (.irem, 1) := by decide +kernel
theorem dX7_restore_35 : decode cX7_restore 35 = .ok (.aaload, 1) := by decide +kernel
theorem dX7_restore_36 : decode cX7_restore 36 = .ok (.invokevirtual 25, 3) := by decide +kernel
theorem dX7_restore_39 : decode cX7_restore 39 = .ok (.return_, 1) := by decide +kernel
theorem dX7_forget_0 : decode cX7_forget 0 = .ok (.aload_n 0, 1) := by decide +kernel
theorem dX7_forget_1 : decode cX7_forget 1 = .ok (.iconst 0, 1) := by decide +kernel
theorem dX7_forget_2 : decode cX7_forget 2 = .ok (.putfield 18, 3) := by decide +kernel
theorem dX7_forget_5 : decode cX7_forget 5 = .ok (.return_, 1) := by decide +kernel
theorem dX8_init_0 : decode cX8_init 0 = .ok (.aload_n 0, 1) := by decide +kernel
theorem dX8_init_1 : decode cX8_init 1 = .ok (.invokespecial 3, 3) := by decide +kernel
theorem dX8_init_4 : decode cX8_init 4 = .ok (.aload_n 0, 1) := by decide +kernel
theorem dX8_init_5 : decode cX8_init 5 = .ok (.sipush 240, 3) := by decide +kernel
theorem dX8_init_8 : decode cX8_init 8 = .ok (.newarray .int, 2) := by decide +kernel
theorem dX8_init_10 : decode cX8_init 10 = .ok (.putfield 9, 3) := by decide +kernel
theorem dX8_init_13 : decode cX8_init 13 = .ok (.aload_n 0, 1) := by decide +kernel
theorem dX8_init_14 : decode cX8_init 14 = .ok (.iconst (-1), 1) := by decide +kernel
theorem dX8_init_15 : decode cX8_init 15 = .ok (.putfield 15, 3) := by decide +kernel
theorem dX8_init_18 : decode cX8_init 18 = .ok (.return_, 1) := by decide +kernel
theorem dX8_append_0 : decode cX8_append 0 = .ok (.aload_n 0, 1) := by decide +kernel
theorem dX8_append_1 : decode cX8_append 1 = .ok (.getfield 19, 3) := by decide +kernel
theorem dX8_append_4 : decode cX8_append 4 = .ok (.sipush 240, 3) := by decide +kernel
theorem dX8_append_7 : decode cX8_append 7 = .ok (.if_icmp .lt 4, 3) := by decide +kernel
theorem dX8_append_10 : decode cX8_append 10 = .ok (.return_, 1) := by decide +kernel
theorem dX8_append_11 : decode cX8_append 11 = .ok (.aload_n 0, 1) := by decide +kernel
theorem dX8_append_12 : decode cX8_append 12 = .ok (.getfield 9, 3) := by decide +kernel
theorem dX8_append_15 : decode cX8_append 15 = .ok (.aload_n 0, 1) := by decide +kernel
theorem dX8_append_16 : decode cX8_append 16 = .ok (.getfield 19, 3) := by decide +kernel
theorem dX8_append_19 : decode cX8_append 19 = .ok (.iload_n 1, 1) := by decide +kernel
theorem dX8_append_20 : decode cX8_append 20 = .ok (.iastore, 1) := by decide +kernel
theorem dX8_append_21 : decode cX8_append 21 = .ok (.aload_n 0, 1) := by decide +kernel
theorem dX8_append_22 : decode cX8_append 22 = .ok (.dup, 1) := by decide +kernel
theorem dX8_append_23 : decode cX8_append 23 = .ok (.getfield 19, 3) := by decide +kernel
theorem dX8_append_26 : decode cX8_append 26 = .ok (.iconst 1, 1) := by decide +kernel
theorem dX8_append_27 : decode cX8_append 27 = .ok (.iadd, 1) := by decide +kernel
theorem dX8_append_28 : decode cX8_append 28 = .ok (.putfield 19, 3) := by decide +kernel
theorem dX8_append_31 : decode cX8_append 31 = .ok (.return_, 1) := by decide +kernel
theorem dX8_read_0 : decode cX8_read 0 = .ok (.aload_n 1, 1) := by decide +kernel
theorem dX8_read_1 : decode cX8_read 1 = .ok (.invokevirtual 22, 3) := by decide +kernel
theorem dX8_read_4 : decode cX8_read 4 = .ok (.aload_n 0, 1) := by decide +kernel
theorem dX8_read_5 : decode cX8_read 5 = .ok (.iconst 0, 1) := by decide +kernel
theorem dX8_read_6 : decode cX8_read 6 = .ok (.putfield 27, 3) := by decide +kernel
theorem dX8_read_9 : decode cX8_read 9 = .ok (.aload_n 0, 1) := by decide +kernel
theorem dX8_read_10 : decode cX8_read 10 = .ok (.iconst (-1), 1) := by decide +kernel
theorem dX8_read_11 : decode cX8_read 11 = .ok (.putfield 15, 3) := by decide +kernel
theorem dX8_read_14 : decode cX8_read 14 = .ok (.aload_n 0, 1) := by decide +kernel
theorem dX8_read_15 : decode cX8_read 15 = .ok (.iconst 0, 1) := by decide +kernel
theorem dX8_read_16 : decode cX8_read 16 = .ok (.putfield 30, 3) := by decide +kernel
theorem dX8_read_19 : decode cX8_read 19 = .ok (.aload_n 0, 1) := by decide +kernel
theorem dX8_read_20 : decode cX8_read 20 = .ok (.invokevirtual 33, 3) := by decide +kernel
theorem dX8_read_23 : decode cX8_read 23 = .ok (.iconst 0, 1) := by decide +kernel
theorem dX8_read_24 : decode cX8_read 24 = .ok (.istore_n 2, 1) := by decide +kernel
theorem dX8_read_25 : decode cX8_read 25 = .ok (.iload_n 2, 1) := by decide +kernel
theorem dX8_read_26 : decode cX8_read 26 = .ok (.sipush 240, 3) := by decide +kernel
theorem dX8_read_29 : decode cX8_read 29 = .ok (.if_icmp .ge 36, 3) := by decide +kernel
theorem dX8_read_32 : decode cX8_read 32 = .ok (.aload_n 0, 1) := by decide +kernel
theorem dX8_read_33 : decode cX8_read 33 = .ok (.getfield 30, 3) := by decide +kernel
theorem dX8_read_36 : decode cX8_read 36 = .ok (.aload_n 0, 1) := by decide +kernel
theorem dX8_read_37 : decode cX8_read 37 = .ok (.getfield 19, 3) := by decide +kernel
theorem dX8_read_40 : decode cX8_read 40 = .ok (.if_icmp .ge 25, 3) := by decide +kernel
theorem dX8_read_43 : decode cX8_read 43 = .ok (.aload_n 0, 1) := by decide +kernel
theorem dX8_read_44 : decode cX8_read 44 = .ok (.getfield 27, 3) := by decide +kernel
theorem dX8_read_47 : decode cX8_read 47 = .ok (.ifCond .ne 18, 3) := by decide +kernel
theorem dX8_read_50 : decode cX8_read 50 = .ok (.aload_n 0, 1) := by decide +kernel
theorem dX8_read_51 : decode cX8_read 51 = .ok (.aload_n 1, 1) := by decide +kernel
theorem dX8_read_52 : decode cX8_read 52 = .ok (.invokevirtual 36, 3) := by decide +kernel
theorem dX8_read_55 : decode cX8_read 55 = .ok (.aload_n 0, 1) := by decide +kernel
theorem dX8_read_56 : decode cX8_read 56 = .ok (.invokevirtual 33, 3) := by decide +kernel
theorem dX8_read_59 : decode cX8_read 59 = .ok (.iinc 2 1, 3) := by decide +kernel
theorem dX8_read_62 : decode cX8_read 62 = .ok (.goto (-37), 3) := by decide +kernel
theorem dX8_read_65 : decode cX8_read 65 = .ok (.aload_n 1, 1) := by decide +kernel
theorem dX8_read_66 : decode cX8_read 66 = .ok (.invokevirtual 40, 3) := by decide +kernel
theorem dX8_read_69 : decode cX8_read 69 = .ok (.aload_n 0, 1) := by decide +kernel
theorem dX8_read_70 : decode cX8_read 70 = .ok (.iconst 0, 1) := by decide +kernel
theorem dX8_read_71 : decode cX8_read 71 = .ok (.putfield 19, 3) := by decide +kernel
theorem dX8_read_74 : decode cX8_read 74 = .ok (.return_, 1) := by decide +kernel
theorem dX8_readClause_0 : decode cX8_readClause 0 = .ok (.aload_n 0, 1) := by decide +kernel
theorem dX8_readClause_1 : decode cX8_readClause 1 = .ok (.invokevirtual 43, 3) := by decide +kernel
theorem dX8_readClause_4 : decode cX8_readClause 4 = .ok (.istore_n 2, 1) := by decide +kernel
theorem dX8_readClause_5 : decode cX8_readClause 5 = .ok (.iload_n 2, 1) := by decide +kernel
theorem dX8_readClause_6 : decode cX8_readClause 6 = .ok (.aload_n 1, 1) := by decide +kernel
theorem dX8_readClause_7 : decode cX8_readClause 7 = .ok (.invokestatic 47, 3) := by decide +kernel
theorem dX8_readClause_10 : decode cX8_readClause 10 = .ok (.istore_n 3, 1) := by decide +kernel
theorem dX8_readClause_11 : decode cX8_readClause 11 = .ok (.iload_n 3, 1) := by decide +kernel
theorem dX8_readClause_12 : decode cX8_readClause 12 = .ok (.ifCond .eq 13, 3) := by decide +kernel
theorem dX8_readClause_15 : decode cX8_readClause 15 = .ok (.aload_n 0, 1) := by decide +kernel
theorem dX8_readClause_16 : decode cX8_readClause 16 = .ok (.iload_n 3, 1) := by decide +kernel
theorem dX8_readClause_17 : decode cX8_readClause 17 = .ok (.aload_n 0, 1) := by decide +kernel
theorem dX8_readClause_18 : decode cX8_readClause 18 = .ok (.getfield 30, 3) := by decide +kernel
theorem dX8_readClause_21 : decode cX8_readClause 21 = .ok (.invokevirtual 51, 3) := by decide +kernel
theorem dX8_readClause_24 : decode cX8_readClause 24 = .ok (.return_, 1) := by decide +kernel
theorem dX8_readClause_25 : decode cX8_readClause 25 = .ok (.aload_n 0, 1) := by decide +kernel
theorem dX8_readClause_26 : decode cX8_readClause 26 = .ok (.dup, 1) := by decide +kernel
theorem dX8_readClause_27 : decode cX8_readClause 27 = .ok (.getfield 30, 3) := by decide +kernel
theorem dX8_readClause_30 : decode cX8_readClause 30 = .ok (.iconst 1, 1) := by decide +kernel
theorem dX8_readClause_31 : decode cX8_readClause 31 = .ok (.iadd, 1) := by decide +kernel
theorem dX8_readClause_32 : decode cX8_readClause 32 = .ok (.putfield 30, 3) := by decide +kernel
theorem dX8_readClause_35 : decode cX8_readClause 35 = .ok (.iload_n 2, 1) := by decide +kernel
theorem dX8_readClause_36 : decode cX8_readClause 36 = .ok (.bipush 111, 2) := by decide +kernel
theorem dX8_readClause_38 : decode cX8_readClause 38 = .ok (.if_icmp .ne 11, 3) := by decide +kernel
theorem dX8_readClause_41 : decode cX8_readClause 41 = .ok (.aload_n 0, 1) := by decide +kernel
theorem dX8_readClause_42 : decode cX8_readClause 42 = .ok (.aload_n 1, 1) := by decide +kernel
theorem dX8_readClause_43 : decode cX8_readClause 43 = .ok (.invokevirtual 55, 3) := by decide +kernel
theorem dX8_readClause_46 : decode cX8_readClause 46 = .ok (.goto 22, 3) := by decide +kernel
theorem dX8_readClause_49 : decode cX8_readClause 49 = .ok (.iload_n 2, 1) := by decide +kernel
theorem dX8_readClause_50 : decode cX8_readClause 50 = .ok (.bipush 118, 2) := by decide +kernel
theorem dX8_readClause_52 : decode cX8_readClause 52 = .ok (.if_icmp .ne 11, 3) := by decide +kernel
theorem dX8_readClause_55 : decode cX8_readClause 55 = .ok (.aload_n 0, 1) := by decide +kernel
