theorem dX8_readClause_56 : decode cX8_readClause 56 = .ok (.aload_n 1, 1) := by decide +kernel
theorem dX8_readClause_57 : decode cX8_readClause 57 = .ok (.invokevirtual 58, 3) := by decide +kernel
theorem dX8_readClause_60 : decode cX8_readClause 60 = .ok (.goto 8, 3) := by decide +kernel
theorem dX8_readClause_63 : decode cX8_readClause 63 = .ok (.aload_n 0, 1) := by decide +kernel
theorem dX8_readClause_64 : decode cX8_readClause 64 = .ok (.aload_n 1, 1) := by decide +kernel
theorem dX8_readClause_65 : decode cX8_readClause 65 = .ok (.invokevirtual 61, 3) := by decide +kernel
theorem dX8_readClause_68 : decode cX8_readClause 68 = .ok (.return_, 1) := by decide +kernel
theorem dX8_faultOfWord_0 : decode cX8_faultOfWord 0 = .ok (.aload_n 1, 1) := by decide +kernel
theorem dX8_faultOfWord_1 : decode cX8_faultOfWord 1 = .ok (.getfield 64, 3) := by decide +kernel
theorem dX8_faultOfWord_4 : decode cX8_faultOfWord 4 = .ok (.ifCond .ne 15, 3) := by decide +kernel
theorem dX8_faultOfWord_7 : decode cX8_faultOfWord 7 = .ok (.iload_n 0, 1) := by decide +kernel
theorem dX8_faultOfWord_8 : decode cX8_faultOfWord 8 = .ok (.bipush 111, 2) := by decide +kernel
theorem dX8_faultOfWord_10 : decode cX8_faultOfWord 10 = .ok (.if_icmp .ne 7, 3) := by decide +kernel
theorem dX8_faultOfWord_13 : decode cX8_faultOfWord 13 = .ok (.iconst 0, 1) := by decide +kernel
theorem dX8_faultOfWord_14 : decode cX8_faultOfWord 14 = .ok (.goto 4, 3) := by decide +kernel
theorem dX8_faultOfWord_17 : decode cX8_faultOfWord 17 = .ok (.iconst 1, 1) := by decide +kernel
theorem dX8_faultOfWord_18 : decode cX8_faultOfWord 18 = .ok (.ireturn, 1) := by decide +kernel
theorem dX8_faultOfWord_19 : decode cX8_faultOfWord 19 = .ok (.iload_n 0, 1) := by decide +kernel
theorem dX8_faultOfWord_20 : decode cX8_faultOfWord 20 = .ok (.bipush 111, 2) := by decide +kernel
theorem dX8_faultOfWord_22 : decode cX8_faultOfWord 22 = .ok (.if_icmp .ne 5, 3) := by decide +kernel
theorem dX8_faultOfWord_25 : decode cX8_faultOfWord 25 = .ok (.iconst 3, 1) := by decide +kernel
theorem dX8_faultOfWord_26 : decode cX8_faultOfWord 26 = .ok (.ireturn, 1) := by decide +kernel
theorem dX8_faultOfWord_27 : decode cX8_faultOfWord 27 = .ok (.iload_n 0, 1) := by decide +kernel
theorem dX8_faultOfWord_28 : decode cX8_faultOfWord 28 = .ok (.bipush 118, 2) := by decide +kernel
theorem dX8_faultOfWord_30 : decode cX8_faultOfWord 30 = .ok (.if_icmp .ne 17, 3) := by decide +kernel
theorem dX8_faultOfWord_33 : decode cX8_faultOfWord 33 = .ok (.aload_n 1, 1) := by decide +kernel
theorem dX8_faultOfWord_34 : decode cX8_faultOfWord 34 = .ok (.getfield 68, 3) := by decide +kernel
theorem dX8_faultOfWord_37 : decode cX8_faultOfWord 37 = .ok (.iconst 4, 1) := by decide +kernel
theorem dX8_faultOfWord_38 : decode cX8_faultOfWord 38 = .ok (.if_icmp .ge 7, 3) := by decide +kernel
theorem dX8_faultOfWord_41 : decode cX8_faultOfWord 41 = .ok (.iconst 0, 1) := by decide +kernel
theorem dX8_faultOfWord_42 : decode cX8_faultOfWord 42 = .ok (.goto 4, 3) := by decide +kernel
theorem dX8_faultOfWord_45 : decode cX8_faultOfWord 45 = .ok (.iconst 3, 1) := by decide +kernel
theorem dX8_faultOfWord_46 : decode cX8_faultOfWord 46 = .ok (.ireturn, 1) := by decide +kernel
theorem dX8_faultOfWord_47 : decode cX8_faultOfWord 47 = .ok (.iload_n 0, 1) := by decide +kernel
theorem dX8_faultOfWord_48 : decode cX8_faultOfWord 48 = .ok (.bipush 112, 2) := by decide +kernel
theorem dX8_faultOfWord_50 : decode cX8_faultOfWord 50 = .ok (.if_icmp .ne 18, 3) := by decide +kernel
theorem dX8_faultOfWord_53 : decode cX8_faultOfWord 53 = .ok (.aload_n 1, 1) := by decide +kernel
theorem dX8_faultOfWord_54 : decode cX8_faultOfWord 54 = .ok (.getfield 71, 3) := by decide +kernel
theorem dX8_faultOfWord_57 : decode cX8_faultOfWord 57 = .ok (.bipush 7, 2) := by decide +kernel
theorem dX8_faultOfWord_59 : decode cX8_faultOfWord 59 = .ok (.if_icmp .ge 7, 3) := by decide +kernel
theorem dX8_faultOfWord_62 : decode cX8_faultOfWord 62 = .ok (.iconst 0, 1) := by decide +kernel
theorem dX8_faultOfWord_63 : decode cX8_faultOfWord 63 = .ok (.goto 4, 3) := by decide +kernel
theorem dX8_faultOfWord_66 : decode cX8_faultOfWord 66 = .ok (.iconst 3, 1) := by decide +kernel
theorem dX8_faultOfWord_67 : decode cX8_faultOfWord 67 = .ok (.ireturn, 1) := by decide +kernel
theorem dX8_faultOfWord_68 : decode cX8_faultOfWord 68 = .ok (.iconst 1, 1) := by decide +kernel
theorem dX8_faultOfWord_69 : decode cX8_faultOfWord 69 = .ok (.ireturn, 1) := by decide +kernel
theorem dX8_readOracle_0 : decode cX8_readOracle 0 = .ok (.aload_n 1, 1) := by decide +kernel
theorem dX8_readOracle_1 : decode cX8_readOracle 1 = .ok (.aload_n 0, 1) := by decide +kernel
theorem dX8_readOracle_2 : decode cX8_readOracle 2 = .ok (.iconst 1, 1) := by decide +kernel
theorem dX8_readOracle_3 : decode cX8_readOracle 3 = .ok (.bipush 20, 2) := by decide +kernel
theorem dX8_readOracle_5 : decode cX8_readOracle 5 = .ok (.invokevirtual 74, 3) := by decide +kernel
theorem dX8_readOracle_8 : decode cX8_readOracle 8 = .ok (.putfield 78, 3) := by decide +kernel
theorem dX8_readOracle_11 : decode cX8_readOracle 11 = .ok (.aload_n 1, 1) := by decide +kernel
theorem dX8_readOracle_12 : decode cX8_readOracle 12 = .ok (.aload_n 0, 1) := by decide +kernel
theorem dX8_readOracle_13 : decode cX8_readOracle 13 = .ok (.iconst 1, 1) := by decide +kernel
theorem dX8_readOracle_14 : decode cX8_readOracle 14 = .ok (.bipush 9, 2) := by decide +kernel
theorem dX8_readOracle_16 : decode cX8_readOracle 16 = .ok (.invokevirtual 74, 3) := by decide +kernel
theorem dX8_readOracle_19 : decode cX8_readOracle 19 = .ok (.putfield 81, 3) := by decide +kernel
theorem dX8_readOracle_22 : decode cX8_readOracle 22 = .ok (.aload_n 0, 1) := by decide +kernel
theorem dX8_readOracle_23 : decode cX8_readOracle 23 = .ok (.invokevirtual 84, 3) := by decide +kernel
theorem dX8_readOracle_26 : decode cX8_readOracle 26 = .ok (.aload_n 1, 1) := by decide +kernel
theorem dX8_readOracle_27 : decode cX8_readOracle 27 = .ok (.iconst 1, 1) := by decide +kernel
theorem dX8_readOracle_28 : decode cX8_readOracle 28 = .ok (.putfield 64, 3) := by decide +kernel
theorem dX8_readOracle_31 : decode cX8_readOracle 31 = .ok (.return_, 1) := by decide +kernel
theorem dX8_readVillage_0 : decode cX8_readVillage 0 = .ok (.aload_n 0, 1) := by decide +kernel
theorem dX8_readVillage_1 : decode cX8_readVillage 1 = .ok (.iconst 0, 1) := by decide +kernel
theorem dX8_readVillage_2 : decode cX8_readVillage 2 = .ok (.bipush 99, 2) := by decide +kernel
theorem dX8_readVillage_4 : decode cX8_readVillage 4 = .ok (.invokevirtual 74, 3) := by decide +kernel
theorem dX8_readVillage_7 : decode cX8_readVillage 7 = .ok (.istore_n 2, 1) := by decide +kernel
theorem dX8_readVillage_8 : decode cX8_readVillage 8 = .ok (.aload_n 0, 1) := by decide +kernel
theorem dX8_readVillage_9 : decode cX8_readVillage 9 = .ok (.invokevirtual 84, 3) := by decide +kernel
theorem dX8_readVillage_12 : decode cX8_readVillage 12 = .ok (.aload_n 1, 1) := by decide +kernel
theorem dX8_readVillage_13 : decode cX8_readVillage 13 = .ok (.iload_n 2, 1) := by decide +kernel
theorem dX8_readVillage_14 : decode cX8_readVillage 14 = .ok (.invokevirtual 87, 3) := by decide +kernel
theorem dX8_readVillage_17 : decode cX8_readVillage 17 = .ok (.return_, 1) := by decide +kernel
theorem dX8_readPerson_0 : decode cX8_readPerson 0 = .ok (.aload_n 0, 1) := by decide +kernel
theorem dX8_readPerson_1 : decode cX8_readPerson 1 = .ok (.iconst 0, 1) := by decide +kernel
theorem dX8_readPerson_2 : decode cX8_readPerson 2 = .ok (.iconst 3, 1) := by decide +kernel
theorem dX8_readPerson_3 : decode cX8_readPerson 3 = .ok (.invokevirtual 74, 3) := by decide +kernel
theorem dX8_readPerson_6 : decode cX8_readPerson 6 = .ok (.istore_n 2, 1) := by decide +kernel
theorem dX8_readPerson_7 : decode cX8_readPerson 7 = .ok (.aload_n 0, 1) := by decide +kernel
theorem dX8_readPerson_8 : decode cX8_readPerson 8 = .ok (.iconst 0, 1) := by decide +kernel
theorem dX8_readPerson_9 : decode cX8_readPerson 9 = .ok (.aload_n 1, 1) := by decide +kernel
theorem dX8_readPerson_10 : decode cX8_readPerson 10 = .ok (.getfield 68, 3) := by decide +kernel
theorem dX8_readPerson_13 : decode cX8_readPerson 13 = .ok (.iconst 1, 1) := by decide +kernel
theorem dX8_readPerson_14 : decode cX8_readPerson 14 = .ok (.isub, 1) := by decide +kernel
theorem dX8_readPerson_15 : decode cX8_readPerson 15 = .ok (.invokevirtual 74, 3) := by decide +kernel
theorem dX8_readPerson_18 : decode cX8_readPerson 18 = .ok (.istore_n 3, 1) := by decide +kernel
theorem dX8_readPerson_19 : decode cX8_readPerson 19 = .ok (.aload_n 0, 1) := by decide +kernel
theorem dX8_readPerson_20 : decode cX8_readPerson 20 = .ok (.iconst 1, 1) := by decide +kernel
theorem dX8_readPerson_21 : decode cX8_readPerson 21 = .ok (.bipush 9, 2) := by decide +kernel
theorem dX8_readPerson_23 : decode cX8_readPerson 23 = .ok (.invokevirtual 74, 3) := by decide +kernel
theorem dX8_readPerson_26 : decode cX8_readPerson 26 = .ok (.istore 4, 2) := by decide +kernel
theorem dX8_readPerson_28 : decode cX8_readPerson 28 = .ok (.aload_n 0, 1) := by decide +kernel
theorem dX8_readPerson_29 : decode cX8_readPerson 29 = .ok (.iconst 0, 1) := by decide +kernel
theorem dX8_readPerson_30 : decode cX8_readPerson 30 = .ok (.bipush 9, 2) := by decide +kernel
theorem dX8_readPerson_32 : decode cX8_readPerson 32 = .ok (.invokevirtual 74, 3) := by decide +kernel
theorem dX8_readPerson_35 : decode cX8_readPerson 35 = .ok (.istore 5, 2) := by decide +kernel
theorem dX8_readPerson_37 : decode cX8_readPerson 37 = .ok (.iload 5, 2) := by decide +kernel
theorem dX8_readPerson_39 : decode cX8_readPerson 39 = .ok (.bipush 7, 2) := by decide +kernel
theorem dX8_readPerson_41 : decode cX8_readPerson 41 = .ok (.if_icmp .eq 10, 3) := by decide +kernel
theorem dX8_readPerson_44 : decode cX8_readPerson 44 = .ok (.iload 5, 2) := by decide +kernel
theorem dX8_readPerson_46 : decode cX8_readPerson 46 = .ok (.bipush 8, 2) := by decide +kernel
theorem dX8_readPerson_48 : decode cX8_readPerson 48 = .ok (.if_icmp .ne 12, 3) := by decide +kernel
theorem dX8_readPerson_51 : decode cX8_readPerson 51 = .ok (.aload_n 0, 1) := by decide +kernel
theorem dX8_readPerson_52 : decode cX8_readPerson 52 = .ok (.iconst 2, 1) := by decide +kernel
theorem dX8_readPerson_53 : decode cX8_readPerson 53 = .ok (.aload_n 0, 1) := by decide +kernel
theorem dX8_readPerson_54 : decode cX8_readPerson 54 = .ok (.getfield 91, 3) := by decide +kernel
theorem dX8_readPerson_57 : decode cX8_readPerson 57 = .ok (.invokevirtual 51, 3) := by decide +kernel
theorem dX8_readPerson_60 : decode cX8_readPerson 60 = .ok (.aload_n 0, 1) := by decide +kernel
theorem dX8_readPerson_61 : decode cX8_readPerson 61 = .ok (.invokevirtual 84, 3) := by decide +kernel
theorem dX8_readPerson_64 : decode cX8_readPerson 64 = .ok (.aload_n 0, 1) := by decide +kernel
theorem dX8_readPerson_65 : decode cX8_readPerson 65 = .ok (.getfield 27, 3) := by decide +kernel
theorem dX8_readPerson_68 : decode cX8_readPerson 68 = .ok (.ifCond .ne 13, 3) := by decide +kernel
theorem dX8_readPerson_71 : decode cX8_readPerson 71 = .ok (.aload_n 1, 1) := by decide +kernel
theorem dX8_readPerson_72 : decode cX8_readPerson 72 = .ok (.iload_n 2, 1) := by decide +kernel
theorem dX8_readPerson_73 : decode cX8_readPerson 73 = .ok (.iload_n 3, 1) := by decide +kernel
theorem dX8_readPerson_74 : decode cX8_readPerson 74 = .ok (.iload 4, 2) := by decide +kernel
theorem dX8_readPerson_76 : decode cX8_readPerson 76 = .ok (.iload 5, 2) := by decide +kernel
theorem dX8_readPerson_78 : decode cX8_readPerson 78 = .ok (.invokevirtual 94, 3) := by decide +kernel
theorem dX8_readPerson_81 : decode cX8_readPerson 81 = .ok (.return_, 1) := by decide +kernel
theorem dX8_readNumber_0 : decode cX8_readNumber 0 = .ok (.aload_n 0, 1) := by decide +kernel
theorem dX8_readNumber_1 : decode cX8_readNumber 1 = .ok (.getfield 27, 3) := by decide +kernel
theorem dX8_readNumber_4 : decode cX8_readNumber 4 = .ok (.ifCond .eq 5, 3) := by decide +kernel
theorem dX8_readNumber_7 : decode cX8_readNumber 7 = .ok (.iconst 0, 1) := by decide +kernel
theorem dX8_readNumber_8 : decode cX8_readNumber 8 = .ok (.ireturn, 1) := by decide +kernel
theorem dX8_readNumber_9 : decode cX8_readNumber 9 = .ok (.aload_n 0, 1) := by decide +kernel
theorem dX8_readNumber_10 : decode cX8_readNumber 10 = .ok (.invokevirtual 33, 3) := by decide +kernel
theorem dX8_readNumber_13 : decode cX8_readNumber 13 = .ok (.aload_n 0, 1) := by decide +kernel
theorem dX8_readNumber_14 : decode cX8_readNumber 14 = .ok (.aload_n 0, 1) := by decide +kernel
theorem dX8_readNumber_15 : decode cX8_readNumber 15 = .ok (.getfield 30, 3) := by decide +kernel
theorem dX8_readNumber_18 : decode cX8_readNumber 18 = .ok (.putfield 91, 3) := by decide +kernel
theorem dX8_readNumber_21 : decode cX8_readNumber 21 = .ok (.iconst 0, 1) := by decide +kernel
theorem dX8_readNumber_22 : decode cX8_readNumber 22 = .ok (.istore_n 3, 1) := by decide +kernel
theorem dX8_readNumber_23 : decode cX8_readNumber 23 = .ok (.aload_n 0, 1) := by decide +kernel
theorem dX8_readNumber_24 : decode cX8_readNumber 24 = .ok (.getfield 30, 3) := by decide +kernel
theorem dX8_readNumber_27 : decode cX8_readNumber 27 = .ok (.aload_n 0, 1) := by decide +kernel
theorem dX8_readNumber_28 : decode cX8_readNumber 28 = .ok (.getfield 19, 3) := by decide +kernel
theorem dX8_readNumber_31 : decode cX8_readNumber 31 = .ok (.if_icmp .ge 52, 3) := by decide +kernel
theorem dX8_readNumber_34 : decode cX8_readNumber 34 = .ok (.aload_n 0, 1) := by decide +kernel
theorem dX8_readNumber_35 : decode cX8_readNumber 35 = .ok (.invokevirtual 43, 3) := by decide +kernel
theorem dX8_readNumber_38 : decode cX8_readNumber 38 = .ok (.invokestatic 98, 3) := by decide +kernel
theorem dX8_readNumber_41 : decode cX8_readNumber 41 = .ok (.ifCond .eq 42, 3) := by decide +kernel
theorem dX8_readNumber_44 : decode cX8_readNumber 44 = .ok (.aload_n 0, 1) := by decide +kernel
theorem dX8_readNumber_45 : decode cX8_readNumber 45 = .ok (.getfield 30, 3) := by decide +kernel
theorem dX8_readNumber_48 : decode cX8_readNumber 48 = .ok (.aload_n 0, 1) := by decide +kernel
theorem dX8_readNumber_49 : decode cX8_readNumber 49 = .ok (.getfield 91, 3) := by decide +kernel
theorem dX8_readNumber_52 : decode cX8_readNumber 52 = .ok (.isub, 1) := by decide +kernel
theorem dX8_readNumber_53 : decode cX8_readNumber 53 = .ok (.iconst 4, 1) := by decide +kernel
theorem dX8_readNumber_54 : decode cX8_readNumber 54 = .ok (.if_icmp .ge 16, 3) := by decide +kernel
theorem dX8_readNumber_57 : decode cX8_readNumber 57 = .ok (.iload_n 3, 1) := by decide +kernel
theorem dX8_readNumber_58 : decode cX8_readNumber 58 = .ok (.bipush 10, 2) := by decide +kernel
theorem dX8_readNumber_60 : decode cX8_readNumber 60 = .ok (.imul, 1) := by decide +kernel
theorem dX8_readNumber_61 : decode cX8_readNumber 61 = .ok (.aload_n 0, 1) := by decide +kernel
theorem dX8_readNumber_62 : decode cX8_readNumber 62 = .ok (.invokevirtual 43, 3) := by decide +kernel
theorem dX8_readNumber_65 : decode cX8_readNumber 65 = .ok (.iadd, 1) := by decide +kernel
theorem dX8_readNumber_66 : decode cX8_readNumber 66 = .ok (.bipush 48, 2) := by decide +kernel
theorem dX8_readNumber_68 : decode cX8_readNumber 68 = .ok (.isub, 1) := by decide +kernel
theorem dX8_readNumber_69 : decode cX8_readNumber 69 = .ok (.istore_n 3, 1) := by decide +kernel
theorem dX8_readNumber_70 : decode cX8_readNumber 70 = .ok (.aload_n 0, 1) := by decide +kernel
theorem dX8_readNumber_71 : decode cX8_readNumber 71 = .ok (.dup, 1) := by decide +kernel
theorem dX8_readNumber_72 : decode cX8_readNumber 72 = .ok (.getfield 30, 3) := by decide +kernel
theorem dX8_readNumber_75 : decode cX8_readNumber 75 = .ok (.iconst 1, 1) := by decide +kernel
theorem dX8_readNumber_76 : decode cX8_readNumber 76 = .ok (.iadd, 1) := by decide +kernel
theorem dX8_readNumber_77 : decode cX8_readNumber 77 = .ok (.putfield 30, 3) := by decide +kernel
theorem dX8_readNumber_80 : decode cX8_readNumber 80 = .ok (.goto (-57), 3) := by decide +kernel
theorem dX8_readNumber_83 : decode cX8_readNumber 83 = .ok (.aload_n 0, 1) := by decide +kernel
theorem dX8_readNumber_84 : decode cX8_readNumber 84 = .ok (.getfield 30, 3) := by decide +kernel
theorem dX8_readNumber_87 : decode cX8_readNumber 87 = .ok (.aload_n 0, 1) := by decide +kernel
theorem dX8_readNumber_88 : decode cX8_readNumber 88 = .ok (.getfield 91, 3) := by decide +kernel
theorem dX8_readNumber_91 : decode cX8_readNumber 91 = .ok (.isub, 1) := by decide +kernel
theorem dX8_readNumber_92 : decode cX8_readNumber 92 = .ok (.istore 4, 2) := by decide +kernel
theorem dX8_readNumber_94 : decode cX8_readNumber 94 = .ok (.iload 4, 2) := by decide +kernel
theorem dX8_readNumber_96 : decode cX8_readNumber 96 = .ok (.ifCond .ne 15, 3) := by decide +kernel
theorem dX8_readNumber_99 : decode cX8_readNumber 99 = .ok (.aload_n 0, 1) := by decide +kernel
theorem dX8_readNumber_100 : decode cX8_readNumber 100 = .ok (.iconst 1, 1) := by decide +kernel
theorem dX8_readNumber_101 : decode cX8_readNumber 101 = .ok (.aload_n 0, 1) := by decide +kernel
theorem dX8_readNumber_102 : decode cX8_readNumber 102 = .ok (.getfield 91, 3) := by decide +kernel
theorem dX8_readNumber_105 : decode cX8_readNumber 105 = .ok (.invokevirtual 51, 3) := by decide +kernel
theorem dX8_readNumber_108 : decode cX8_readNumber 108 = .ok (.goto 28, 3) := by decide +kernel
theorem dX8_readNumber_111 : decode cX8_readNumber 111 = .ok (.iload 4, 2) := by decide +kernel
theorem dX8_readNumber_113 : decode cX8_readNumber 113 = .ok (.iconst 3, 1) := by decide +kernel
theorem dX8_readNumber_114 : decode cX8_readNumber 114 = .ok (.if_icmp .gt 13, 3) := by decide +kernel
theorem dX8_readNumber_117 : decode cX8_readNumber 117 = .ok (.iload_n 3, 1) := by decide +kernel
theorem dX8_readNumber_118 : decode cX8_readNumber 118 = .ok (.iload_n 1, 1) := by decide +kernel
theorem dX8_readNumber_119 : decode cX8_readNumber 119 = .ok (.if_icmp .lt 8, 3) := by decide +kernel
theorem dX8_readNumber_122 : decode cX8_readNumber 122 = .ok (.iload_n 3, 1) := by decide +kernel
theorem dX8_readNumber_123 : decode cX8_readNumber 123 = .ok (.iload_n 2, 1) := by decide +kernel
theorem dX8_readNumber_124 : decode cX8_readNumber 124 = .ok (.if_icmp .le 12, 3) := by decide +kernel
theorem dX8_readNumber_127 : decode cX8_readNumber 127 = .ok (.aload_n 0, 1) := by decide +kernel
theorem dX8_readNumber_128 : decode cX8_readNumber 128 = .ok (.iconst 2, 1) := by decide +kernel
theorem dX8_readNumber_129 : decode cX8_readNumber 129 = .ok (.aload_n 0, 1) := by decide +kernel
theorem dX8_readNumber_130 : decode cX8_readNumber 130 = .ok (.getfield 91, 3) := by decide +kernel
theorem dX8_readNumber_133 : decode cX8_readNumber 133 = .ok (.invokevirtual 51, 3) := by decide +kernel
theorem dX8_readNumber_136 : decode cX8_readNumber 136 = .ok (.iload_n 3, 1) := by decide +kernel
theorem dX8_readNumber_137 : decode cX8_readNumber 137 = .ok (.ireturn, 1) := by decide +kernel
theorem dX8_readEnd_0 : decode cX8_readEnd 0 = .ok (.aload_n 0, 1) := by decide +kernel
theorem dX8_readEnd_1 : decode cX8_readEnd 1 = .ok (.getfield 27, 3) := by decide +kernel
theorem dX8_readEnd_4 : decode cX8_readEnd 4 = .ok (.ifCond .eq 4, 3) := by decide +kernel
theorem dX8_readEnd_7 : decode cX8_readEnd 7 = .ok (.return_, 1) := by decide +kernel
theorem dX8_readEnd_8 : decode cX8_readEnd 8 = .ok (.aload_n 0, 1) := by decide +kernel
theorem dX8_readEnd_9 : decode cX8_readEnd 9 = .ok (.invokevirtual 33, 3) := by decide +kernel
theorem dX8_readEnd_12 : decode cX8_readEnd 12 = .ok (.aload_n 0, 1) := by decide +kernel
theorem dX8_readEnd_13 : decode cX8_readEnd 13 = .ok (.getfield 30, 3) := by decide +kernel
theorem dX8_readEnd_16 : decode cX8_readEnd 16 = .ok (.aload_n 0, 1) := by decide +kernel
theorem dX8_readEnd_17 : decode cX8_readEnd 17 = .ok (.getfield 19, 3) := by decide +kernel
theorem dX8_readEnd_20 : decode cX8_readEnd 20 = .ok (.if_icmp .ge 25, 3) := by decide +kernel
theorem dX8_readEnd_23 : decode cX8_readEnd 23 = .ok (.aload_n 0, 1) := by decide +kernel
theorem dX8_readEnd_24 : decode cX8_readEnd 24 = .ok (.invokevirtual 43, 3) := by decide +kernel
theorem dX8_readEnd_27 : decode cX8_readEnd 27 = .ok (.bipush 59, 2) := by decide +kernel
theorem dX8_readEnd_29 : decode cX8_readEnd 29 = .ok (.if_icmp .ne 16, 3) := by decide +kernel
theorem dX8_readEnd_32 : decode cX8_readEnd 32 = .ok (.aload_n 0, 1) := by decide +kernel
theorem dX8_readEnd_33 : decode cX8_readEnd 33 = .ok (.dup, 1) := by decide +kernel
theorem dX8_readEnd_34 : decode cX8_readEnd 34 = .ok (.getfield 30, 3) := by decide +kernel
theorem dX8_readEnd_37 : decode cX8_readEnd 37 = .ok (.iconst 1, 1) := by decide +kernel
theorem dX8_readEnd_38 : decode cX8_readEnd 38 = .ok (.iadd, 1) := by decide +kernel
theorem dX8_readEnd_39 : decode cX8_readEnd 39 = .ok (.putfield 30, 3) := by decide +kernel
theorem dX8_readEnd_42 : decode cX8_readEnd 42 = .ok (.goto 12, 3) := by decide +kernel
theorem dX8_readEnd_45 : decode cX8_readEnd 45 = .ok (.aload_n 0, 1) := by decide +kernel
theorem dX8_readEnd_46 : decode cX8_readEnd 46 = .ok (.iconst 1, 1) := by decide +kernel
theorem dX8_readEnd_47 : decode cX8_readEnd 47 = .ok (.aload_n 0, 1) := by decide +kernel
theorem dX8_readEnd_48 : decode cX8_readEnd 48 = .ok (.getfield 30, 3) := by decide +kernel
theorem dX8_readEnd_51 : decode cX8_readEnd 51 = .ok (.invokevirtual 51, 3) := by decide +kernel
theorem dX8_readEnd_54 : decode cX8_readEnd 54 = .ok (.return_, 1) := by decide +kernel
theorem dX8_skipBlanks_0 : decode cX8_skipBlanks 0 = .ok (.aload_n 0, 1) := by decide +kernel
theorem dX8_skipBlanks_1 : decode cX8_skipBlanks 1 = .ok (.getfield 27, 3) := by decide +kernel
theorem dX8_skipBlanks_4 : decode cX8_skipBlanks 4 = .ok (.ifCond .eq 4, 3) := by decide +kernel
theorem dX8_skipBlanks_7 : decode cX8_skipBlanks 7 = .ok (.return_, 1) := by decide +kernel
theorem dX8_skipBlanks_8 : decode cX8_skipBlanks 8 = .ok (.aload_n 0, 1) := by decide +kernel
theorem dX8_skipBlanks_9 : decode cX8_skipBlanks 9 = .ok (.getfield 30, 3) := by decide +kernel
theorem dX8_skipBlanks_12 : decode cX8_skipBlanks 12 = .ok (.aload_n 0, 1) := by decide +kernel
theorem dX8_skipBlanks_13 : decode cX8_skipBlanks 13 = .ok (.getfield 19, 3) := by decide +kernel
theorem dX8_skipBlanks_16 : decode cX8_skipBlanks 16 = .ok (.if_icmp .ge 25, 3) := by decide +kernel
theorem dX8_skipBlanks_19 : decode cX8_skipBlanks 19 = .ok (.aload_n 0, 1) := by decide +kernel
theorem dX8_skipBlanks_20 : decode cX8_skipBlanks 20 = .ok (.invokevirtual 43, 3) := by decide +kernel
theorem dX8_skipBlanks_23 : decode cX8_skipBlanks 23 = .ok (.bipush 32, 2) := by decide +kernel
theorem dX8_skipBlanks_25 : decode cX8_skipBlanks 25 = .ok (.if_icmp .ne 16, 3) := by decide +kernel
theorem dX8_skipBlanks_28 : decode cX8_skipBlanks 28 = .ok (.aload_n 0, 1) := by decide +kernel
theorem dX8_skipBlanks_29 : decode cX8_skipBlanks 29 = .ok (.dup, 1) := by decide +kernel
theorem dX8_skipBlanks_30 : decode cX8_skipBlanks 30 = .ok (.getfield 30, 3) := by decide +kernel
theorem dX8_skipBlanks_33 : decode cX8_skipBlanks 33 = .ok (.iconst 1, 1) := by decide +kernel
theorem dX8_skipBlanks_34 : decode cX8_skipBlanks 34 = .ok (.iadd, 1) := by decide +kernel
theorem dX8_skipBlanks_35 : decode cX8_skipBlanks 35 = .ok (.putfield 30, 3) := by decide +kernel
theorem dX8_skipBlanks_38 : decode cX8_skipBlanks 38 = .ok (.goto (-30), 3) := by decide +kernel
theorem dX8_skipBlanks_41 : decode cX8_skipBlanks 41 = .ok (.return_, 1) := by decide +kernel
theorem dX8_isFigure_0 : decode cX8_isFigure 0 = .ok (.iload_n 0, 1) := by decide +kernel
theorem dX8_isFigure_1 : decode cX8_isFigure 1 = .ok (.bipush 48, 2) := by decide +kernel
theorem dX8_isFigure_3 : decode cX8_isFigure 3 = .ok (.if_icmp .lt 13, 3) := by decide +kernel
theorem dX8_isFigure_6 : decode cX8_isFigure 6 = .ok (.iload_n 0, 1) := by decide +kernel
theorem dX8_isFigure_7 : decode cX8_isFigure 7 = .ok (.bipush 57, 2) := by decide +kernel
theorem dX8_isFigure_9 : decode cX8_isFigure 9 = .ok (.if_icmp .gt 7, 3) := by decide +kernel
theorem dX8_isFigure_12 : decode cX8_isFigure 12 = .ok (.iconst 1, 1) := by decide +kernel
theorem dX8_isFigure_13 : decode cX8_isFigure 13 = .ok (.goto 4, 3) := by decide +kernel
theorem dX8_isFigure_16 : decode cX8_isFigure 16 = .ok (.iconst 0, 1) := by decide +kernel
theorem dX8_isFigure_17 : decode cX8_isFigure 17 = .ok (.ireturn, 1) := by decide +kernel
theorem dX8_letter_0 : decode cX8_letter 0 = .ok (.aload_n 0, 1) := by decide +kernel
theorem dX8_letter_1 : decode cX8_letter 1 = .ok (.getfield 30, 3) := by decide +kernel
theorem dX8_letter_4 : decode cX8_letter 4 = .ok (.ifCond .lt 36, 3) := by decide +kernel
theorem dX8_letter_7 : decode cX8_letter 7 = .ok (.aload_n 0, 1) := by decide +kernel
theorem dX8_letter_8 : decode cX8_letter 8 = .ok (.getfield 30, 3) := by decide +kernel
theorem dX8_letter_11 : decode cX8_letter 11 = .ok (.aload_n 0, 1) := by decide +kernel
theorem dX8_letter_12 : decode cX8_letter 12 = .ok (.getfield 19, 3) := by decide +kernel
theorem dX8_letter_15 : decode cX8_letter 15 = .ok (.if_icmp .ge 25, 3) := by decide +kernel
theorem dX8_letter_18 : decode cX8_letter 18 = .ok (.aload_n 0, 1) := by decide +kernel
theorem dX8_letter_19 : decode cX8_letter 19 = .ok (.getfield 30, 3) := by decide +kernel
theorem dX8_letter_22 : decode cX8_letter 22 = .ok (.sipush 240, 3) := by decide +kernel
theorem dX8_letter_25 : decode cX8_letter 25 = .ok (.if_icmp .ge 15, 3) := by decide +kernel
theorem dX8_letter_28 : decode cX8_letter 28 = .ok (.aload_n 0, 1) := by decide +kernel
theorem dX8_letter_29 : decode cX8_letter 29 = .ok (.getfield 9, 3) := by decide +kernel
theorem dX8_letter_32 : decode cX8_letter 32 = .ok (.aload_n 0, 1) := by decide +kernel
theorem dX8_letter_33 : decode cX8_letter 33 = .ok (.getfield 30, 3) := by decide +kernel
theorem dX8_letter_36 : decode cX8_letter 36 = .ok (.iaload, 1) := by decide +kernel
theorem dX8_letter_37 : decode cX8_letter 37 = .ok (.goto 4, 3) := by decide +kernel
theorem dX8_letter_40 : decode cX8_letter 40 = .ok (.iconst (-1), 1) := by decide +kernel
theorem dX8_letter_41 : decode cX8_letter 41 = .ok (.ireturn, 1) := by decide +kernel
theorem dX8_fail_0 : decode cX8_fail 0 = .ok (.aload_n 0, 1) := by decide +kernel
theorem dX8_fail_1 : decode cX8_fail 1 = .ok (.getfield 27, 3) := by decide +kernel
theorem dX8_fail_4 : decode cX8_fail 4 = .ok (.ifCond .eq 4, 3) := by decide +kernel
theorem dX8_fail_7 : decode cX8_fail 7 = .ok (.return_, 1) := by decide +kernel
theorem dX8_fail_8 : decode cX8_fail 8 = .ok (.aload_n 0, 1) := by decide +kernel
theorem dX8_fail_9 : decode cX8_fail 9 = .ok (.iload_n 1, 1) := by decide +kernel
theorem dX8_fail_10 : decode cX8_fail 10 = .ok (.putfield 27, 3) := by decide +kernel
theorem dX8_fail_13 : decode cX8_fail 13 = .ok (.aload_n 0, 1) := by decide +kernel
theorem dX8_fail_14 : decode cX8_fail 14 = .ok (.iload_n 2, 1) := by decide +kernel
theorem dX8_fail_15 : decode cX8_fail 15 = .ok (.putfield 15, 3) := by decide +kernel
theorem dX8_fail_18 : decode cX8_fail 18 = .ok (.return_, 1) := by decide +kernel
theorem dX9_init_0 : decode cX9_init 0 = .ok (.aload_n 0, 1) := by decide +kernel
theorem dX9_init_1 : decode cX9_init 1 = .ok (.invokespecial 3, 3) := by decide +kernel
theorem dX9_init_4 : decode cX9_init 4 = .ok (.aload_n 0, 1) := by decide +kernel
theorem dX9_init_5 : decode cX9_init 5 = .ok (.bipush 6, 2) := by decide +kernel
theorem dX9_init_7 : decode cX9_init 7 = .ok (.newarray .int, 2) := by decide +kernel
theorem dX9_init_9 : decode cX9_init 9 = .ok (.putfield 9, 3) := by decide +kernel
theorem dX9_init_12 : decode cX9_init 12 = .ok (.aload_n 0, 1) := by decide +kernel
theorem dX9_init_13 : decode cX9_init 13 = .ok (.bipush 24, 2) := by decide +kernel
theorem dX9_init_15 : decode cX9_init 15 = .ok (.newarray .int, 2) := by decide +kernel
theorem dX9_init_17 : decode cX9_init 17 = .ok (.putfield 15, 3) := by decide +kernel
theorem dX9_init_20 : decode cX9_init 20 = .ok (.return_, 1) := by decide +kernel
theorem dX9_add_0 : decode cX9_add 0 = .ok (.aload_n 0, 1) := by decide +kernel
theorem dX9_add_1 : decode cX9_add 1 = .ok (.getfield 18, 3) := by decide +kernel
theorem dX9_add_4 : decode cX9_add 4 = .ok (.bipush 6, 2) := by decide +kernel
theorem dX9_add_6 : decode cX9_add 6 = .ok (.if_icmp .lt 4, 3) := by decide +kernel
theorem dX9_add_9 : decode cX9_add 9 = .ok (.return_, 1) := by decide +kernel
theorem dX9_add_10 : decode cX9_add 10 = .ok (.aload_n 0, 1) := by decide +kernel
theorem dX9_add_11 : decode cX9_add 11 = .ok (.getfield 9, 3) := by decide +kernel
theorem dX9_add_14 : decode cX9_add 14 = .ok (.aload_n 0, 1) := by decide +kernel
theorem dX9_add_15 : decode cX9_add 15 = .ok (.getfield 18, 3) := by decide +kernel
theorem dX9_add_18 : decode cX9_add 18 = .ok (.iload_n 1, 1) := by decide +kernel
theorem dX9_add_19 : decode cX9_add 19 = .ok (.iastore, 1) := by decide +kernel
theorem dX9_add_20 : decode cX9_add 20 = .ok (.aload_n 2, 1) := by decide +kernel
theorem dX9_add_21 : decode cX9_add 21 = .ok (.iconst 0, 1) := by decide +kernel
theorem dX9_add_22 : decode cX9_add 22 = .ok (.aload_n 0, 1) := by decide +kernel
theorem dX9_add_23 : decode cX9_add 23 = .ok (.getfield 15, 3) := by decide +kernel
theorem dX9_add_26 : decode cX9_add 26 = .ok (.aload_n 0, 1) := by decide +kernel
theorem dX9_add_27 : decode cX9_add 27 = .ok (.getfield 18, 3) := by decide +kernel
theorem dX9_add_30 : decode cX9_add 30 = .ok (.iconst 4, 1) := by decide +kernel
theorem dX9_add_31 : decode cX9_add 31 = .ok (.imul, 1) := by decide +kernel
theorem dX9_add_32 : decode cX9_add 32 = .ok (.iconst 4, 1) := by decide +kernel
theorem dX9_add_33 : decode cX9_add 33 = .ok (.invokestatic 22, 3) := by decide +kernel
theorem dX9_add_36 : decode cX9_add 36 = .ok (.aload_n 0, 1) := by decide +kernel
theorem dX9_add_37 : decode cX9_add 37 = .ok (.dup, 1) := by decide +kernel
theorem dX9_add_38 : decode cX9_add 38 = .ok (.getfield 18, 3) := by decide +kernel
theorem dX9_add_41 : decode cX9_add 41 = .ok (.iconst 1, 1) := by decide +kernel
theorem dX9_add_42 : decode cX9_add 42 = .ok (.iadd, 1) := by decide +kernel
theorem dX9_add_43 : decode cX9_add 43 = .ok (.putfield 18, 3) := by decide +kernel
theorem dX9_add_46 : decode cX9_add 46 = .ok (.return_, 1) := by decide +kernel
theorem dX9_setsOf_0 : decode cX9_setsOf 0 = .ok (.aload_n 0, 1) := by decide +kernel
theorem dX9_setsOf_1 : decode cX9_setsOf 1 = .ok (.getfield 28, 3) := by decide +kernel
theorem dX9_setsOf_4 : decode cX9_setsOf 4 = .ok (.ifCond .eq 12, 3) := by decide +kernel
theorem dX9_setsOf_7 : decode cX9_setsOf 7 = .ok (.iconst 1, 1) := by decide +kernel
theorem dX9_setsOf_8 : decode cX9_setsOf 8 = .ok (.aload_n 0, 1) := by decide +kernel
theorem dX9_setsOf_9 : decode cX9_setsOf 9 = .ok (.getfield 34, 3) := by decide +kernel
theorem dX9_setsOf_12 : decode cX9_setsOf 12 = .ok (.ishl, 1) := by decide +kernel
theorem dX9_setsOf_13 : decode cX9_setsOf 13 = .ok (.goto 4, 3) := by decide +kernel
theorem dX9_setsOf_16 : decode cX9_setsOf 16 = .ok (.iconst 0, 1) := by decide +kernel
theorem dX9_setsOf_17 : decode cX9_setsOf 17 = .ok (.ireturn, 1) := by decide +kernel
theorem dX9_fits_0 : decode cX9_fits 0 = .ok (.iconst 0, 1) := by decide +kernel
theorem dX9_fits_1 : decode cX9_fits 1 = .ok (.istore_n 2, 1) := by decide +kernel
theorem dX9_fits_2 : decode cX9_fits 2 = .ok (.iload_n 2, 1) := by decide +kernel
theorem dX9_fits_3 : decode cX9_fits 3 = .ok (.aload_n 0, 1) := by decide +kernel
theorem dX9_fits_4 : decode cX9_fits 4 = .ok (.getfield 18, 3) := by decide +kernel
theorem dX9_fits_7 : decode cX9_fits 7 = .ok (.if_icmp .ge 26, 3) := by decide +kernel
theorem dX9_fits_10 : decode cX9_fits 10 = .ok (.aload_n 0, 1) := by decide +kernel
theorem dX9_fits_11 : decode cX9_fits 11 = .ok (.iload_n 1, 1) := by decide +kernel
theorem dX9_fits_12 : decode cX9_fits 12 = .ok (.iload_n 2, 1) := by decide +kernel
theorem dX9_fits_13 : decode cX9_fits 13 = .ok (.invokevirtual 37, 3) := by decide +kernel
theorem dX9_fits_16 : decode cX9_fits 16 = .ok (.aload_n 0, 1) := by decide +kernel
theorem dX9_fits_17 : decode cX9_fits 17 = .ok (.getfield 9, 3) := by decide +kernel
theorem dX9_fits_20 : decode cX9_fits 20 = .ok (.iload_n 2, 1) := by decide +kernel
theorem dX9_fits_21 : decode cX9_fits 21 = .ok (.iaload, 1) := by decide +kernel
theorem dX9_fits_22 : decode cX9_fits 22 = .ok (.if_icmp .eq 5, 3) := by decide +kernel
theorem dX9_fits_25 : decode cX9_fits 25 = .ok (.iconst 0, 1) := by decide +kernel
theorem dX9_fits_26 : decode cX9_fits 26 = .ok (.ireturn, 1) := by decide +kernel
theorem dX9_fits_27 : decode cX9_fits 27 = .ok (.iinc 2 1, 3) := by decide +kernel
theorem dX9_fits_30 : decode cX9_fits 30 = .ok (.goto (-28), 3) := by decide +kernel
theorem dX9_fits_33 : decode cX9_fits 33 = .ok (.iconst 1, 1) := by decide +kernel
theorem dX9_fits_34 : decode cX9_fits 34 = .ok (.ireturn, 1) := by decide +kernel
theorem dX9_takenBy_0 : decode cX9_takenBy 0 = .ok (.iconst 0, 1) := by decide +kernel
theorem dX9_takenBy_1 : decode cX9_takenBy 1 = .ok (.istore_n 3, 1) := by decide +kernel
theorem dX9_takenBy_2 : decode cX9_takenBy 2 = .ok (.iconst 0, 1) := by decide +kernel
theorem dX9_takenBy_3 : decode cX9_takenBy 3 = .ok (.istore 4, 2) := by decide +kernel
theorem dX9_takenBy_5 : decode cX9_takenBy 5 = .ok (.iload 4, 2) := by decide +kernel
theorem dX9_takenBy_7 : decode cX9_takenBy 7 = .ok (.iconst 4, 1) := by decide +kernel
theorem dX9_takenBy_8 : decode cX9_takenBy 8 = .ok (.if_icmp .ge 32, 3) := by decide +kernel
theorem dX9_takenBy_11 : decode cX9_takenBy 11 = .ok (.iload_n 1, 1) := by decide +kernel
theorem dX9_takenBy_12 : decode cX9_takenBy 12 = .ok (.iload 4, 2) := by decide +kernel
theorem dX9_takenBy_14 : decode cX9_takenBy 14 = .ok (.ishr, 1) := by decide +kernel
theorem dX9_takenBy_15 : decode cX9_takenBy 15 = .ok (.iconst 1, 1) := by decide +kernel
theorem dX9_takenBy_16 : decode cX9_takenBy 16 = .ok (.iand, 1) := by decide +kernel
theorem dX9_takenBy_17 : decode cX9_takenBy 17 = .ok (.ifCond .eq 17, 3) := by decide +kernel
theorem dX9_takenBy_20 : decode cX9_takenBy 20 = .ok (.iload_n 3, 1) := by decide +kernel
theorem dX9_takenBy_21 : decode cX9_takenBy 21 = .ok (.aload_n 0, 1) := by decide +kernel
theorem dX9_takenBy_22 : decode cX9_takenBy 22 = .ok (.getfield 15, 3) := by decide +kernel
theorem dX9_takenBy_25 : decode cX9_takenBy 25 = .ok (.iload_n 2, 1) := by decide +kernel
theorem dX9_takenBy_26 : decode cX9_takenBy 26 = .ok (.iconst 4, 1) := by decide +kernel
theorem dX9_takenBy_27 : decode cX9_takenBy 27 = .ok (.imul, 1) := by decide +kernel
theorem dX9_takenBy_28 : decode cX9_takenBy 28 = .ok (.iload 4, 2) := by decide +kernel
theorem dX9_takenBy_30 : decode cX9_takenBy 30 = .ok (.iadd, 1) := by decide +kernel
theorem dX9_takenBy_31 : decode cX9_takenBy 31 = .ok (.iaload, 1) := by decide +kernel
theorem dX9_takenBy_32 : decode cX9_takenBy 32 = .ok (.iadd, 1) := by decide +kernel
theorem dX9_takenBy_33 : decode cX9_takenBy 33 = .ok (.istore_n 3, 1) := by decide +kernel
theorem dX9_takenBy_34 : decode cX9_takenBy 34 = .ok (.iinc 4 1, 3) := by decide +kernel
theorem dX9_takenBy_37 : decode cX9_takenBy 37 = .ok (.goto (-32), 3) := by decide +kernel
theorem dX9_takenBy_40 : decode cX9_takenBy 40 = .ok (.iload_n 3, 1) := by decide +kernel
theorem dX9_takenBy_41 : decode cX9_takenBy 41 = .ok (.ireturn, 1) := by decide +kernel
theorem dX9_countSets_0 : decode cX9_countSets 0 = .ok (.aload_n 0, 1) := by decide +kernel
theorem dX9_countSets_1 : decode cX9_countSets 1 = .ok (.aload_n 1, 1) := by decide +kernel
theorem dX9_countSets_2 : decode cX9_countSets 2 = .ok (.iconst 0, 1) := by decide +kernel
theorem dX9_countSets_3 : decode cX9_countSets 3 = .ok (.invokevirtual 41, 3) := by decide +kernel
theorem dX9_countSets_6 : decode cX9_countSets 6 = .ok (.ireturn, 1) := by decide +kernel
theorem dX9_countWith_0 : decode cX9_countWith 0 = .ok (.iconst 0, 1) := by decide +kernel
theorem dX9_countWith_1 : decode cX9_countWith 1 = .ok (.istore_n 3, 1) := by decide +kernel
theorem dX9_countWith_2 : decode cX9_countWith 2 = .ok (.iconst 0, 1) := by decide +kernel
theorem dX9_countWith_3 : decode cX9_countWith 3 = .ok (.istore 4, 2) := by decide +kernel
theorem dX9_countWith_5 : decode cX9_countWith 5 = .ok (.iload 4, 2) := by decide +kernel
theorem dX9_countWith_7 : decode cX9_countWith 7 = .ok (.aload_n 1, 1) := by decide +kernel
theorem dX9_countWith_8 : decode cX9_countWith 8 = .ok (.invokestatic 45, 3) := by decide +kernel
theorem dX9_countWith_11 : decode cX9_countWith 11 = .ok (.if_icmp .ge 29, 3) := by decide +kernel
theorem dX9_countWith_14 : decode cX9_countWith 14 = .ok (.iload 4, 2) := by decide +kernel
theorem dX9_countWith_16 : decode cX9_countWith 16 = .ok (.iload_n 2, 1) := by decide +kernel
theorem dX9_countWith_17 : decode cX9_countWith 17 = .ok (.iand, 1) := by decide +kernel
theorem dX9_countWith_18 : decode cX9_countWith 18 = .ok (.iload_n 2, 1) := by decide +kernel
theorem dX9_countWith_19 : decode cX9_countWith 19 = .ok (.if_icmp .ne 15, 3) := by decide +kernel
theorem dX9_countWith_22 : decode cX9_countWith 22 = .ok (.aload_n 0, 1) := by decide +kernel
theorem dX9_countWith_23 : decode cX9_countWith 23 = .ok (.iload 4, 2) := by decide +kernel
theorem dX9_countWith_25 : decode cX9_countWith 25 = .ok (.invokevirtual 49, 3) := by decide +kernel
theorem dX9_countWith_28 : decode cX9_countWith 28 = .ok (.ifCond .eq 6, 3) := by decide +kernel
theorem dX9_countWith_31 : decode cX9_countWith 31 = .ok (.iinc 3 1, 3) := by decide +kernel
theorem dX9_countWith_34 : decode cX9_countWith 34 = .ok (.iinc 4 1, 3) := by decide +kernel
theorem dX9_countWith_37 : decode cX9_countWith 37 = .ok (.goto (-32), 3) := by decide +kernel
theorem dX9_countWith_40 : decode cX9_countWith 40 = .ok (.iload_n 3, 1) := by decide +kernel
theorem dX9_countWith_41 : decode cX9_countWith 41 = .ok (.ireturn, 1) := by decide +kernel
theorem dX9_inEach_0 : decode cX9_inEach 0 = .ok (.iconst (-1), 1) := by decide +kernel
theorem dX9_inEach_1 : decode cX9_inEach 1 = .ok (.istore_n 2, 1) := by decide +kernel
theorem dX9_inEach_2 : decode cX9_inEach 2 = .ok (.iconst 0, 1) := by decide +kernel
theorem dX9_inEach_3 : decode cX9_inEach 3 = .ok (.istore_n 3, 1) := by decide +kernel
theorem dX9_inEach_4 : decode cX9_inEach 4 = .ok (.iload_n 3, 1) := by decide +kernel
theorem dX9_inEach_5 : decode cX9_inEach 5 = .ok (.aload_n 1, 1) := by decide +kernel
theorem dX9_inEach_6 : decode cX9_inEach 6 = .ok (.invokestatic 45, 3) := by decide +kernel
theorem dX9_inEach_9 : decode cX9_inEach 9 = .ok (.if_icmp .ge 21, 3) := by decide +kernel
theorem dX9_inEach_12 : decode cX9_inEach 12 = .ok (.aload_n 0, 1) := by decide +kernel
theorem dX9_inEach_13 : decode cX9_inEach 13 = .ok (.iload_n 3, 1) := by decide +kernel
theorem dX9_inEach_14 : decode cX9_inEach 14 = .ok (.invokevirtual 49, 3) := by decide +kernel
theorem dX9_inEach_17 : decode cX9_inEach 17 = .ok (.ifCond .eq 7, 3) := by decide +kernel
theorem dX9_inEach_20 : decode cX9_inEach 20 = .ok (.iload_n 2, 1) := by decide +kernel
theorem dX9_inEach_21 : decode cX9_inEach 21 = .ok (.iload_n 3, 1) := by decide +kernel
theorem dX9_inEach_22 : decode cX9_inEach 22 = .ok (.iand, 1) := by decide +kernel
theorem dX9_inEach_23 : decode cX9_inEach 23 = .ok (.istore_n 2, 1) := by decide +kernel
theorem dX9_inEach_24 : decode cX9_inEach 24 = .ok (.iinc 3 1, 3) := by decide +kernel
theorem dX9_inEach_27 : decode cX9_inEach 27 = .ok (.goto (-23), 3) := by decide +kernel
theorem dX9_inEach_30 : decode cX9_inEach 30 = .ok (.iload_n 2, 1) := by decide +kernel
theorem dX9_inEach_31 : decode cX9_inEach 31 = .ok (.ireturn, 1) := by decide +kernel
theorem dX9_ask_0 : decode cX9_ask 0 = .ok (.aload_n 0, 1) := by decide +kernel
theorem dX9_ask_1 : decode cX9_ask 1 = .ok (.aload_n 1, 1) := by decide +kernel
theorem dX9_ask_2 : decode cX9_ask 2 = .ok (.invokevirtual 53, 3) := by decide +kernel
theorem dX9_ask_5 : decode cX9_ask 5 = .ok (.istore_n 2, 1) := by decide +kernel
theorem dX9_ask_6 : decode cX9_ask 6 = .ok (.iconst (-1), 1) := by decide +kernel
theorem dX9_ask_7 : decode cX9_ask 7 = .ok (.istore_n 3, 1) := by decide +kernel
theorem dX9_ask_8 : decode cX9_ask 8 = .ok (.iload_n 2, 1) := by decide +kernel
theorem dX9_ask_9 : decode cX9_ask 9 = .ok (.istore 4, 2) := by decide +kernel
theorem dX9_ask_11 : decode cX9_ask 11 = .ok (.iconst 0, 1) := by decide +kernel
theorem dX9_ask_12 : decode cX9_ask 12 = .ok (.istore 5, 2) := by decide +kernel
theorem dX9_ask_14 : decode cX9_ask 14 = .ok (.iload 5, 2) := by decide +kernel
theorem dX9_ask_16 : decode cX9_ask 16 = .ok (.aload_n 1, 1) := by decide +kernel
theorem dX9_ask_17 : decode cX9_ask 17 = .ok (.getfield 34, 3) := by decide +kernel
theorem dX9_ask_20 : decode cX9_ask 20 = .ok (.if_icmp .ge 45, 3) := by decide +kernel
theorem dX9_ask_23 : decode cX9_ask 23 = .ok (.aload_n 0, 1) := by decide +kernel
theorem dX9_ask_24 : decode cX9_ask 24 = .ok (.aload_n 1, 1) := by decide +kernel
theorem dX9_ask_25 : decode cX9_ask 25 = .ok (.iconst 1, 1) := by decide +kernel
theorem dX9_ask_26 : decode cX9_ask 26 = .ok (.iload 5, 2) := by decide +kernel
theorem dX9_ask_28 : decode cX9_ask 28 = .ok (.ishl, 1) := by decide +kernel
theorem dX9_ask_29 : decode cX9_ask 29 = .ok (.invokevirtual 41, 3) := by decide +kernel
theorem dX9_ask_32 : decode cX9_ask 32 = .ok (.istore 6, 2) := by decide +kernel
theorem dX9_ask_34 : decode cX9_ask 34 = .ok (.iload 6, 2) := by decide +kernel
theorem dX9_ask_36 : decode cX9_ask 36 = .ok (.iload_n 2, 1) := by decide +kernel
theorem dX9_ask_37 : decode cX9_ask 37 = .ok (.iload 6, 2) := by decide +kernel
theorem dX9_ask_39 : decode cX9_ask 39 = .ok (.isub, 1) := by decide +kernel
theorem dX9_ask_40 : decode cX9_ask 40 = .ok (.invokestatic 56, 3) := by decide +kernel
theorem dX9_ask_43 : decode cX9_ask 43 = .ok (.istore 7, 2) := by decide +kernel
theorem dX9_ask_45 : decode cX9_ask 45 = .ok (.iload 7, 2) := by decide +kernel
theorem dX9_ask_47 : decode cX9_ask 47 = .ok (.iload 4, 2) := by decide +kernel
theorem dX9_ask_49 : decode cX9_ask 49 = .ok (.if_icmp .ge 10, 3) := by decide +kernel
theorem dX9_ask_52 : decode cX9_ask 52 = .ok (.iload 7, 2) := by decide +kernel
theorem dX9_ask_54 : decode cX9_ask 54 = .ok (.istore 4, 2) := by decide +kernel
theorem dX9_ask_56 : decode cX9_ask 56 = .ok (.iload 5, 2) := by decide +kernel
theorem dX9_ask_58 : decode cX9_ask 58 = .ok (.istore_n 3, 1) := by decide +kernel
theorem dX9_ask_59 : decode cX9_ask 59 = .ok (.iinc 5 1, 3) := by decide +kernel
theorem dX9_ask_62 : decode cX9_ask 62 = .ok (.goto (-48), 3) := by decide +kernel
theorem dX9_ask_65 : decode cX9_ask 65 = .ok (.iload_n 3, 1) := by decide +kernel
theorem dX9_ask_66 : decode cX9_ask 66 = .ok (.ireturn, 1) := by decide +kernel
theorem dX10_init_0 : decode cX10_init 0 = .ok (.aload_n 0, 1) := by decide +kernel
theorem dX10_init_1 : decode cX10_init 1 = .ok (.invokespecial 3, 3) := by decide +kernel
theorem dX10_init_4 : decode cX10_init 4 = .ok (.aload_n 0, 1) := by decide +kernel
theorem dX10_init_5 : decode cX10_init 5 = .ok (.bipush 7, 2) := by decide +kernel
theorem dX10_init_7 : decode cX10_init 7 = .ok (.newarray .int, 2) := by decide +kernel
theorem dX10_init_9 : decode cX10_init 9 = .ok (.putfield 9, 3) := by decide +kernel
theorem dX10_init_12 : decode cX10_init 12 = .ok (.aload_n 0, 1) := by decide +kernel
theorem dX10_init_13 : decode cX10_init 13 = .ok (.bipush 7, 2) := by decide +kernel
theorem dX10_init_15 : decode cX10_init 15 = .ok (.newarray .int, 2) := by decide +kernel
theorem dX10_init_17 : decode cX10_init 17 = .ok (.putfield 15, 3) := by decide +kernel
theorem dX10_init_20 : decode cX10_init 20 = .ok (.aload_n 0, 1) := by decide +kernel
theorem dX10_init_21 : decode cX10_init 21 = .ok (.bipush 7, 2) := by decide +kernel
theorem dX10_init_23 : decode cX10_init 23 = .ok (.newarray .int, 2) := by decide +kernel
theorem dX10_init_25 : decode cX10_init 25 = .ok (.putfield 18, 3) := by decide +kernel
theorem dX10_init_28 : decode cX10_init 28 = .ok (.aload_n 0, 1) := by decide +kernel
theorem dX10_init_29 : decode cX10_init 29 = .ok (.iconst 4, 1) := by decide +kernel
theorem dX10_init_30 : decode cX10_init 30 = .ok (.newarray .int, 2) := by decide +kernel
theorem dX10_init_32 : decode cX10_init 32 = .ok (.putfield 21, 3) := by decide +kernel
theorem dX10_init_35 : decode cX10_init 35 = .ok (.return_, 1) := by decide +kernel
theorem dX10_begin_0 : decode cX10_begin 0 = .ok (.aload_n 0, 1) := by decide +kernel
theorem dX10_begin_1 : decode cX10_begin 1 = .ok (.aload_n 1, 1) := by decide +kernel
theorem dX10_begin_2 : decode cX10_begin 2 = .ok (.getfield 24, 3) := by decide +kernel
theorem dX10_begin_5 : decode cX10_begin 5 = .ok (.putfield 30, 3) := by decide +kernel
theorem dX10_begin_8 : decode cX10_begin 8 = .ok (.aload_n 0, 1) := by decide +kernel
theorem dX10_begin_9 : decode cX10_begin 9 = .ok (.iconst 0, 1) := by decide +kernel
theorem dX10_begin_10 : decode cX10_begin 10 = .ok (.putfield 31, 3) := by decide +kernel
theorem dX10_begin_13 : decode cX10_begin 13 = .ok (.aload_n 0, 1) := by decide +kernel
theorem dX10_begin_14 : decode cX10_begin 14 = .ok (.iconst 0, 1) := by decide +kernel
theorem dX10_begin_15 : decode cX10_begin 15 = .ok (.putfield 34, 3) := by decide +kernel
theorem dX10_begin_18 : decode cX10_begin 18 = .ok (.aload_n 0, 1) := by decide +kernel
theorem dX10_begin_19 : decode cX10_begin 19 = .ok (.iconst 0, 1) := by decide +kernel
theorem dX10_begin_20 : decode cX10_begin 20 = .ok (.putfield 37, 3) := by decide +kernel
theorem dX10_begin_23 : decode cX10_begin 23 = .ok (.aload_n 0, 1) := by decide +kernel
theorem dX10_begin_24 : decode cX10_begin 24 = .ok (.iconst 0, 1) := by decide +kernel
theorem dX10_begin_25 : decode cX10_begin 25 = .ok (.putfield 40, 3) := by decide +kernel
theorem dX10_begin_28 : decode cX10_begin 28 = .ok (.aload_n 0, 1) := by decide +kernel
theorem dX10_begin_29 : decode cX10_begin 29 = .ok (.getfield 9, 3) := by decide +kernel
theorem dX10_begin_32 : decode cX10_begin 32 = .ok (.iconst 0, 1) := by decide +kernel
theorem dX10_begin_33 : decode cX10_begin 33 = .ok (.invokestatic 43, 3) := by decide +kernel
theorem dX10_begin_36 : decode cX10_begin 36 = .ok (.aload_n 0, 1) := by decide +kernel
theorem dX10_begin_37 : decode cX10_begin 37 = .ok (.getfield 15, 3) := by decide +kernel
theorem dX10_begin_40 : decode cX10_begin 40 = .ok (.iconst 0, 1) := by decide +kernel
theorem dX10_begin_41 : decode cX10_begin 41 = .ok (.invokestatic 43, 3) := by decide +kernel
theorem dX10_begin_44 : decode cX10_begin 44 = .ok (.aload_n 1, 1) := by decide +kernel
theorem dX10_begin_45 : decode cX10_begin 45 = .ok (.getfield 49, 3) := by decide +kernel
theorem dX10_begin_48 : decode cX10_begin 48 = .ok (.iconst 0, 1) := by decide +kernel
theorem dX10_begin_49 : decode cX10_begin 49 = .ok (.aload_n 0, 1) := by decide +kernel
theorem dX10_begin_50 : decode cX10_begin 50 = .ok (.getfield 18, 3) := by decide +kernel
theorem dX10_begin_53 : decode cX10_begin 53 = .ok (.iconst 0, 1) := by decide +kernel
theorem dX10_begin_54 : decode cX10_begin 54 = .ok (.bipush 7, 2) := by decide +kernel
theorem dX10_begin_56 : decode cX10_begin 56 = .ok (.invokestatic 50, 3) := by decide +kernel
theorem dX10_begin_59 : decode cX10_begin 59 = .ok (.aload_n 1, 1) := by decide +kernel
theorem dX10_begin_60 : decode cX10_begin 60 = .ok (.getfield 56, 3) := by decide +kernel
theorem dX10_begin_63 : decode cX10_begin 63 = .ok (.iconst 0, 1) := by decide +kernel
theorem dX10_begin_64 : decode cX10_begin 64 = .ok (.aload_n 0, 1) := by decide +kernel
theorem dX10_begin_65 : decode cX10_begin 65 = .ok (.getfield 21, 3) := by decide +kernel
theorem dX10_begin_68 : decode cX10_begin 68 = .ok (.iconst 0, 1) := by decide +kernel
theorem dX10_begin_69 : decode cX10_begin 69 = .ok (.iconst 4, 1) := by decide +kernel
theorem dX10_begin_70 : decode cX10_begin 70 = .ok (.invokestatic 50, 3) := by decide +kernel
theorem dX10_begin_73 : decode cX10_begin 73 = .ok (.return_, 1) := by decide +kernel
theorem dX10_copyFrom_0 : decode cX10_copyFrom 0 = .ok (.aload_n 0, 1) := by decide +kernel
theorem dX10_copyFrom_1 : decode cX10_copyFrom 1 = .ok (.aload_n 1, 1) := by decide +kernel
theorem dX10_copyFrom_2 : decode cX10_copyFrom 2 = .ok (.getfield 30, 3) := by decide +kernel
theorem dX10_copyFrom_5 : decode cX10_copyFrom 5 = .ok (.putfield 30, 3) := by decide +kernel
theorem dX10_copyFrom_8 : decode cX10_copyFrom 8 = .ok (.aload_n 0, 1) := by decide +kernel
theorem dX10_copyFrom_9 : decode cX10_copyFrom 9 = .ok (.aload_n 1, 1) := by decide +kernel
theorem dX10_copyFrom_10 : decode cX10_copyFrom 10 = .ok (.getfield 31, 3) := by decide +kernel
theorem dX10_copyFrom_13 : decode cX10_copyFrom 13 = .ok (.putfield 31, 3) := by decide +kernel
theorem dX10_copyFrom_16 : decode cX10_copyFrom 16 = .ok (.aload_n 0, 1) := by decide +kernel
theorem dX10_copyFrom_17 : decode cX10_copyFrom 17 = .ok (.aload_n 1, 1) := by decide +kernel
theorem dX10_copyFrom_18 : decode cX10_copyFrom 18 = .ok (.getfield 34, 3) := by decide +kernel
theorem dX10_copyFrom_21 : decode cX10_copyFrom 21 = .ok (.putfield 34, 3) := by decide +kernel
theorem dX10_copyFrom_24 : decode cX10_copyFrom 24 = .ok (.aload_n 0, 1) := by decide +kernel
theorem dX10_copyFrom_25 : decode cX10_copyFrom 25 = .ok (.aload_n 1, 1) := by decide +kernel
theorem dX10_copyFrom_26 : decode cX10_copyFrom 26 = .ok (.getfield 37, 3) := by decide +kernel
theorem dX10_copyFrom_29 : decode cX10_copyFrom 29 = .ok (.putfield 37, 3) := by decide +kernel
theorem dX10_copyFrom_32 : decode cX10_copyFrom 32 = .ok (.aload_n 0, 1) := by decide +kernel
theorem dX10_copyFrom_33 : decode cX10_copyFrom 33 = .ok (.aload_n 1, 1) := by decide +kernel
theorem dX10_copyFrom_34 : decode cX10_copyFrom 34 = .ok (.getfield 40, 3) := by decide +kernel
theorem dX10_copyFrom_37 : decode cX10_copyFrom 37 = .ok (.putfield 40, 3) := by decide +kernel
theorem dX10_copyFrom_40 : decode cX10_copyFrom 40 = .ok (.aload_n 1, 1) := by decide +kernel
theorem dX10_copyFrom_41 : decode cX10_copyFrom 41 = .ok (.getfield 9, 3) := by decide +kernel
theorem dX10_copyFrom_44 : decode cX10_copyFrom 44 = .ok (.iconst 0, 1) := by decide +kernel
theorem dX10_copyFrom_45 : decode cX10_copyFrom 45 = .ok (.aload_n 0, 1) := by decide +kernel
theorem dX10_copyFrom_46 : decode cX10_copyFrom 46 = .ok (.getfield 9, 3) := by decide +kernel
theorem dX10_copyFrom_49 : decode cX10_copyFrom 49 = .ok (.iconst 0, 1) := by decide +kernel
theorem dX10_copyFrom_50 : decode cX10_copyFrom 50 = .ok (.bipush 7, 2) := by decide +kernel
theorem dX10_copyFrom_52 : decode cX10_copyFrom 52 = .ok (.invokestatic 50, 3) := by decide +kernel
theorem dX10_copyFrom_55 : decode cX10_copyFrom 55 = .ok (.aload_n 1, 1) := by decide +kernel
theorem dX10_copyFrom_56 : decode cX10_copyFrom 56 = .ok (.getfield 15, 3) := by decide +kernel
theorem dX10_copyFrom_59 : decode cX10_copyFrom 59 = .ok (.iconst 0, 1) := by decide +kernel
theorem dX10_copyFrom_60 : decode cX10_copyFrom 60 = .ok (.aload_n 0, 1) := by decide +kernel
theorem dX10_copyFrom_61 : decode cX10_copyFrom 61 = .ok (.getfield 15, 3) := by decide +kernel
theorem dX10_copyFrom_64 : decode cX10_copyFrom 64 = .ok (.iconst 0, 1) := by decide +kernel
theorem dX10_copyFrom_65 : decode cX10_copyFrom 65 = .ok (.bipush 7, 2) := by decide +kernel
theorem dX10_copyFrom_67 : decode cX10_copyFrom 67 = .ok (.invokestatic 50, 3) := by decide +kernel
theorem dX10_copyFrom_70 : decode cX10_copyFrom 70 = .ok (.aload_n 1, 1) := by decide +kernel
theorem dX10_copyFrom_71 : decode cX10_copyFrom 71 = .ok (.getfield 18, 3) := by decide +kernel
theorem dX10_copyFrom_74 : decode cX10_copyFrom 74 = .ok (.iconst 0, 1) := by decide +kernel
theorem dX10_copyFrom_75 : decode cX10_copyFrom 75 = .ok (.aload_n 0, 1) := by decide +kernel
theorem dX10_copyFrom_76 : decode cX10_copyFrom 76 = .ok (.getfield 18, 3) := by decide +kernel
theorem dX10_copyFrom_79 : decode cX10_copyFrom 79 = .ok (.iconst 0, 1) := by decide +kernel
theorem dX10_copyFrom_80 : decode cX10_copyFrom 80 = .ok (.bipush 7, 2) := by decide +kernel
theorem dX10_copyFrom_82 : decode cX10_copyFrom 82 = .ok (.invokestatic 50, 3) := by decide +kernel
theorem dX10_copyFrom_85 : decode cX10_copyFrom 85 = .ok (.aload_n 1, 1) := by decide +kernel
theorem dX10_copyFrom_86 : decode cX10_copyFrom 86 = .ok (.getfield 21, 3) := by decide +kernel
theorem dX10_copyFrom_89 : decode cX10_copyFrom 89 = .ok (.iconst 0, 1) := by decide +kernel
theorem dX10_copyFrom_90 : decode cX10_copyFrom 90 = .ok (.aload_n 0, 1) := by decide +kernel
theorem dX10_copyFrom_91 : decode cX10_copyFrom 91 = .ok (.getfield 21, 3) := by decide +kernel
theorem dX10_copyFrom_94 : decode cX10_copyFrom 94 = .ok (.iconst 0, 1) := by decide +kernel
theorem dX10_copyFrom_95 : decode cX10_copyFrom 95 = .ok (.iconst 4, 1) := by decide +kernel
theorem dX10_copyFrom_96 : decode cX10_copyFrom 96 = .ok (.invokestatic 50, 3) := by decide +kernel
theorem dX10_copyFrom_99 : decode cX10_copyFrom 99 = .ok (.return_, 1) := by decide +kernel
theorem dX10_hurt_0 : decode cX10_hurt 0 = .ok (.aload_n 0, 1) := by decide +kernel
theorem dX10_hurt_1 : decode cX10_hurt 1 = .ok (.getfield 15, 3) := by decide +kernel
theorem dX10_hurt_4 : decode cX10_hurt 4 = .ok (.iload_n 1, 1) := by decide +kernel
theorem dX10_hurt_5 : decode cX10_hurt 5 = .ok (.sipush 9999, 3) := by decide +kernel
theorem dX10_hurt_8 : decode cX10_hurt 8 = .ok (.aload_n 0, 1) := by decide +kernel
theorem dX10_hurt_9 : decode cX10_hurt 9 = .ok (.getfield 15, 3) := by decide +kernel
theorem dX10_hurt_12 : decode cX10_hurt 12 = .ok (.iload_n 1, 1) := by decide +kernel
theorem dX10_hurt_13 : decode cX10_hurt 13 = .ok (.iaload, 1) := by decide +kernel
theorem dX10_hurt_14 : decode cX10_hurt 14 = .ok (.iload_n 2, 1) := by decide +kernel
theorem dX10_hurt_15 : decode cX10_hurt 15 = .ok (.iadd, 1) := by decide +kernel
theorem dX10_hurt_16 : decode cX10_hurt 16 = .ok (.invokestatic 57, 3) := by decide +kernel
theorem dX10_hurt_19 : decode cX10_hurt 19 = .ok (.iastore, 1) := by decide +kernel
theorem dX10_hurt_20 : decode cX10_hurt 20 = .ok (.return_, 1) := by decide +kernel
theorem dX11_init_0 : decode cX11_init 0 = .ok (.aload_n 0, 1) := by decide +kernel
theorem dX11_init_1 : decode cX11_init 1 = .ok (.invokespecial 1, 3) := by decide +kernel
theorem dX11_init_4 : decode cX11_init 4 = .ok (.aload_n 0, 1) := by decide +kernel
theorem dX11_init_5 : decode cX11_init 5 = .ok (.new 7, 3) := by decide +kernel
theorem dX11_init_8 : decode cX11_init 8 = .ok (.dup, 1) := by decide +kernel
theorem dX11_init_9 : decode cX11_init 9 = .ok (.invokespecial 9, 3) := by decide +kernel
theorem dX11_init_12 : decode cX11_init 12 = .ok (.putfield 10, 3) := by decide +kernel
theorem dX11_init_15 : decode cX11_init 15 = .ok (.aload_n 0, 1) := by decide +kernel
theorem dX11_init_16 : decode cX11_init 16 = .ok (.new 16, 3) := by decide +kernel
theorem dX11_init_19 : decode cX11_init 19 = .ok (.dup, 1) := by decide +kernel
theorem dX11_init_20 : decode cX11_init 20 = .ok (.invokespecial 18, 3) := by decide +kernel
theorem dX11_init_23 : decode cX11_init 23 = .ok (.putfield 19, 3) := by decide +kernel
theorem dX11_init_26 : decode cX11_init 26 = .ok (.aload_n 0, 1) := by decide +kernel
theorem dX11_init_27 : decode cX11_init 27 = .ok (.new 23, 3) := by decide +kernel
theorem dX11_init_30 : decode cX11_init 30 = .ok (.dup, 1) := by decide +kernel
theorem dX11_init_31 : decode cX11_init 31 = .ok (.invokespecial 25, 3) := by decide +kernel
theorem dX11_init_34 : decode cX11_init 34 = .ok (.putfield 26, 3) := by decide +kernel
theorem dX11_init_37 : decode cX11_init 37 = .ok (.aload_n 0, 1) := by decide +kernel
theorem dX11_init_38 : decode cX11_init 38 = .ok (.new 30, 3) := by decide +kernel
theorem dX11_init_41 : decode cX11_init 41 = .ok (.dup, 1) := by decide +kernel
theorem dX11_init_42 : decode cX11_init 42 = .ok (.invokespecial 32, 3) := by decide +kernel
theorem dX11_init_45 : decode cX11_init 45 = .ok (.putfield 33, 3) := by decide +kernel
theorem dX11_init_48 : decode cX11_init 48 = .ok (.aload_n 0, 1) := by decide +kernel
theorem dX11_init_49 : decode cX11_init 49 = .ok (.new 37, 3) := by decide +kernel
theorem dX11_init_52 : decode cX11_init 52 = .ok (.dup, 1) := by decide +kernel
theorem dX11_init_53 : decode cX11_init 53 = .ok (.invokespecial 39, 3) := by decide +kernel
theorem dX11_init_56 : decode cX11_init 56 = .ok (.putfield 40, 3) := by decide +kernel
theorem dX11_init_59 : decode cX11_init 59 = .ok (.aload_n 0, 1) := by decide +kernel
theorem dX11_init_60 : decode cX11_init 60 = .ok (.new 44, 3) := by decide +kernel
theorem dX11_init_63 : decode cX11_init 63 = .ok (.dup, 1) := by decide +kernel
theorem dX11_init_64 : decode cX11_init 64 = .ok (.invokespecial 46, 3) := by decide +kernel
theorem dX11_init_67 : decode cX11_init 67 = .ok (.putfield 47, 3) := by decide +kernel
theorem dX11_init_70 : decode cX11_init 70 = .ok (.aload_n 0, 1) := by decide +kernel
theorem dX11_init_71 : decode cX11_init 71 = .ok (.new 51, 3) := by decide +kernel
theorem dX11_init_74 : decode cX11_init 74 = .ok (.dup, 1) := by decide +kernel
theorem dX11_init_75 : decode cX11_init 75 = .ok (.invokespecial 53, 3) := by decide +kernel
theorem dX11_init_78 : decode cX11_init 78 = .ok (.putfield 54, 3) := by decide +kernel
theorem dX11_init_81 : decode cX11_init 81 = .ok (.aload_n 0, 1) := by decide +kernel
theorem dX11_init_82 : decode cX11_init 82 = .ok (.new 58, 3) := by decide +kernel
theorem dX11_init_85 : decode cX11_init 85 = .ok (.dup, 1) := by decide +kernel
theorem dX11_init_86 : decode cX11_init 86 = .ok (.invokespecial 60, 3) := by decide +kernel
theorem dX11_init_89 : decode cX11_init 89 = .ok (.putfield 61, 3) := by decide +kernel
theorem dX11_init_92 : decode cX11_init 92 = .ok (.aload_n 0, 1) := by decide +kernel
theorem dX11_init_93 : decode cX11_init 93 = .ok (.new 65, 3) := by decide +kernel
theorem dX11_init_96 : decode cX11_init 96 = .ok (.dup, 1) := by decide +kernel
theorem dX11_init_97 : decode cX11_init 97 = .ok (.invokespecial 67, 3) := by decide +kernel
theorem dX11_init_100 : decode cX11_init 100 = .ok (.putfield 68, 3) := by decide +kernel
theorem dX11_init_103 : decode cX11_init 103 = .ok (.return_, 1) := by decide +kernel
theorem dX11_feed_0 : decode cX11_feed 0 = .ok (.iload_n 1, 1) := by decide +kernel
theorem dX11_feed_1 : decode cX11_feed 1 = .ok (.ifCond .lt 10, 3) := by decide +kernel
theorem dX11_feed_4 : decode cX11_feed 4 = .ok (.iload_n 1, 1) := by decide +kernel
theorem dX11_feed_5 : decode cX11_feed 5 = .ok (.sipush 255, 3) := by decide +kernel
theorem dX11_feed_8 : decode cX11_feed 8 = .ok (.if_icmp .le 6, 3) := by decide +kernel
theorem dX11_feed_11 : decode cX11_feed 11 = .ok (.ldc 72, 2) := by decide +kernel
theorem dX11_feed_13 : decode cX11_feed 13 = .ok (.ireturn, 1) := by decide +kernel
theorem dX11_feed_14 : decode cX11_feed 14 = .ok (.aload_n 0, 1) := by decide +kernel
theorem dX11_feed_15 : decode cX11_feed 15 = .ok (.getfield 10, 3) := by decide +kernel
theorem dX11_feed_18 : decode cX11_feed 18 = .ok (.getfield 73, 3) := by decide +kernel
theorem dX11_feed_21 : decode cX11_feed 21 = .ok (.sipush 240, 3) := by decide +kernel
theorem dX11_feed_24 : decode cX11_feed 24 = .ok (.if_icmp .lt 6, 3) := by decide +kernel
theorem dX11_feed_27 : decode cX11_feed 27 = .ok (.ldc 77, 2) := by decide +kernel
theorem dX11_feed_29 : decode cX11_feed 29 = .ok (.ireturn, 1) := by decide +kernel
theorem dX11_feed_30 : decode cX11_feed 30 = .ok (.aload_n 0, 1) := by decide +kernel
theorem dX11_feed_31 : decode cX11_feed 31 = .ok (.getfield 10, 3) := by decide +kernel
theorem dX11_feed_34 : decode cX11_feed 34 = .ok (.iload_n 1, 1) := by decide +kernel
theorem dX11_feed_35 : decode cX11_feed 35 = .ok (.invokevirtual 78, 3) := by decide +kernel
theorem dX11_feed_38 : decode cX11_feed 38 = .ok (.aload_n 0, 1) := by decide +kernel
theorem dX11_feed_39 : decode cX11_feed 39 = .ok (.getfield 10, 3) := by decide +kernel
theorem dX11_feed_42 : decode cX11_feed 42 = .ok (.getfield 73, 3) := by decide +kernel
theorem dX11_feed_45 : decode cX11_feed 45 = .ok (.ireturn, 1) := by decide +kernel
theorem dX11_hills_0 : decode cX11_hills 0 = .ok (.aload_n 0, 1) := by decide +kernel
theorem dX11_hills_1 : decode cX11_hills 1 = .ok (.getfield 10, 3) := by decide +kernel
theorem dX11_hills_4 : decode cX11_hills 4 = .ok (.aload_n 0, 1) := by decide +kernel
theorem dX11_hills_5 : decode cX11_hills 5 = .ok (.getfield 68, 3) := by decide +kernel
theorem dX11_hills_8 : decode cX11_hills 8 = .ok (.invokevirtual 82, 3) := by decide +kernel
theorem dX11_hills_11 : decode cX11_hills 11 = .ok (.aload_n 0, 1) := by decide +kernel
theorem dX11_hills_12 : decode cX11_hills 12 = .ok (.getfield 10, 3) := by decide +kernel
theorem dX11_hills_15 : decode cX11_hills 15 = .ok (.getfield 86, 3) := by decide +kernel
theorem dX11_hills_18 : decode cX11_hills 18 = .ok (.ifCond .eq 14, 3) := by decide +kernel
theorem dX11_hills_21 : decode cX11_hills 21 = .ok (.bipush (-10), 2) := by decide +kernel
theorem dX11_hills_23 : decode cX11_hills 23 = .ok (.aload_n 0, 1) := by decide +kernel
theorem dX11_hills_24 : decode cX11_hills 24 = .ok (.getfield 10, 3) := by decide +kernel
theorem dX11_hills_27 : decode cX11_hills 27 = .ok (.getfield 86, 3) := by decide +kernel
theorem dX11_hills_30 : decode cX11_hills 30 = .ok (.isub, 1) := by decide +kernel
theorem dX11_hills_31 : decode cX11_hills 31 = .ok (.ireturn, 1) := by decide +kernel
theorem dX11_hills_32 : decode cX11_hills 32 = .ok (.aload_n 0, 1) := by decide +kernel
theorem dX11_hills_33 : decode cX11_hills 33 = .ok (.getfield 19, 3) := by decide +kernel
theorem dX11_hills_36 : decode cX11_hills 36 = .ok (.getfield 89, 3) := by decide +kernel
theorem dX11_hills_39 : decode cX11_hills 39 = .ok (.astore_n 1, 1) := by decide +kernel
theorem dX11_hills_40 : decode cX11_hills 40 = .ok (.aload_n 0, 1) := by decide +kernel
theorem dX11_hills_41 : decode cX11_hills 41 = .ok (.getfield 19, 3) := by decide +kernel
theorem dX11_hills_44 : decode cX11_hills 44 = .ok (.aload_n 0, 1) := by decide +kernel
theorem dX11_hills_45 : decode cX11_hills 45 = .ok (.getfield 68, 3) := by decide +kernel
theorem dX11_hills_48 : decode cX11_hills 48 = .ok (.putfield 89, 3) := by decide +kernel
theorem dX11_hills_51 : decode cX11_hills 51 = .ok (.aload_n 0, 1) := by decide +kernel
theorem dX11_hills_52 : decode cX11_hills 52 = .ok (.aload_n 1, 1) := by decide +kernel
theorem dX11_hills_53 : decode cX11_hills 53 = .ok (.putfield 68, 3) := by decide +kernel
theorem dX11_hills_56 : decode cX11_hills 56 = .ok (.aload_n 0, 1) := by decide +kernel
theorem dX11_hills_57 : decode cX11_hills 57 = .ok (.getfield 19, 3) := by decide +kernel
theorem dX11_hills_60 : decode cX11_hills 60 = .ok (.getfield 92, 3) := by decide +kernel
theorem dX11_hills_63 : decode cX11_hills 63 = .ok (.aload_n 0, 1) := by decide +kernel
theorem dX11_hills_64 : decode cX11_hills 64 = .ok (.getfield 19, 3) := by decide +kernel
theorem dX11_hills_67 : decode cX11_hills 67 = .ok (.getfield 89, 3) := by decide +kernel
theorem dX11_hills_70 : decode cX11_hills 70 = .ok (.invokevirtual 96, 3) := by decide +kernel
theorem dX11_hills_73 : decode cX11_hills 73 = .ok (.aload_n 0, 1) := by decide +kernel
theorem dX11_hills_74 : decode cX11_hills 74 = .ok (.getfield 26, 3) := by decide +kernel
theorem dX11_hills_77 : decode cX11_hills 77 = .ok (.invokevirtual 101, 3) := by decide +kernel
theorem dX11_hills_80 : decode cX11_hills 80 = .ok (.aload_n 0, 1) := by decide +kernel
theorem dX11_hills_81 : decode cX11_hills 81 = .ok (.getfield 33, 3) := by decide +kernel
theorem dX11_hills_84 : decode cX11_hills 84 = .ok (.invokevirtual 104, 3) := by decide +kernel
theorem dX11_hills_87 : decode cX11_hills 87 = .ok (.aload_n 0, 1) := by decide +kernel
theorem dX11_hills_88 : decode cX11_hills 88 = .ok (.getfield 47, 3) := by decide +kernel
theorem dX11_hills_91 : decode cX11_hills 91 = .ok (.iconst 0, 1) := by decide +kernel
theorem dX11_hills_92 : decode cX11_hills 92 = .ok (.putfield 105, 3) := by decide +kernel
theorem dX11_hills_95 : decode cX11_hills 95 = .ok (.aload_n 0, 1) := by decide +kernel
theorem dX11_hills_96 : decode cX11_hills 96 = .ok (.getfield 54, 3) := by decide +kernel
theorem dX11_hills_99 : decode cX11_hills 99 = .ok (.iconst 0, 1) := by decide +kernel
theorem dX11_hills_100 : decode cX11_hills 100 = .ok (.putfield 108, 3) := by decide +kernel
theorem dX11_hills_103 : decode cX11_hills 103 = .ok (.aload_n 0, 1) := by decide +kernel
theorem dX11_hills_104 : decode cX11_hills 104 = .ok (.getfield 19, 3) := by decide +kernel
theorem dX11_hills_107 : decode cX11_hills 107 = .ok (.getfield 89, 3) := by decide +kernel
theorem dX11_hills_110 : decode cX11_hills 110 = .ok (.getfield 109, 3) := by decide +kernel
theorem dX11_hills_113 : decode cX11_hills 113 = .ok (.ireturn, 1) := by decide +kernel
theorem dX11_fault_0 : decode cX11_fault 0 = .ok (.aload_n 0, 1) := by decide +kernel
theorem dX11_fault_1 : decode cX11_fault 1 = .ok (.getfield 10, 3) := by decide +kernel
theorem dX11_fault_4 : decode cX11_fault 4 = .ok (.getfield 112, 3) := by decide +kernel
theorem dX11_fault_7 : decode cX11_fault 7 = .ok (.ireturn, 1) := by decide +kernel
theorem dX11_told_0 : decode cX11_told 0 = .ok (.aload_n 0, 1) := by decide +kernel
theorem dX11_told_1 : decode cX11_told 1 = .ok (.getfield 19, 3) := by decide +kernel
theorem dX11_told_4 : decode cX11_told 4 = .ok (.getfield 92, 3) := by decide +kernel
theorem dX11_told_7 : decode cX11_told 7 = .ok (.astore_n 2, 1) := by decide +kernel
theorem dX11_told_8 : decode cX11_told 8 = .ok (.iload_n 1, 1) := by decide +kernel
theorem dX11_told_9 : decode cX11_told 9 = .ok (.tableswitch 269 0 18 #[91, 96, 107, 118, 129, 137, 142, 147, 155, 163, 168, 184, 192, 200, 208, 223, 238, 253, 261], 91) := by decide +kernel
theorem dX11_told_100 : decode cX11_told 100 = .ok (.aload_n 2, 1) := by decide +kernel
theorem dX11_told_101 : decode cX11_told 101 = .ok (.getfield 115, 3) := by decide +kernel
theorem dX11_told_104 : decode cX11_told 104 = .ok (.ireturn, 1) := by decide +kernel
theorem dX11_told_105 : decode cX11_told 105 = .ok (.aload_n 0, 1) := by decide +kernel
theorem dX11_told_106 : decode cX11_told 106 = .ok (.getfield 19, 3) := by decide +kernel
theorem dX11_told_109 : decode cX11_told 109 = .ok (.getfield 89, 3) := by decide +kernel
theorem dX11_told_112 : decode cX11_told 112 = .ok (.getfield 118, 3) := by decide +kernel
theorem dX11_told_115 : decode cX11_told 115 = .ok (.ireturn, 1) := by decide +kernel
theorem dX11_told_116 : decode cX11_told 116 = .ok (.aload_n 0, 1) := by decide +kernel
theorem dX11_told_117 : decode cX11_told 117 = .ok (.getfield 19, 3) := by decide +kernel
theorem dX11_told_120 : decode cX11_told 120 = .ok (.getfield 89, 3) := by decide +kernel
theorem dX11_told_123 : decode cX11_told 123 = .ok (.getfield 121, 3) := by decide +kernel
theorem dX11_told_126 : decode cX11_told 126 = .ok (.ireturn, 1) := by decide +kernel
theorem dX11_told_127 : decode cX11_told 127 = .ok (.aload_n 0, 1) := by decide +kernel
theorem dX11_told_128 : decode cX11_told 128 = .ok (.getfield 19, 3) := by decide +kernel
theorem dX11_told_131 : decode cX11_told 131 = .ok (.getfield 89, 3) := by decide +kernel
theorem dX11_told_134 : decode cX11_told 134 = .ok (.getfield 109, 3) := by decide +kernel
theorem dX11_told_137 : decode cX11_told 137 = .ok (.ireturn, 1) := by decide +kernel
theorem dX11_told_138 : decode cX11_told 138 = .ok (.aload_n 0, 1) := by decide +kernel
theorem dX11_told_139 : decode cX11_told 139 = .ok (.getfield 10, 3) := by decide +kernel
theorem dX11_told_142 : decode cX11_told 142 = .ok (.getfield 73, 3) := by decide +kernel
theorem dX11_told_145 : decode cX11_told 145 = .ok (.ireturn, 1) := by decide +kernel
theorem dX11_told_146 : decode cX11_told 146 = .ok (.aload_n 2, 1) := by decide +kernel
theorem dX11_told_147 : decode cX11_told 147 = .ok (.getfield 124, 3) := by decide +kernel
theorem dX11_told_150 : decode cX11_told 150 = .ok (.ireturn, 1) := by decide +kernel
theorem dX11_told_151 : decode cX11_told 151 = .ok (.aload_n 2, 1) := by decide +kernel
theorem dX11_told_152 : decode cX11_told 152 = .ok (.getfield 127, 3) := by decide +kernel
theorem dX11_told_155 : decode cX11_told 155 = .ok (.ireturn, 1) := by decide +kernel
theorem dX11_told_156 : decode cX11_told 156 = .ok (.aload_n 0, 1) := by decide +kernel
theorem dX11_told_157 : decode cX11_told 157 = .ok (.getfield 19, 3) := by decide +kernel
theorem dX11_told_160 : decode cX11_told 160 = .ok (.invokevirtual 130, 3) := by decide +kernel
theorem dX11_told_163 : decode cX11_told 163 = .ok (.ireturn, 1) := by decide +kernel
theorem dX11_told_164 : decode cX11_told 164 = .ok (.aload_n 0, 1) := by decide +kernel
theorem dX11_told_165 : decode cX11_told 165 = .ok (.getfield 19, 3) := by decide +kernel
theorem dX11_told_168 : decode cX11_told 168 = .ok (.invokevirtual 134, 3) := by decide +kernel
theorem dX11_told_171 : decode cX11_told 171 = .ok (.ireturn, 1) := by decide +kernel
theorem dX11_told_172 : decode cX11_told 172 = .ok (.aload_n 2, 1) := by decide +kernel
theorem dX11_told_173 : decode cX11_told 173 = .ok (.getfield 137, 3) := by decide +kernel
theorem dX11_told_176 : decode cX11_told 176 = .ok (.ireturn, 1) := by decide +kernel
theorem dX11_told_177 : decode cX11_told 177 = .ok (.aload_n 0, 1) := by decide +kernel
theorem dX11_told_178 : decode cX11_told 178 = .ok (.getfield 19, 3) := by decide +kernel
theorem dX11_told_181 : decode cX11_told 181 = .ok (.invokevirtual 140, 3) := by decide +kernel
theorem dX11_told_184 : decode cX11_told 184 = .ok (.ifCond .eq 7, 3) := by decide +kernel
theorem dX11_told_187 : decode cX11_told 187 = .ok (.iconst 1, 1) := by decide +kernel
theorem dX11_told_188 : decode cX11_told 188 = .ok (.goto 4, 3) := by decide +kernel
theorem dX11_told_191 : decode cX11_told 191 = .ok (.iconst 0, 1) := by decide +kernel
theorem dX11_told_192 : decode cX11_told 192 = .ok (.ireturn, 1) := by decide +kernel
theorem dX11_told_193 : decode cX11_told 193 = .ok (.aload_n 0, 1) := by decide +kernel
theorem dX11_told_194 : decode cX11_told 194 = .ok (.getfield 19, 3) := by decide +kernel
theorem dX11_told_197 : decode cX11_told 197 = .ok (.invokevirtual 144, 3) := by decide +kernel
theorem dX11_told_200 : decode cX11_told 200 = .ok (.ireturn, 1) := by decide +kernel
theorem dX11_told_201 : decode cX11_told 201 = .ok (.aload_n 0, 1) := by decide +kernel
theorem dX11_told_202 : decode cX11_told 202 = .ok (.getfield 19, 3) := by decide +kernel
theorem dX11_told_205 : decode cX11_told 205 = .ok (.invokevirtual 147, 3) := by decide +kernel
theorem dX11_told_208 : decode cX11_told 208 = .ok (.ireturn, 1) := by decide +kernel
theorem dX11_told_209 : decode cX11_told 209 = .ok (.aload_n 0, 1) := by decide +kernel
theorem dX11_told_210 : decode cX11_told 210 = .ok (.getfield 47, 3) := by decide +kernel
theorem dX11_told_213 : decode cX11_told 213 = .ok (.getfield 105, 3) := by decide +kernel
theorem dX11_told_216 : decode cX11_told 216 = .ok (.ireturn, 1) := by decide +kernel
theorem dX11_told_217 : decode cX11_told 217 = .ok (.aload_n 0, 1) := by decide +kernel
theorem dX11_told_218 : decode cX11_told 218 = .ok (.getfield 47, 3) := by decide +kernel
theorem dX11_told_221 : decode cX11_told 221 = .ok (.aload_n 0, 1) := by decide +kernel
theorem dX11_told_222 : decode cX11_told 222 = .ok (.getfield 19, 3) := by decide +kernel
theorem dX11_told_225 : decode cX11_told 225 = .ok (.getfield 89, 3) := by decide +kernel
theorem dX11_told_228 : decode cX11_told 228 = .ok (.invokevirtual 150, 3) := by decide +kernel
theorem dX11_told_231 : decode cX11_told 231 = .ok (.ireturn, 1) := by decide +kernel
theorem dX11_told_232 : decode cX11_told 232 = .ok (.aload_n 0, 1) := by decide +kernel
theorem dX11_told_233 : decode cX11_told 233 = .ok (.getfield 47, 3) := by decide +kernel
theorem dX11_told_236 : decode cX11_told 236 = .ok (.aload_n 0, 1) := by decide +kernel
theorem dX11_told_237 : decode cX11_told 237 = .ok (.getfield 19, 3) := by decide +kernel
theorem dX11_told_240 : decode cX11_told 240 = .ok (.getfield 89, 3) := by decide +kernel
theorem dX11_told_243 : decode cX11_told 243 = .ok (.invokevirtual 154, 3) := by decide +kernel
theorem dX11_told_246 : decode cX11_told 246 = .ok (.ireturn, 1) := by decide +kernel
theorem dX11_told_247 : decode cX11_told 247 = .ok (.aload_n 0, 1) := by decide +kernel
theorem dX11_told_248 : decode cX11_told 248 = .ok (.getfield 47, 3) := by decide +kernel
theorem dX11_told_251 : decode cX11_told 251 = .ok (.aload_n 0, 1) := by decide +kernel
theorem dX11_told_252 : decode cX11_told 252 = .ok (.getfield 19, 3) := by decide +kernel
theorem dX11_told_255 : decode cX11_told 255 = .ok (.getfield 89, 3) := by decide +kernel
theorem dX11_told_258 : decode cX11_told 258 = .ok (.invokevirtual 157, 3) := by decide +kernel
theorem dX11_told_261 : decode cX11_told 261 = .ok (.ireturn, 1) := by decide +kernel
theorem dX11_told_262 : decode cX11_told 262 = .ok (.aload_n 0, 1) := by decide +kernel
theorem dX11_told_263 : decode cX11_told 263 = .ok (.getfield 54, 3) := by decide +kernel
theorem dX11_told_266 : decode cX11_told 266 = .ok (.getfield 108, 3) := by decide +kernel
theorem dX11_told_269 : decode cX11_told 269 = .ok (.ireturn, 1) := by decide +kernel
theorem dX11_told_270 : decode cX11_told 270 = .ok (.aload_n 0, 1) := by decide +kernel
theorem dX11_told_271 : decode cX11_told 271 = .ok (.getfield 26, 3) := by decide +kernel
theorem dX11_told_274 : decode cX11_told 274 = .ok (.getfield 160, 3) := by decide +kernel
theorem dX11_told_277 : decode cX11_told 277 = .ok (.ireturn, 1) := by decide +kernel
theorem dX11_told_278 : decode cX11_told 278 = .ok (.ldc 72, 2) := by decide +kernel
theorem dX11_told_280 : decode cX11_told 280 = .ok (.ireturn, 1) := by decide +kernel
theorem dX11_person_0 : decode cX11_person 0 = .ok (.aload_n 0, 1) := by decide +kernel
theorem dX11_person_1 : decode cX11_person 1 = .ok (.getfield 19, 3) := by decide +kernel
theorem dX11_person_4 : decode cX11_person 4 = .ok (.iload_n 1, 1) := by decide +kernel
theorem dX11_person_5 : decode cX11_person 5 = .ok (.invokevirtual 161, 3) := by decide +kernel
theorem dX11_person_8 : decode cX11_person 8 = .ok (.ifCond .ne 6, 3) := by decide +kernel
theorem dX11_person_11 : decode cX11_person 11 = .ok (.ldc 165, 2) := by decide +kernel
theorem dX11_person_13 : decode cX11_person 13 = .ok (.ireturn, 1) := by decide +kernel
theorem dX11_person_14 : decode cX11_person 14 = .ok (.iload_n 2, 1) := by decide +kernel
theorem dX11_person_15 : decode cX11_person 15 = .ok (.tableswitch 160 0 8 #[49, 62, 75, 88, 101, 114, 127, 136, 148], 49) := by decide +kernel
theorem dX11_person_64 : decode cX11_person 64 = .ok (.aload_n 0, 1) := by decide +kernel
theorem dX11_person_65 : decode cX11_person 65 = .ok (.getfield 19, 3) := by decide +kernel
theorem dX11_person_68 : decode cX11_person 68 = .ok (.getfield 89, 3) := by decide +kernel
theorem dX11_person_71 : decode cX11_person 71 = .ok (.getfield 166, 3) := by decide +kernel
theorem dX11_person_74 : decode cX11_person 74 = .ok (.iload_n 1, 1) := by decide +kernel
theorem dX11_person_75 : decode cX11_person 75 = .ok (.iaload, 1) := by decide +kernel
theorem dX11_person_76 : decode cX11_person 76 = .ok (.ireturn, 1) := by decide +kernel
theorem dX11_person_77 : decode cX11_person 77 = .ok (.aload_n 0, 1) := by decide +kernel
theorem dX11_person_78 : decode cX11_person 78 = .ok (.getfield 19, 3) := by decide +kernel
theorem dX11_person_81 : decode cX11_person 81 = .ok (.getfield 89, 3) := by decide +kernel
theorem dX11_person_84 : decode cX11_person 84 = .ok (.getfield 170, 3) := by decide +kernel
theorem dX11_person_87 : decode cX11_person 87 = .ok (.iload_n 1, 1) := by decide +kernel
theorem dX11_person_88 : decode cX11_person 88 = .ok (.iaload, 1) := by decide +kernel
theorem dX11_person_89 : decode cX11_person 89 = .ok (.ireturn, 1) := by decide +kernel
theorem dX11_person_90 : decode cX11_person 90 = .ok (.aload_n 0, 1) := by decide +kernel
theorem dX11_person_91 : decode cX11_person 91 = .ok (.getfield 19, 3) := by decide +kernel
theorem dX11_person_94 : decode cX11_person 94 = .ok (.getfield 92, 3) := by decide +kernel
theorem dX11_person_97 : decode cX11_person 97 = .ok (.getfield 173, 3) := by decide +kernel
theorem dX11_person_100 : decode cX11_person 100 = .ok (.iload_n 1, 1) := by decide +kernel
theorem dX11_person_101 : decode cX11_person 101 = .ok (.iaload, 1) := by decide +kernel
theorem dX11_person_102 : decode cX11_person 102 = .ok (.ireturn, 1) := by decide +kernel
theorem dX11_person_103 : decode cX11_person 103 = .ok (.aload_n 0, 1) := by decide +kernel
theorem dX11_person_104 : decode cX11_person 104 = .ok (.getfield 19, 3) := by decide +kernel
theorem dX11_person_107 : decode cX11_person 107 = .ok (.getfield 89, 3) := by decide +kernel
theorem dX11_person_110 : decode cX11_person 110 = .ok (.getfield 176, 3) := by decide +kernel
theorem dX11_person_113 : decode cX11_person 113 = .ok (.iload_n 1, 1) := by decide +kernel
theorem dX11_person_114 : decode cX11_person 114 = .ok (.iaload, 1) := by decide +kernel
theorem dX11_person_115 : decode cX11_person 115 = .ok (.ireturn, 1) := by decide +kernel
theorem dX11_person_116 : decode cX11_person 116 = .ok (.aload_n 0, 1) := by decide +kernel
theorem dX11_person_117 : decode cX11_person 117 = .ok (.getfield 19, 3) := by decide +kernel
theorem dX11_person_120 : decode cX11_person 120 = .ok (.getfield 92, 3) := by decide +kernel
theorem dX11_person_123 : decode cX11_person 123 = .ok (.getfield 179, 3) := by decide +kernel
theorem dX11_person_126 : decode cX11_person 126 = .ok (.iload_n 1, 1) := by decide +kernel
theorem dX11_person_127 : decode cX11_person 127 = .ok (.iaload, 1) := by decide +kernel
theorem dX11_person_128 : decode cX11_person 128 = .ok (.ireturn, 1) := by decide +kernel
theorem dX11_person_129 : decode cX11_person 129 = .ok (.aload_n 0, 1) := by decide +kernel
theorem dX11_person_130 : decode cX11_person 130 = .ok (.getfield 19, 3) := by decide +kernel
theorem dX11_person_133 : decode cX11_person 133 = .ok (.getfield 92, 3) := by decide +kernel
theorem dX11_person_136 : decode cX11_person 136 = .ok (.getfield 182, 3) := by decide +kernel
theorem dX11_person_139 : decode cX11_person 139 = .ok (.iload_n 1, 1) := by decide +kernel
theorem dX11_person_140 : decode cX11_person 140 = .ok (.iaload, 1) := by decide +kernel
theorem dX11_person_141 : decode cX11_person 141 = .ok (.ireturn, 1) := by decide +kernel
theorem dX11_person_142 : decode cX11_person 142 = .ok (.aload_n 0, 1) := by decide +kernel
theorem dX11_person_143 : decode cX11_person 143 = .ok (.getfield 19, 3) := by decide +kernel
theorem dX11_person_146 : decode cX11_person 146 = .ok (.iload_n 1, 1) := by decide +kernel
theorem dX11_person_147 : decode cX11_person 147 = .ok (.invokevirtual 185, 3) := by decide +kernel
theorem dX11_person_150 : decode cX11_person 150 = .ok (.ireturn, 1) := by decide +kernel
theorem dX11_person_151 : decode cX11_person 151 = .ok (.aload_n 0, 1) := by decide +kernel
theorem dX11_person_152 : decode cX11_person 152 = .ok (.getfield 19, 3) := by decide +kernel
theorem dX11_person_155 : decode cX11_person 155 = .ok (.getfield 89, 3) := by decide +kernel
theorem dX11_person_158 : decode cX11_person 158 = .ok (.iload_n 1, 1) := by decide +kernel
theorem dX11_person_159 : decode cX11_person 159 = .ok (.invokevirtual 189, 3) := by decide +kernel
theorem dX11_person_162 : decode cX11_person 162 = .ok (.ireturn, 1) := by decide +kernel
theorem dX11_person_163 : decode cX11_person 163 = .ok (.aload_n 0, 1) := by decide +kernel
theorem dX11_person_164 : decode cX11_person 164 = .ok (.getfield 19, 3) := by decide +kernel
theorem dX11_person_167 : decode cX11_person 167 = .ok (.getfield 89, 3) := by decide +kernel
theorem dX11_person_170 : decode cX11_person 170 = .ok (.iload_n 1, 1) := by decide +kernel
theorem dX11_person_171 : decode cX11_person 171 = .ok (.invokevirtual 192, 3) := by decide +kernel
theorem dX11_person_174 : decode cX11_person 174 = .ok (.ireturn, 1) := by decide +kernel
theorem dX11_person_175 : decode cX11_person 175 = .ok (.ldc 72, 2) := by decide +kernel
theorem dX11_person_177 : decode cX11_person 177 = .ok (.ireturn, 1) := by decide +kernel
theorem dX11_village_0 : decode cX11_village 0 = .ok (.aload_n 0, 1) := by decide +kernel
theorem dX11_village_1 : decode cX11_village 1 = .ok (.getfield 19, 3) := by decide +kernel
theorem dX11_village_4 : decode cX11_village 4 = .ok (.iload_n 1, 1) := by decide +kernel
theorem dX11_village_5 : decode cX11_village 5 = .ok (.invokevirtual 195, 3) := by decide +kernel
theorem dX11_village_8 : decode cX11_village 8 = .ok (.ifCond .ne 6, 3) := by decide +kernel
theorem dX11_village_11 : decode cX11_village 11 = .ok (.ldc 165, 2) := by decide +kernel
theorem dX11_village_13 : decode cX11_village 13 = .ok (.ireturn, 1) := by decide +kernel
theorem dX11_village_14 : decode cX11_village 14 = .ok (.iload_n 2, 1) := by decide +kernel
theorem dX11_village_15 : decode cX11_village 15 = .ok (.tableswitch 73 0 3 #[29, 42, 55, 64], 29) := by decide +kernel
theorem dX11_village_44 : decode cX11_village 44 = .ok (.aload_n 0, 1) := by decide +kernel
theorem dX11_village_45 : decode cX11_village 45 = .ok (.getfield 19, 3) := by decide +kernel
theorem dX11_village_48 : decode cX11_village 48 = .ok (.getfield 92, 3) := by decide +kernel
theorem dX11_village_51 : decode cX11_village 51 = .ok (.getfield 198, 3) := by decide +kernel
theorem dX11_village_54 : decode cX11_village 54 = .ok (.iload_n 1, 1) := by decide +kernel
theorem dX11_village_55 : decode cX11_village 55 = .ok (.iaload, 1) := by decide +kernel
theorem dX11_village_56 : decode cX11_village 56 = .ok (.ireturn, 1) := by decide +kernel
theorem dX11_village_57 : decode cX11_village 57 = .ok (.aload_n 0, 1) := by decide +kernel
theorem dX11_village_58 : decode cX11_village 58 = .ok (.getfield 19, 3) := by decide +kernel
theorem dX11_village_61 : decode cX11_village 61 = .ok (.getfield 89, 3) := by decide +kernel
theorem dX11_village_64 : decode cX11_village 64 = .ok (.getfield 201, 3) := by decide +kernel
theorem dX11_village_67 : decode cX11_village 67 = .ok (.iload_n 1, 1) := by decide +kernel
theorem dX11_village_68 : decode cX11_village 68 = .ok (.iaload, 1) := by decide +kernel
theorem dX11_village_69 : decode cX11_village 69 = .ok (.ireturn, 1) := by decide +kernel
theorem dX11_village_70 : decode cX11_village 70 = .ok (.aload_n 0, 1) := by decide +kernel
theorem dX11_village_71 : decode cX11_village 71 = .ok (.getfield 19, 3) := by decide +kernel
theorem dX11_village_74 : decode cX11_village 74 = .ok (.iload_n 1, 1) := by decide +kernel
theorem dX11_village_75 : decode cX11_village 75 = .ok (.invokevirtual 204, 3) := by decide +kernel
theorem dX11_village_78 : decode cX11_village 78 = .ok (.ireturn, 1) := by decide +kernel
theorem dX11_village_79 : decode cX11_village 79 = .ok (.aload_n 0, 1) := by decide +kernel
theorem dX11_village_80 : decode cX11_village 80 = .ok (.getfield 19, 3) := by decide +kernel
theorem dX11_village_83 : decode cX11_village 83 = .ok (.iload_n 1, 1) := by decide +kernel
theorem dX11_village_84 : decode cX11_village 84 = .ok (.invokevirtual 207, 3) := by decide +kernel
theorem dX11_village_87 : decode cX11_village 87 = .ok (.ireturn, 1) := by decide +kernel
theorem dX11_village_88 : decode cX11_village 88 = .ok (.ldc 72, 2) := by decide +kernel
theorem dX11_village_90 : decode cX11_village 90 = .ok (.ireturn, 1) := by decide +kernel
theorem dX11_tell_0 : decode cX11_tell 0 = .ok (.aload_n 0, 1) := by decide +kernel
theorem dX11_tell_1 : decode cX11_tell 1 = .ok (.getfield 19, 3) := by decide +kernel
theorem dX11_tell_4 : decode cX11_tell 4 = .ok (.iload_n 1, 1) := by decide +kernel
theorem dX11_tell_5 : decode cX11_tell 5 = .ok (.invokevirtual 161, 3) := by decide +kernel
theorem dX11_tell_8 : decode cX11_tell 8 = .ok (.ifCond .ne 6, 3) := by decide +kernel
theorem dX11_tell_11 : decode cX11_tell 11 = .ok (.ldc 165, 2) := by decide +kernel
theorem dX11_tell_13 : decode cX11_tell 13 = .ok (.ireturn, 1) := by decide +kernel
theorem dX11_tell_14 : decode cX11_tell 14 = .ok (.iload_n 2, 1) := by decide +kernel
theorem dX11_tell_15 : decode cX11_tell 15 = .ok (.ifCond .lt 9, 3) := by decide +kernel
theorem dX11_tell_18 : decode cX11_tell 18 = .ok (.iload_n 2, 1) := by decide +kernel
theorem dX11_tell_19 : decode cX11_tell 19 = .ok (.bipush 99, 2) := by decide +kernel
theorem dX11_tell_21 : decode cX11_tell 21 = .ok (.if_icmp .le 6, 3) := by decide +kernel
theorem dX11_tell_24 : decode cX11_tell 24 = .ok (.ldc 72, 2) := by decide +kernel
theorem dX11_tell_26 : decode cX11_tell 26 = .ok (.ireturn, 1) := by decide +kernel
theorem dX11_tell_27 : decode cX11_tell 27 = .ok (.aload_n 0, 1) := by decide +kernel
theorem dX11_tell_28 : decode cX11_tell 28 = .ok (.getfield 26, 3) := by decide +kernel
theorem dX11_tell_31 : decode cX11_tell 31 = .ok (.aload_n 0, 1) := by decide +kernel
theorem dX11_tell_32 : decode cX11_tell 32 = .ok (.getfield 19, 3) := by decide +kernel
theorem dX11_tell_35 : decode cX11_tell 35 = .ok (.getfield 92, 3) := by decide +kernel
theorem dX11_tell_38 : decode cX11_tell 38 = .ok (.invokevirtual 210, 3) := by decide +kernel
theorem dX11_tell_41 : decode cX11_tell 41 = .ok (.aload_n 0, 1) := by decide +kernel
theorem dX11_tell_42 : decode cX11_tell 42 = .ok (.getfield 19, 3) := by decide +kernel
theorem dX11_tell_45 : decode cX11_tell 45 = .ok (.getfield 92, 3) := by decide +kernel
theorem dX11_tell_48 : decode cX11_tell 48 = .ok (.getfield 179, 3) := by decide +kernel
theorem dX11_tell_51 : decode cX11_tell 51 = .ok (.iload_n 1, 1) := by decide +kernel
theorem dX11_tell_52 : decode cX11_tell 52 = .ok (.iaload, 1) := by decide +kernel
theorem dX11_tell_53 : decode cX11_tell 53 = .ok (.istore_n 3, 1) := by decide +kernel
theorem dX11_tell_54 : decode cX11_tell 54 = .ok (.aload_n 0, 1) := by decide +kernel
theorem dX11_tell_55 : decode cX11_tell 55 = .ok (.getfield 19, 3) := by decide +kernel
theorem dX11_tell_58 : decode cX11_tell 58 = .ok (.iload_n 1, 1) := by decide +kernel
theorem dX11_tell_59 : decode cX11_tell 59 = .ok (.iload_n 2, 1) := by decide +kernel
theorem dX11_tell_60 : decode cX11_tell 60 = .ok (.invokevirtual 214, 3) := by decide +kernel
theorem dX11_tell_63 : decode cX11_tell 63 = .ok (.iload_n 3, 1) := by decide +kernel
theorem dX11_tell_64 : decode cX11_tell 64 = .ok (.ireturn, 1) := by decide +kernel
theorem dX11_answer_0 : decode cX11_answer 0 = .ok (.aload_n 0, 1) := by decide +kernel
theorem dX11_answer_1 : decode cX11_answer 1 = .ok (.getfield 19, 3) := by decide +kernel
theorem dX11_answer_4 : decode cX11_answer 4 = .ok (.iload_n 1, 1) := by decide +kernel
theorem dX11_answer_5 : decode cX11_answer 5 = .ok (.invokevirtual 161, 3) := by decide +kernel
theorem dX11_answer_8 : decode cX11_answer 8 = .ok (.ifCond .eq 14, 3) := by decide +kernel
theorem dX11_answer_11 : decode cX11_answer 11 = .ok (.aload_n 0, 1) := by decide +kernel
theorem dX11_answer_12 : decode cX11_answer 12 = .ok (.getfield 19, 3) := by decide +kernel
theorem dX11_answer_15 : decode cX11_answer 15 = .ok (.iload_n 2, 1) := by decide +kernel
theorem dX11_answer_16 : decode cX11_answer 16 = .ok (.invokevirtual 161, 3) := by decide +kernel
theorem dX11_answer_19 : decode cX11_answer 19 = .ok (.ifCond .ne 6, 3) := by decide +kernel
theorem dX11_answer_22 : decode cX11_answer 22 = .ok (.ldc 165, 2) := by decide +kernel
theorem dX11_answer_24 : decode cX11_answer 24 = .ok (.ireturn, 1) := by decide +kernel
theorem dX11_answer_25 : decode cX11_answer 25 = .ok (.aload_n 0, 1) := by decide +kernel
theorem dX11_answer_26 : decode cX11_answer 26 = .ok (.getfield 19, 3) := by decide +kernel
theorem dX11_answer_29 : decode cX11_answer 29 = .ok (.iload_n 1, 1) := by decide +kernel
theorem dX11_answer_30 : decode cX11_answer 30 = .ok (.iload_n 2, 1) := by decide +kernel
theorem dX11_answer_31 : decode cX11_answer 31 = .ok (.invokevirtual 218, 3) := by decide +kernel
theorem dX11_answer_34 : decode cX11_answer 34 = .ok (.ifCond .ne 6, 3) := by decide +kernel
theorem dX11_answer_37 : decode cX11_answer 37 = .ok (.ldc 222, 2) := by decide +kernel
theorem dX11_answer_39 : decode cX11_answer 39 = .ok (.ireturn, 1) := by decide +kernel
theorem dX11_answer_40 : decode cX11_answer 40 = .ok (.aload_n 0, 1) := by decide +kernel
theorem dX11_answer_41 : decode cX11_answer 41 = .ok (.getfield 26, 3) := by decide +kernel
theorem dX11_answer_44 : decode cX11_answer 44 = .ok (.aload_n 0, 1) := by decide +kernel
theorem dX11_answer_45 : decode cX11_answer 45 = .ok (.getfield 19, 3) := by decide +kernel
theorem dX11_answer_48 : decode cX11_answer 48 = .ok (.getfield 92, 3) := by decide +kernel
theorem dX11_answer_51 : decode cX11_answer 51 = .ok (.invokevirtual 210, 3) := by decide +kernel
theorem dX11_answer_54 : decode cX11_answer 54 = .ok (.aload_n 0, 1) := by decide +kernel
theorem dX11_answer_55 : decode cX11_answer 55 = .ok (.getfield 19, 3) := by decide +kernel
theorem dX11_answer_58 : decode cX11_answer 58 = .ok (.iload_n 1, 1) := by decide +kernel
theorem dX11_answer_59 : decode cX11_answer 59 = .ok (.iload_n 2, 1) := by decide +kernel
theorem dX11_answer_60 : decode cX11_answer 60 = .ok (.invokevirtual 223, 3) := by decide +kernel
theorem dX11_answer_63 : decode cX11_answer 63 = .ok (.aload_n 0, 1) := by decide +kernel
theorem dX11_answer_64 : decode cX11_answer 64 = .ok (.getfield 19, 3) := by decide +kernel
theorem dX11_answer_67 : decode cX11_answer 67 = .ok (.getfield 92, 3) := by decide +kernel
theorem dX11_answer_70 : decode cX11_answer 70 = .ok (.getfield 179, 3) := by decide +kernel
theorem dX11_answer_73 : decode cX11_answer 73 = .ok (.iload_n 1, 1) := by decide +kernel
theorem dX11_answer_74 : decode cX11_answer 74 = .ok (.iaload, 1) := by decide +kernel
theorem dX11_answer_75 : decode cX11_answer 75 = .ok (.ireturn, 1) := by decide +kernel
theorem dX11_year_0 : decode cX11_year 0 = .ok (.aload_n 0, 1) := by decide +kernel
theorem dX11_year_1 : decode cX11_year 1 = .ok (.iload_n 1, 1) := by decide +kernel
theorem dX11_year_2 : decode cX11_year 2 = .ok (.invokevirtual 226, 3) := by decide +kernel
theorem dX11_year_5 : decode cX11_year 5 = .ok (.istore_n 2, 1) := by decide +kernel
theorem dX11_year_6 : decode cX11_year 6 = .ok (.iload_n 2, 1) := by decide +kernel
theorem dX11_year_7 : decode cX11_year 7 = .ok (.ifCond .eq 5, 3) := by decide +kernel
theorem dX11_year_10 : decode cX11_year 10 = .ok (.iload_n 2, 1) := by decide +kernel
theorem dX11_year_11 : decode cX11_year 11 = .ok (.ireturn, 1) := by decide +kernel
theorem dX11_year_12 : decode cX11_year 12 = .ok (.aload_n 0, 1) := by decide +kernel
theorem dX11_year_13 : decode cX11_year 13 = .ok (.getfield 26, 3) := by decide +kernel
theorem dX11_year_16 : decode cX11_year 16 = .ok (.aload_n 0, 1) := by decide +kernel
theorem dX11_year_17 : decode cX11_year 17 = .ok (.getfield 19, 3) := by decide +kernel
theorem dX11_year_20 : decode cX11_year 20 = .ok (.getfield 92, 3) := by decide +kernel
theorem dX11_year_23 : decode cX11_year 23 = .ok (.invokevirtual 210, 3) := by decide +kernel
theorem dX11_year_26 : decode cX11_year 26 = .ok (.iconst 0, 1) := by decide +kernel
theorem dX11_year_27 : decode cX11_year 27 = .ok (.istore_n 3, 1) := by decide +kernel
theorem dX11_year_28 : decode cX11_year 28 = .ok (.iload_n 3, 1) := by decide +kernel
theorem dX11_year_29 : decode cX11_year 29 = .ok (.iload_n 1, 1) := by decide +kernel
theorem dX11_year_30 : decode cX11_year 30 = .ok (.if_icmp .ge 16, 3) := by decide +kernel
theorem dX11_year_33 : decode cX11_year 33 = .ok (.aload_n 0, 1) := by decide +kernel
theorem dX11_year_34 : decode cX11_year 34 = .ok (.getfield 19, 3) := by decide +kernel
theorem dX11_year_37 : decode cX11_year 37 = .ok (.invokevirtual 229, 3) := by decide +kernel
theorem dX11_year_40 : decode cX11_year 40 = .ok (.iinc 3 1, 3) := by decide +kernel
theorem dX11_year_43 : decode cX11_year 43 = .ok (.goto (-15), 3) := by decide +kernel
theorem dX11_year_46 : decode cX11_year 46 = .ok (.aload_n 0, 1) := by decide +kernel
theorem dX11_year_47 : decode cX11_year 47 = .ok (.getfield 19, 3) := by decide +kernel
theorem dX11_year_50 : decode cX11_year 50 = .ok (.getfield 92, 3) := by decide +kernel
theorem dX11_year_53 : decode cX11_year 53 = .ok (.getfield 127, 3) := by decide +kernel
theorem dX11_year_56 : decode cX11_year 56 = .ok (.ireturn, 1) := by decide +kernel
theorem dX11_wit_0 : decode cX11_wit 0 = .ok (.aload_n 0, 1) := by decide +kernel
theorem dX11_wit_1 : decode cX11_wit 1 = .ok (.getfield 19, 3) := by decide +kernel
theorem dX11_wit_4 : decode cX11_wit 4 = .ok (.iload_n 1, 1) := by decide +kernel
theorem dX11_wit_5 : decode cX11_wit 5 = .ok (.invokevirtual 161, 3) := by decide +kernel
theorem dX11_wit_8 : decode cX11_wit 8 = .ok (.ifCond .ne 6, 3) := by decide +kernel
theorem dX11_wit_11 : decode cX11_wit 11 = .ok (.ldc 165, 2) := by decide +kernel
theorem dX11_wit_13 : decode cX11_wit 13 = .ok (.ireturn, 1) := by decide +kernel
theorem dX11_wit_14 : decode cX11_wit 14 = .ok (.iload_n 2, 1) := by decide +kernel
theorem dX11_wit_15 : decode cX11_wit 15 = .ok (.iconst 1, 1) := by decide +kernel
theorem dX11_wit_16 : decode cX11_wit 16 = .ok (.if_icmp .lt 9, 3) := by decide +kernel
theorem dX11_wit_19 : decode cX11_wit 19 = .ok (.iload_n 2, 1) := by decide +kernel
theorem dX11_wit_20 : decode cX11_wit 20 = .ok (.bipush 9, 2) := by decide +kernel
theorem dX11_wit_22 : decode cX11_wit 22 = .ok (.if_icmp .le 6, 3) := by decide +kernel
theorem dX11_wit_25 : decode cX11_wit 25 = .ok (.ldc 72, 2) := by decide +kernel
theorem dX11_wit_27 : decode cX11_wit 27 = .ok (.ireturn, 1) := by decide +kernel
theorem dX11_wit_28 : decode cX11_wit 28 = .ok (.aload_n 0, 1) := by decide +kernel
theorem dX11_wit_29 : decode cX11_wit 29 = .ok (.getfield 26, 3) := by decide +kernel
theorem dX11_wit_32 : decode cX11_wit 32 = .ok (.aload_n 0, 1) := by decide +kernel
theorem dX11_wit_33 : decode cX11_wit 33 = .ok (.getfield 19, 3) := by decide +kernel
theorem dX11_wit_36 : decode cX11_wit 36 = .ok (.getfield 92, 3) := by decide +kernel
theorem dX11_wit_39 : decode cX11_wit 39 = .ok (.invokevirtual 210, 3) := by decide +kernel
theorem dX11_wit_42 : decode cX11_wit 42 = .ok (.aload_n 0, 1) := by decide +kernel
theorem dX11_wit_43 : decode cX11_wit 43 = .ok (.getfield 19, 3) := by decide +kernel
theorem dX11_wit_46 : decode cX11_wit 46 = .ok (.getfield 92, 3) := by decide +kernel
theorem dX11_wit_49 : decode cX11_wit 49 = .ok (.getfield 173, 3) := by decide +kernel
theorem dX11_wit_52 : decode cX11_wit 52 = .ok (.iload_n 1, 1) := by decide +kernel
theorem dX11_wit_53 : decode cX11_wit 53 = .ok (.iaload, 1) := by decide +kernel
theorem dX11_wit_54 : decode cX11_wit 54 = .ok (.istore_n 3, 1) := by decide +kernel
theorem dX11_wit_55 : decode cX11_wit 55 = .ok (.aload_n 0, 1) := by decide +kernel
theorem dX11_wit_56 : decode cX11_wit 56 = .ok (.getfield 19, 3) := by decide +kernel
theorem dX11_wit_59 : decode cX11_wit 59 = .ok (.getfield 92, 3) := by decide +kernel
theorem dX11_wit_62 : decode cX11_wit 62 = .ok (.getfield 173, 3) := by decide +kernel
theorem dX11_wit_65 : decode cX11_wit 65 = .ok (.iload_n 1, 1) := by decide +kernel
theorem dX11_wit_66 : decode cX11_wit 66 = .ok (.iload_n 2, 1) := by decide +kernel
theorem dX11_wit_67 : decode cX11_wit 67 = .ok (.iastore, 1) := by decide +kernel
theorem dX11_wit_68 : decode cX11_wit 68 = .ok (.iload_n 3, 1) := by decide +kernel
theorem dX11_wit_69 : decode cX11_wit 69 = .ok (.ireturn, 1) := by decide +kernel
theorem dX11_bear_0 : decode cX11_bear 0 = .ok (.aload_n 0, 1) := by decide +kernel
theorem dX11_bear_1 : decode cX11_bear 1 = .ok (.getfield 19, 3) := by decide +kernel
theorem dX11_bear_4 : decode cX11_bear 4 = .ok (.iload_n 1, 1) := by decide +kernel
theorem dX11_bear_5 : decode cX11_bear 5 = .ok (.invokevirtual 195, 3) := by decide +kernel
theorem dX11_bear_8 : decode cX11_bear 8 = .ok (.ifCond .ne 6, 3) := by decide +kernel
theorem dX11_bear_11 : decode cX11_bear 11 = .ok (.ldc 165, 2) := by decide +kernel
theorem dX11_bear_13 : decode cX11_bear 13 = .ok (.ireturn, 1) := by decide +kernel
theorem dX11_bear_14 : decode cX11_bear 14 = .ok (.iload_n 2, 1) := by decide +kernel
theorem dX11_bear_15 : decode cX11_bear 15 = .ok (.ifCond .lt 9, 3) := by decide +kernel
theorem dX11_bear_18 : decode cX11_bear 18 = .ok (.iload_n 2, 1) := by decide +kernel
theorem dX11_bear_19 : decode cX11_bear 19 = .ok (.bipush 99, 2) := by decide +kernel
theorem dX11_bear_21 : decode cX11_bear 21 = .ok (.if_icmp .le 6, 3) := by decide +kernel
theorem dX11_bear_24 : decode cX11_bear 24 = .ok (.ldc 72, 2) := by decide +kernel
theorem dX11_bear_26 : decode cX11_bear 26 = .ok (.ireturn, 1) := by decide +kernel
theorem dX11_bear_27 : decode cX11_bear 27 = .ok (.aload_n 0, 1) := by decide +kernel
theorem dX11_bear_28 : decode cX11_bear 28 = .ok (.getfield 26, 3) := by decide +kernel
theorem dX11_bear_31 : decode cX11_bear 31 = .ok (.aload_n 0, 1) := by decide +kernel
theorem dX11_bear_32 : decode cX11_bear 32 = .ok (.getfield 19, 3) := by decide +kernel
theorem dX11_bear_35 : decode cX11_bear 35 = .ok (.getfield 92, 3) := by decide +kernel
theorem dX11_bear_38 : decode cX11_bear 38 = .ok (.invokevirtual 210, 3) := by decide +kernel
theorem dX11_bear_41 : decode cX11_bear 41 = .ok (.aload_n 0, 1) := by decide +kernel
theorem dX11_bear_42 : decode cX11_bear 42 = .ok (.getfield 19, 3) := by decide +kernel
theorem dX11_bear_45 : decode cX11_bear 45 = .ok (.getfield 92, 3) := by decide +kernel
theorem dX11_bear_48 : decode cX11_bear 48 = .ok (.getfield 198, 3) := by decide +kernel
theorem dX11_bear_51 : decode cX11_bear 51 = .ok (.iload_n 1, 1) := by decide +kernel
theorem dX11_bear_52 : decode cX11_bear 52 = .ok (.iaload, 1) := by decide +kernel
theorem dX11_bear_53 : decode cX11_bear 53 = .ok (.istore_n 3, 1) := by decide +kernel
theorem dX11_bear_54 : decode cX11_bear 54 = .ok (.aload_n 0, 1) := by decide +kernel
theorem dX11_bear_55 : decode cX11_bear 55 = .ok (.getfield 19, 3) := by decide +kernel
theorem dX11_bear_58 : decode cX11_bear 58 = .ok (.getfield 92, 3) := by decide +kernel
theorem dX11_bear_61 : decode cX11_bear 61 = .ok (.getfield 198, 3) := by decide +kernel
theorem dX11_bear_64 : decode cX11_bear 64 = .ok (.iload_n 1, 1) := by decide +kernel
theorem dX11_bear_65 : decode cX11_bear 65 = .ok (.iload_n 2, 1) := by decide +kernel
theorem dX11_bear_66 : decode cX11_bear 66 = .ok (.iastore, 1) := by decide +kernel
theorem dX11_bear_67 : decode cX11_bear 67 = .ok (.iload_n 3, 1) := by decide +kernel
theorem dX11_bear_68 : decode cX11_bear 68 = .ok (.ireturn, 1) := by decide +kernel
theorem dX11_drift_0 : decode cX11_drift 0 = .ok (.aload_n 0, 1) := by decide +kernel
theorem dX11_drift_1 : decode cX11_drift 1 = .ok (.iload_n 1, 1) := by decide +kernel
theorem dX11_drift_2 : decode cX11_drift 2 = .ok (.invokevirtual 226, 3) := by decide +kernel
theorem dX11_drift_5 : decode cX11_drift 5 = .ok (.istore_n 2, 1) := by decide +kernel
theorem dX11_drift_6 : decode cX11_drift 6 = .ok (.iload_n 2, 1) := by decide +kernel
theorem dX11_drift_7 : decode cX11_drift 7 = .ok (.ifCond .eq 5, 3) := by decide +kernel
theorem dX11_drift_10 : decode cX11_drift 10 = .ok (.iload_n 2, 1) := by decide +kernel
theorem dX11_drift_11 : decode cX11_drift 11 = .ok (.ireturn, 1) := by decide +kernel
theorem dX11_drift_12 : decode cX11_drift 12 = .ok (.aload_n 0, 1) := by decide +kernel
theorem dX11_drift_13 : decode cX11_drift 13 = .ok (.getfield 26, 3) := by decide +kernel
theorem dX11_drift_16 : decode cX11_drift 16 = .ok (.aload_n 0, 1) := by decide +kernel
theorem dX11_drift_17 : decode cX11_drift 17 = .ok (.getfield 19, 3) := by decide +kernel
theorem dX11_drift_20 : decode cX11_drift 20 = .ok (.getfield 92, 3) := by decide +kernel
theorem dX11_drift_23 : decode cX11_drift 23 = .ok (.invokevirtual 210, 3) := by decide +kernel
theorem dX11_drift_26 : decode cX11_drift 26 = .ok (.iconst 0, 1) := by decide +kernel
theorem dX11_drift_27 : decode cX11_drift 27 = .ok (.istore_n 3, 1) := by decide +kernel
theorem dX11_drift_28 : decode cX11_drift 28 = .ok (.iload_n 3, 1) := by decide +kernel
theorem dX11_drift_29 : decode cX11_drift 29 = .ok (.iload_n 1, 1) := by decide +kernel
theorem dX11_drift_30 : decode cX11_drift 30 = .ok (.if_icmp .ge 27, 3) := by decide +kernel
theorem dX11_drift_33 : decode cX11_drift 33 = .ok (.aload_n 0, 1) := by decide +kernel
theorem dX11_drift_34 : decode cX11_drift 34 = .ok (.getfield 19, 3) := by decide +kernel
theorem dX11_drift_37 : decode cX11_drift 37 = .ok (.aload_n 0, 1) := by decide +kernel
theorem dX11_drift_38 : decode cX11_drift 38 = .ok (.getfield 40, 3) := by decide +kernel
theorem dX11_drift_41 : decode cX11_drift 41 = .ok (.invokevirtual 232, 3) := by decide +kernel
theorem dX11_drift_44 : decode cX11_drift 44 = .ok (.aload_n 0, 1) := by decide +kernel
theorem dX11_drift_45 : decode cX11_drift 45 = .ok (.getfield 19, 3) := by decide +kernel
theorem dX11_drift_48 : decode cX11_drift 48 = .ok (.invokevirtual 229, 3) := by decide +kernel
theorem dX11_drift_51 : decode cX11_drift 51 = .ok (.iinc 3 1, 3) := by decide +kernel
theorem dX11_drift_54 : decode cX11_drift 54 = .ok (.goto (-26), 3) := by decide +kernel
theorem dX11_drift_57 : decode cX11_drift 57 = .ok (.aload_n 0, 1) := by decide +kernel
theorem dX11_drift_58 : decode cX11_drift 58 = .ok (.getfield 19, 3) := by decide +kernel
theorem dX11_drift_61 : decode cX11_drift 61 = .ok (.getfield 92, 3) := by decide +kernel
theorem dX11_drift_64 : decode cX11_drift 64 = .ok (.getfield 127, 3) := by decide +kernel
theorem dX11_drift_67 : decode cX11_drift 67 = .ok (.ireturn, 1) := by decide +kernel
theorem dX11_undo_0 : decode cX11_undo 0 = .ok (.aload_n 0, 1) := by decide +kernel
theorem dX11_undo_1 : decode cX11_undo 1 = .ok (.getfield 26, 3) := by decide +kernel
theorem dX11_undo_4 : decode cX11_undo 4 = .ok (.getfield 160, 3) := by decide +kernel
theorem dX11_undo_7 : decode cX11_undo 7 = .ok (.ifCond .ne 6, 3) := by decide +kernel
theorem dX11_undo_10 : decode cX11_undo 10 = .ok (.ldc 222, 2) := by decide +kernel
theorem dX11_undo_12 : decode cX11_undo 12 = .ok (.ireturn, 1) := by decide +kernel
theorem dX11_undo_13 : decode cX11_undo 13 = .ok (.aload_n 0, 1) := by decide +kernel
theorem dX11_undo_14 : decode cX11_undo 14 = .ok (.getfield 26, 3) := by decide +kernel
theorem dX11_undo_17 : decode cX11_undo 17 = .ok (.aload_n 0, 1) := by decide +kernel
theorem dX11_undo_18 : decode cX11_undo 18 = .ok (.getfield 19, 3) := by decide +kernel
theorem dX11_undo_21 : decode cX11_undo 21 = .ok (.getfield 92, 3) := by decide +kernel
theorem dX11_undo_24 : decode cX11_undo 24 = .ok (.invokevirtual 236, 3) := by decide +kernel
theorem dX11_undo_27 : decode cX11_undo 27 = .ok (.aload_n 0, 1) := by decide +kernel
theorem dX11_undo_28 : decode cX11_undo 28 = .ok (.getfield 26, 3) := by decide +kernel
theorem dX11_undo_31 : decode cX11_undo 31 = .ok (.getfield 160, 3) := by decide +kernel
theorem dX11_undo_34 : decode cX11_undo 34 = .ok (.ireturn, 1) := by decide +kernel
theorem dX11_down_0 : decode cX11_down 0 = .ok (.aload_n 0, 1) := by decide +kernel
theorem dX11_down_1 : decode cX11_down 1 = .ok (.getfield 19, 3) := by decide +kernel
theorem dX11_down_4 : decode cX11_down 4 = .ok (.iload_n 1, 1) := by decide +kernel
theorem dX11_down_5 : decode cX11_down 5 = .ok (.invokevirtual 161, 3) := by decide +kernel
theorem dX11_down_8 : decode cX11_down 8 = .ok (.ifCond .ne 6, 3) := by decide +kernel
theorem dX11_down_11 : decode cX11_down 11 = .ok (.ldc 165, 2) := by decide +kernel
theorem dX11_down_13 : decode cX11_down 13 = .ok (.ireturn, 1) := by decide +kernel
theorem dX11_down_14 : decode cX11_down 14 = .ok (.iload_n 2, 1) := by decide +kernel
theorem dX11_down_15 : decode cX11_down 15 = .ok (.ifCond .lt 18, 3) := by decide +kernel
theorem dX11_down_18 : decode cX11_down 18 = .ok (.iload_n 2, 1) := by decide +kernel
theorem dX11_down_19 : decode cX11_down 19 = .ok (.bipush 99, 2) := by decide +kernel
theorem dX11_down_21 : decode cX11_down 21 = .ok (.if_icmp .gt 12, 3) := by decide +kernel
theorem dX11_down_24 : decode cX11_down 24 = .ok (.iload_n 3, 1) := by decide +kernel
theorem dX11_down_25 : decode cX11_down 25 = .ok (.ifCond .lt 8, 3) := by decide +kernel
theorem dX11_down_28 : decode cX11_down 28 = .ok (.iload_n 3, 1) := by decide +kernel
theorem dX11_down_29 : decode cX11_down 29 = .ok (.iconst 1, 1) := by decide +kernel
theorem dX11_down_30 : decode cX11_down 30 = .ok (.if_icmp .le 6, 3) := by decide +kernel
theorem dX11_down_33 : decode cX11_down 33 = .ok (.ldc 72, 2) := by decide +kernel
theorem dX11_down_35 : decode cX11_down 35 = .ok (.ireturn, 1) := by decide +kernel
theorem dX11_down_36 : decode cX11_down 36 = .ok (.aload_n 0, 1) := by decide +kernel
theorem dX11_down_37 : decode cX11_down 37 = .ok (.getfield 19, 3) := by decide +kernel
theorem dX11_down_40 : decode cX11_down 40 = .ok (.iload_n 1, 1) := by decide +kernel
theorem dX11_down_41 : decode cX11_down 41 = .ok (.iload_n 2, 1) := by decide +kernel
theorem dX11_down_42 : decode cX11_down 42 = .ok (.invokevirtual 239, 3) := by decide +kernel
theorem dX11_down_45 : decode cX11_down 45 = .ok (.iload_n 3, 1) := by decide +kernel
theorem dX11_down_46 : decode cX11_down 46 = .ok (.ifCond .ne 16, 3) := by decide +kernel
theorem dX11_down_49 : decode cX11_down 49 = .ok (.aload_n 0, 1) := by decide +kernel
theorem dX11_down_50 : decode cX11_down 50 = .ok (.getfield 19, 3) := by decide +kernel
theorem dX11_down_53 : decode cX11_down 53 = .ok (.getfield 242, 3) := by decide +kernel
theorem dX11_down_56 : decode cX11_down 56 = .ok (.getfield 246, 3) := by decide +kernel
theorem dX11_down_59 : decode cX11_down 59 = .ok (.goto 13, 3) := by decide +kernel
theorem dX11_down_62 : decode cX11_down 62 = .ok (.aload_n 0, 1) := by decide +kernel
theorem dX11_down_63 : decode cX11_down 63 = .ok (.getfield 19, 3) := by decide +kernel
theorem dX11_down_66 : decode cX11_down 66 = .ok (.getfield 242, 3) := by decide +kernel
theorem dX11_down_69 : decode cX11_down 69 = .ok (.getfield 251, 3) := by decide +kernel
theorem dX11_down_72 : decode cX11_down 72 = .ok (.ireturn, 1) := by decide +kernel
theorem dX11_best_0 : decode cX11_best 0 = .ok (.iload_n 1, 1) := by decide +kernel
theorem dX11_best_1 : decode cX11_best 1 = .ok (.ifCond .lt 9, 3) := by decide +kernel
theorem dX11_best_4 : decode cX11_best 4 = .ok (.iload_n 1, 1) := by decide +kernel
theorem dX11_best_5 : decode cX11_best 5 = .ok (.bipush 99, 2) := by decide +kernel
theorem dX11_best_7 : decode cX11_best 7 = .ok (.if_icmp .le 6, 3) := by decide +kernel
theorem dX11_best_10 : decode cX11_best 10 = .ok (.ldc 72, 2) := by decide +kernel
theorem dX11_best_12 : decode cX11_best 12 = .ok (.ireturn, 1) := by decide +kernel
theorem dX11_best_13 : decode cX11_best 13 = .ok (.aload_n 0, 1) := by decide +kernel
theorem dX11_best_14 : decode cX11_best 14 = .ok (.getfield 19, 3) := by decide +kernel
theorem dX11_best_17 : decode cX11_best 17 = .ok (.iload_n 1, 1) := by decide +kernel
theorem dX11_best_18 : decode cX11_best 18 = .ok (.invokevirtual 254, 3) := by decide +kernel
theorem dX11_best_21 : decode cX11_best 21 = .ok (.ireturn, 1) := by decide +kernel
theorem dX11_match_0 : decode cX11_match 0 = .ok (.iload_n 1, 1) := by decide +kernel
theorem dX11_match_1 : decode cX11_match 1 = .ok (.iconst (-1), 1) := by decide +kernel
theorem dX11_match_2 : decode cX11_match 2 = .ok (.if_icmp .eq 17, 3) := by decide +kernel
theorem dX11_match_5 : decode cX11_match 5 = .ok (.aload_n 0, 1) := by decide +kernel
theorem dX11_match_6 : decode cX11_match 6 = .ok (.getfield 19, 3) := by decide +kernel
theorem dX11_match_9 : decode cX11_match 9 = .ok (.iload_n 1, 1) := by decide +kernel
theorem dX11_match_10 : decode cX11_match 10 = .ok (.invokevirtual 161, 3) := by decide +kernel
theorem dX11_match_13 : decode cX11_match 13 = .ok (.ifCond .ne 6, 3) := by decide +kernel
theorem dX11_match_16 : decode cX11_match 16 = .ok (.ldc 165, 2) := by decide +kernel
theorem dX11_match_18 : decode cX11_match 18 = .ok (.ireturn, 1) := by decide +kernel
theorem dX11_match_19 : decode cX11_match 19 = .ok (.aload_n 0, 1) := by decide +kernel
theorem dX11_match_20 : decode cX11_match 20 = .ok (.getfield 61, 3) := by decide +kernel
theorem dX11_match_23 : decode cX11_match 23 = .ok (.aload_n 0, 1) := by decide +kernel
theorem dX11_match_24 : decode cX11_match 24 = .ok (.getfield 19, 3) := by decide +kernel
theorem dX11_match_27 : decode cX11_match 27 = .ok (.invokevirtual 257, 3) := by decide +kernel
theorem dX11_match_30 : decode cX11_match 30 = .ok (.iload_n 1, 1) := by decide +kernel
theorem dX11_match_31 : decode cX11_match 31 = .ok (.iconst (-1), 1) := by decide +kernel
theorem dX11_match_32 : decode cX11_match 32 = .ok (.if_icmp .ne 13, 3) := by decide +kernel
theorem dX11_match_35 : decode cX11_match 35 = .ok (.aload_n 0, 1) := by decide +kernel
theorem dX11_match_36 : decode cX11_match 36 = .ok (.getfield 61, 3) := by decide +kernel
theorem dX11_match_39 : decode cX11_match 39 = .ok (.invokevirtual 261, 3) := by decide +kernel
theorem dX11_match_42 : decode cX11_match 42 = .ok (.goto 12, 3) := by decide +kernel
theorem dX11_match_45 : decode cX11_match 45 = .ok (.aload_n 0, 1) := by decide +kernel
theorem dX11_match_46 : decode cX11_match 46 = .ok (.getfield 61, 3) := by decide +kernel
theorem dX11_match_49 : decode cX11_match 49 = .ok (.getfield 264, 3) := by decide +kernel
theorem dX11_match_52 : decode cX11_match 52 = .ok (.iload_n 1, 1) := by decide +kernel
theorem dX11_match_53 : decode cX11_match 53 = .ok (.iaload, 1) := by decide +kernel
theorem dX11_match_54 : decode cX11_match 54 = .ok (.ireturn, 1) := by decide +kernel
theorem dX11_shares_0 : decode cX11_shares 0 = .ok (.aload_n 0, 1) := by decide +kernel
theorem dX11_shares_1 : decode cX11_shares 1 = .ok (.getfield 19, 3) := by decide +kernel
theorem dX11_shares_4 : decode cX11_shares 4 = .ok (.iload_n 2, 1) := by decide +kernel
theorem dX11_shares_5 : decode cX11_shares 5 = .ok (.invokevirtual 195, 3) := by decide +kernel
theorem dX11_shares_8 : decode cX11_shares 8 = .ok (.ifCond .ne 6, 3) := by decide +kernel
theorem dX11_shares_11 : decode cX11_shares 11 = .ok (.ldc 165, 2) := by decide +kernel
theorem dX11_shares_13 : decode cX11_shares 13 = .ok (.ireturn, 1) := by decide +kernel
theorem dX11_shares_14 : decode cX11_shares 14 = .ok (.iload_n 1, 1) := by decide +kernel
theorem dX11_shares_15 : decode cX11_shares 15 = .ok (.ifCond .lt 10, 3) := by decide +kernel
theorem dX11_shares_18 : decode cX11_shares 18 = .ok (.iload_n 1, 1) := by decide +kernel
theorem dX11_shares_19 : decode cX11_shares 19 = .ok (.sipush 999, 3) := by decide +kernel
theorem dX11_shares_22 : decode cX11_shares 22 = .ok (.if_icmp .le 6, 3) := by decide +kernel
theorem dX11_shares_25 : decode cX11_shares 25 = .ok (.ldc 72, 2) := by decide +kernel
theorem dX11_shares_27 : decode cX11_shares 27 = .ok (.ireturn, 1) := by decide +kernel
theorem dX11_shares_28 : decode cX11_shares 28 = .ok (.aload_n 0, 1) := by decide +kernel
theorem dX11_shares_29 : decode cX11_shares 29 = .ok (.getfield 19, 3) := by decide +kernel
theorem dX11_shares_32 : decode cX11_shares 32 = .ok (.iload_n 1, 1) := by decide +kernel
theorem dX11_shares_33 : decode cX11_shares 33 = .ok (.iload_n 2, 1) := by decide +kernel
theorem dX11_shares_34 : decode cX11_shares 34 = .ok (.invokevirtual 267, 3) := by decide +kernel
theorem dX11_shares_37 : decode cX11_shares 37 = .ok (.ireturn, 1) := by decide +kernel
theorem dX11_dry_0 : decode cX11_dry 0 = .ok (.iload_n 1, 1) := by decide +kernel
theorem dX11_dry_1 : decode cX11_dry 1 = .ok (.ifCond .lt 19, 3) := by decide +kernel
theorem dX11_dry_4 : decode cX11_dry 4 = .ok (.iload_n 1, 1) := by decide +kernel
theorem dX11_dry_5 : decode cX11_dry 5 = .ok (.bipush 60, 2) := by decide +kernel
theorem dX11_dry_7 : decode cX11_dry 7 = .ok (.if_icmp .gt 13, 3) := by decide +kernel
theorem dX11_dry_10 : decode cX11_dry 10 = .ok (.iload_n 2, 1) := by decide +kernel
theorem dX11_dry_11 : decode cX11_dry 11 = .ok (.ifCond .lt 9, 3) := by decide +kernel
theorem dX11_dry_14 : decode cX11_dry 14 = .ok (.iload_n 2, 1) := by decide +kernel
theorem dX11_dry_15 : decode cX11_dry 15 = .ok (.bipush 100, 2) := by decide +kernel
theorem dX11_dry_17 : decode cX11_dry 17 = .ok (.if_icmp .le 6, 3) := by decide +kernel
theorem dX11_dry_20 : decode cX11_dry 20 = .ok (.ldc 72, 2) := by decide +kernel
theorem dX11_dry_22 : decode cX11_dry 22 = .ok (.ireturn, 1) := by decide +kernel
theorem dX11_dry_23 : decode cX11_dry 23 = .ok (.ldc2_w 271, 3) := by decide +kernel
theorem dX11_dry_26 : decode cX11_dry 26 = .ok (.lstore_n 3, 1) := by decide +kernel
theorem dX11_dry_27 : decode cX11_dry 27 = .ok (.iconst 0, 1) := by decide +kernel
theorem dX11_dry_28 : decode cX11_dry 28 = .ok (.istore 5, 2) := by decide +kernel
theorem dX11_dry_30 : decode cX11_dry 30 = .ok (.iload 5, 2) := by decide +kernel
theorem dX11_dry_32 : decode cX11_dry 32 = .ok (.iload_n 1, 1) := by decide +kernel
theorem dX11_dry_33 : decode cX11_dry 33 = .ok (.if_icmp .ge 18, 3) := by decide +kernel
theorem dX11_dry_36 : decode cX11_dry 36 = .ok (.lload_n 3, 1) := by decide +kernel
theorem dX11_dry_37 : decode cX11_dry 37 = .ok (.iload_n 2, 1) := by decide +kernel
theorem dX11_dry_38 : decode cX11_dry 38 = .ok (.i2l, 1) := by decide +kernel
theorem dX11_dry_39 : decode cX11_dry 39 = .ok (.lmul, 1) := by decide +kernel
theorem dX11_dry_40 : decode cX11_dry 40 = .ok (.ldc2_w 273, 3) := by decide +kernel
theorem dX11_dry_43 : decode cX11_dry 43 = .ok (.ldiv, 1) := by decide +kernel
theorem dX11_dry_44 : decode cX11_dry 44 = .ok (.lstore_n 3, 1) := by decide +kernel
theorem dX11_dry_45 : decode cX11_dry 45 = .ok (.iinc 5 1, 3) := by decide +kernel
theorem dX11_dry_48 : decode cX11_dry 48 = .ok (.goto (-18), 3) := by decide +kernel
theorem dX11_dry_51 : decode cX11_dry 51 = .ok (.lload_n 3, 1) := by decide +kernel
theorem dX11_dry_52 : decode cX11_dry 52 = .ok (.l2i, 1) := by decide +kernel
theorem dX11_dry_53 : decode cX11_dry 53 = .ok (.ireturn, 1) := by decide +kernel
theorem dX11_returned_0 : decode cX11_returned 0 = .ok (.iload_n 1, 1) := by decide +kernel
theorem dX11_returned_1 : decode cX11_returned 1 = .ok (.ifCond .lt 10, 3) := by decide +kernel
theorem dX11_returned_4 : decode cX11_returned 4 = .ok (.iload_n 1, 1) := by decide +kernel
theorem dX11_returned_5 : decode cX11_returned 5 = .ok (.sipush 999, 3) := by decide +kernel
theorem dX11_returned_8 : decode cX11_returned 8 = .ok (.if_icmp .le 6, 3) := by decide +kernel
theorem dX11_returned_11 : decode cX11_returned 11 = .ok (.ldc 72, 2) := by decide +kernel
theorem dX11_returned_13 : decode cX11_returned 13 = .ok (.ireturn, 1) := by decide +kernel
theorem dX11_returned_14 : decode cX11_returned 14 = .ok (.aload_n 0, 1) := by decide +kernel
theorem dX11_returned_15 : decode cX11_returned 15 = .ok (.getfield 19, 3) := by decide +kernel
theorem dX11_returned_18 : decode cX11_returned 18 = .ok (.getfield 89, 3) := by decide +kernel
theorem dX11_returned_21 : decode cX11_returned 21 = .ok (.getfield 275, 3) := by decide +kernel
theorem dX11_returned_24 : decode cX11_returned 24 = .ok (.ifCond .ne 6, 3) := by decide +kernel
theorem dX11_returned_27 : decode cX11_returned 27 = .ok (.ldc 222, 2) := by decide +kernel
theorem dX11_returned_29 : decode cX11_returned 29 = .ok (.ireturn, 1) := by decide +kernel
theorem dX11_returned_30 : decode cX11_returned 30 = .ok (.aload_n 0, 1) := by decide +kernel
theorem dX11_returned_31 : decode cX11_returned 31 = .ok (.getfield 47, 3) := by decide +kernel
theorem dX11_returned_34 : decode cX11_returned 34 = .ok (.getfield 105, 3) := by decide +kernel
theorem dX11_returned_37 : decode cX11_returned 37 = .ok (.bipush 6, 2) := by decide +kernel
theorem dX11_returned_39 : decode cX11_returned 39 = .ok (.if_icmp .lt 6, 3) := by decide +kernel
theorem dX11_returned_42 : decode cX11_returned 42 = .ok (.ldc 77, 2) := by decide +kernel
theorem dX11_returned_44 : decode cX11_returned 44 = .ok (.ireturn, 1) := by decide +kernel
theorem dX11_returned_45 : decode cX11_returned 45 = .ok (.aload_n 0, 1) := by decide +kernel
theorem dX11_returned_46 : decode cX11_returned 46 = .ok (.getfield 47, 3) := by decide +kernel
theorem dX11_returned_49 : decode cX11_returned 49 = .ok (.iload_n 1, 1) := by decide +kernel
theorem dX11_returned_50 : decode cX11_returned 50 = .ok (.aload_n 0, 1) := by decide +kernel
theorem dX11_returned_51 : decode cX11_returned 51 = .ok (.getfield 19, 3) := by decide +kernel
theorem dX11_returned_54 : decode cX11_returned 54 = .ok (.getfield 92, 3) := by decide +kernel
theorem dX11_returned_57 : decode cX11_returned 57 = .ok (.getfield 198, 3) := by decide +kernel
theorem dX11_returned_60 : decode cX11_returned 60 = .ok (.invokevirtual 279, 3) := by decide +kernel
theorem dX11_returned_63 : decode cX11_returned 63 = .ok (.aload_n 0, 1) := by decide +kernel
theorem dX11_returned_64 : decode cX11_returned 64 = .ok (.getfield 47, 3) := by decide +kernel
theorem dX11_returned_67 : decode cX11_returned 67 = .ok (.getfield 105, 3) := by decide +kernel
theorem dX11_returned_70 : decode cX11_returned 70 = .ok (.ireturn, 1) := by decide +kernel
theorem dX11_write_0 : decode cX11_write 0 = .ok (.aload_n 0, 1) := by decide +kernel
theorem dX11_write_1 : decode cX11_write 1 = .ok (.getfield 19, 3) := by decide +kernel
theorem dX11_write_4 : decode cX11_write 4 = .ok (.iload_n 1, 1) := by decide +kernel
theorem dX11_write_5 : decode cX11_write 5 = .ok (.invokevirtual 161, 3) := by decide +kernel
theorem dX11_write_8 : decode cX11_write 8 = .ok (.ifCond .ne 6, 3) := by decide +kernel
theorem dX11_write_11 : decode cX11_write 11 = .ok (.ldc 165, 2) := by decide +kernel
theorem dX11_write_13 : decode cX11_write 13 = .ok (.ireturn, 1) := by decide +kernel
theorem dX11_write_14 : decode cX11_write 14 = .ok (.iload_n 2, 1) := by decide +kernel
theorem dX11_write_15 : decode cX11_write 15 = .ok (.ifCond .lt 10, 3) := by decide +kernel
theorem dX11_write_18 : decode cX11_write 18 = .ok (.iload_n 2, 1) := by decide +kernel
theorem dX11_write_19 : decode cX11_write 19 = .ok (.sipush 9999, 3) := by decide +kernel
theorem dX11_write_22 : decode cX11_write 22 = .ok (.if_icmp .le 6, 3) := by decide +kernel
theorem dX11_write_25 : decode cX11_write 25 = .ok (.ldc 72, 2) := by decide +kernel
theorem dX11_write_27 : decode cX11_write 27 = .ok (.ireturn, 1) := by decide +kernel
theorem dX11_write_28 : decode cX11_write 28 = .ok (.aload_n 0, 1) := by decide +kernel
theorem dX11_write_29 : decode cX11_write 29 = .ok (.getfield 54, 3) := by decide +kernel
theorem dX11_write_32 : decode cX11_write 32 = .ok (.getfield 108, 3) := by decide +kernel
theorem dX11_write_35 : decode cX11_write 35 = .ok (.bipush 15, 2) := by decide +kernel
theorem dX11_write_37 : decode cX11_write 37 = .ok (.if_icmp .lt 6, 3) := by decide +kernel
theorem dX11_write_40 : decode cX11_write 40 = .ok (.ldc 77, 2) := by decide +kernel
theorem dX11_write_42 : decode cX11_write 42 = .ok (.ireturn, 1) := by decide +kernel
theorem dX11_write_43 : decode cX11_write 43 = .ok (.aload_n 0, 1) := by decide +kernel
theorem dX11_write_44 : decode cX11_write 44 = .ok (.getfield 54, 3) := by decide +kernel
theorem dX11_write_47 : decode cX11_write 47 = .ok (.iload_n 1, 1) := by decide +kernel
theorem dX11_write_48 : decode cX11_write 48 = .ok (.iload_n 2, 1) := by decide +kernel
theorem dX11_write_49 : decode cX11_write 49 = .ok (.invokevirtual 283, 3) := by decide +kernel
theorem dX11_write_52 : decode cX11_write 52 = .ok (.aload_n 0, 1) := by decide +kernel
theorem dX11_write_53 : decode cX11_write 53 = .ok (.getfield 54, 3) := by decide +kernel
theorem dX11_write_56 : decode cX11_write 56 = .ok (.getfield 108, 3) := by decide +kernel
theorem dX11_write_59 : decode cX11_write 59 = .ok (.ireturn, 1) := by decide +kernel
theorem dX11_tear_0 : decode cX11_tear 0 = .ok (.aload_n 0, 1) := by decide +kernel
theorem dX11_tear_1 : decode cX11_tear 1 = .ok (.getfield 47, 3) := by decide +kernel
theorem dX11_tear_4 : decode cX11_tear 4 = .ok (.getfield 105, 3) := by decide +kernel
theorem dX11_tear_7 : decode cX11_tear 7 = .ok (.aload_n 0, 1) := by decide +kernel
theorem dX11_tear_8 : decode cX11_tear 8 = .ok (.getfield 54, 3) := by decide +kernel
theorem dX11_tear_11 : decode cX11_tear 11 = .ok (.getfield 108, 3) := by decide +kernel
theorem dX11_tear_14 : decode cX11_tear 14 = .ok (.iadd, 1) := by decide +kernel
theorem dX11_tear_15 : decode cX11_tear 15 = .ok (.istore_n 1, 1) := by decide +kernel
theorem dX11_tear_16 : decode cX11_tear 16 = .ok (.aload_n 0, 1) := by decide +kernel
theorem dX11_tear_17 : decode cX11_tear 17 = .ok (.getfield 47, 3) := by decide +kernel
theorem dX11_tear_20 : decode cX11_tear 20 = .ok (.iconst 0, 1) := by decide +kernel
theorem dX11_tear_21 : decode cX11_tear 21 = .ok (.putfield 105, 3) := by decide +kernel
theorem dX11_tear_24 : decode cX11_tear 24 = .ok (.aload_n 0, 1) := by decide +kernel
theorem dX11_tear_25 : decode cX11_tear 25 = .ok (.getfield 54, 3) := by decide +kernel
theorem dX11_tear_28 : decode cX11_tear 28 = .ok (.iconst 0, 1) := by decide +kernel
theorem dX11_tear_29 : decode cX11_tear 29 = .ok (.putfield 108, 3) := by decide +kernel
theorem dX11_tear_32 : decode cX11_tear 32 = .ok (.iload_n 1, 1) := by decide +kernel
theorem dX11_tear_33 : decode cX11_tear 33 = .ok (.ireturn, 1) := by decide +kernel
theorem dX11_judge_0 : decode cX11_judge 0 = .ok (.aload_n 0, 1) := by decide +kernel
theorem dX11_judge_1 : decode cX11_judge 1 = .ok (.getfield 54, 3) := by decide +kernel
theorem dX11_judge_4 : decode cX11_judge 4 = .ok (.aload_n 0, 1) := by decide +kernel
theorem dX11_judge_5 : decode cX11_judge 5 = .ok (.getfield 19, 3) := by decide +kernel
theorem dX11_judge_8 : decode cX11_judge 8 = .ok (.getfield 92, 3) := by decide +kernel
theorem dX11_judge_11 : decode cX11_judge 11 = .ok (.getfield 182, 3) := by decide +kernel
theorem dX11_judge_14 : decode cX11_judge 14 = .ok (.invokevirtual 285, 3) := by decide +kernel
theorem dX11_judge_17 : decode cX11_judge 17 = .ok (.ireturn, 1) := by decide +kernel
theorem dX11_seed_0 : decode cX11_seed 0 = .ok (.iload_n 1, 1) := by decide +kernel
theorem dX11_seed_1 : decode cX11_seed 1 = .ok (.ifCond .ge 6, 3) := by decide +kernel
theorem dX11_seed_4 : decode cX11_seed 4 = .ok (.ldc 72, 2) := by decide +kernel
theorem dX11_seed_6 : decode cX11_seed 6 = .ok (.ireturn, 1) := by decide +kernel
theorem dX11_seed_7 : decode cX11_seed 7 = .ok (.aload_n 0, 1) := by decide +kernel
theorem dX11_seed_8 : decode cX11_seed 8 = .ok (.getfield 40, 3) := by decide +kernel
theorem dX11_seed_11 : decode cX11_seed 11 = .ok (.getfield 289, 3) := by decide +kernel
theorem dX11_seed_14 : decode cX11_seed 14 = .ok (.istore_n 2, 1) := by decide +kernel
theorem dX11_seed_15 : decode cX11_seed 15 = .ok (.aload_n 0, 1) := by decide +kernel
theorem dX11_seed_16 : decode cX11_seed 16 = .ok (.getfield 40, 3) := by decide +kernel
theorem dX11_seed_19 : decode cX11_seed 19 = .ok (.iload_n 1, 1) := by decide +kernel
theorem dX11_seed_20 : decode cX11_seed 20 = .ok (.putfield 289, 3) := by decide +kernel
theorem dX11_seed_23 : decode cX11_seed 23 = .ok (.iload_n 2, 1) := by decide +kernel
theorem dX11_seed_24 : decode cX11_seed 24 = .ok (.ireturn, 1) := by decide +kernel
theorem dX11_keep_0 : decode cX11_keep 0 = .ok (.iload_n 1, 1) := by decide +kernel
theorem dX11_keep_1 : decode cX11_keep 1 = .ok (.ifCond .lt 8, 3) := by decide +kernel
theorem dX11_keep_4 : decode cX11_keep 4 = .ok (.iload_n 1, 1) := by decide +kernel
theorem dX11_keep_5 : decode cX11_keep 5 = .ok (.iconst 2, 1) := by decide +kernel
theorem dX11_keep_6 : decode cX11_keep 6 = .ok (.if_icmp .lt 6, 3) := by decide +kernel
theorem dX11_keep_9 : decode cX11_keep 9 = .ok (.ldc 165, 2) := by decide +kernel
theorem dX11_keep_11 : decode cX11_keep 11 = .ok (.ireturn, 1) := by decide +kernel
theorem dX11_keep_12 : decode cX11_keep 12 = .ok (.aload_n 0, 1) := by decide +kernel
theorem dX11_keep_13 : decode cX11_keep 13 = .ok (.getfield 33, 3) := by decide +kernel
theorem dX11_keep_16 : decode cX11_keep 16 = .ok (.iload_n 1, 1) := by decide +kernel
theorem dX11_keep_17 : decode cX11_keep 17 = .ok (.aload_n 0, 1) := by decide +kernel
theorem dX11_keep_18 : decode cX11_keep 18 = .ok (.getfield 19, 3) := by decide +kernel
theorem dX11_keep_21 : decode cX11_keep 21 = .ok (.getfield 92, 3) := by decide +kernel
theorem dX11_keep_24 : decode cX11_keep 24 = .ok (.aload_n 0, 1) := by decide +kernel
theorem dX11_keep_25 : decode cX11_keep 25 = .ok (.getfield 40, 3) := by decide +kernel
theorem dX11_keep_28 : decode cX11_keep 28 = .ok (.getfield 289, 3) := by decide +kernel
theorem dX11_keep_31 : decode cX11_keep 31 = .ok (.invokevirtual 292, 3) := by decide +kernel
theorem dX11_keep_34 : decode cX11_keep 34 = .ok (.aload_n 0, 1) := by decide +kernel
theorem dX11_keep_35 : decode cX11_keep 35 = .ok (.getfield 26, 3) := by decide +kernel
theorem dX11_keep_38 : decode cX11_keep 38 = .ok (.invokevirtual 101, 3) := by decide +kernel
theorem dX11_keep_41 : decode cX11_keep 41 = .ok (.iconst 1, 1) := by decide +kernel
theorem dX11_keep_42 : decode cX11_keep 42 = .ok (.ireturn, 1) := by decide +kernel
theorem dX11_goBack_0 : decode cX11_goBack 0 = .ok (.iload_n 1, 1) := by decide +kernel
theorem dX11_goBack_1 : decode cX11_goBack 1 = .ok (.ifCond .lt 8, 3) := by decide +kernel
theorem dX11_goBack_4 : decode cX11_goBack 4 = .ok (.iload_n 1, 1) := by decide +kernel
theorem dX11_goBack_5 : decode cX11_goBack 5 = .ok (.iconst 2, 1) := by decide +kernel
theorem dX11_goBack_6 : decode cX11_goBack 6 = .ok (.if_icmp .lt 6, 3) := by decide +kernel
theorem dX11_goBack_9 : decode cX11_goBack 9 = .ok (.ldc 165, 2) := by decide +kernel
theorem dX11_goBack_11 : decode cX11_goBack 11 = .ok (.ireturn, 1) := by decide +kernel
theorem dX11_goBack_12 : decode cX11_goBack 12 = .ok (.aload_n 0, 1) := by decide +kernel
theorem dX11_goBack_13 : decode cX11_goBack 13 = .ok (.getfield 33, 3) := by decide +kernel
theorem dX11_goBack_16 : decode cX11_goBack 16 = .ok (.getfield 296, 3) := by decide +kernel
theorem dX11_goBack_19 : decode cX11_goBack 19 = .ok (.iload_n 1, 1) := by decide +kernel
theorem dX11_goBack_20 : decode cX11_goBack 20 = .ok (.baload, 1) := by decide +kernel
theorem dX11_goBack_21 : decode cX11_goBack 21 = .ok (.ifCond .ne 6, 3) := by decide +kernel
theorem dX11_goBack_24 : decode cX11_goBack 24 = .ok (.ldc 222, 2) := by decide +kernel
theorem dX11_goBack_26 : decode cX11_goBack 26 = .ok (.ireturn, 1) := by decide +kernel
theorem dX11_goBack_27 : decode cX11_goBack 27 = .ok (.aload_n 0, 1) := by decide +kernel
theorem dX11_goBack_28 : decode cX11_goBack 28 = .ok (.getfield 19, 3) := by decide +kernel
theorem dX11_goBack_31 : decode cX11_goBack 31 = .ok (.getfield 92, 3) := by decide +kernel
theorem dX11_goBack_34 : decode cX11_goBack 34 = .ok (.aload_n 0, 1) := by decide +kernel
theorem dX11_goBack_35 : decode cX11_goBack 35 = .ok (.getfield 33, 3) := by decide +kernel
theorem dX11_goBack_38 : decode cX11_goBack 38 = .ok (.getfield 300, 3) := by decide +kernel
theorem dX11_goBack_41 : decode cX11_goBack 41 = .ok (.iload_n 1, 1) := by decide +kernel
theorem dX11_goBack_42 : decode cX11_goBack 42 = .ok (.aaload, 1) := by decide +kernel
theorem dX11_goBack_43 : decode cX11_goBack 43 = .ok (.invokevirtual 304, 3) := by decide +kernel
theorem dX11_goBack_46 : decode cX11_goBack 46 = .ok (.aload_n 0, 1) := by decide +kernel
theorem dX11_goBack_47 : decode cX11_goBack 47 = .ok (.getfield 40, 3) := by decide +kernel
theorem dX11_goBack_50 : decode cX11_goBack 50 = .ok (.aload_n 0, 1) := by decide +kernel
theorem dX11_goBack_51 : decode cX11_goBack 51 = .ok (.getfield 33, 3) := by decide +kernel
theorem dX11_goBack_54 : decode cX11_goBack 54 = .ok (.getfield 307, 3) := by decide +kernel
theorem dX11_goBack_57 : decode cX11_goBack 57 = .ok (.iload_n 1, 1) := by decide +kernel
theorem dX11_goBack_58 : decode cX11_goBack 58 = .ok (.iaload, 1) := by decide +kernel
theorem dX11_goBack_59 : decode cX11_goBack 59 = .ok (.putfield 289, 3) := by decide +kernel
theorem dX11_goBack_62 : decode cX11_goBack 62 = .ok (.aload_n 0, 1) := by decide +kernel
theorem dX11_goBack_63 : decode cX11_goBack 63 = .ok (.getfield 26, 3) := by decide +kernel
theorem dX11_goBack_66 : decode cX11_goBack 66 = .ok (.invokevirtual 101, 3) := by decide +kernel
theorem dX11_goBack_69 : decode cX11_goBack 69 = .ok (.iconst 1, 1) := by decide +kernel
theorem dX11_goBack_70 : decode cX11_goBack 70 = .ok (.ireturn, 1) := by decide +kernel
theorem dX11_refuseYears_0 : decode cX11_refuseYears 0 = .ok (.iload_n 1, 1) := by decide +kernel
theorem dX11_refuseYears_1 : decode cX11_refuseYears 1 = .ok (.iconst 1, 1) := by decide +kernel
theorem dX11_refuseYears_2 : decode cX11_refuseYears 2 = .ok (.if_icmp .lt 9, 3) := by decide +kernel
theorem dX11_refuseYears_5 : decode cX11_refuseYears 5 = .ok (.iload_n 1, 1) := by decide +kernel
theorem dX11_refuseYears_6 : decode cX11_refuseYears 6 = .ok (.bipush 60, 2) := by decide +kernel
theorem dX11_refuseYears_8 : decode cX11_refuseYears 8 = .ok (.if_icmp .le 6, 3) := by decide +kernel
theorem dX11_refuseYears_11 : decode cX11_refuseYears 11 = .ok (.ldc 72, 2) := by decide +kernel
theorem dX11_refuseYears_13 : decode cX11_refuseYears 13 = .ok (.ireturn, 1) := by decide +kernel
theorem dX11_refuseYears_14 : decode cX11_refuseYears 14 = .ok (.aload_n 0, 1) := by decide +kernel
theorem dX11_refuseYears_15 : decode cX11_refuseYears 15 = .ok (.getfield 19, 3) := by decide +kernel
theorem dX11_refuseYears_18 : decode cX11_refuseYears 18 = .ok (.getfield 89, 3) := by decide +kernel
theorem dX11_refuseYears_21 : decode cX11_refuseYears 21 = .ok (.getfield 275, 3) := by decide +kernel
theorem dX11_refuseYears_24 : decode cX11_refuseYears 24 = .ok (.ifCond .ne 6, 3) := by decide +kernel
theorem dX11_refuseYears_27 : decode cX11_refuseYears 27 = .ok (.ldc 222, 2) := by decide +kernel
theorem dX11_refuseYears_29 : decode cX11_refuseYears 29 = .ok (.ireturn, 1) := by decide +kernel
theorem dX11_refuseYears_30 : decode cX11_refuseYears 30 = .ok (.aload_n 0, 1) := by decide +kernel
theorem dX11_refuseYears_31 : decode cX11_refuseYears 31 = .ok (.getfield 19, 3) := by decide +kernel
theorem dX11_refuseYears_34 : decode cX11_refuseYears 34 = .ok (.getfield 92, 3) := by decide +kernel
theorem dX11_refuseYears_37 : decode cX11_refuseYears 37 = .ok (.getfield 124, 3) := by decide +kernel
theorem dX11_refuseYears_40 : decode cX11_refuseYears 40 = .ok (.sipush 9000, 3) := by decide +kernel
theorem dX11_refuseYears_43 : decode cX11_refuseYears 43 = .ok (.if_icmp .le 8, 3) := by decide +kernel
theorem dX11_refuseYears_46 : decode cX11_refuseYears 46 = .ok (.ldc 77, 2) := by decide +kernel
theorem dX11_refuseYears_48 : decode cX11_refuseYears 48 = .ok (.goto 4, 3) := by decide +kernel
theorem dX11_refuseYears_51 : decode cX11_refuseYears 51 = .ok (.iconst 0, 1) := by decide +kernel
theorem dX11_refuseYears_52 : decode cX11_refuseYears 52 = .ok (.ireturn, 1) := by decide +kernel
theorem dX12_init_0 : decode cX12_init 0 = .ok (.aload_n 0, 1) := by decide +kernel
theorem dX12_init_1 : decode cX12_init 1 = .ok (.invokespecial 1, 3) := by decide +kernel
theorem dX12_init_4 : decode cX12_init 4 = .ok (.aload_n 0, 1) := by decide +kernel
theorem dX12_init_5 : decode cX12_init 5 = .ok (.bipush 7, 2) := by decide +kernel
theorem dX12_init_7 : decode cX12_init 7 = .ok (.newarray .int, 2) := by decide +kernel
theorem dX12_init_9 : decode cX12_init 9 = .ok (.putfield 7, 3) := by decide +kernel
theorem dX12_init_12 : decode cX12_init 12 = .ok (.aload_n 0, 1) := by decide +kernel
theorem dX12_init_13 : decode cX12_init 13 = .ok (.bipush 7, 2) := by decide +kernel
theorem dX12_init_15 : decode cX12_init 15 = .ok (.newarray .int, 2) := by decide +kernel
theorem dX12_init_17 : decode cX12_init 17 = .ok (.putfield 13, 3) := by decide +kernel
theorem dX12_init_20 : decode cX12_init 20 = .ok (.aload_n 0, 1) := by decide +kernel
theorem dX12_init_21 : decode cX12_init 21 = .ok (.bipush 7, 2) := by decide +kernel
theorem dX12_init_23 : decode cX12_init 23 = .ok (.newarray .int, 2) := by decide +kernel
theorem dX12_init_25 : decode cX12_init 25 = .ok (.putfield 16, 3) := by decide +kernel
theorem dX12_init_28 : decode cX12_init 28 = .ok (.aload_n 0, 1) := by decide +kernel
theorem dX12_init_29 : decode cX12_init 29 = .ok (.bipush 60, 2) := by decide +kernel
theorem dX12_init_31 : decode cX12_init 31 = .ok (.newarray .int, 2) := by decide +kernel
theorem dX12_init_33 : decode cX12_init 33 = .ok (.putfield 19, 3) := by decide +kernel
theorem dX12_init_36 : decode cX12_init 36 = .ok (.aload_n 0, 1) := by decide +kernel
theorem dX12_init_37 : decode cX12_init 37 = .ok (.sipush 240, 3) := by decide +kernel
theorem dX12_init_40 : decode cX12_init 40 = .ok (.newarray .int, 2) := by decide +kernel
theorem dX12_init_42 : decode cX12_init 42 = .ok (.putfield 22, 3) := by decide +kernel
theorem dX12_init_45 : decode cX12_init 45 = .ok (.aload_n 0, 1) := by decide +kernel
theorem dX12_init_46 : decode cX12_init 46 = .ok (.iconst (-1), 1) := by decide +kernel
theorem dX12_init_47 : decode cX12_init 47 = .ok (.putfield 25, 3) := by decide +kernel
theorem dX12_init_50 : decode cX12_init 50 = .ok (.aload_n 0, 1) := by decide +kernel
theorem dX12_init_51 : decode cX12_init 51 = .ok (.iconst 4, 1) := by decide +kernel
theorem dX12_init_52 : decode cX12_init 52 = .ok (.newarray .int, 2) := by decide +kernel
theorem dX12_init_54 : decode cX12_init 54 = .ok (.putfield 29, 3) := by decide +kernel
theorem dX12_init_57 : decode cX12_init 57 = .ok (.aload_n 0, 1) := by decide +kernel
theorem dX12_init_58 : decode cX12_init 58 = .ok (.bipush 7, 2) := by decide +kernel
theorem dX12_init_60 : decode cX12_init 60 = .ok (.newarray .int, 2) := by decide +kernel
theorem dX12_init_62 : decode cX12_init 62 = .ok (.putfield 32, 3) := by decide +kernel
theorem dX12_init_65 : decode cX12_init 65 = .ok (.aload_n 0, 1) := by decide +kernel
theorem dX12_init_66 : decode cX12_init 66 = .ok (.bipush 7, 2) := by decide +kernel
theorem dX12_init_68 : decode cX12_init 68 = .ok (.newarray .int, 2) := by decide +kernel
theorem dX12_init_70 : decode cX12_init 70 = .ok (.putfield 35, 3) := by decide +kernel
theorem dX12_init_73 : decode cX12_init 73 = .ok (.aload_n 0, 1) := by decide +kernel
theorem dX12_init_74 : decode cX12_init 74 = .ok (.bipush 7, 2) := by decide +kernel
theorem dX12_init_76 : decode cX12_init 76 = .ok (.newarray .int, 2) := by decide +kernel
theorem dX12_init_78 : decode cX12_init 78 = .ok (.putfield 38, 3) := by decide +kernel
theorem dX12_init_81 : decode cX12_init 81 = .ok (.aload_n 0, 1) := by decide +kernel
theorem dX12_init_82 : decode cX12_init 82 = .ok (.bipush 7, 2) := by decide +kernel
theorem dX12_init_84 : decode cX12_init 84 = .ok (.newarray .int, 2) := by decide +kernel
theorem dX12_init_86 : decode cX12_init 86 = .ok (.putfield 41, 3) := by decide +kernel
theorem dX12_init_89 : decode cX12_init 89 = .ok (.aload_n 0, 1) := by decide +kernel
theorem dX12_init_90 : decode cX12_init 90 = .ok (.sipush 480, 3) := by decide +kernel
theorem dX12_init_93 : decode cX12_init 93 = .ok (.newarray .int, 2) := by decide +kernel
theorem dX12_init_95 : decode cX12_init 95 = .ok (.putfield 44, 3) := by decide +kernel
theorem dX12_init_98 : decode cX12_init 98 = .ok (.aload_n 0, 1) := by decide +kernel
theorem dX12_init_99 : decode cX12_init 99 = .ok (.sipush 1024, 3) := by decide +kernel
theorem dX12_init_102 : decode cX12_init 102 = .ok (.newarray .int, 2) := by decide +kernel
theorem dX12_init_104 : decode cX12_init 104 = .ok (.putfield 47, 3) := by decide +kernel
theorem dX12_init_107 : decode cX12_init 107 = .ok (.aload_n 0, 1) := by decide +kernel
theorem dX12_init_108 : decode cX12_init 108 = .ok (.bipush 6, 2) := by decide +kernel
theorem dX12_init_110 : decode cX12_init 110 = .ok (.newarray .int, 2) := by decide +kernel
theorem dX12_init_112 : decode cX12_init 112 = .ok (.putfield 50, 3) := by decide +kernel
theorem dX12_init_115 : decode cX12_init 115 = .ok (.aload_n 0, 1) := by decide +kernel
theorem dX12_init_116 : decode cX12_init 116 = .ok (.bipush 24, 2) := by decide +kernel
theorem dX12_init_118 : decode cX12_init 118 = .ok (.newarray .int, 2) := by decide +kernel
theorem dX12_init_120 : decode cX12_init 120 = .ok (.putfield 53, 3) := by decide +kernel
theorem dX12_init_123 : decode cX12_init 123 = .ok (.aload_n 0, 1) := by decide +kernel
theorem dX12_init_124 : decode cX12_init 124 = .ok (.bipush 15, 2) := by decide +kernel
theorem dX12_init_126 : decode cX12_init 126 = .ok (.newarray .int, 2) := by decide +kernel
theorem dX12_init_128 : decode cX12_init 128 = .ok (.putfield 56, 3) := by decide +kernel
theorem dX12_init_131 : decode cX12_init 131 = .ok (.aload_n 0, 1) := by decide +kernel
theorem dX12_init_132 : decode cX12_init 132 = .ok (.bipush 15, 2) := by decide +kernel
theorem dX12_init_134 : decode cX12_init 134 = .ok (.newarray .int, 2) := by decide +kernel
theorem dX12_init_136 : decode cX12_init 136 = .ok (.putfield 59, 3) := by decide +kernel
theorem dX12_init_139 : decode cX12_init 139 = .ok (.aload_n 0, 1) := by decide +kernel
theorem dX12_init_140 : decode cX12_init 140 = .ok (.bipush 62, 2) := by decide +kernel
theorem dX12_init_142 : decode cX12_init 142 = .ok (.newarray .int, 2) := by decide +kernel
theorem dX12_init_144 : decode cX12_init 144 = .ok (.putfield 62, 3) := by decide +kernel
theorem dX12_init_147 : decode cX12_init 147 = .ok (.aload_n 0, 1) := by decide +kernel
theorem dX12_init_148 : decode cX12_init 148 = .ok (.iconst 2, 1) := by decide +kernel
theorem dX12_init_149 : decode cX12_init 149 = .ok (.newarray .boolean, 2) := by decide +kernel
theorem dX12_init_151 : decode cX12_init 151 = .ok (.putfield 65, 3) := by decide +kernel
theorem dX12_init_154 : decode cX12_init 154 = .ok (.aload_n 0, 1) := by decide +kernel
theorem dX12_init_155 : decode cX12_init 155 = .ok (.iconst 0, 1) := by decide +kernel
theorem dX12_init_156 : decode cX12_init 156 = .ok (.putfield 69, 3) := by decide +kernel
theorem dX12_init_159 : decode cX12_init 159 = .ok (.return_, 1) := by decide +kernel
theorem dX12_in_0 : decode cX12_in 0 = .ok (.lload_n 0, 1) := by decide +kernel
theorem dX12_in_1 : decode cX12_in 1 = .ok (.lload_n 2, 1) := by decide +kernel
theorem dX12_in_2 : decode cX12_in 2 = .ok (.lcmp, 1) := by decide +kernel
theorem dX12_in_3 : decode cX12_in 3 = .ok (.ifCond .lt 14, 3) := by decide +kernel
theorem dX12_in_6 : decode cX12_in 6 = .ok (.lload_n 0, 1) := by decide +kernel
theorem dX12_in_7 : decode cX12_in 7 = .ok (.lload 4, 2) := by decide +kernel
theorem dX12_in_9 : decode cX12_in 9 = .ok (.lcmp, 1) := by decide +kernel
theorem dX12_in_10 : decode cX12_in 10 = .ok (.ifCond .gt 7, 3) := by decide +kernel
theorem dX12_in_13 : decode cX12_in 13 = .ok (.iconst 1, 1) := by decide +kernel
theorem dX12_in_14 : decode cX12_in 14 = .ok (.goto 4, 3) := by decide +kernel
theorem dX12_in_17 : decode cX12_in 17 = .ok (.iconst 0, 1) := by decide +kernel
theorem dX12_in_18 : decode cX12_in 18 = .ok (.ireturn, 1) := by decide +kernel
theorem dX12_has_0 : decode cX12_has 0 = .ok (.iload_n 0, 1) := by decide +kernel
theorem dX12_has_1 : decode cX12_has 1 = .ok (.iload_n 1, 1) := by decide +kernel
theorem dX12_has_2 : decode cX12_has 2 = .ok (.ishr, 1) := by decide +kernel
theorem dX12_has_3 : decode cX12_has 3 = .ok (.iconst 1, 1) := by decide +kernel
theorem dX12_has_4 : decode cX12_has 4 = .ok (.iand, 1) := by decide +kernel
theorem dX12_has_5 : decode cX12_has 5 = .ok (.iconst 1, 1) := by decide +kernel
theorem dX12_has_6 : decode cX12_has 6 = .ok (.if_icmp .ne 7, 3) := by decide +kernel
theorem dX12_has_9 : decode cX12_has 9 = .ok (.iconst 1, 1) := by decide +kernel
theorem dX12_has_10 : decode cX12_has 10 = .ok (.goto 4, 3) := by decide +kernel
theorem dX12_has_13 : decode cX12_has 13 = .ok (.iconst 0, 1) := by decide +kernel
theorem dX12_has_14 : decode cX12_has 14 = .ok (.ireturn, 1) := by decide +kernel
theorem dX12_isHills_0 : decode cX12_isHills 0 = .ok (.aload_n 0, 1) := by decide +kernel
theorem dX12_isHills_1 : decode cX12_isHills 1 = .ok (.getfield 69, 3) := by decide +kernel
theorem dX12_isHills_4 : decode cX12_isHills 4 = .ok (.ifCond .le 7, 3) := by decide +kernel
theorem dX12_isHills_7 : decode cX12_isHills 7 = .ok (.iconst 1, 1) := by decide +kernel
theorem dX12_isHills_8 : decode cX12_isHills 8 = .ok (.goto 4, 3) := by decide +kernel
theorem dX12_isHills_11 : decode cX12_isHills 11 = .ok (.iconst 0, 1) := by decide +kernel
theorem dX12_isHills_12 : decode cX12_isHills 12 = .ok (.ireturn, 1) := by decide +kernel
theorem dX12_isPerson_0 : decode cX12_isPerson 0 = .ok (.iload_n 1, 1) := by decide +kernel
theorem dX12_isPerson_1 : decode cX12_isPerson 1 = .ok (.i2l, 1) := by decide +kernel
theorem dX12_isPerson_2 : decode cX12_isPerson 2 = .ok (.lconst 0, 1) := by decide +kernel
theorem dX12_isPerson_3 : decode cX12_isPerson 3 = .ok (.aload_n 0, 1) := by decide +kernel
theorem dX12_isPerson_4 : decode cX12_isPerson 4 = .ok (.getfield 72, 3) := by decide +kernel
theorem dX12_isPerson_7 : decode cX12_isPerson 7 = .ok (.iconst 1, 1) := by decide +kernel
theorem dX12_isPerson_8 : decode cX12_isPerson 8 = .ok (.isub, 1) := by decide +kernel
theorem dX12_isPerson_9 : decode cX12_isPerson 9 = .ok (.i2l, 1) := by decide +kernel
theorem dX12_isPerson_10 : decode cX12_isPerson 10 = .ok (.invokestatic 75, 3) := by decide +kernel
theorem dX12_isPerson_13 : decode cX12_isPerson 13 = .ok (.ireturn, 1) := by decide +kernel
theorem dX12_isVillage_0 : decode cX12_isVillage 0 = .ok (.iload_n 1, 1) := by decide +kernel
theorem dX12_isVillage_1 : decode cX12_isVillage 1 = .ok (.i2l, 1) := by decide +kernel
theorem dX12_isVillage_2 : decode cX12_isVillage 2 = .ok (.lconst 0, 1) := by decide +kernel
theorem dX12_isVillage_3 : decode cX12_isVillage 3 = .ok (.aload_n 0, 1) := by decide +kernel
theorem dX12_isVillage_4 : decode cX12_isVillage 4 = .ok (.getfield 79, 3) := by decide +kernel
theorem dX12_isVillage_7 : decode cX12_isVillage 7 = .ok (.iconst 1, 1) := by decide +kernel
theorem dX12_isVillage_8 : decode cX12_isVillage 8 = .ok (.isub, 1) := by decide +kernel
theorem dX12_isVillage_9 : decode cX12_isVillage 9 = .ok (.i2l, 1) := by decide +kernel
theorem dX12_isVillage_10 : decode cX12_isVillage 10 = .ok (.invokestatic 75, 3) := by decide +kernel
theorem dX12_isVillage_13 : decode cX12_isVillage 13 = .ok (.ireturn, 1) := by decide +kernel
theorem dX12_feed_0 : decode cX12_feed 0 = .ok (.iload_n 1, 1) := by decide +kernel
theorem dX12_feed_1 : decode cX12_feed 1 = .ok (.i2l, 1) := by decide +kernel
theorem dX12_feed_2 : decode cX12_feed 2 = .ok (.lconst 0, 1) := by decide +kernel
theorem dX12_feed_3 : decode cX12_feed 3 = .ok (.ldc2_w 82, 3) := by decide +kernel
theorem dX12_feed_6 : decode cX12_feed 6 = .ok (.invokestatic 75, 3) := by decide +kernel
theorem dX12_feed_9 : decode cX12_feed 9 = .ok (.ifCond .ne 6, 3) := by decide +kernel
theorem dX12_feed_12 : decode cX12_feed 12 = .ok (.ldc 84, 2) := by decide +kernel
theorem dX12_feed_14 : decode cX12_feed 14 = .ok (.ireturn, 1) := by decide +kernel
theorem dX12_feed_15 : decode cX12_feed 15 = .ok (.aload_n 0, 1) := by decide +kernel
theorem dX12_feed_16 : decode cX12_feed 16 = .ok (.getfield 85, 3) := by decide +kernel
theorem dX12_feed_19 : decode cX12_feed 19 = .ok (.sipush 240, 3) := by decide +kernel
theorem dX12_feed_22 : decode cX12_feed 22 = .ok (.if_icmp .ne 6, 3) := by decide +kernel
theorem dX12_feed_25 : decode cX12_feed 25 = .ok (.ldc 88, 2) := by decide +kernel
theorem dX12_feed_27 : decode cX12_feed 27 = .ok (.ireturn, 1) := by decide +kernel
theorem dX12_feed_28 : decode cX12_feed 28 = .ok (.aload_n 0, 1) := by decide +kernel
theorem dX12_feed_29 : decode cX12_feed 29 = .ok (.getfield 22, 3) := by decide +kernel
theorem dX12_feed_32 : decode cX12_feed 32 = .ok (.aload_n 0, 1) := by decide +kernel
