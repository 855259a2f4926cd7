theorem dX12_feed_33 : decode cX12_feed 33 = .ok (.getfield 85, 3) := by decide +kernel
theorem dX12_feed_36 : decode cX12_feed 36 = .ok (.iload_n 1, 1) := by decide +kernel
theorem dX12_feed_37 : decode cX12_feed 37 = .ok (.iastore, 1) := by decide +kernel
theorem dX12_feed_38 : decode cX12_feed 38 = .ok (.aload_n 0, 1) := by decide +kernel
theorem dX12_feed_39 : decode cX12_feed 39 = .ok (.dup, 1) := by decide +kernel
theorem dX12_feed_40 : decode cX12_feed 40 = .ok (.getfield 85, 3) := by decide +kernel
theorem dX12_feed_43 : decode cX12_feed 43 = .ok (.iconst 1, 1) := by decide +kernel
theorem dX12_feed_44 : decode cX12_feed 44 = .ok (.iadd, 1) := by decide +kernel
theorem dX12_feed_45 : decode cX12_feed 45 = .ok (.putfield 85, 3) := by decide +kernel
theorem dX12_feed_48 : decode cX12_feed 48 = .ok (.aload_n 0, 1) := by decide +kernel
theorem dX12_feed_49 : decode cX12_feed 49 = .ok (.getfield 85, 3) := by decide +kernel
theorem dX12_feed_52 : decode cX12_feed 52 = .ok (.ireturn, 1) := by decide +kernel
theorem dX12_here_0 : decode cX12_here 0 = .ok (.aload_n 0, 1) := by decide +kernel
theorem dX12_here_1 : decode cX12_here 1 = .ok (.getfield 89, 3) := by decide +kernel
theorem dX12_here_4 : decode cX12_here 4 = .ok (.aload_n 0, 1) := by decide +kernel
theorem dX12_here_5 : decode cX12_here 5 = .ok (.getfield 85, 3) := by decide +kernel
theorem dX12_here_8 : decode cX12_here 8 = .ok (.if_icmp .ge 30, 3) := by decide +kernel
theorem dX12_here_11 : decode cX12_here 11 = .ok (.aload_n 0, 1) := by decide +kernel
theorem dX12_here_12 : decode cX12_here 12 = .ok (.getfield 22, 3) := by decide +kernel
theorem dX12_here_15 : decode cX12_here 15 = .ok (.aload_n 0, 1) := by decide +kernel
theorem dX12_here_16 : decode cX12_here 16 = .ok (.getfield 89, 3) := by decide +kernel
theorem dX12_here_19 : decode cX12_here 19 = .ok (.iaload, 1) := by decide +kernel
theorem dX12_here_20 : decode cX12_here 20 = .ok (.bipush 32, 2) := by decide +kernel
theorem dX12_here_22 : decode cX12_here 22 = .ok (.if_icmp .ne 16, 3) := by decide +kernel
theorem dX12_here_25 : decode cX12_here 25 = .ok (.aload_n 0, 1) := by decide +kernel
theorem dX12_here_26 : decode cX12_here 26 = .ok (.dup, 1) := by decide +kernel
theorem dX12_here_27 : decode cX12_here 27 = .ok (.getfield 89, 3) := by decide +kernel
theorem dX12_here_30 : decode cX12_here 30 = .ok (.iconst 1, 1) := by decide +kernel
theorem dX12_here_31 : decode cX12_here 31 = .ok (.iadd, 1) := by decide +kernel
theorem dX12_here_32 : decode cX12_here 32 = .ok (.putfield 89, 3) := by decide +kernel
theorem dX12_here_35 : decode cX12_here 35 = .ok (.goto (-35), 3) := by decide +kernel
theorem dX12_here_38 : decode cX12_here 38 = .ok (.aload_n 0, 1) := by decide +kernel
theorem dX12_here_39 : decode cX12_here 39 = .ok (.getfield 89, 3) := by decide +kernel
theorem dX12_here_42 : decode cX12_here 42 = .ok (.aload_n 0, 1) := by decide +kernel
theorem dX12_here_43 : decode cX12_here 43 = .ok (.getfield 85, 3) := by decide +kernel
theorem dX12_here_46 : decode cX12_here 46 = .ok (.if_icmp .ge 15, 3) := by decide +kernel
theorem dX12_here_49 : decode cX12_here 49 = .ok (.aload_n 0, 1) := by decide +kernel
theorem dX12_here_50 : decode cX12_here 50 = .ok (.getfield 22, 3) := by decide +kernel
theorem dX12_here_53 : decode cX12_here 53 = .ok (.aload_n 0, 1) := by decide +kernel
theorem dX12_here_54 : decode cX12_here 54 = .ok (.getfield 89, 3) := by decide +kernel
theorem dX12_here_57 : decode cX12_here 57 = .ok (.iaload, 1) := by decide +kernel
theorem dX12_here_58 : decode cX12_here 58 = .ok (.goto 4, 3) := by decide +kernel
theorem dX12_here_61 : decode cX12_here 61 = .ok (.iconst (-1), 1) := by decide +kernel
theorem dX12_here_62 : decode cX12_here 62 = .ok (.ireturn, 1) := by decide +kernel
theorem dX12_fails_0 : decode cX12_fails 0 = .ok (.aload_n 0, 1) := by decide +kernel
theorem dX12_fails_1 : decode cX12_fails 1 = .ok (.iload_n 2, 1) := by decide +kernel
theorem dX12_fails_2 : decode cX12_fails 2 = .ok (.putfield 25, 3) := by decide +kernel
theorem dX12_fails_5 : decode cX12_fails 5 = .ok (.iload_n 1, 1) := by decide +kernel
theorem dX12_fails_6 : decode cX12_fails 6 = .ok (.ireturn, 1) := by decide +kernel
theorem dX12_takeNumber_0 : decode cX12_takeNumber 0 = .ok (.aload_n 0, 1) := by decide +kernel
theorem dX12_takeNumber_1 : decode cX12_takeNumber 1 = .ok (.invokevirtual 92, 3) := by decide +kernel
theorem dX12_takeNumber_4 : decode cX12_takeNumber 4 = .ok (.i2l, 1) := by decide +kernel
theorem dX12_takeNumber_5 : decode cX12_takeNumber 5 = .ok (.ldc2_w 96, 3) := by decide +kernel
theorem dX12_takeNumber_8 : decode cX12_takeNumber 8 = .ok (.ldc2_w 98, 3) := by decide +kernel
theorem dX12_takeNumber_11 : decode cX12_takeNumber 11 = .ok (.invokestatic 75, 3) := by decide +kernel
theorem dX12_takeNumber_14 : decode cX12_takeNumber 14 = .ok (.ifCond .ne 13, 3) := by decide +kernel
theorem dX12_takeNumber_17 : decode cX12_takeNumber 17 = .ok (.aload_n 0, 1) := by decide +kernel
theorem dX12_takeNumber_18 : decode cX12_takeNumber 18 = .ok (.iconst 1, 1) := by decide +kernel
theorem dX12_takeNumber_19 : decode cX12_takeNumber 19 = .ok (.aload_n 0, 1) := by decide +kernel
theorem dX12_takeNumber_20 : decode cX12_takeNumber 20 = .ok (.getfield 89, 3) := by decide +kernel
theorem dX12_takeNumber_23 : decode cX12_takeNumber 23 = .ok (.invokevirtual 100, 3) := by decide +kernel
theorem dX12_takeNumber_26 : decode cX12_takeNumber 26 = .ok (.ireturn, 1) := by decide +kernel
theorem dX12_takeNumber_27 : decode cX12_takeNumber 27 = .ok (.aload_n 0, 1) := by decide +kernel
theorem dX12_takeNumber_28 : decode cX12_takeNumber 28 = .ok (.getfield 89, 3) := by decide +kernel
theorem dX12_takeNumber_31 : decode cX12_takeNumber 31 = .ok (.istore_n 3, 1) := by decide +kernel
theorem dX12_takeNumber_32 : decode cX12_takeNumber 32 = .ok (.aload_n 0, 1) := by decide +kernel
theorem dX12_takeNumber_33 : decode cX12_takeNumber 33 = .ok (.iconst 0, 1) := by decide +kernel
theorem dX12_takeNumber_34 : decode cX12_takeNumber 34 = .ok (.putfield 104, 3) := by decide +kernel
theorem dX12_takeNumber_37 : decode cX12_takeNumber 37 = .ok (.aload_n 0, 1) := by decide +kernel
theorem dX12_takeNumber_38 : decode cX12_takeNumber 38 = .ok (.getfield 89, 3) := by decide +kernel
theorem dX12_takeNumber_41 : decode cX12_takeNumber 41 = .ok (.aload_n 0, 1) := by decide +kernel
theorem dX12_takeNumber_42 : decode cX12_takeNumber 42 = .ok (.getfield 85, 3) := by decide +kernel
theorem dX12_takeNumber_45 : decode cX12_takeNumber 45 = .ok (.if_icmp .ge 79, 3) := by decide +kernel
theorem dX12_takeNumber_48 : decode cX12_takeNumber 48 = .ok (.aload_n 0, 1) := by decide +kernel
theorem dX12_takeNumber_49 : decode cX12_takeNumber 49 = .ok (.getfield 22, 3) := by decide +kernel
theorem dX12_takeNumber_52 : decode cX12_takeNumber 52 = .ok (.aload_n 0, 1) := by decide +kernel
theorem dX12_takeNumber_53 : decode cX12_takeNumber 53 = .ok (.getfield 89, 3) := by decide +kernel
theorem dX12_takeNumber_56 : decode cX12_takeNumber 56 = .ok (.iaload, 1) := by decide +kernel
theorem dX12_takeNumber_57 : decode cX12_takeNumber 57 = .ok (.i2l, 1) := by decide +kernel
theorem dX12_takeNumber_58 : decode cX12_takeNumber 58 = .ok (.ldc2_w 96, 3) := by decide +kernel
theorem dX12_takeNumber_61 : decode cX12_takeNumber 61 = .ok (.ldc2_w 98, 3) := by decide +kernel
theorem dX12_takeNumber_64 : decode cX12_takeNumber 64 = .ok (.invokestatic 75, 3) := by decide +kernel
theorem dX12_takeNumber_67 : decode cX12_takeNumber 67 = .ok (.ifCond .eq 57, 3) := by decide +kernel
theorem dX12_takeNumber_70 : decode cX12_takeNumber 70 = .ok (.aload_n 0, 1) := by decide +kernel
theorem dX12_takeNumber_71 : decode cX12_takeNumber 71 = .ok (.aload_n 0, 1) := by decide +kernel
theorem dX12_takeNumber_72 : decode cX12_takeNumber 72 = .ok (.getfield 104, 3) := by decide +kernel
theorem dX12_takeNumber_75 : decode cX12_takeNumber 75 = .ok (.sipush 1000, 3) := by decide +kernel
theorem dX12_takeNumber_78 : decode cX12_takeNumber 78 = .ok (.if_icmp .le 10, 3) := by decide +kernel
theorem dX12_takeNumber_81 : decode cX12_takeNumber 81 = .ok (.aload_n 0, 1) := by decide +kernel
theorem dX12_takeNumber_82 : decode cX12_takeNumber 82 = .ok (.getfield 104, 3) := by decide +kernel
theorem dX12_takeNumber_85 : decode cX12_takeNumber 85 = .ok (.goto 23, 3) := by decide +kernel
theorem dX12_takeNumber_88 : decode cX12_takeNumber 88 = .ok (.bipush 10, 2) := by decide +kernel
theorem dX12_takeNumber_90 : decode cX12_takeNumber 90 = .ok (.aload_n 0, 1) := by decide +kernel
theorem dX12_takeNumber_91 : decode cX12_takeNumber 91 = .ok (.getfield 104, 3) := by decide +kernel
theorem dX12_takeNumber_94 : decode cX12_takeNumber 94 = .ok (.imul, 1) := by decide +kernel
theorem dX12_takeNumber_95 : decode cX12_takeNumber 95 = .ok (.aload_n 0, 1) := by decide +kernel
theorem dX12_takeNumber_96 : decode cX12_takeNumber 96 = .ok (.getfield 22, 3) := by decide +kernel
theorem dX12_takeNumber_99 : decode cX12_takeNumber 99 = .ok (.aload_n 0, 1) := by decide +kernel
theorem dX12_takeNumber_100 : decode cX12_takeNumber 100 = .ok (.getfield 89, 3) := by decide +kernel
theorem dX12_takeNumber_103 : decode cX12_takeNumber 103 = .ok (.iaload, 1) := by decide +kernel
theorem dX12_takeNumber_104 : decode cX12_takeNumber 104 = .ok (.iadd, 1) := by decide +kernel
theorem dX12_takeNumber_105 : decode cX12_takeNumber 105 = .ok (.bipush 48, 2) := by decide +kernel
theorem dX12_takeNumber_107 : decode cX12_takeNumber 107 = .ok (.isub, 1) := by decide +kernel
theorem dX12_takeNumber_108 : decode cX12_takeNumber 108 = .ok (.putfield 104, 3) := by decide +kernel
theorem dX12_takeNumber_111 : decode cX12_takeNumber 111 = .ok (.aload_n 0, 1) := by decide +kernel
theorem dX12_takeNumber_112 : decode cX12_takeNumber 112 = .ok (.dup, 1) := by decide +kernel
theorem dX12_takeNumber_113 : decode cX12_takeNumber 113 = .ok (.getfield 89, 3) := by decide +kernel
theorem dX12_takeNumber_116 : decode cX12_takeNumber 116 = .ok (.iconst 1, 1) := by decide +kernel
theorem dX12_takeNumber_117 : decode cX12_takeNumber 117 = .ok (.iadd, 1) := by decide +kernel
theorem dX12_takeNumber_118 : decode cX12_takeNumber 118 = .ok (.putfield 89, 3) := by decide +kernel
theorem dX12_takeNumber_121 : decode cX12_takeNumber 121 = .ok (.goto (-84), 3) := by decide +kernel
theorem dX12_takeNumber_124 : decode cX12_takeNumber 124 = .ok (.aload_n 0, 1) := by decide +kernel
theorem dX12_takeNumber_125 : decode cX12_takeNumber 125 = .ok (.getfield 89, 3) := by decide +kernel
theorem dX12_takeNumber_128 : decode cX12_takeNumber 128 = .ok (.iload_n 3, 1) := by decide +kernel
theorem dX12_takeNumber_129 : decode cX12_takeNumber 129 = .ok (.isub, 1) := by decide +kernel
theorem dX12_takeNumber_130 : decode cX12_takeNumber 130 = .ok (.iconst 3, 1) := by decide +kernel
theorem dX12_takeNumber_131 : decode cX12_takeNumber 131 = .ok (.if_icmp .gt 18, 3) := by decide +kernel
theorem dX12_takeNumber_134 : decode cX12_takeNumber 134 = .ok (.aload_n 0, 1) := by decide +kernel
theorem dX12_takeNumber_135 : decode cX12_takeNumber 135 = .ok (.getfield 104, 3) := by decide +kernel
theorem dX12_takeNumber_138 : decode cX12_takeNumber 138 = .ok (.i2l, 1) := by decide +kernel
theorem dX12_takeNumber_139 : decode cX12_takeNumber 139 = .ok (.iload_n 1, 1) := by decide +kernel
theorem dX12_takeNumber_140 : decode cX12_takeNumber 140 = .ok (.i2l, 1) := by decide +kernel
theorem dX12_takeNumber_141 : decode cX12_takeNumber 141 = .ok (.iload_n 2, 1) := by decide +kernel
theorem dX12_takeNumber_142 : decode cX12_takeNumber 142 = .ok (.i2l, 1) := by decide +kernel
theorem dX12_takeNumber_143 : decode cX12_takeNumber 143 = .ok (.invokestatic 75, 3) := by decide +kernel
theorem dX12_takeNumber_146 : decode cX12_takeNumber 146 = .ok (.ifCond .ne 12, 3) := by decide +kernel
theorem dX12_takeNumber_149 : decode cX12_takeNumber 149 = .ok (.aload_n 0, 1) := by decide +kernel
theorem dX12_takeNumber_150 : decode cX12_takeNumber 150 = .ok (.iconst 2, 1) := by decide +kernel
theorem dX12_takeNumber_151 : decode cX12_takeNumber 151 = .ok (.iload_n 3, 1) := by decide +kernel
theorem dX12_takeNumber_152 : decode cX12_takeNumber 152 = .ok (.invokevirtual 100, 3) := by decide +kernel
theorem dX12_takeNumber_155 : decode cX12_takeNumber 155 = .ok (.goto 4, 3) := by decide +kernel
theorem dX12_takeNumber_158 : decode cX12_takeNumber 158 = .ok (.iconst 0, 1) := by decide +kernel
theorem dX12_takeNumber_159 : decode cX12_takeNumber 159 = .ok (.ireturn, 1) := by decide +kernel
theorem dX12_takeOracle_0 : decode cX12_takeOracle 0 = .ok (.aload_n 0, 1) := by decide +kernel
theorem dX12_takeOracle_1 : decode cX12_takeOracle 1 = .ok (.iconst 1, 1) := by decide +kernel
theorem dX12_takeOracle_2 : decode cX12_takeOracle 2 = .ok (.bipush 20, 2) := by decide +kernel
theorem dX12_takeOracle_4 : decode cX12_takeOracle 4 = .ok (.invokevirtual 107, 3) := by decide +kernel
theorem dX12_takeOracle_7 : decode cX12_takeOracle 7 = .ok (.istore_n 1, 1) := by decide +kernel
theorem dX12_takeOracle_8 : decode cX12_takeOracle 8 = .ok (.iload_n 1, 1) := by decide +kernel
theorem dX12_takeOracle_9 : decode cX12_takeOracle 9 = .ok (.ifCond .le 5, 3) := by decide +kernel
theorem dX12_takeOracle_12 : decode cX12_takeOracle 12 = .ok (.iload_n 1, 1) := by decide +kernel
theorem dX12_takeOracle_13 : decode cX12_takeOracle 13 = .ok (.ireturn, 1) := by decide +kernel
theorem dX12_takeOracle_14 : decode cX12_takeOracle 14 = .ok (.aload_n 0, 1) := by decide +kernel
theorem dX12_takeOracle_15 : decode cX12_takeOracle 15 = .ok (.aload_n 0, 1) := by decide +kernel
theorem dX12_takeOracle_16 : decode cX12_takeOracle 16 = .ok (.getfield 104, 3) := by decide +kernel
theorem dX12_takeOracle_19 : decode cX12_takeOracle 19 = .ok (.putfield 110, 3) := by decide +kernel
theorem dX12_takeOracle_22 : decode cX12_takeOracle 22 = .ok (.aload_n 0, 1) := by decide +kernel
theorem dX12_takeOracle_23 : decode cX12_takeOracle 23 = .ok (.iconst 1, 1) := by decide +kernel
theorem dX12_takeOracle_24 : decode cX12_takeOracle 24 = .ok (.bipush 9, 2) := by decide +kernel
theorem dX12_takeOracle_26 : decode cX12_takeOracle 26 = .ok (.invokevirtual 107, 3) := by decide +kernel
theorem dX12_takeOracle_29 : decode cX12_takeOracle 29 = .ok (.istore_n 1, 1) := by decide +kernel
theorem dX12_takeOracle_30 : decode cX12_takeOracle 30 = .ok (.aload_n 0, 1) := by decide +kernel
theorem dX12_takeOracle_31 : decode cX12_takeOracle 31 = .ok (.aload_n 0, 1) := by decide +kernel
theorem dX12_takeOracle_32 : decode cX12_takeOracle 32 = .ok (.getfield 104, 3) := by decide +kernel
theorem dX12_takeOracle_35 : decode cX12_takeOracle 35 = .ok (.putfield 113, 3) := by decide +kernel
theorem dX12_takeOracle_38 : decode cX12_takeOracle 38 = .ok (.iload_n 1, 1) := by decide +kernel
theorem dX12_takeOracle_39 : decode cX12_takeOracle 39 = .ok (.ireturn, 1) := by decide +kernel
theorem dX12_takeVillage_0 : decode cX12_takeVillage 0 = .ok (.aload_n 0, 1) := by decide +kernel
theorem dX12_takeVillage_1 : decode cX12_takeVillage 1 = .ok (.iconst 0, 1) := by decide +kernel
theorem dX12_takeVillage_2 : decode cX12_takeVillage 2 = .ok (.bipush 99, 2) := by decide +kernel
theorem dX12_takeVillage_4 : decode cX12_takeVillage 4 = .ok (.invokevirtual 107, 3) := by decide +kernel
theorem dX12_takeVillage_7 : decode cX12_takeVillage 7 = .ok (.istore_n 1, 1) := by decide +kernel
theorem dX12_takeVillage_8 : decode cX12_takeVillage 8 = .ok (.aload_n 0, 1) := by decide +kernel
theorem dX12_takeVillage_9 : decode cX12_takeVillage 9 = .ok (.getfield 29, 3) := by decide +kernel
theorem dX12_takeVillage_12 : decode cX12_takeVillage 12 = .ok (.aload_n 0, 1) := by decide +kernel
theorem dX12_takeVillage_13 : decode cX12_takeVillage 13 = .ok (.getfield 116, 3) := by decide +kernel
theorem dX12_takeVillage_16 : decode cX12_takeVillage 16 = .ok (.aload_n 0, 1) := by decide +kernel
theorem dX12_takeVillage_17 : decode cX12_takeVillage 17 = .ok (.getfield 104, 3) := by decide +kernel
theorem dX12_takeVillage_20 : decode cX12_takeVillage 20 = .ok (.iastore, 1) := by decide +kernel
theorem dX12_takeVillage_21 : decode cX12_takeVillage 21 = .ok (.aload_n 0, 1) := by decide +kernel
theorem dX12_takeVillage_22 : decode cX12_takeVillage 22 = .ok (.dup, 1) := by decide +kernel
theorem dX12_takeVillage_23 : decode cX12_takeVillage 23 = .ok (.getfield 116, 3) := by decide +kernel
theorem dX12_takeVillage_26 : decode cX12_takeVillage 26 = .ok (.iload_n 1, 1) := by decide +kernel
theorem dX12_takeVillage_27 : decode cX12_takeVillage 27 = .ok (.ifCond .ne 7, 3) := by decide +kernel
theorem dX12_takeVillage_30 : decode cX12_takeVillage 30 = .ok (.iconst 1, 1) := by decide +kernel
theorem dX12_takeVillage_31 : decode cX12_takeVillage 31 = .ok (.goto 4, 3) := by decide +kernel
theorem dX12_takeVillage_34 : decode cX12_takeVillage 34 = .ok (.iconst 0, 1) := by decide +kernel
theorem dX12_takeVillage_35 : decode cX12_takeVillage 35 = .ok (.iadd, 1) := by decide +kernel
theorem dX12_takeVillage_36 : decode cX12_takeVillage 36 = .ok (.putfield 116, 3) := by decide +kernel
theorem dX12_takeVillage_39 : decode cX12_takeVillage 39 = .ok (.iload_n 1, 1) := by decide +kernel
theorem dX12_takeVillage_40 : decode cX12_takeVillage 40 = .ok (.ireturn, 1) := by decide +kernel
theorem dX12_takePerson_0 : decode cX12_takePerson 0 = .ok (.aload_n 0, 1) := by decide +kernel
theorem dX12_takePerson_1 : decode cX12_takePerson 1 = .ok (.getfield 119, 3) := by decide +kernel
theorem dX12_takePerson_4 : decode cX12_takePerson 4 = .ok (.istore_n 1, 1) := by decide +kernel
theorem dX12_takePerson_5 : decode cX12_takePerson 5 = .ok (.aload_n 0, 1) := by decide +kernel
theorem dX12_takePerson_6 : decode cX12_takePerson 6 = .ok (.iconst 0, 1) := by decide +kernel
theorem dX12_takePerson_7 : decode cX12_takePerson 7 = .ok (.iconst 3, 1) := by decide +kernel
theorem dX12_takePerson_8 : decode cX12_takePerson 8 = .ok (.invokevirtual 107, 3) := by decide +kernel
theorem dX12_takePerson_11 : decode cX12_takePerson 11 = .ok (.istore_n 2, 1) := by decide +kernel
theorem dX12_takePerson_12 : decode cX12_takePerson 12 = .ok (.aload_n 0, 1) := by decide +kernel
theorem dX12_takePerson_13 : decode cX12_takePerson 13 = .ok (.getfield 32, 3) := by decide +kernel
theorem dX12_takePerson_16 : decode cX12_takePerson 16 = .ok (.iload_n 1, 1) := by decide +kernel
theorem dX12_takePerson_17 : decode cX12_takePerson 17 = .ok (.aload_n 0, 1) := by decide +kernel
theorem dX12_takePerson_18 : decode cX12_takePerson 18 = .ok (.getfield 104, 3) := by decide +kernel
theorem dX12_takePerson_21 : decode cX12_takePerson 21 = .ok (.iastore, 1) := by decide +kernel
theorem dX12_takePerson_22 : decode cX12_takePerson 22 = .ok (.iload_n 2, 1) := by decide +kernel
theorem dX12_takePerson_23 : decode cX12_takePerson 23 = .ok (.ifCond .le 7, 3) := by decide +kernel
theorem dX12_takePerson_26 : decode cX12_takePerson 26 = .ok (.iload_n 2, 1) := by decide +kernel
theorem dX12_takePerson_27 : decode cX12_takePerson 27 = .ok (.goto 14, 3) := by decide +kernel
theorem dX12_takePerson_30 : decode cX12_takePerson 30 = .ok (.aload_n 0, 1) := by decide +kernel
theorem dX12_takePerson_31 : decode cX12_takePerson 31 = .ok (.iconst 0, 1) := by decide +kernel
theorem dX12_takePerson_32 : decode cX12_takePerson 32 = .ok (.aload_n 0, 1) := by decide +kernel
theorem dX12_takePerson_33 : decode cX12_takePerson 33 = .ok (.getfield 116, 3) := by decide +kernel
theorem dX12_takePerson_36 : decode cX12_takePerson 36 = .ok (.iconst 1, 1) := by decide +kernel
theorem dX12_takePerson_37 : decode cX12_takePerson 37 = .ok (.isub, 1) := by decide +kernel
theorem dX12_takePerson_38 : decode cX12_takePerson 38 = .ok (.invokevirtual 107, 3) := by decide +kernel
theorem dX12_takePerson_41 : decode cX12_takePerson 41 = .ok (.istore_n 2, 1) := by decide +kernel
theorem dX12_takePerson_42 : decode cX12_takePerson 42 = .ok (.aload_n 0, 1) := by decide +kernel
theorem dX12_takePerson_43 : decode cX12_takePerson 43 = .ok (.getfield 35, 3) := by decide +kernel
theorem dX12_takePerson_46 : decode cX12_takePerson 46 = .ok (.iload_n 1, 1) := by decide +kernel
theorem dX12_takePerson_47 : decode cX12_takePerson 47 = .ok (.aload_n 0, 1) := by decide +kernel
theorem dX12_takePerson_48 : decode cX12_takePerson 48 = .ok (.getfield 104, 3) := by decide +kernel
theorem dX12_takePerson_51 : decode cX12_takePerson 51 = .ok (.iastore, 1) := by decide +kernel
theorem dX12_takePerson_52 : decode cX12_takePerson 52 = .ok (.iload_n 2, 1) := by decide +kernel
theorem dX12_takePerson_53 : decode cX12_takePerson 53 = .ok (.ifCond .le 7, 3) := by decide +kernel
theorem dX12_takePerson_56 : decode cX12_takePerson 56 = .ok (.iload_n 2, 1) := by decide +kernel
theorem dX12_takePerson_57 : decode cX12_takePerson 57 = .ok (.goto 10, 3) := by decide +kernel
theorem dX12_takePerson_60 : decode cX12_takePerson 60 = .ok (.aload_n 0, 1) := by decide +kernel
theorem dX12_takePerson_61 : decode cX12_takePerson 61 = .ok (.iconst 1, 1) := by decide +kernel
theorem dX12_takePerson_62 : decode cX12_takePerson 62 = .ok (.bipush 9, 2) := by decide +kernel
theorem dX12_takePerson_64 : decode cX12_takePerson 64 = .ok (.invokevirtual 107, 3) := by decide +kernel
theorem dX12_takePerson_67 : decode cX12_takePerson 67 = .ok (.istore_n 2, 1) := by decide +kernel
theorem dX12_takePerson_68 : decode cX12_takePerson 68 = .ok (.aload_n 0, 1) := by decide +kernel
theorem dX12_takePerson_69 : decode cX12_takePerson 69 = .ok (.getfield 38, 3) := by decide +kernel
theorem dX12_takePerson_72 : decode cX12_takePerson 72 = .ok (.iload_n 1, 1) := by decide +kernel
theorem dX12_takePerson_73 : decode cX12_takePerson 73 = .ok (.aload_n 0, 1) := by decide +kernel
theorem dX12_takePerson_74 : decode cX12_takePerson 74 = .ok (.getfield 104, 3) := by decide +kernel
theorem dX12_takePerson_77 : decode cX12_takePerson 77 = .ok (.iastore, 1) := by decide +kernel
theorem dX12_takePerson_78 : decode cX12_takePerson 78 = .ok (.iload_n 2, 1) := by decide +kernel
theorem dX12_takePerson_79 : decode cX12_takePerson 79 = .ok (.ifCond .le 5, 3) := by decide +kernel
theorem dX12_takePerson_82 : decode cX12_takePerson 82 = .ok (.iload_n 2, 1) := by decide +kernel
theorem dX12_takePerson_83 : decode cX12_takePerson 83 = .ok (.ireturn, 1) := by decide +kernel
theorem dX12_takePerson_84 : decode cX12_takePerson 84 = .ok (.aload_n 0, 1) := by decide +kernel
theorem dX12_takePerson_85 : decode cX12_takePerson 85 = .ok (.invokevirtual 92, 3) := by decide +kernel
theorem dX12_takePerson_88 : decode cX12_takePerson 88 = .ok (.istore_n 3, 1) := by decide +kernel
theorem dX12_takePerson_89 : decode cX12_takePerson 89 = .ok (.aload_n 0, 1) := by decide +kernel
theorem dX12_takePerson_90 : decode cX12_takePerson 90 = .ok (.getfield 89, 3) := by decide +kernel
theorem dX12_takePerson_93 : decode cX12_takePerson 93 = .ok (.istore 4, 2) := by decide +kernel
theorem dX12_takePerson_95 : decode cX12_takePerson 95 = .ok (.aload_n 0, 1) := by decide +kernel
theorem dX12_takePerson_96 : decode cX12_takePerson 96 = .ok (.iconst 0, 1) := by decide +kernel
theorem dX12_takePerson_97 : decode cX12_takePerson 97 = .ok (.bipush 9, 2) := by decide +kernel
theorem dX12_takePerson_99 : decode cX12_takePerson 99 = .ok (.invokevirtual 107, 3) := by decide +kernel
theorem dX12_takePerson_102 : decode cX12_takePerson 102 = .ok (.istore_n 2, 1) := by decide +kernel
theorem dX12_takePerson_103 : decode cX12_takePerson 103 = .ok (.aload_n 0, 1) := by decide +kernel
theorem dX12_takePerson_104 : decode cX12_takePerson 104 = .ok (.getfield 41, 3) := by decide +kernel
theorem dX12_takePerson_107 : decode cX12_takePerson 107 = .ok (.iload_n 1, 1) := by decide +kernel
theorem dX12_takePerson_108 : decode cX12_takePerson 108 = .ok (.aload_n 0, 1) := by decide +kernel
theorem dX12_takePerson_109 : decode cX12_takePerson 109 = .ok (.getfield 104, 3) := by decide +kernel
theorem dX12_takePerson_112 : decode cX12_takePerson 112 = .ok (.iastore, 1) := by decide +kernel
theorem dX12_takePerson_113 : decode cX12_takePerson 113 = .ok (.iload_n 2, 1) := by decide +kernel
theorem dX12_takePerson_114 : decode cX12_takePerson 114 = .ok (.ifCond .ne 28, 3) := by decide +kernel
theorem dX12_takePerson_117 : decode cX12_takePerson 117 = .ok (.aload_n 0, 1) := by decide +kernel
theorem dX12_takePerson_118 : decode cX12_takePerson 118 = .ok (.getfield 104, 3) := by decide +kernel
theorem dX12_takePerson_121 : decode cX12_takePerson 121 = .ok (.i2l, 1) := by decide +kernel
theorem dX12_takePerson_122 : decode cX12_takePerson 122 = .ok (.ldc2_w 122, 3) := by decide +kernel
theorem dX12_takePerson_125 : decode cX12_takePerson 125 = .ok (.ldc2_w 124, 3) := by decide +kernel
theorem dX12_takePerson_128 : decode cX12_takePerson 128 = .ok (.invokestatic 75, 3) := by decide +kernel
theorem dX12_takePerson_131 : decode cX12_takePerson 131 = .ok (.ifCond .eq 11, 3) := by decide +kernel
theorem dX12_takePerson_134 : decode cX12_takePerson 134 = .ok (.aload_n 0, 1) := by decide +kernel
theorem dX12_takePerson_135 : decode cX12_takePerson 135 = .ok (.iconst 2, 1) := by decide +kernel
theorem dX12_takePerson_136 : decode cX12_takePerson 136 = .ok (.iload 4, 2) := by decide +kernel
theorem dX12_takePerson_138 : decode cX12_takePerson 138 = .ok (.invokevirtual 100, 3) := by decide +kernel
theorem dX12_takePerson_141 : decode cX12_takePerson 141 = .ok (.ireturn, 1) := by decide +kernel
theorem dX12_takePerson_142 : decode cX12_takePerson 142 = .ok (.aload_n 0, 1) := by decide +kernel
theorem dX12_takePerson_143 : decode cX12_takePerson 143 = .ok (.dup, 1) := by decide +kernel
theorem dX12_takePerson_144 : decode cX12_takePerson 144 = .ok (.getfield 119, 3) := by decide +kernel
theorem dX12_takePerson_147 : decode cX12_takePerson 147 = .ok (.iload_n 2, 1) := by decide +kernel
theorem dX12_takePerson_148 : decode cX12_takePerson 148 = .ok (.ifCond .ne 11, 3) := by decide +kernel
theorem dX12_takePerson_151 : decode cX12_takePerson 151 = .ok (.iload_n 3, 1) := by decide +kernel
theorem dX12_takePerson_152 : decode cX12_takePerson 152 = .ok (.ifCond .lt 7, 3) := by decide +kernel
theorem dX12_takePerson_155 : decode cX12_takePerson 155 = .ok (.iconst 1, 1) := by decide +kernel
theorem dX12_takePerson_156 : decode cX12_takePerson 156 = .ok (.goto 4, 3) := by decide +kernel
theorem dX12_takePerson_159 : decode cX12_takePerson 159 = .ok (.iconst 0, 1) := by decide +kernel
theorem dX12_takePerson_160 : decode cX12_takePerson 160 = .ok (.iadd, 1) := by decide +kernel
theorem dX12_takePerson_161 : decode cX12_takePerson 161 = .ok (.putfield 119, 3) := by decide +kernel
theorem dX12_takePerson_164 : decode cX12_takePerson 164 = .ok (.iload_n 2, 1) := by decide +kernel
theorem dX12_takePerson_165 : decode cX12_takePerson 165 = .ok (.ireturn, 1) := by decide +kernel
theorem dX12_takeClause_0 : decode cX12_takeClause 0 = .ok (.aload_n 0, 1) := by decide +kernel
theorem dX12_takeClause_1 : decode cX12_takeClause 1 = .ok (.invokevirtual 92, 3) := by decide +kernel
theorem dX12_takeClause_4 : decode cX12_takeClause 4 = .ok (.istore_n 1, 1) := by decide +kernel
theorem dX12_takeClause_5 : decode cX12_takeClause 5 = .ok (.aload_n 0, 1) := by decide +kernel
theorem dX12_takeClause_6 : decode cX12_takeClause 6 = .ok (.getfield 110, 3) := by decide +kernel
theorem dX12_takeClause_9 : decode cX12_takeClause 9 = .ok (.ifCond .ne 7, 3) := by decide +kernel
theorem dX12_takeClause_12 : decode cX12_takeClause 12 = .ok (.iconst 1, 1) := by decide +kernel
theorem dX12_takeClause_13 : decode cX12_takeClause 13 = .ok (.goto 4, 3) := by decide +kernel
theorem dX12_takeClause_16 : decode cX12_takeClause 16 = .ok (.iconst 0, 1) := by decide +kernel
theorem dX12_takeClause_17 : decode cX12_takeClause 17 = .ok (.istore_n 2, 1) := by decide +kernel
theorem dX12_takeClause_18 : decode cX12_takeClause 18 = .ok (.iload_n 1, 1) := by decide +kernel
theorem dX12_takeClause_19 : decode cX12_takeClause 19 = .ok (.bipush 111, 2) := by decide +kernel
theorem dX12_takeClause_21 : decode cX12_takeClause 21 = .ok (.if_icmp .eq 15, 3) := by decide +kernel
theorem dX12_takeClause_24 : decode cX12_takeClause 24 = .ok (.iload_n 1, 1) := by decide +kernel
theorem dX12_takeClause_25 : decode cX12_takeClause 25 = .ok (.bipush 118, 2) := by decide +kernel
theorem dX12_takeClause_27 : decode cX12_takeClause 27 = .ok (.if_icmp .eq 9, 3) := by decide +kernel
theorem dX12_takeClause_30 : decode cX12_takeClause 30 = .ok (.iload_n 1, 1) := by decide +kernel
theorem dX12_takeClause_31 : decode cX12_takeClause 31 = .ok (.bipush 112, 2) := by decide +kernel
theorem dX12_takeClause_33 : decode cX12_takeClause 33 = .ok (.if_icmp .ne 13, 3) := by decide +kernel
theorem dX12_takeClause_36 : decode cX12_takeClause 36 = .ok (.iload_n 2, 1) := by decide +kernel
theorem dX12_takeClause_37 : decode cX12_takeClause 37 = .ok (.ifCond .eq 19, 3) := by decide +kernel
theorem dX12_takeClause_40 : decode cX12_takeClause 40 = .ok (.iload_n 1, 1) := by decide +kernel
theorem dX12_takeClause_41 : decode cX12_takeClause 41 = .ok (.bipush 111, 2) := by decide +kernel
theorem dX12_takeClause_43 : decode cX12_takeClause 43 = .ok (.if_icmp .eq 13, 3) := by decide +kernel
theorem dX12_takeClause_46 : decode cX12_takeClause 46 = .ok (.aload_n 0, 1) := by decide +kernel
theorem dX12_takeClause_47 : decode cX12_takeClause 47 = .ok (.iconst 1, 1) := by decide +kernel
theorem dX12_takeClause_48 : decode cX12_takeClause 48 = .ok (.aload_n 0, 1) := by decide +kernel
theorem dX12_takeClause_49 : decode cX12_takeClause 49 = .ok (.getfield 89, 3) := by decide +kernel
theorem dX12_takeClause_52 : decode cX12_takeClause 52 = .ok (.invokevirtual 100, 3) := by decide +kernel
theorem dX12_takeClause_55 : decode cX12_takeClause 55 = .ok (.ireturn, 1) := by decide +kernel
theorem dX12_takeClause_56 : decode cX12_takeClause 56 = .ok (.iload_n 1, 1) := by decide +kernel
theorem dX12_takeClause_57 : decode cX12_takeClause 57 = .ok (.bipush 111, 2) := by decide +kernel
theorem dX12_takeClause_59 : decode cX12_takeClause 59 = .ok (.if_icmp .ne 7, 3) := by decide +kernel
theorem dX12_takeClause_62 : decode cX12_takeClause 62 = .ok (.iload_n 2, 1) := by decide +kernel
theorem dX12_takeClause_63 : decode cX12_takeClause 63 = .ok (.ifCond .eq 32, 3) := by decide +kernel
theorem dX12_takeClause_66 : decode cX12_takeClause 66 = .ok (.iload_n 1, 1) := by decide +kernel
theorem dX12_takeClause_67 : decode cX12_takeClause 67 = .ok (.bipush 118, 2) := by decide +kernel
theorem dX12_takeClause_69 : decode cX12_takeClause 69 = .ok (.if_icmp .ne 11, 3) := by decide +kernel
theorem dX12_takeClause_72 : decode cX12_takeClause 72 = .ok (.aload_n 0, 1) := by decide +kernel
theorem dX12_takeClause_73 : decode cX12_takeClause 73 = .ok (.getfield 116, 3) := by decide +kernel
theorem dX12_takeClause_76 : decode cX12_takeClause 76 = .ok (.iconst 4, 1) := by decide +kernel
theorem dX12_takeClause_77 : decode cX12_takeClause 77 = .ok (.if_icmp .eq 18, 3) := by decide +kernel
theorem dX12_takeClause_80 : decode cX12_takeClause 80 = .ok (.iload_n 1, 1) := by decide +kernel
theorem dX12_takeClause_81 : decode cX12_takeClause 81 = .ok (.bipush 112, 2) := by decide +kernel
theorem dX12_takeClause_83 : decode cX12_takeClause 83 = .ok (.if_icmp .ne 22, 3) := by decide +kernel
theorem dX12_takeClause_86 : decode cX12_takeClause 86 = .ok (.aload_n 0, 1) := by decide +kernel
theorem dX12_takeClause_87 : decode cX12_takeClause 87 = .ok (.getfield 119, 3) := by decide +kernel
theorem dX12_takeClause_90 : decode cX12_takeClause 90 = .ok (.bipush 7, 2) := by decide +kernel
theorem dX12_takeClause_92 : decode cX12_takeClause 92 = .ok (.if_icmp .ne 13, 3) := by decide +kernel
theorem dX12_takeClause_95 : decode cX12_takeClause 95 = .ok (.aload_n 0, 1) := by decide +kernel
theorem dX12_takeClause_96 : decode cX12_takeClause 96 = .ok (.iconst 3, 1) := by decide +kernel
theorem dX12_takeClause_97 : decode cX12_takeClause 97 = .ok (.aload_n 0, 1) := by decide +kernel
theorem dX12_takeClause_98 : decode cX12_takeClause 98 = .ok (.getfield 89, 3) := by decide +kernel
theorem dX12_takeClause_101 : decode cX12_takeClause 101 = .ok (.invokevirtual 100, 3) := by decide +kernel
theorem dX12_takeClause_104 : decode cX12_takeClause 104 = .ok (.ireturn, 1) := by decide +kernel
theorem dX12_takeClause_105 : decode cX12_takeClause 105 = .ok (.aload_n 0, 1) := by decide +kernel
theorem dX12_takeClause_106 : decode cX12_takeClause 106 = .ok (.dup, 1) := by decide +kernel
theorem dX12_takeClause_107 : decode cX12_takeClause 107 = .ok (.getfield 89, 3) := by decide +kernel
theorem dX12_takeClause_110 : decode cX12_takeClause 110 = .ok (.iconst 1, 1) := by decide +kernel
theorem dX12_takeClause_111 : decode cX12_takeClause 111 = .ok (.iadd, 1) := by decide +kernel
theorem dX12_takeClause_112 : decode cX12_takeClause 112 = .ok (.putfield 89, 3) := by decide +kernel
theorem dX12_takeClause_115 : decode cX12_takeClause 115 = .ok (.iload_n 1, 1) := by decide +kernel
theorem dX12_takeClause_116 : decode cX12_takeClause 116 = .ok (.bipush 111, 2) := by decide +kernel
theorem dX12_takeClause_118 : decode cX12_takeClause 118 = .ok (.if_icmp .ne 10, 3) := by decide +kernel
theorem dX12_takeClause_121 : decode cX12_takeClause 121 = .ok (.aload_n 0, 1) := by decide +kernel
theorem dX12_takeClause_122 : decode cX12_takeClause 122 = .ok (.invokevirtual 126, 3) := by decide +kernel
theorem dX12_takeClause_125 : decode cX12_takeClause 125 = .ok (.goto 20, 3) := by decide +kernel
theorem dX12_takeClause_128 : decode cX12_takeClause 128 = .ok (.iload_n 1, 1) := by decide +kernel
theorem dX12_takeClause_129 : decode cX12_takeClause 129 = .ok (.bipush 118, 2) := by decide +kernel
theorem dX12_takeClause_131 : decode cX12_takeClause 131 = .ok (.if_icmp .ne 10, 3) := by decide +kernel
theorem dX12_takeClause_134 : decode cX12_takeClause 134 = .ok (.aload_n 0, 1) := by decide +kernel
theorem dX12_takeClause_135 : decode cX12_takeClause 135 = .ok (.invokevirtual 129, 3) := by decide +kernel
theorem dX12_takeClause_138 : decode cX12_takeClause 138 = .ok (.goto 7, 3) := by decide +kernel
theorem dX12_takeClause_141 : decode cX12_takeClause 141 = .ok (.aload_n 0, 1) := by decide +kernel
theorem dX12_takeClause_142 : decode cX12_takeClause 142 = .ok (.invokevirtual 132, 3) := by decide +kernel
theorem dX12_takeClause_145 : decode cX12_takeClause 145 = .ok (.istore_n 3, 1) := by decide +kernel
theorem dX12_takeClause_146 : decode cX12_takeClause 146 = .ok (.iload_n 3, 1) := by decide +kernel
theorem dX12_takeClause_147 : decode cX12_takeClause 147 = .ok (.ifCond .ne 22, 3) := by decide +kernel
theorem dX12_takeClause_150 : decode cX12_takeClause 150 = .ok (.aload_n 0, 1) := by decide +kernel
theorem dX12_takeClause_151 : decode cX12_takeClause 151 = .ok (.invokevirtual 92, 3) := by decide +kernel
theorem dX12_takeClause_154 : decode cX12_takeClause 154 = .ok (.bipush 59, 2) := by decide +kernel
theorem dX12_takeClause_156 : decode cX12_takeClause 156 = .ok (.if_icmp .eq 13, 3) := by decide +kernel
theorem dX12_takeClause_159 : decode cX12_takeClause 159 = .ok (.aload_n 0, 1) := by decide +kernel
theorem dX12_takeClause_160 : decode cX12_takeClause 160 = .ok (.iconst 1, 1) := by decide +kernel
theorem dX12_takeClause_161 : decode cX12_takeClause 161 = .ok (.aload_n 0, 1) := by decide +kernel
theorem dX12_takeClause_162 : decode cX12_takeClause 162 = .ok (.getfield 89, 3) := by decide +kernel
theorem dX12_takeClause_165 : decode cX12_takeClause 165 = .ok (.invokevirtual 100, 3) := by decide +kernel
theorem dX12_takeClause_168 : decode cX12_takeClause 168 = .ok (.ireturn, 1) := by decide +kernel
theorem dX12_takeClause_169 : decode cX12_takeClause 169 = .ok (.aload_n 0, 1) := by decide +kernel
theorem dX12_takeClause_170 : decode cX12_takeClause 170 = .ok (.dup, 1) := by decide +kernel
theorem dX12_takeClause_171 : decode cX12_takeClause 171 = .ok (.getfield 89, 3) := by decide +kernel
theorem dX12_takeClause_174 : decode cX12_takeClause 174 = .ok (.iconst 1, 1) := by decide +kernel
theorem dX12_takeClause_175 : decode cX12_takeClause 175 = .ok (.iadd, 1) := by decide +kernel
theorem dX12_takeClause_176 : decode cX12_takeClause 176 = .ok (.putfield 89, 3) := by decide +kernel
theorem dX12_takeClause_179 : decode cX12_takeClause 179 = .ok (.iload_n 3, 1) := by decide +kernel
theorem dX12_takeClause_180 : decode cX12_takeClause 180 = .ok (.ireturn, 1) := by decide +kernel
theorem dX12_takeRead_0 : decode cX12_takeRead 0 = .ok (.aload_n 0, 1) := by decide +kernel
theorem dX12_takeRead_1 : decode cX12_takeRead 1 = .ok (.aload_n 0, 1) := by decide +kernel
theorem dX12_takeRead_2 : decode cX12_takeRead 2 = .ok (.getfield 110, 3) := by decide +kernel
theorem dX12_takeRead_5 : decode cX12_takeRead 5 = .ok (.putfield 69, 3) := by decide +kernel
theorem dX12_takeRead_8 : decode cX12_takeRead 8 = .ok (.aload_n 0, 1) := by decide +kernel
theorem dX12_takeRead_9 : decode cX12_takeRead 9 = .ok (.aload_n 0, 1) := by decide +kernel
theorem dX12_takeRead_10 : decode cX12_takeRead 10 = .ok (.getfield 113, 3) := by decide +kernel
theorem dX12_takeRead_13 : decode cX12_takeRead 13 = .ok (.putfield 135, 3) := by decide +kernel
theorem dX12_takeRead_16 : decode cX12_takeRead 16 = .ok (.aload_n 0, 1) := by decide +kernel
theorem dX12_takeRead_17 : decode cX12_takeRead 17 = .ok (.aload_n 0, 1) := by decide +kernel
theorem dX12_takeRead_18 : decode cX12_takeRead 18 = .ok (.getfield 116, 3) := by decide +kernel
theorem dX12_takeRead_21 : decode cX12_takeRead 21 = .ok (.putfield 79, 3) := by decide +kernel
theorem dX12_takeRead_24 : decode cX12_takeRead 24 = .ok (.aload_n 0, 1) := by decide +kernel
theorem dX12_takeRead_25 : decode cX12_takeRead 25 = .ok (.aload_n 0, 1) := by decide +kernel
theorem dX12_takeRead_26 : decode cX12_takeRead 26 = .ok (.getfield 119, 3) := by decide +kernel
theorem dX12_takeRead_29 : decode cX12_takeRead 29 = .ok (.putfield 72, 3) := by decide +kernel
theorem dX12_takeRead_32 : decode cX12_takeRead 32 = .ok (.iconst 0, 1) := by decide +kernel
theorem dX12_takeRead_33 : decode cX12_takeRead 33 = .ok (.istore_n 1, 1) := by decide +kernel
theorem dX12_takeRead_34 : decode cX12_takeRead 34 = .ok (.iload_n 1, 1) := by decide +kernel
theorem dX12_takeRead_35 : decode cX12_takeRead 35 = .ok (.bipush 30, 2) := by decide +kernel
theorem dX12_takeRead_37 : decode cX12_takeRead 37 = .ok (.if_icmp .ge 16, 3) := by decide +kernel
theorem dX12_takeRead_40 : decode cX12_takeRead 40 = .ok (.aload_n 0, 1) := by decide +kernel
theorem dX12_takeRead_41 : decode cX12_takeRead 41 = .ok (.getfield 19, 3) := by decide +kernel
theorem dX12_takeRead_44 : decode cX12_takeRead 44 = .ok (.iload_n 1, 1) := by decide +kernel
theorem dX12_takeRead_45 : decode cX12_takeRead 45 = .ok (.iconst 0, 1) := by decide +kernel
theorem dX12_takeRead_46 : decode cX12_takeRead 46 = .ok (.iastore, 1) := by decide +kernel
theorem dX12_takeRead_47 : decode cX12_takeRead 47 = .ok (.iinc 1 1, 3) := by decide +kernel
theorem dX12_takeRead_50 : decode cX12_takeRead 50 = .ok (.goto (-16), 3) := by decide +kernel
theorem dX12_takeRead_53 : decode cX12_takeRead 53 = .ok (.aload_n 0, 1) := by decide +kernel
theorem dX12_takeRead_54 : decode cX12_takeRead 54 = .ok (.getfield 19, 3) := by decide +kernel
theorem dX12_takeRead_57 : decode cX12_takeRead 57 = .ok (.iconst 0, 1) := by decide +kernel
theorem dX12_takeRead_58 : decode cX12_takeRead 58 = .ok (.aload_n 0, 1) := by decide +kernel
theorem dX12_takeRead_59 : decode cX12_takeRead 59 = .ok (.getfield 69, 3) := by decide +kernel
theorem dX12_takeRead_62 : decode cX12_takeRead 62 = .ok (.iastore, 1) := by decide +kernel
theorem dX12_takeRead_63 : decode cX12_takeRead 63 = .ok (.iconst 0, 1) := by decide +kernel
theorem dX12_takeRead_64 : decode cX12_takeRead 64 = .ok (.istore_n 1, 1) := by decide +kernel
theorem dX12_takeRead_65 : decode cX12_takeRead 65 = .ok (.iload_n 1, 1) := by decide +kernel
theorem dX12_takeRead_66 : decode cX12_takeRead 66 = .ok (.aload_n 0, 1) := by decide +kernel
theorem dX12_takeRead_67 : decode cX12_takeRead 67 = .ok (.getfield 79, 3) := by decide +kernel
theorem dX12_takeRead_70 : decode cX12_takeRead 70 = .ok (.if_icmp .ge 24, 3) := by decide +kernel
theorem dX12_takeRead_73 : decode cX12_takeRead 73 = .ok (.aload_n 0, 1) := by decide +kernel
theorem dX12_takeRead_74 : decode cX12_takeRead 74 = .ok (.getfield 19, 3) := by decide +kernel
theorem dX12_takeRead_77 : decode cX12_takeRead 77 = .ok (.bipush 26, 2) := by decide +kernel
theorem dX12_takeRead_79 : decode cX12_takeRead 79 = .ok (.iload_n 1, 1) := by decide +kernel
theorem dX12_takeRead_80 : decode cX12_takeRead 80 = .ok (.iadd, 1) := by decide +kernel
theorem dX12_takeRead_81 : decode cX12_takeRead 81 = .ok (.aload_n 0, 1) := by decide +kernel
theorem dX12_takeRead_82 : decode cX12_takeRead 82 = .ok (.getfield 29, 3) := by decide +kernel
theorem dX12_takeRead_85 : decode cX12_takeRead 85 = .ok (.iload_n 1, 1) := by decide +kernel
theorem dX12_takeRead_86 : decode cX12_takeRead 86 = .ok (.iaload, 1) := by decide +kernel
theorem dX12_takeRead_87 : decode cX12_takeRead 87 = .ok (.iastore, 1) := by decide +kernel
theorem dX12_takeRead_88 : decode cX12_takeRead 88 = .ok (.iinc 1 1, 3) := by decide +kernel
theorem dX12_takeRead_91 : decode cX12_takeRead 91 = .ok (.goto (-26), 3) := by decide +kernel
theorem dX12_takeRead_94 : decode cX12_takeRead 94 = .ok (.iconst 0, 1) := by decide +kernel
theorem dX12_takeRead_95 : decode cX12_takeRead 95 = .ok (.istore_n 1, 1) := by decide +kernel
theorem dX12_takeRead_96 : decode cX12_takeRead 96 = .ok (.iload_n 1, 1) := by decide +kernel
theorem dX12_takeRead_97 : decode cX12_takeRead 97 = .ok (.aload_n 0, 1) := by decide +kernel
theorem dX12_takeRead_98 : decode cX12_takeRead 98 = .ok (.getfield 72, 3) := by decide +kernel
theorem dX12_takeRead_101 : decode cX12_takeRead 101 = .ok (.if_icmp .ge 76, 3) := by decide +kernel
theorem dX12_takeRead_104 : decode cX12_takeRead 104 = .ok (.aload_n 0, 1) := by decide +kernel
theorem dX12_takeRead_105 : decode cX12_takeRead 105 = .ok (.getfield 7, 3) := by decide +kernel
theorem dX12_takeRead_108 : decode cX12_takeRead 108 = .ok (.iload_n 1, 1) := by decide +kernel
theorem dX12_takeRead_109 : decode cX12_takeRead 109 = .ok (.aload_n 0, 1) := by decide +kernel
theorem dX12_takeRead_110 : decode cX12_takeRead 110 = .ok (.getfield 32, 3) := by decide +kernel
theorem dX12_takeRead_113 : decode cX12_takeRead 113 = .ok (.iload_n 1, 1) := by decide +kernel
theorem dX12_takeRead_114 : decode cX12_takeRead 114 = .ok (.iaload, 1) := by decide +kernel
theorem dX12_takeRead_115 : decode cX12_takeRead 115 = .ok (.iastore, 1) := by decide +kernel
theorem dX12_takeRead_116 : decode cX12_takeRead 116 = .ok (.aload_n 0, 1) := by decide +kernel
theorem dX12_takeRead_117 : decode cX12_takeRead 117 = .ok (.getfield 13, 3) := by decide +kernel
theorem dX12_takeRead_120 : decode cX12_takeRead 120 = .ok (.iload_n 1, 1) := by decide +kernel
theorem dX12_takeRead_121 : decode cX12_takeRead 121 = .ok (.aload_n 0, 1) := by decide +kernel
theorem dX12_takeRead_122 : decode cX12_takeRead 122 = .ok (.getfield 35, 3) := by decide +kernel
theorem dX12_takeRead_125 : decode cX12_takeRead 125 = .ok (.iload_n 1, 1) := by decide +kernel
theorem dX12_takeRead_126 : decode cX12_takeRead 126 = .ok (.iaload, 1) := by decide +kernel
theorem dX12_takeRead_127 : decode cX12_takeRead 127 = .ok (.iastore, 1) := by decide +kernel
theorem dX12_takeRead_128 : decode cX12_takeRead 128 = .ok (.aload_n 0, 1) := by decide +kernel
theorem dX12_takeRead_129 : decode cX12_takeRead 129 = .ok (.getfield 16, 3) := by decide +kernel
theorem dX12_takeRead_132 : decode cX12_takeRead 132 = .ok (.iload_n 1, 1) := by decide +kernel
theorem dX12_takeRead_133 : decode cX12_takeRead 133 = .ok (.aload_n 0, 1) := by decide +kernel
theorem dX12_takeRead_134 : decode cX12_takeRead 134 = .ok (.getfield 41, 3) := by decide +kernel
theorem dX12_takeRead_137 : decode cX12_takeRead 137 = .ok (.iload_n 1, 1) := by decide +kernel
theorem dX12_takeRead_138 : decode cX12_takeRead 138 = .ok (.iaload, 1) := by decide +kernel
theorem dX12_takeRead_139 : decode cX12_takeRead 139 = .ok (.aload_n 0, 1) := by decide +kernel
theorem dX12_takeRead_140 : decode cX12_takeRead 140 = .ok (.getfield 72, 3) := by decide +kernel
theorem dX12_takeRead_143 : decode cX12_takeRead 143 = .ok (.if_icmp .ge 12, 3) := by decide +kernel
theorem dX12_takeRead_146 : decode cX12_takeRead 146 = .ok (.aload_n 0, 1) := by decide +kernel
theorem dX12_takeRead_147 : decode cX12_takeRead 147 = .ok (.getfield 41, 3) := by decide +kernel
theorem dX12_takeRead_150 : decode cX12_takeRead 150 = .ok (.iload_n 1, 1) := by decide +kernel
theorem dX12_takeRead_151 : decode cX12_takeRead 151 = .ok (.iaload, 1) := by decide +kernel
theorem dX12_takeRead_152 : decode cX12_takeRead 152 = .ok (.goto 4, 3) := by decide +kernel
theorem dX12_takeRead_155 : decode cX12_takeRead 155 = .ok (.iconst (-1), 1) := by decide +kernel
theorem dX12_takeRead_156 : decode cX12_takeRead 156 = .ok (.iastore, 1) := by decide +kernel
theorem dX12_takeRead_157 : decode cX12_takeRead 157 = .ok (.aload_n 0, 1) := by decide +kernel
theorem dX12_takeRead_158 : decode cX12_takeRead 158 = .ok (.getfield 19, 3) := by decide +kernel
theorem dX12_takeRead_161 : decode cX12_takeRead 161 = .ok (.iconst 5, 1) := by decide +kernel
theorem dX12_takeRead_162 : decode cX12_takeRead 162 = .ok (.iload_n 1, 1) := by decide +kernel
theorem dX12_takeRead_163 : decode cX12_takeRead 163 = .ok (.iadd, 1) := by decide +kernel
theorem dX12_takeRead_164 : decode cX12_takeRead 164 = .ok (.aload_n 0, 1) := by decide +kernel
theorem dX12_takeRead_165 : decode cX12_takeRead 165 = .ok (.getfield 38, 3) := by decide +kernel
theorem dX12_takeRead_168 : decode cX12_takeRead 168 = .ok (.iload_n 1, 1) := by decide +kernel
theorem dX12_takeRead_169 : decode cX12_takeRead 169 = .ok (.iaload, 1) := by decide +kernel
theorem dX12_takeRead_170 : decode cX12_takeRead 170 = .ok (.iastore, 1) := by decide +kernel
theorem dX12_takeRead_171 : decode cX12_takeRead 171 = .ok (.iinc 1 1, 3) := by decide +kernel
theorem dX12_takeRead_174 : decode cX12_takeRead 174 = .ok (.goto (-78), 3) := by decide +kernel
theorem dX12_takeRead_177 : decode cX12_takeRead 177 = .ok (.return_, 1) := by decide +kernel
theorem dX12_hills_0 : decode cX12_hills 0 = .ok (.aload_n 0, 1) := by decide +kernel
theorem dX12_hills_1 : decode cX12_hills 1 = .ok (.iconst (-1), 1) := by decide +kernel
theorem dX12_hills_2 : decode cX12_hills 2 = .ok (.putfield 25, 3) := by decide +kernel
theorem dX12_hills_5 : decode cX12_hills 5 = .ok (.aload_n 0, 1) := by decide +kernel
theorem dX12_hills_6 : decode cX12_hills 6 = .ok (.iconst 0, 1) := by decide +kernel
theorem dX12_hills_7 : decode cX12_hills 7 = .ok (.putfield 89, 3) := by decide +kernel
theorem dX12_hills_10 : decode cX12_hills 10 = .ok (.aload_n 0, 1) := by decide +kernel
theorem dX12_hills_11 : decode cX12_hills 11 = .ok (.iconst 0, 1) := by decide +kernel
theorem dX12_hills_12 : decode cX12_hills 12 = .ok (.putfield 110, 3) := by decide +kernel
theorem dX12_hills_15 : decode cX12_hills 15 = .ok (.aload_n 0, 1) := by decide +kernel
theorem dX12_hills_16 : decode cX12_hills 16 = .ok (.iconst 0, 1) := by decide +kernel
theorem dX12_hills_17 : decode cX12_hills 17 = .ok (.putfield 113, 3) := by decide +kernel
theorem dX12_hills_20 : decode cX12_hills 20 = .ok (.aload_n 0, 1) := by decide +kernel
theorem dX12_hills_21 : decode cX12_hills 21 = .ok (.iconst 0, 1) := by decide +kernel
theorem dX12_hills_22 : decode cX12_hills 22 = .ok (.putfield 116, 3) := by decide +kernel
theorem dX12_hills_25 : decode cX12_hills 25 = .ok (.aload_n 0, 1) := by decide +kernel
theorem dX12_hills_26 : decode cX12_hills 26 = .ok (.iconst 0, 1) := by decide +kernel
theorem dX12_hills_27 : decode cX12_hills 27 = .ok (.putfield 119, 3) := by decide +kernel
theorem dX12_hills_30 : decode cX12_hills 30 = .ok (.iconst 0, 1) := by decide +kernel
theorem dX12_hills_31 : decode cX12_hills 31 = .ok (.istore_n 1, 1) := by decide +kernel
theorem dX12_hills_32 : decode cX12_hills 32 = .ok (.iload_n 1, 1) := by decide +kernel
theorem dX12_hills_33 : decode cX12_hills 33 = .ok (.ifCond .ne 18, 3) := by decide +kernel
theorem dX12_hills_36 : decode cX12_hills 36 = .ok (.aload_n 0, 1) := by decide +kernel
theorem dX12_hills_37 : decode cX12_hills 37 = .ok (.invokevirtual 92, 3) := by decide +kernel
theorem dX12_hills_40 : decode cX12_hills 40 = .ok (.ifCond .lt 11, 3) := by decide +kernel
theorem dX12_hills_43 : decode cX12_hills 43 = .ok (.aload_n 0, 1) := by decide +kernel
theorem dX12_hills_44 : decode cX12_hills 44 = .ok (.invokevirtual 138, 3) := by decide +kernel
theorem dX12_hills_47 : decode cX12_hills 47 = .ok (.istore_n 1, 1) := by decide +kernel
theorem dX12_hills_48 : decode cX12_hills 48 = .ok (.goto (-16), 3) := by decide +kernel
theorem dX12_hills_51 : decode cX12_hills 51 = .ok (.aload_n 0, 1) := by decide +kernel
theorem dX12_hills_52 : decode cX12_hills 52 = .ok (.iconst 0, 1) := by decide +kernel
theorem dX12_hills_53 : decode cX12_hills 53 = .ok (.putfield 85, 3) := by decide +kernel
theorem dX12_hills_56 : decode cX12_hills 56 = .ok (.iload_n 1, 1) := by decide +kernel
theorem dX12_hills_57 : decode cX12_hills 57 = .ok (.ifCond .le 8, 3) := by decide +kernel
theorem dX12_hills_60 : decode cX12_hills 60 = .ok (.bipush (-10), 2) := by decide +kernel
theorem dX12_hills_62 : decode cX12_hills 62 = .ok (.iload_n 1, 1) := by decide +kernel
theorem dX12_hills_63 : decode cX12_hills 63 = .ok (.isub, 1) := by decide +kernel
theorem dX12_hills_64 : decode cX12_hills 64 = .ok (.ireturn, 1) := by decide +kernel
theorem dX12_hills_65 : decode cX12_hills 65 = .ok (.aload_n 0, 1) := by decide +kernel
theorem dX12_hills_66 : decode cX12_hills 66 = .ok (.invokevirtual 141, 3) := by decide +kernel
theorem dX12_hills_69 : decode cX12_hills 69 = .ok (.aload_n 0, 1) := by decide +kernel
theorem dX12_hills_70 : decode cX12_hills 70 = .ok (.iconst 0, 1) := by decide +kernel
theorem dX12_hills_71 : decode cX12_hills 71 = .ok (.putfield 144, 3) := by decide +kernel
theorem dX12_hills_74 : decode cX12_hills 74 = .ok (.aload_n 0, 1) := by decide +kernel
theorem dX12_hills_75 : decode cX12_hills 75 = .ok (.iconst 0, 1) := by decide +kernel
theorem dX12_hills_76 : decode cX12_hills 76 = .ok (.putfield 147, 3) := by decide +kernel
theorem dX12_hills_79 : decode cX12_hills 79 = .ok (.aload_n 0, 1) := by decide +kernel
theorem dX12_hills_80 : decode cX12_hills 80 = .ok (.iconst 0, 1) := by decide +kernel
theorem dX12_hills_81 : decode cX12_hills 81 = .ok (.putfield 150, 3) := by decide +kernel
theorem dX12_hills_84 : decode cX12_hills 84 = .ok (.aload_n 0, 1) := by decide +kernel
theorem dX12_hills_85 : decode cX12_hills 85 = .ok (.getfield 65, 3) := by decide +kernel
theorem dX12_hills_88 : decode cX12_hills 88 = .ok (.iconst 0, 1) := by decide +kernel
theorem dX12_hills_89 : decode cX12_hills 89 = .ok (.iconst 0, 1) := by decide +kernel
theorem dX12_hills_90 : decode cX12_hills 90 = .ok (.bastore, 1) := by decide +kernel
theorem dX12_hills_91 : decode cX12_hills 91 = .ok (.aload_n 0, 1) := by decide +kernel
theorem dX12_hills_92 : decode cX12_hills 92 = .ok (.getfield 65, 3) := by decide +kernel
theorem dX12_hills_95 : decode cX12_hills 95 = .ok (.iconst 1, 1) := by decide +kernel
theorem dX12_hills_96 : decode cX12_hills 96 = .ok (.iconst 0, 1) := by decide +kernel
theorem dX12_hills_97 : decode cX12_hills 97 = .ok (.bastore, 1) := by decide +kernel
theorem dX12_hills_98 : decode cX12_hills 98 = .ok (.aload_n 0, 1) := by decide +kernel
theorem dX12_hills_99 : decode cX12_hills 99 = .ok (.getfield 72, 3) := by decide +kernel
theorem dX12_hills_102 : decode cX12_hills 102 = .ok (.ireturn, 1) := by decide +kernel
theorem dX12_fault_0 : decode cX12_fault 0 = .ok (.aload_n 0, 1) := by decide +kernel
theorem dX12_fault_1 : decode cX12_fault 1 = .ok (.getfield 25, 3) := by decide +kernel
theorem dX12_fault_4 : decode cX12_fault 4 = .ok (.ireturn, 1) := by decide +kernel
theorem dX12_off_0 : decode cX12_off 0 = .ok (.aload_n 0, 1) := by decide +kernel
theorem dX12_off_1 : decode cX12_off 1 = .ok (.getfield 19, 3) := by decide +kernel
theorem dX12_off_4 : decode cX12_off 4 = .ok (.iconst 5, 1) := by decide +kernel
theorem dX12_off_5 : decode cX12_off 5 = .ok (.iload_n 1, 1) := by decide +kernel
theorem dX12_off_6 : decode cX12_off 6 = .ok (.iadd, 1) := by decide +kernel
theorem dX12_off_7 : decode cX12_off 7 = .ok (.iaload, 1) := by decide +kernel
theorem dX12_off_8 : decode cX12_off 8 = .ok (.istore_n 3, 1) := by decide +kernel
theorem dX12_off_9 : decode cX12_off 9 = .ok (.aload_n 0, 1) := by decide +kernel
theorem dX12_off_10 : decode cX12_off 10 = .ok (.getfield 7, 3) := by decide +kernel
theorem dX12_off_13 : decode cX12_off 13 = .ok (.iload_n 1, 1) := by decide +kernel
theorem dX12_off_14 : decode cX12_off 14 = .ok (.iaload, 1) := by decide +kernel
theorem dX12_off_15 : decode cX12_off 15 = .ok (.tableswitch 52 1 3 #[25, 29, 41], 25) := by decide +kernel
theorem dX12_off_40 : decode cX12_off 40 = .ok (.iload_n 3, 1) := by decide +kernel
theorem dX12_off_41 : decode cX12_off 41 = .ok (.iload_n 2, 1) := by decide +kernel
theorem dX12_off_42 : decode cX12_off 42 = .ok (.iadd, 1) := by decide +kernel
theorem dX12_off_43 : decode cX12_off 43 = .ok (.ireturn, 1) := by decide +kernel
theorem dX12_off_44 : decode cX12_off 44 = .ok (.iload_n 2, 1) := by decide +kernel
theorem dX12_off_45 : decode cX12_off 45 = .ok (.iconst 2, 1) := by decide +kernel
theorem dX12_off_46 : decode cX12_off 46 = .ok (.irem, 1) := by decide +kernel
theorem dX12_off_47 : decode cX12_off 47 = .ok (.ifCond .ne 7, 3) := by decide +kernel
theorem dX12_off_50 : decode cX12_off 50 = .ok (.iload_n 3, 1) := by decide +kernel
theorem dX12_off_51 : decode cX12_off 51 = .ok (.goto 4, 3) := by decide +kernel
theorem dX12_off_54 : decode cX12_off 54 = .ok (.iconst 0, 1) := by decide +kernel
theorem dX12_off_55 : decode cX12_off 55 = .ok (.ireturn, 1) := by decide +kernel
theorem dX12_off_56 : decode cX12_off 56 = .ok (.iconst 2, 1) := by decide +kernel
theorem dX12_off_57 : decode cX12_off 57 = .ok (.iload_n 3, 1) := by decide +kernel
theorem dX12_off_58 : decode cX12_off 58 = .ok (.imul, 1) := by decide +kernel
theorem dX12_off_59 : decode cX12_off 59 = .ok (.aload_n 0, 1) := by decide +kernel
theorem dX12_off_60 : decode cX12_off 60 = .ok (.getfield 135, 3) := by decide +kernel
theorem dX12_off_63 : decode cX12_off 63 = .ok (.iconst 2, 1) := by decide +kernel
theorem dX12_off_64 : decode cX12_off 64 = .ok (.idiv, 1) := by decide +kernel
theorem dX12_off_65 : decode cX12_off 65 = .ok (.iadd, 1) := by decide +kernel
theorem dX12_off_66 : decode cX12_off 66 = .ok (.ireturn, 1) := by decide +kernel
theorem dX12_off_67 : decode cX12_off 67 = .ok (.iload_n 3, 1) := by decide +kernel
theorem dX12_off_68 : decode cX12_off 68 = .ok (.ireturn, 1) := by decide +kernel
theorem dX12_bargain_0 : decode cX12_bargain 0 = .ok (.iload_n 2, 1) := by decide +kernel
theorem dX12_bargain_1 : decode cX12_bargain 1 = .ok (.istore_n 3, 1) := by decide +kernel
theorem dX12_bargain_2 : decode cX12_bargain 2 = .ok (.aload_n 0, 1) := by decide +kernel
theorem dX12_bargain_3 : decode cX12_bargain 3 = .ok (.getfield 19, 3) := by decide +kernel
theorem dX12_bargain_6 : decode cX12_bargain 6 = .ok (.iconst 0, 1) := by decide +kernel
theorem dX12_bargain_7 : decode cX12_bargain 7 = .ok (.iaload, 1) := by decide +kernel
theorem dX12_bargain_8 : decode cX12_bargain 8 = .ok (.istore 4, 2) := by decide +kernel
theorem dX12_bargain_10 : decode cX12_bargain 10 = .ok (.aload_n 0, 1) := by decide +kernel
theorem dX12_bargain_11 : decode cX12_bargain 11 = .ok (.iconst 0, 1) := by decide +kernel
theorem dX12_bargain_12 : decode cX12_bargain 12 = .ok (.putfield 153, 3) := by decide +kernel
theorem dX12_bargain_15 : decode cX12_bargain 15 = .ok (.iload_n 3, 1) := by decide +kernel
theorem dX12_bargain_16 : decode cX12_bargain 16 = .ok (.ifCond .le 92, 3) := by decide +kernel
theorem dX12_bargain_19 : decode cX12_bargain 19 = .ok (.iload 4, 2) := by decide +kernel
theorem dX12_bargain_21 : decode cX12_bargain 21 = .ok (.ifCond .le 87, 3) := by decide +kernel
theorem dX12_bargain_24 : decode cX12_bargain 24 = .ok (.aload_n 0, 1) := by decide +kernel
theorem dX12_bargain_25 : decode cX12_bargain 25 = .ok (.iload_n 1, 1) := by decide +kernel
theorem dX12_bargain_26 : decode cX12_bargain 26 = .ok (.aload_n 0, 1) := by decide +kernel
theorem dX12_bargain_27 : decode cX12_bargain 27 = .ok (.getfield 153, 3) := by decide +kernel
theorem dX12_bargain_30 : decode cX12_bargain 30 = .ok (.invokevirtual 156, 3) := by decide +kernel
theorem dX12_bargain_33 : decode cX12_bargain 33 = .ok (.istore 5, 2) := by decide +kernel
theorem dX12_bargain_35 : decode cX12_bargain 35 = .ok (.iload_n 3, 1) := by decide +kernel
theorem dX12_bargain_36 : decode cX12_bargain 36 = .ok (.iload 5, 2) := by decide +kernel
theorem dX12_bargain_38 : decode cX12_bargain 38 = .ok (.if_icmp .le 10, 3) := by decide +kernel
theorem dX12_bargain_41 : decode cX12_bargain 41 = .ok (.iload_n 3, 1) := by decide +kernel
theorem dX12_bargain_42 : decode cX12_bargain 42 = .ok (.iload 5, 2) := by decide +kernel
theorem dX12_bargain_44 : decode cX12_bargain 44 = .ok (.isub, 1) := by decide +kernel
theorem dX12_bargain_45 : decode cX12_bargain 45 = .ok (.goto 4, 3) := by decide +kernel
theorem dX12_bargain_48 : decode cX12_bargain 48 = .ok (.iconst 0, 1) := by decide +kernel
theorem dX12_bargain_49 : decode cX12_bargain 49 = .ok (.istore_n 3, 1) := by decide +kernel
theorem dX12_bargain_50 : decode cX12_bargain 50 = .ok (.iinc 4 (-1), 3) := by decide +kernel
theorem dX12_bargain_53 : decode cX12_bargain 53 = .ok (.iload 4, 2) := by decide +kernel
theorem dX12_bargain_55 : decode cX12_bargain 55 = .ok (.ifCond .le 40, 3) := by decide +kernel
theorem dX12_bargain_58 : decode cX12_bargain 58 = .ok (.iload_n 3, 1) := by decide +kernel
theorem dX12_bargain_59 : decode cX12_bargain 59 = .ok (.ifCond .le 36, 3) := by decide +kernel
theorem dX12_bargain_62 : decode cX12_bargain 62 = .ok (.aload_n 0, 1) := by decide +kernel
theorem dX12_bargain_63 : decode cX12_bargain 63 = .ok (.getfield 153, 3) := by decide +kernel
theorem dX12_bargain_66 : decode cX12_bargain 66 = .ok (.iconst 3, 1) := by decide +kernel
theorem dX12_bargain_67 : decode cX12_bargain 67 = .ok (.irem, 1) := by decide +kernel
theorem dX12_bargain_68 : decode cX12_bargain 68 = .ok (.iconst 2, 1) := by decide +kernel
theorem dX12_bargain_69 : decode cX12_bargain 69 = .ok (.if_icmp .ne 26, 3) := by decide +kernel
theorem dX12_bargain_72 : decode cX12_bargain 72 = .ok (.iload_n 3, 1) := by decide +kernel
theorem dX12_bargain_73 : decode cX12_bargain 73 = .ok (.aload_n 0, 1) := by decide +kernel
theorem dX12_bargain_74 : decode cX12_bargain 74 = .ok (.getfield 135, 3) := by decide +kernel
theorem dX12_bargain_77 : decode cX12_bargain 77 = .ok (.iadd, 1) := by decide +kernel
theorem dX12_bargain_78 : decode cX12_bargain 78 = .ok (.bipush 99, 2) := by decide +kernel
theorem dX12_bargain_80 : decode cX12_bargain 80 = .ok (.if_icmp .le 8, 3) := by decide +kernel
theorem dX12_bargain_83 : decode cX12_bargain 83 = .ok (.bipush 99, 2) := by decide +kernel
theorem dX12_bargain_85 : decode cX12_bargain 85 = .ok (.goto 9, 3) := by decide +kernel
theorem dX12_bargain_88 : decode cX12_bargain 88 = .ok (.iload_n 3, 1) := by decide +kernel
theorem dX12_bargain_89 : decode cX12_bargain 89 = .ok (.aload_n 0, 1) := by decide +kernel
theorem dX12_bargain_90 : decode cX12_bargain 90 = .ok (.getfield 135, 3) := by decide +kernel
theorem dX12_bargain_93 : decode cX12_bargain 93 = .ok (.iadd, 1) := by decide +kernel
theorem dX12_bargain_94 : decode cX12_bargain 94 = .ok (.istore_n 3, 1) := by decide +kernel
theorem dX12_bargain_95 : decode cX12_bargain 95 = .ok (.aload_n 0, 1) := by decide +kernel
theorem dX12_bargain_96 : decode cX12_bargain 96 = .ok (.dup, 1) := by decide +kernel
theorem dX12_bargain_97 : decode cX12_bargain 97 = .ok (.getfield 153, 3) := by decide +kernel
theorem dX12_bargain_100 : decode cX12_bargain 100 = .ok (.iconst 1, 1) := by decide +kernel
theorem dX12_bargain_101 : decode cX12_bargain 101 = .ok (.iadd, 1) := by decide +kernel
theorem dX12_bargain_102 : decode cX12_bargain 102 = .ok (.putfield 153, 3) := by decide +kernel
theorem dX12_bargain_105 : decode cX12_bargain 105 = .ok (.goto (-90), 3) := by decide +kernel
theorem dX12_bargain_108 : decode cX12_bargain 108 = .ok (.iload_n 3, 1) := by decide +kernel
theorem dX12_bargain_109 : decode cX12_bargain 109 = .ok (.ireturn, 1) := by decide +kernel
theorem dX12_ridOf_0 : decode cX12_ridOf 0 = .ok (.iconst 0, 1) := by decide +kernel
theorem dX12_ridOf_1 : decode cX12_ridOf 1 = .ok (.istore_n 2, 1) := by decide +kernel
theorem dX12_ridOf_2 : decode cX12_ridOf 2 = .ok (.iconst 0, 1) := by decide +kernel
theorem dX12_ridOf_3 : decode cX12_ridOf 3 = .ok (.istore_n 3, 1) := by decide +kernel
theorem dX12_ridOf_4 : decode cX12_ridOf 4 = .ok (.iload_n 3, 1) := by decide +kernel
theorem dX12_ridOf_5 : decode cX12_ridOf 5 = .ok (.bipush 99, 2) := by decide +kernel
theorem dX12_ridOf_7 : decode cX12_ridOf 7 = .ok (.if_icmp .gt 24, 3) := by decide +kernel
theorem dX12_ridOf_10 : decode cX12_ridOf 10 = .ok (.aload_n 0, 1) := by decide +kernel
theorem dX12_ridOf_11 : decode cX12_ridOf 11 = .ok (.iload_n 1, 1) := by decide +kernel
theorem dX12_ridOf_12 : decode cX12_ridOf 12 = .ok (.iload_n 3, 1) := by decide +kernel
theorem dX12_ridOf_13 : decode cX12_ridOf 13 = .ok (.invokevirtual 159, 3) := by decide +kernel
theorem dX12_ridOf_16 : decode cX12_ridOf 16 = .ok (.ifCond .ne 7, 3) := by decide +kernel
theorem dX12_ridOf_19 : decode cX12_ridOf 19 = .ok (.iload_n 3, 1) := by decide +kernel
theorem dX12_ridOf_20 : decode cX12_ridOf 20 = .ok (.goto 4, 3) := by decide +kernel
theorem dX12_ridOf_23 : decode cX12_ridOf 23 = .ok (.iload_n 2, 1) := by decide +kernel
theorem dX12_ridOf_24 : decode cX12_ridOf 24 = .ok (.istore_n 2, 1) := by decide +kernel
theorem dX12_ridOf_25 : decode cX12_ridOf 25 = .ok (.iinc 3 1, 3) := by decide +kernel
theorem dX12_ridOf_28 : decode cX12_ridOf 28 = .ok (.goto (-24), 3) := by decide +kernel
theorem dX12_ridOf_31 : decode cX12_ridOf 31 = .ok (.iload_n 2, 1) := by decide +kernel
theorem dX12_ridOf_32 : decode cX12_ridOf 32 = .ok (.ireturn, 1) := by decide +kernel
theorem dX12_ofVillage_0 : decode cX12_ofVillage 0 = .ok (.iconst 0, 1) := by decide +kernel
theorem dX12_ofVillage_1 : decode cX12_ofVillage 1 = .ok (.istore_n 2, 1) := by decide +kernel
theorem dX12_ofVillage_2 : decode cX12_ofVillage 2 = .ok (.iconst 0, 1) := by decide +kernel
theorem dX12_ofVillage_3 : decode cX12_ofVillage 3 = .ok (.istore_n 3, 1) := by decide +kernel
theorem dX12_ofVillage_4 : decode cX12_ofVillage 4 = .ok (.iload_n 3, 1) := by decide +kernel
theorem dX12_ofVillage_5 : decode cX12_ofVillage 5 = .ok (.aload_n 0, 1) := by decide +kernel
theorem dX12_ofVillage_6 : decode cX12_ofVillage 6 = .ok (.getfield 72, 3) := by decide +kernel
theorem dX12_ofVillage_9 : decode cX12_ofVillage 9 = .ok (.if_icmp .ge 29, 3) := by decide +kernel
theorem dX12_ofVillage_12 : decode cX12_ofVillage 12 = .ok (.iload_n 2, 1) := by decide +kernel
theorem dX12_ofVillage_13 : decode cX12_ofVillage 13 = .ok (.aload_n 0, 1) := by decide +kernel
theorem dX12_ofVillage_14 : decode cX12_ofVillage 14 = .ok (.getfield 13, 3) := by decide +kernel
theorem dX12_ofVillage_17 : decode cX12_ofVillage 17 = .ok (.iload_n 3, 1) := by decide +kernel
theorem dX12_ofVillage_18 : decode cX12_ofVillage 18 = .ok (.iaload, 1) := by decide +kernel
theorem dX12_ofVillage_19 : decode cX12_ofVillage 19 = .ok (.iload_n 1, 1) := by decide +kernel
theorem dX12_ofVillage_20 : decode cX12_ofVillage 20 = .ok (.if_icmp .ne 9, 3) := by decide +kernel
theorem dX12_ofVillage_23 : decode cX12_ofVillage 23 = .ok (.iconst 1, 1) := by decide +kernel
theorem dX12_ofVillage_24 : decode cX12_ofVillage 24 = .ok (.iload_n 3, 1) := by decide +kernel
theorem dX12_ofVillage_25 : decode cX12_ofVillage 25 = .ok (.ishl, 1) := by decide +kernel
theorem dX12_ofVillage_26 : decode cX12_ofVillage 26 = .ok (.goto 4, 3) := by decide +kernel
theorem dX12_ofVillage_29 : decode cX12_ofVillage 29 = .ok (.iconst 0, 1) := by decide +kernel
theorem dX12_ofVillage_30 : decode cX12_ofVillage 30 = .ok (.ior, 1) := by decide +kernel
theorem dX12_ofVillage_31 : decode cX12_ofVillage 31 = .ok (.istore_n 2, 1) := by decide +kernel
theorem dX12_ofVillage_32 : decode cX12_ofVillage 32 = .ok (.iinc 3 1, 3) := by decide +kernel
theorem dX12_ofVillage_35 : decode cX12_ofVillage 35 = .ok (.goto (-31), 3) := by decide +kernel
theorem dX12_ofVillage_38 : decode cX12_ofVillage 38 = .ok (.iload_n 2, 1) := by decide +kernel
theorem dX12_ofVillage_39 : decode cX12_ofVillage 39 = .ok (.ireturn, 1) := by decide +kernel
theorem dX12_ones_0 : decode cX12_ones 0 = .ok (.iconst 0, 1) := by decide +kernel
theorem dX12_ones_1 : decode cX12_ones 1 = .ok (.istore_n 1, 1) := by decide +kernel
theorem dX12_ones_2 : decode cX12_ones 2 = .ok (.iconst 0, 1) := by decide +kernel
theorem dX12_ones_3 : decode cX12_ones 3 = .ok (.istore_n 2, 1) := by decide +kernel
theorem dX12_ones_4 : decode cX12_ones 4 = .ok (.iload_n 2, 1) := by decide +kernel
theorem dX12_ones_5 : decode cX12_ones 5 = .ok (.bipush 7, 2) := by decide +kernel
theorem dX12_ones_7 : decode cX12_ones 7 = .ok (.if_icmp .ge 17, 3) := by decide +kernel
theorem dX12_ones_10 : decode cX12_ones 10 = .ok (.iload_n 1, 1) := by decide +kernel
theorem dX12_ones_11 : decode cX12_ones 11 = .ok (.iload_n 0, 1) := by decide +kernel
theorem dX12_ones_12 : decode cX12_ones 12 = .ok (.iload_n 2, 1) := by decide +kernel
theorem dX12_ones_13 : decode cX12_ones 13 = .ok (.ishr, 1) := by decide +kernel
theorem dX12_ones_14 : decode cX12_ones 14 = .ok (.iconst 1, 1) := by decide +kernel
theorem dX12_ones_15 : decode cX12_ones 15 = .ok (.iand, 1) := by decide +kernel
theorem dX12_ones_16 : decode cX12_ones 16 = .ok (.iadd, 1) := by decide +kernel
theorem dX12_ones_17 : decode cX12_ones 17 = .ok (.istore_n 1, 1) := by decide +kernel
theorem dX12_ones_18 : decode cX12_ones 18 = .ok (.iinc 2 1, 3) := by decide +kernel
theorem dX12_ones_21 : decode cX12_ones 21 = .ok (.goto (-17), 3) := by decide +kernel
theorem dX12_ones_24 : decode cX12_ones 24 = .ok (.iload_n 1, 1) := by decide +kernel
theorem dX12_ones_25 : decode cX12_ones 25 = .ok (.ireturn, 1) := by decide +kernel
theorem dX12_takes_0 : decode cX12_takes 0 = .ok (.aload_n 0, 1) := by decide +kernel
theorem dX12_takes_1 : decode cX12_takes 1 = .ok (.iload_n 2, 1) := by decide +kernel
theorem dX12_takes_2 : decode cX12_takes 2 = .ok (.invokevirtual 162, 3) := by decide +kernel
theorem dX12_takes_5 : decode cX12_takes 5 = .ok (.istore 4, 2) := by decide +kernel
theorem dX12_takes_7 : decode cX12_takes 7 = .ok (.iload 4, 2) := by decide +kernel
theorem dX12_takes_9 : decode cX12_takes 9 = .ok (.ifCond .eq 21, 3) := by decide +kernel
theorem dX12_takes_12 : decode cX12_takes 12 = .ok (.iload 4, 2) := by decide +kernel
theorem dX12_takes_14 : decode cX12_takes 14 = .ok (.aload_n 0, 1) := by decide +kernel
theorem dX12_takes_15 : decode cX12_takes 15 = .ok (.getfield 19, 3) := by decide +kernel
theorem dX12_takes_18 : decode cX12_takes 18 = .ok (.iload_n 1, 1) := by decide +kernel
theorem dX12_takes_19 : decode cX12_takes 19 = .ok (.iconst 4, 1) := by decide +kernel
theorem dX12_takes_20 : decode cX12_takes 20 = .ok (.iadd, 1) := by decide +kernel
theorem dX12_takes_21 : decode cX12_takes 21 = .ok (.iaload, 1) := by decide +kernel
theorem dX12_takes_22 : decode cX12_takes 22 = .ok (.iand, 1) := by decide +kernel
theorem dX12_takes_23 : decode cX12_takes 23 = .ok (.ifCond .ne 7, 3) := by decide +kernel
theorem dX12_takes_26 : decode cX12_takes 26 = .ok (.iconst 1, 1) := by decide +kernel
theorem dX12_takes_27 : decode cX12_takes 27 = .ok (.goto 4, 3) := by decide +kernel
theorem dX12_takes_30 : decode cX12_takes 30 = .ok (.iconst 0, 1) := by decide +kernel
theorem dX12_takes_31 : decode cX12_takes 31 = .ok (.istore 5, 2) := by decide +kernel
theorem dX12_takes_33 : decode cX12_takes 33 = .ok (.iload 5, 2) := by decide +kernel
theorem dX12_takes_35 : decode cX12_takes 35 = .ok (.ifCond .ne 7, 3) := by decide +kernel
theorem dX12_takes_38 : decode cX12_takes 38 = .ok (.iconst 0, 1) := by decide +kernel
theorem dX12_takes_39 : decode cX12_takes 39 = .ok (.goto 33, 3) := by decide +kernel
theorem dX12_takes_42 : decode cX12_takes 42 = .ok (.iload_n 3, 1) := by decide +kernel
theorem dX12_takes_43 : decode cX12_takes 43 = .ok (.aload_n 0, 1) := by decide +kernel
theorem dX12_takes_44 : decode cX12_takes 44 = .ok (.getfield 19, 3) := by decide +kernel
theorem dX12_takes_47 : decode cX12_takes 47 = .ok (.iload_n 1, 1) := by decide +kernel
theorem dX12_takes_48 : decode cX12_takes 48 = .ok (.bipush 26, 2) := by decide +kernel
theorem dX12_takes_50 : decode cX12_takes 50 = .ok (.iadd, 1) := by decide +kernel
theorem dX12_takes_51 : decode cX12_takes 51 = .ok (.iload_n 2, 1) := by decide +kernel
theorem dX12_takes_52 : decode cX12_takes 52 = .ok (.iadd, 1) := by decide +kernel
theorem dX12_takes_53 : decode cX12_takes 53 = .ok (.iaload, 1) := by decide +kernel
theorem dX12_takes_54 : decode cX12_takes 54 = .ok (.if_icmp .ge 7, 3) := by decide +kernel
theorem dX12_takes_57 : decode cX12_takes 57 = .ok (.iload_n 3, 1) := by decide +kernel
theorem dX12_takes_58 : decode cX12_takes 58 = .ok (.goto 14, 3) := by decide +kernel
theorem dX12_takes_61 : decode cX12_takes 61 = .ok (.aload_n 0, 1) := by decide +kernel
theorem dX12_takes_62 : decode cX12_takes 62 = .ok (.getfield 19, 3) := by decide +kernel
theorem dX12_takes_65 : decode cX12_takes 65 = .ok (.iload_n 1, 1) := by decide +kernel
theorem dX12_takes_66 : decode cX12_takes 66 = .ok (.bipush 26, 2) := by decide +kernel
theorem dX12_takes_68 : decode cX12_takes 68 = .ok (.iadd, 1) := by decide +kernel
theorem dX12_takes_69 : decode cX12_takes 69 = .ok (.iload_n 2, 1) := by decide +kernel
theorem dX12_takes_70 : decode cX12_takes 70 = .ok (.iadd, 1) := by decide +kernel
theorem dX12_takes_71 : decode cX12_takes 71 = .ok (.iaload, 1) := by decide +kernel
theorem dX12_takes_72 : decode cX12_takes 72 = .ok (.ireturn, 1) := by decide +kernel
theorem dX12_harms_0 : decode cX12_harms 0 = .ok (.aload_n 0, 1) := by decide +kernel
theorem dX12_harms_1 : decode cX12_harms 1 = .ok (.getfield 19, 3) := by decide +kernel
theorem dX12_harms_4 : decode cX12_harms 4 = .ok (.iload_n 1, 1) := by decide +kernel
theorem dX12_harms_5 : decode cX12_harms 5 = .ok (.bipush 19, 2) := by decide +kernel
theorem dX12_harms_7 : decode cX12_harms 7 = .ok (.iadd, 1) := by decide +kernel
theorem dX12_harms_8 : decode cX12_harms 8 = .ok (.iload_n 2, 1) := by decide +kernel
theorem dX12_harms_9 : decode cX12_harms 9 = .ok (.iadd, 1) := by decide +kernel
theorem dX12_harms_10 : decode cX12_harms 10 = .ok (.iaload, 1) := by decide +kernel
theorem dX12_harms_11 : decode cX12_harms 11 = .ok (.iload_n 3, 1) := by decide +kernel
theorem dX12_harms_12 : decode cX12_harms 12 = .ok (.iadd, 1) := by decide +kernel
theorem dX12_harms_13 : decode cX12_harms 13 = .ok (.istore 4, 2) := by decide +kernel
theorem dX12_harms_15 : decode cX12_harms 15 = .ok (.aload_n 0, 1) := by decide +kernel
theorem dX12_harms_16 : decode cX12_harms 16 = .ok (.getfield 19, 3) := by decide +kernel
theorem dX12_harms_19 : decode cX12_harms 19 = .ok (.iload_n 1, 1) := by decide +kernel
theorem dX12_harms_20 : decode cX12_harms 20 = .ok (.bipush 19, 2) := by decide +kernel
theorem dX12_harms_22 : decode cX12_harms 22 = .ok (.iadd, 1) := by decide +kernel
theorem dX12_harms_23 : decode cX12_harms 23 = .ok (.iload_n 2, 1) := by decide +kernel
theorem dX12_harms_24 : decode cX12_harms 24 = .ok (.iadd, 1) := by decide +kernel
theorem dX12_harms_25 : decode cX12_harms 25 = .ok (.iload 4, 2) := by decide +kernel
theorem dX12_harms_27 : decode cX12_harms 27 = .ok (.sipush 9999, 3) := by decide +kernel
theorem dX12_harms_30 : decode cX12_harms 30 = .ok (.if_icmp .le 9, 3) := by decide +kernel
theorem dX12_harms_33 : decode cX12_harms 33 = .ok (.sipush 9999, 3) := by decide +kernel
theorem dX12_harms_36 : decode cX12_harms 36 = .ok (.goto 5, 3) := by decide +kernel
theorem dX12_harms_39 : decode cX12_harms 39 = .ok (.iload 4, 2) := by decide +kernel
theorem dX12_harms_41 : decode cX12_harms 41 = .ok (.iastore, 1) := by decide +kernel
theorem dX12_harms_42 : decode cX12_harms 42 = .ok (.return_, 1) := by decide +kernel
theorem dX12_yearOf_0 : decode cX12_yearOf 0 = .ok (.iconst 0, 1) := by decide +kernel
theorem dX12_yearOf_1 : decode cX12_yearOf 1 = .ok (.istore_n 2, 1) := by decide +kernel
theorem dX12_yearOf_2 : decode cX12_yearOf 2 = .ok (.iload_n 2, 1) := by decide +kernel
theorem dX12_yearOf_3 : decode cX12_yearOf 3 = .ok (.aload_n 0, 1) := by decide +kernel
theorem dX12_yearOf_4 : decode cX12_yearOf 4 = .ok (.getfield 72, 3) := by decide +kernel
theorem dX12_yearOf_7 : decode cX12_yearOf 7 = .ok (.if_icmp .ge 38, 3) := by decide +kernel
theorem dX12_yearOf_10 : decode cX12_yearOf 10 = .ok (.aload_n 0, 1) := by decide +kernel
theorem dX12_yearOf_11 : decode cX12_yearOf 11 = .ok (.iload_n 1, 1) := by decide +kernel
theorem dX12_yearOf_12 : decode cX12_yearOf 12 = .ok (.iload_n 2, 1) := by decide +kernel
theorem dX12_yearOf_13 : decode cX12_yearOf 13 = .ok (.aload_n 0, 1) := by decide +kernel
theorem dX12_yearOf_14 : decode cX12_yearOf 14 = .ok (.getfield 19, 3) := by decide +kernel
theorem dX12_yearOf_17 : decode cX12_yearOf 17 = .ok (.iload_n 1, 1) := by decide +kernel
theorem dX12_yearOf_18 : decode cX12_yearOf 18 = .ok (.bipush 12, 2) := by decide +kernel
theorem dX12_yearOf_20 : decode cX12_yearOf 20 = .ok (.iadd, 1) := by decide +kernel
theorem dX12_yearOf_21 : decode cX12_yearOf 21 = .ok (.iload_n 2, 1) := by decide +kernel
theorem dX12_yearOf_22 : decode cX12_yearOf 22 = .ok (.iadd, 1) := by decide +kernel
theorem dX12_yearOf_23 : decode cX12_yearOf 23 = .ok (.iaload, 1) := by decide +kernel
theorem dX12_yearOf_24 : decode cX12_yearOf 24 = .ok (.invokevirtual 166, 3) := by decide +kernel
theorem dX12_yearOf_27 : decode cX12_yearOf 27 = .ok (.aload_n 0, 1) := by decide +kernel
theorem dX12_yearOf_28 : decode cX12_yearOf 28 = .ok (.getfield 19, 3) := by decide +kernel
theorem dX12_yearOf_31 : decode cX12_yearOf 31 = .ok (.iload_n 1, 1) := by decide +kernel
theorem dX12_yearOf_32 : decode cX12_yearOf 32 = .ok (.bipush 12, 2) := by decide +kernel
theorem dX12_yearOf_34 : decode cX12_yearOf 34 = .ok (.iadd, 1) := by decide +kernel
theorem dX12_yearOf_35 : decode cX12_yearOf 35 = .ok (.iload_n 2, 1) := by decide +kernel
theorem dX12_yearOf_36 : decode cX12_yearOf 36 = .ok (.iadd, 1) := by decide +kernel
theorem dX12_yearOf_37 : decode cX12_yearOf 37 = .ok (.iconst 0, 1) := by decide +kernel
theorem dX12_yearOf_38 : decode cX12_yearOf 38 = .ok (.iastore, 1) := by decide +kernel
theorem dX12_yearOf_39 : decode cX12_yearOf 39 = .ok (.iinc 2 1, 3) := by decide +kernel
theorem dX12_yearOf_42 : decode cX12_yearOf 42 = .ok (.goto (-40), 3) := by decide +kernel
theorem dX12_yearOf_45 : decode cX12_yearOf 45 = .ok (.iconst 0, 1) := by decide +kernel
theorem dX12_yearOf_46 : decode cX12_yearOf 46 = .ok (.istore_n 2, 1) := by decide +kernel
theorem dX12_yearOf_47 : decode cX12_yearOf 47 = .ok (.iload_n 2, 1) := by decide +kernel
theorem dX12_yearOf_48 : decode cX12_yearOf 48 = .ok (.aload_n 0, 1) := by decide +kernel
theorem dX12_yearOf_49 : decode cX12_yearOf 49 = .ok (.getfield 79, 3) := by decide +kernel
theorem dX12_yearOf_52 : decode cX12_yearOf 52 = .ok (.if_icmp .ge 89, 3) := by decide +kernel
theorem dX12_yearOf_55 : decode cX12_yearOf 55 = .ok (.aload_n 0, 1) := by decide +kernel
theorem dX12_yearOf_56 : decode cX12_yearOf 56 = .ok (.iload_n 2, 1) := by decide +kernel
theorem dX12_yearOf_57 : decode cX12_yearOf 57 = .ok (.invokevirtual 162, 3) := by decide +kernel
theorem dX12_yearOf_60 : decode cX12_yearOf 60 = .ok (.istore_n 3, 1) := by decide +kernel
theorem dX12_yearOf_61 : decode cX12_yearOf 61 = .ok (.aload_n 0, 1) := by decide +kernel
theorem dX12_yearOf_62 : decode cX12_yearOf 62 = .ok (.iload_n 1, 1) := by decide +kernel
theorem dX12_yearOf_63 : decode cX12_yearOf 63 = .ok (.iload_n 2, 1) := by decide +kernel
theorem dX12_yearOf_64 : decode cX12_yearOf 64 = .ok (.aload_n 0, 1) := by decide +kernel
theorem dX12_yearOf_65 : decode cX12_yearOf 65 = .ok (.getfield 19, 3) := by decide +kernel
theorem dX12_yearOf_68 : decode cX12_yearOf 68 = .ok (.iload_n 1, 1) := by decide +kernel
theorem dX12_yearOf_69 : decode cX12_yearOf 69 = .ok (.iconst 2, 1) := by decide +kernel
theorem dX12_yearOf_70 : decode cX12_yearOf 70 = .ok (.iadd, 1) := by decide +kernel
theorem dX12_yearOf_71 : decode cX12_yearOf 71 = .ok (.iaload, 1) := by decide +kernel
theorem dX12_yearOf_72 : decode cX12_yearOf 72 = .ok (.invokevirtual 170, 3) := by decide +kernel
theorem dX12_yearOf_75 : decode cX12_yearOf 75 = .ok (.istore 4, 2) := by decide +kernel
theorem dX12_yearOf_77 : decode cX12_yearOf 77 = .ok (.iconst 0, 1) := by decide +kernel
theorem dX12_yearOf_78 : decode cX12_yearOf 78 = .ok (.istore 5, 2) := by decide +kernel
theorem dX12_yearOf_80 : decode cX12_yearOf 80 = .ok (.iload 5, 2) := by decide +kernel
theorem dX12_yearOf_82 : decode cX12_yearOf 82 = .ok (.aload_n 0, 1) := by decide +kernel
theorem dX12_yearOf_83 : decode cX12_yearOf 83 = .ok (.getfield 72, 3) := by decide +kernel
theorem dX12_yearOf_86 : decode cX12_yearOf 86 = .ok (.if_icmp .ge 36, 3) := by decide +kernel
theorem dX12_yearOf_89 : decode cX12_yearOf 89 = .ok (.aload_n 0, 1) := by decide +kernel
theorem dX12_yearOf_90 : decode cX12_yearOf 90 = .ok (.iload_n 1, 1) := by decide +kernel
theorem dX12_yearOf_91 : decode cX12_yearOf 91 = .ok (.iload 5, 2) := by decide +kernel
theorem dX12_yearOf_93 : decode cX12_yearOf 93 = .ok (.iload_n 3, 1) := by decide +kernel
theorem dX12_yearOf_94 : decode cX12_yearOf 94 = .ok (.iload 5, 2) := by decide +kernel
theorem dX12_yearOf_96 : decode cX12_yearOf 96 = .ok (.invokestatic 174, 3) := by decide +kernel
theorem dX12_yearOf_99 : decode cX12_yearOf 99 = .ok (.ifCond .eq 13, 3) := by decide +kernel
theorem dX12_yearOf_102 : decode cX12_yearOf 102 = .ok (.iload 4, 2) := by decide +kernel
theorem dX12_yearOf_104 : decode cX12_yearOf 104 = .ok (.iload_n 3, 1) := by decide +kernel
theorem dX12_yearOf_105 : decode cX12_yearOf 105 = .ok (.invokestatic 178, 3) := by decide +kernel
theorem dX12_yearOf_108 : decode cX12_yearOf 108 = .ok (.idiv, 1) := by decide +kernel
theorem dX12_yearOf_109 : decode cX12_yearOf 109 = .ok (.goto 4, 3) := by decide +kernel
theorem dX12_yearOf_112 : decode cX12_yearOf 112 = .ok (.iconst 0, 1) := by decide +kernel
theorem dX12_yearOf_113 : decode cX12_yearOf 113 = .ok (.invokevirtual 166, 3) := by decide +kernel
theorem dX12_yearOf_116 : decode cX12_yearOf 116 = .ok (.iinc 5 1, 3) := by decide +kernel
theorem dX12_yearOf_119 : decode cX12_yearOf 119 = .ok (.goto (-39), 3) := by decide +kernel
theorem dX12_yearOf_122 : decode cX12_yearOf 122 = .ok (.aload_n 0, 1) := by decide +kernel
theorem dX12_yearOf_123 : decode cX12_yearOf 123 = .ok (.getfield 19, 3) := by decide +kernel
theorem dX12_yearOf_126 : decode cX12_yearOf 126 = .ok (.iload_n 1, 1) := by decide +kernel
theorem dX12_yearOf_127 : decode cX12_yearOf 127 = .ok (.iconst 2, 1) := by decide +kernel
theorem dX12_yearOf_128 : decode cX12_yearOf 128 = .ok (.iadd, 1) := by decide +kernel
theorem dX12_yearOf_129 : decode cX12_yearOf 129 = .ok (.dup2, 1) := by decide +kernel
theorem dX12_yearOf_130 : decode cX12_yearOf 130 = .ok (.iaload, 1) := by decide +kernel
theorem dX12_yearOf_131 : decode cX12_yearOf 131 = .ok (.iload 4, 2) := by decide +kernel
theorem dX12_yearOf_133 : decode cX12_yearOf 133 = .ok (.isub, 1) := by decide +kernel
theorem dX12_yearOf_134 : decode cX12_yearOf 134 = .ok (.iastore, 1) := by decide +kernel
theorem dX12_yearOf_135 : decode cX12_yearOf 135 = .ok (.iinc 2 1, 3) := by decide +kernel
theorem dX12_yearOf_138 : decode cX12_yearOf 138 = .ok (.goto (-91), 3) := by decide +kernel
theorem dX12_yearOf_141 : decode cX12_yearOf 141 = .ok (.aload_n 0, 1) := by decide +kernel
theorem dX12_yearOf_142 : decode cX12_yearOf 142 = .ok (.getfield 19, 3) := by decide +kernel
theorem dX12_yearOf_145 : decode cX12_yearOf 145 = .ok (.iload_n 1, 1) := by decide +kernel
theorem dX12_yearOf_146 : decode cX12_yearOf 146 = .ok (.iconst 0, 1) := by decide +kernel
theorem dX12_yearOf_147 : decode cX12_yearOf 147 = .ok (.iadd, 1) := by decide +kernel
theorem dX12_yearOf_148 : decode cX12_yearOf 148 = .ok (.aload_n 0, 1) := by decide +kernel
theorem dX12_yearOf_149 : decode cX12_yearOf 149 = .ok (.getfield 69, 3) := by decide +kernel
theorem dX12_yearOf_152 : decode cX12_yearOf 152 = .ok (.iastore, 1) := by decide +kernel
theorem dX12_yearOf_153 : decode cX12_yearOf 153 = .ok (.aload_n 0, 1) := by decide +kernel
theorem dX12_yearOf_154 : decode cX12_yearOf 154 = .ok (.getfield 19, 3) := by decide +kernel
theorem dX12_yearOf_157 : decode cX12_yearOf 157 = .ok (.iload_n 1, 1) := by decide +kernel
theorem dX12_yearOf_158 : decode cX12_yearOf 158 = .ok (.iconst 1, 1) := by decide +kernel
theorem dX12_yearOf_159 : decode cX12_yearOf 159 = .ok (.iadd, 1) := by decide +kernel
theorem dX12_yearOf_160 : decode cX12_yearOf 160 = .ok (.dup2, 1) := by decide +kernel
theorem dX12_yearOf_161 : decode cX12_yearOf 161 = .ok (.iaload, 1) := by decide +kernel
theorem dX12_yearOf_162 : decode cX12_yearOf 162 = .ok (.iconst 1, 1) := by decide +kernel
theorem dX12_yearOf_163 : decode cX12_yearOf 163 = .ok (.iadd, 1) := by decide +kernel
theorem dX12_yearOf_164 : decode cX12_yearOf 164 = .ok (.iastore, 1) := by decide +kernel
theorem dX12_yearOf_165 : decode cX12_yearOf 165 = .ok (.aload_n 0, 1) := by decide +kernel
theorem dX12_yearOf_166 : decode cX12_yearOf 166 = .ok (.getfield 19, 3) := by decide +kernel
theorem dX12_yearOf_169 : decode cX12_yearOf 169 = .ok (.iload_n 1, 1) := by decide +kernel
theorem dX12_yearOf_170 : decode cX12_yearOf 170 = .ok (.iconst 3, 1) := by decide +kernel
theorem dX12_yearOf_171 : decode cX12_yearOf 171 = .ok (.iadd, 1) := by decide +kernel
theorem dX12_yearOf_172 : decode cX12_yearOf 172 = .ok (.iconst 0, 1) := by decide +kernel
theorem dX12_yearOf_173 : decode cX12_yearOf 173 = .ok (.iastore, 1) := by decide +kernel
theorem dX12_yearOf_174 : decode cX12_yearOf 174 = .ok (.aload_n 0, 1) := by decide +kernel
theorem dX12_yearOf_175 : decode cX12_yearOf 175 = .ok (.getfield 19, 3) := by decide +kernel
theorem dX12_yearOf_178 : decode cX12_yearOf 178 = .ok (.iload_n 1, 1) := by decide +kernel
theorem dX12_yearOf_179 : decode cX12_yearOf 179 = .ok (.iconst 4, 1) := by decide +kernel
theorem dX12_yearOf_180 : decode cX12_yearOf 180 = .ok (.iadd, 1) := by decide +kernel
theorem dX12_yearOf_181 : decode cX12_yearOf 181 = .ok (.iconst 0, 1) := by decide +kernel
theorem dX12_yearOf_182 : decode cX12_yearOf 182 = .ok (.iastore, 1) := by decide +kernel
theorem dX12_yearOf_183 : decode cX12_yearOf 183 = .ok (.return_, 1) := by decide +kernel
theorem dX12_tries_0 : decode cX12_tries 0 = .ok (.iconst 0, 1) := by decide +kernel
theorem dX12_tries_1 : decode cX12_tries 1 = .ok (.istore_n 1, 1) := by decide +kernel
theorem dX12_tries_2 : decode cX12_tries 2 = .ok (.iload_n 1, 1) := by decide +kernel
theorem dX12_tries_3 : decode cX12_tries 3 = .ok (.bipush 30, 2) := by decide +kernel
theorem dX12_tries_5 : decode cX12_tries 5 = .ok (.if_icmp .ge 24, 3) := by decide +kernel
theorem dX12_tries_8 : decode cX12_tries 8 = .ok (.aload_n 0, 1) := by decide +kernel
theorem dX12_tries_9 : decode cX12_tries 9 = .ok (.getfield 19, 3) := by decide +kernel
theorem dX12_tries_12 : decode cX12_tries 12 = .ok (.bipush 30, 2) := by decide +kernel
theorem dX12_tries_14 : decode cX12_tries 14 = .ok (.iload_n 1, 1) := by decide +kernel
theorem dX12_tries_15 : decode cX12_tries 15 = .ok (.iadd, 1) := by decide +kernel
theorem dX12_tries_16 : decode cX12_tries 16 = .ok (.aload_n 0, 1) := by decide +kernel
theorem dX12_tries_17 : decode cX12_tries 17 = .ok (.getfield 19, 3) := by decide +kernel
theorem dX12_tries_20 : decode cX12_tries 20 = .ok (.iload_n 1, 1) := by decide +kernel
theorem dX12_tries_21 : decode cX12_tries 21 = .ok (.iaload, 1) := by decide +kernel
theorem dX12_tries_22 : decode cX12_tries 22 = .ok (.iastore, 1) := by decide +kernel
theorem dX12_tries_23 : decode cX12_tries 23 = .ok (.iinc 1 1, 3) := by decide +kernel
theorem dX12_tries_26 : decode cX12_tries 26 = .ok (.goto (-24), 3) := by decide +kernel
theorem dX12_tries_29 : decode cX12_tries 29 = .ok (.return_, 1) := by decide +kernel
theorem dX12_had_0 : decode cX12_had 0 = .ok (.aload_n 0, 1) := by decide +kernel
theorem dX12_had_1 : decode cX12_had 1 = .ok (.getfield 19, 3) := by decide +kernel
theorem dX12_had_4 : decode cX12_had 4 = .ok (.iconst 2, 1) := by decide +kernel
theorem dX12_had_5 : decode cX12_had 5 = .ok (.iaload, 1) := by decide +kernel
theorem dX12_had_6 : decode cX12_had 6 = .ok (.istore_n 2, 1) := by decide +kernel
theorem dX12_had_7 : decode cX12_had 7 = .ok (.iconst 0, 1) := by decide +kernel
theorem dX12_had_8 : decode cX12_had 8 = .ok (.istore_n 3, 1) := by decide +kernel
theorem dX12_had_9 : decode cX12_had 9 = .ok (.iconst 0, 1) := by decide +kernel
theorem dX12_had_10 : decode cX12_had 10 = .ok (.istore 4, 2) := by decide +kernel
theorem dX12_had_12 : decode cX12_had 12 = .ok (.iload 4, 2) := by decide +kernel
theorem dX12_had_14 : decode cX12_had 14 = .ok (.iload_n 1, 1) := by decide +kernel
theorem dX12_had_15 : decode cX12_had 15 = .ok (.if_icmp .gt 22, 3) := by decide +kernel
theorem dX12_had_18 : decode cX12_had 18 = .ok (.aload_n 0, 1) := by decide +kernel
theorem dX12_had_19 : decode cX12_had 19 = .ok (.iconst 0, 1) := by decide +kernel
theorem dX12_had_20 : decode cX12_had 20 = .ok (.iload 4, 2) := by decide +kernel
theorem dX12_had_22 : decode cX12_had 22 = .ok (.iload_n 2, 1) := by decide +kernel
theorem dX12_had_23 : decode cX12_had 23 = .ok (.invokevirtual 170, 3) := by decide +kernel
theorem dX12_had_26 : decode cX12_had 26 = .ok (.istore_n 3, 1) := by decide +kernel
theorem dX12_had_27 : decode cX12_had 27 = .ok (.iload_n 2, 1) := by decide +kernel
theorem dX12_had_28 : decode cX12_had 28 = .ok (.iload_n 3, 1) := by decide +kernel
theorem dX12_had_29 : decode cX12_had 29 = .ok (.isub, 1) := by decide +kernel
theorem dX12_had_30 : decode cX12_had 30 = .ok (.istore_n 2, 1) := by decide +kernel
theorem dX12_had_31 : decode cX12_had 31 = .ok (.iinc 4 1, 3) := by decide +kernel
theorem dX12_had_34 : decode cX12_had 34 = .ok (.goto (-22), 3) := by decide +kernel
theorem dX12_had_37 : decode cX12_had 37 = .ok (.iload_n 3, 1) := by decide +kernel
theorem dX12_had_38 : decode cX12_had 38 = .ok (.ireturn, 1) := by decide +kernel
theorem dX12_borne_0 : decode cX12_borne 0 = .ok (.aload_n 0, 1) := by decide +kernel
theorem dX12_borne_1 : decode cX12_borne 1 = .ok (.invokevirtual 181, 3) := by decide +kernel
theorem dX12_borne_4 : decode cX12_borne 4 = .ok (.aload_n 0, 1) := by decide +kernel
theorem dX12_borne_5 : decode cX12_borne 5 = .ok (.bipush 30, 2) := by decide +kernel
theorem dX12_borne_7 : decode cX12_borne 7 = .ok (.invokevirtual 184, 3) := by decide +kernel
theorem dX12_borne_10 : decode cX12_borne 10 = .ok (.aload_n 0, 1) := by decide +kernel
theorem dX12_borne_11 : decode cX12_borne 11 = .ok (.getfield 19, 3) := by decide +kernel
theorem dX12_borne_14 : decode cX12_borne 14 = .ok (.bipush 32, 2) := by decide +kernel
theorem dX12_borne_16 : decode cX12_borne 16 = .ok (.iaload, 1) := by decide +kernel
theorem dX12_borne_17 : decode cX12_borne 17 = .ok (.ifCond .ne 7, 3) := by decide +kernel
theorem dX12_borne_20 : decode cX12_borne 20 = .ok (.iconst 1, 1) := by decide +kernel
theorem dX12_borne_21 : decode cX12_borne 21 = .ok (.goto 4, 3) := by decide +kernel
theorem dX12_borne_24 : decode cX12_borne 24 = .ok (.iconst 0, 1) := by decide +kernel
theorem dX12_borne_25 : decode cX12_borne 25 = .ok (.ireturn, 1) := by decide +kernel
theorem dX12_madeUp_0 : decode cX12_madeUp 0 = .ok (.aload_n 0, 1) := by decide +kernel
theorem dX12_madeUp_1 : decode cX12_madeUp 1 = .ok (.invokevirtual 181, 3) := by decide +kernel
theorem dX12_madeUp_4 : decode cX12_madeUp 4 = .ok (.iconst 0, 1) := by decide +kernel
theorem dX12_madeUp_5 : decode cX12_madeUp 5 = .ok (.istore_n 1, 1) := by decide +kernel
theorem dX12_madeUp_6 : decode cX12_madeUp 6 = .ok (.iload_n 1, 1) := by decide +kernel
theorem dX12_madeUp_7 : decode cX12_madeUp 7 = .ok (.bipush 60, 2) := by decide +kernel
theorem dX12_madeUp_9 : decode cX12_madeUp 9 = .ok (.if_icmp .gt 27, 3) := by decide +kernel
theorem dX12_madeUp_12 : decode cX12_madeUp 12 = .ok (.aload_n 0, 1) := by decide +kernel
theorem dX12_madeUp_13 : decode cX12_madeUp 13 = .ok (.getfield 19, 3) := by decide +kernel
theorem dX12_madeUp_16 : decode cX12_madeUp 16 = .ok (.bipush 32, 2) := by decide +kernel
theorem dX12_madeUp_18 : decode cX12_madeUp 18 = .ok (.iaload, 1) := by decide +kernel
theorem dX12_madeUp_19 : decode cX12_madeUp 19 = .ok (.ifCond .ne 5, 3) := by decide +kernel
theorem dX12_madeUp_22 : decode cX12_madeUp 22 = .ok (.iload_n 1, 1) := by decide +kernel
theorem dX12_madeUp_23 : decode cX12_madeUp 23 = .ok (.ireturn, 1) := by decide +kernel
theorem dX12_madeUp_24 : decode cX12_madeUp 24 = .ok (.aload_n 0, 1) := by decide +kernel
theorem dX12_madeUp_25 : decode cX12_madeUp 25 = .ok (.bipush 30, 2) := by decide +kernel
theorem dX12_madeUp_27 : decode cX12_madeUp 27 = .ok (.invokevirtual 184, 3) := by decide +kernel
theorem dX12_madeUp_30 : decode cX12_madeUp 30 = .ok (.iinc 1 1, 3) := by decide +kernel
theorem dX12_madeUp_33 : decode cX12_madeUp 33 = .ok (.goto (-27), 3) := by decide +kernel
theorem dX12_madeUp_36 : decode cX12_madeUp 36 = .ok (.iconst (-1), 1) := by decide +kernel
theorem dX12_madeUp_37 : decode cX12_madeUp 37 = .ok (.ireturn, 1) := by decide +kernel
theorem dX12_toldFate_0 : decode cX12_toldFate 0 = .ok (.iconst 0, 1) := by decide +kernel
theorem dX12_toldFate_1 : decode cX12_toldFate 1 = .ok (.istore_n 1, 1) := by decide +kernel
theorem dX12_toldFate_2 : decode cX12_toldFate 2 = .ok (.iconst 0, 1) := by decide +kernel
theorem dX12_toldFate_3 : decode cX12_toldFate 3 = .ok (.istore_n 2, 1) := by decide +kernel
theorem dX12_toldFate_4 : decode cX12_toldFate 4 = .ok (.iload_n 2, 1) := by decide +kernel
theorem dX12_toldFate_5 : decode cX12_toldFate 5 = .ok (.aload_n 0, 1) := by decide +kernel
theorem dX12_toldFate_6 : decode cX12_toldFate 6 = .ok (.getfield 72, 3) := by decide +kernel
theorem dX12_toldFate_9 : decode cX12_toldFate 9 = .ok (.if_icmp .ge 31, 3) := by decide +kernel
theorem dX12_toldFate_12 : decode cX12_toldFate 12 = .ok (.iload_n 1, 1) := by decide +kernel
theorem dX12_toldFate_13 : decode cX12_toldFate 13 = .ok (.aload_n 0, 1) := by decide +kernel
theorem dX12_toldFate_14 : decode cX12_toldFate 14 = .ok (.getfield 19, 3) := by decide +kernel
theorem dX12_toldFate_17 : decode cX12_toldFate 17 = .ok (.bipush 12, 2) := by decide +kernel
theorem dX12_toldFate_19 : decode cX12_toldFate 19 = .ok (.iload_n 2, 1) := by decide +kernel
theorem dX12_toldFate_20 : decode cX12_toldFate 20 = .ok (.iadd, 1) := by decide +kernel
theorem dX12_toldFate_21 : decode cX12_toldFate 21 = .ok (.iaload, 1) := by decide +kernel
theorem dX12_toldFate_22 : decode cX12_toldFate 22 = .ok (.ifCond .le 9, 3) := by decide +kernel
theorem dX12_toldFate_25 : decode cX12_toldFate 25 = .ok (.iconst 1, 1) := by decide +kernel
theorem dX12_toldFate_26 : decode cX12_toldFate 26 = .ok (.iload_n 2, 1) := by decide +kernel
theorem dX12_toldFate_27 : decode cX12_toldFate 27 = .ok (.ishl, 1) := by decide +kernel
theorem dX12_toldFate_28 : decode cX12_toldFate 28 = .ok (.goto 4, 3) := by decide +kernel
theorem dX12_toldFate_31 : decode cX12_toldFate 31 = .ok (.iconst 0, 1) := by decide +kernel
theorem dX12_toldFate_32 : decode cX12_toldFate 32 = .ok (.ior, 1) := by decide +kernel
theorem dX12_toldFate_33 : decode cX12_toldFate 33 = .ok (.istore_n 1, 1) := by decide +kernel
theorem dX12_toldFate_34 : decode cX12_toldFate 34 = .ok (.iinc 2 1, 3) := by decide +kernel
theorem dX12_toldFate_37 : decode cX12_toldFate 37 = .ok (.goto (-33), 3) := by decide +kernel
theorem dX12_toldFate_40 : decode cX12_toldFate 40 = .ok (.iload_n 1, 1) := by decide +kernel
theorem dX12_toldFate_41 : decode cX12_toldFate 41 = .ok (.ireturn, 1) := by decide +kernel
theorem dX12_worst_0 : decode cX12_worst 0 = .ok (.iconst (-1), 1) := by decide +kernel
theorem dX12_worst_1 : decode cX12_worst 1 = .ok (.istore_n 1, 1) := by decide +kernel
theorem dX12_worst_2 : decode cX12_worst 2 = .ok (.iconst (-1), 1) := by decide +kernel
theorem dX12_worst_3 : decode cX12_worst 3 = .ok (.istore_n 2, 1) := by decide +kernel
theorem dX12_worst_4 : decode cX12_worst 4 = .ok (.iconst 0, 1) := by decide +kernel
theorem dX12_worst_5 : decode cX12_worst 5 = .ok (.istore_n 3, 1) := by decide +kernel
theorem dX12_worst_6 : decode cX12_worst 6 = .ok (.iload_n 3, 1) := by decide +kernel
theorem dX12_worst_7 : decode cX12_worst 7 = .ok (.aload_n 0, 1) := by decide +kernel
theorem dX12_worst_8 : decode cX12_worst 8 = .ok (.getfield 72, 3) := by decide +kernel
theorem dX12_worst_11 : decode cX12_worst 11 = .ok (.if_icmp .ge 55, 3) := by decide +kernel
theorem dX12_worst_14 : decode cX12_worst 14 = .ok (.aload_n 0, 1) := by decide +kernel
theorem dX12_worst_15 : decode cX12_worst 15 = .ok (.getfield 19, 3) := by decide +kernel
theorem dX12_worst_18 : decode cX12_worst 18 = .ok (.bipush 19, 2) := by decide +kernel
theorem dX12_worst_20 : decode cX12_worst 20 = .ok (.iload_n 3, 1) := by decide +kernel
theorem dX12_worst_21 : decode cX12_worst 21 = .ok (.iadd, 1) := by decide +kernel
theorem dX12_worst_22 : decode cX12_worst 22 = .ok (.iaload, 1) := by decide +kernel
theorem dX12_worst_23 : decode cX12_worst 23 = .ok (.iload_n 2, 1) := by decide +kernel
theorem dX12_worst_24 : decode cX12_worst 24 = .ok (.if_icmp .le 7, 3) := by decide +kernel
theorem dX12_worst_27 : decode cX12_worst 27 = .ok (.iload_n 3, 1) := by decide +kernel
theorem dX12_worst_28 : decode cX12_worst 28 = .ok (.goto 4, 3) := by decide +kernel
theorem dX12_worst_31 : decode cX12_worst 31 = .ok (.iload_n 1, 1) := by decide +kernel
theorem dX12_worst_32 : decode cX12_worst 32 = .ok (.istore_n 1, 1) := by decide +kernel
theorem dX12_worst_33 : decode cX12_worst 33 = .ok (.aload_n 0, 1) := by decide +kernel
theorem dX12_worst_34 : decode cX12_worst 34 = .ok (.getfield 19, 3) := by decide +kernel
theorem dX12_worst_37 : decode cX12_worst 37 = .ok (.bipush 19, 2) := by decide +kernel
theorem dX12_worst_39 : decode cX12_worst 39 = .ok (.iload_n 3, 1) := by decide +kernel
theorem dX12_worst_40 : decode cX12_worst 40 = .ok (.iadd, 1) := by decide +kernel
theorem dX12_worst_41 : decode cX12_worst 41 = .ok (.iaload, 1) := by decide +kernel
theorem dX12_worst_42 : decode cX12_worst 42 = .ok (.iload_n 2, 1) := by decide +kernel
theorem dX12_worst_43 : decode cX12_worst 43 = .ok (.if_icmp .le 15, 3) := by decide +kernel
theorem dX12_worst_46 : decode cX12_worst 46 = .ok (.aload_n 0, 1) := by decide +kernel
theorem dX12_worst_47 : decode cX12_worst 47 = .ok (.getfield 19, 3) := by decide +kernel
theorem dX12_worst_50 : decode cX12_worst 50 = .ok (.bipush 19, 2) := by decide +kernel
theorem dX12_worst_52 : decode cX12_worst 52 = .ok (.iload_n 3, 1) := by decide +kernel
theorem dX12_worst_53 : decode cX12_worst 53 = .ok (.iadd, 1) := by decide +kernel
theorem dX12_worst_54 : decode cX12_worst 54 = .ok (.iaload, 1) := by decide +kernel
theorem dX12_worst_55 : decode cX12_worst 55 = .ok (.goto 4, 3) := by decide +kernel
theorem dX12_worst_58 : decode cX12_worst 58 = .ok (.iload_n 2, 1) := by decide +kernel
theorem dX12_worst_59 : decode cX12_worst 59 = .ok (.istore_n 2, 1) := by decide +kernel
theorem dX12_worst_60 : decode cX12_worst 60 = .ok (.iinc 3 1, 3) := by decide +kernel
theorem dX12_worst_63 : decode cX12_worst 63 = .ok (.goto (-57), 3) := by decide +kernel
theorem dX12_worst_66 : decode cX12_worst 66 = .ok (.iload_n 1, 1) := by decide +kernel
theorem dX12_worst_67 : decode cX12_worst 67 = .ok (.ireturn, 1) := by decide +kernel
theorem dX12_told_0 : decode cX12_told 0 = .ok (.iload_n 1, 1) := by decide +kernel
theorem dX12_told_1 : decode cX12_told 1 = .ok (.tableswitch 207 0 18 #[91, 98, 103, 108, 113, 118, 125, 132, 137, 155, 162, 167, 172, 177, 182, 187, 192, 197, 202], 91) := by decide +kernel
theorem dX12_told_92 : decode cX12_told 92 = .ok (.aload_n 0, 1) := by decide +kernel
theorem dX12_told_93 : decode cX12_told 93 = .ok (.getfield 19, 3) := by decide +kernel
theorem dX12_told_96 : decode cX12_told 96 = .ok (.iconst 0, 1) := by decide +kernel
theorem dX12_told_97 : decode cX12_told 97 = .ok (.iaload, 1) := by decide +kernel
theorem dX12_told_98 : decode cX12_told 98 = .ok (.ireturn, 1) := by decide +kernel
theorem dX12_told_99 : decode cX12_told 99 = .ok (.aload_n 0, 1) := by decide +kernel
theorem dX12_told_100 : decode cX12_told 100 = .ok (.getfield 135, 3) := by decide +kernel
theorem dX12_told_103 : decode cX12_told 103 = .ok (.ireturn, 1) := by decide +kernel
theorem dX12_told_104 : decode cX12_told 104 = .ok (.aload_n 0, 1) := by decide +kernel
theorem dX12_told_105 : decode cX12_told 105 = .ok (.getfield 79, 3) := by decide +kernel
theorem dX12_told_108 : decode cX12_told 108 = .ok (.ireturn, 1) := by decide +kernel
theorem dX12_told_109 : decode cX12_told 109 = .ok (.aload_n 0, 1) := by decide +kernel
theorem dX12_told_110 : decode cX12_told 110 = .ok (.getfield 72, 3) := by decide +kernel
theorem dX12_told_113 : decode cX12_told 113 = .ok (.ireturn, 1) := by decide +kernel
theorem dX12_told_114 : decode cX12_told 114 = .ok (.aload_n 0, 1) := by decide +kernel
theorem dX12_told_115 : decode cX12_told 115 = .ok (.getfield 85, 3) := by decide +kernel
theorem dX12_told_118 : decode cX12_told 118 = .ok (.ireturn, 1) := by decide +kernel
theorem dX12_told_119 : decode cX12_told 119 = .ok (.aload_n 0, 1) := by decide +kernel
theorem dX12_told_120 : decode cX12_told 120 = .ok (.getfield 19, 3) := by decide +kernel
theorem dX12_told_123 : decode cX12_told 123 = .ok (.iconst 1, 1) := by decide +kernel
theorem dX12_told_124 : decode cX12_told 124 = .ok (.iaload, 1) := by decide +kernel
theorem dX12_told_125 : decode cX12_told 125 = .ok (.ireturn, 1) := by decide +kernel
theorem dX12_told_126 : decode cX12_told 126 = .ok (.aload_n 0, 1) := by decide +kernel
theorem dX12_told_127 : decode cX12_told 127 = .ok (.getfield 19, 3) := by decide +kernel
theorem dX12_told_130 : decode cX12_told 130 = .ok (.iconst 2, 1) := by decide +kernel
theorem dX12_told_131 : decode cX12_told 131 = .ok (.iaload, 1) := by decide +kernel
theorem dX12_told_132 : decode cX12_told 132 = .ok (.ireturn, 1) := by decide +kernel
theorem dX12_told_133 : decode cX12_told 133 = .ok (.aload_n 0, 1) := by decide +kernel
theorem dX12_told_134 : decode cX12_told 134 = .ok (.invokevirtual 188, 3) := by decide +kernel
theorem dX12_told_137 : decode cX12_told 137 = .ok (.ireturn, 1) := by decide +kernel
theorem dX12_told_138 : decode cX12_told 138 = .ok (.iconst 1, 1) := by decide +kernel
theorem dX12_told_139 : decode cX12_told 139 = .ok (.aload_n 0, 1) := by decide +kernel
theorem dX12_told_140 : decode cX12_told 140 = .ok (.getfield 72, 3) := by decide +kernel
theorem dX12_told_143 : decode cX12_told 143 = .ok (.ishl, 1) := by decide +kernel
theorem dX12_told_144 : decode cX12_told 144 = .ok (.iconst 1, 1) := by decide +kernel
theorem dX12_told_145 : decode cX12_told 145 = .ok (.isub, 1) := by decide +kernel
theorem dX12_told_146 : decode cX12_told 146 = .ok (.aload_n 0, 1) := by decide +kernel
theorem dX12_told_147 : decode cX12_told 147 = .ok (.getfield 19, 3) := by decide +kernel
theorem dX12_told_150 : decode cX12_told 150 = .ok (.iconst 4, 1) := by decide +kernel
theorem dX12_told_151 : decode cX12_told 151 = .ok (.iaload, 1) := by decide +kernel
theorem dX12_told_152 : decode cX12_told 152 = .ok (.iconst (-1), 1) := by decide +kernel
theorem dX12_told_153 : decode cX12_told 153 = .ok (.ixor, 1) := by decide +kernel
theorem dX12_told_154 : decode cX12_told 154 = .ok (.iand, 1) := by decide +kernel
theorem dX12_told_155 : decode cX12_told 155 = .ok (.ireturn, 1) := by decide +kernel
theorem dX12_told_156 : decode cX12_told 156 = .ok (.aload_n 0, 1) := by decide +kernel
theorem dX12_told_157 : decode cX12_told 157 = .ok (.getfield 19, 3) := by decide +kernel
theorem dX12_told_160 : decode cX12_told 160 = .ok (.iconst 3, 1) := by decide +kernel
theorem dX12_told_161 : decode cX12_told 161 = .ok (.iaload, 1) := by decide +kernel
theorem dX12_told_162 : decode cX12_told 162 = .ok (.ireturn, 1) := by decide +kernel
theorem dX12_told_163 : decode cX12_told 163 = .ok (.aload_n 0, 1) := by decide +kernel
theorem dX12_told_164 : decode cX12_told 164 = .ok (.invokevirtual 191, 3) := by decide +kernel
theorem dX12_told_167 : decode cX12_told 167 = .ok (.ireturn, 1) := by decide +kernel
theorem dX12_told_168 : decode cX12_told 168 = .ok (.aload_n 0, 1) := by decide +kernel
theorem dX12_told_169 : decode cX12_told 169 = .ok (.invokevirtual 194, 3) := by decide +kernel
theorem dX12_told_172 : decode cX12_told 172 = .ok (.ireturn, 1) := by decide +kernel
theorem dX12_told_173 : decode cX12_told 173 = .ok (.aload_n 0, 1) := by decide +kernel
theorem dX12_told_174 : decode cX12_told 174 = .ok (.invokevirtual 197, 3) := by decide +kernel
theorem dX12_told_177 : decode cX12_told 177 = .ok (.ireturn, 1) := by decide +kernel
theorem dX12_told_178 : decode cX12_told 178 = .ok (.aload_n 0, 1) := by decide +kernel
theorem dX12_told_179 : decode cX12_told 179 = .ok (.getfield 144, 3) := by decide +kernel
theorem dX12_told_182 : decode cX12_told 182 = .ok (.ireturn, 1) := by decide +kernel
theorem dX12_told_183 : decode cX12_told 183 = .ok (.aload_n 0, 1) := by decide +kernel
theorem dX12_told_184 : decode cX12_told 184 = .ok (.invokevirtual 200, 3) := by decide +kernel
theorem dX12_told_187 : decode cX12_told 187 = .ok (.ireturn, 1) := by decide +kernel
theorem dX12_told_188 : decode cX12_told 188 = .ok (.aload_n 0, 1) := by decide +kernel
theorem dX12_told_189 : decode cX12_told 189 = .ok (.invokevirtual 203, 3) := by decide +kernel
theorem dX12_told_192 : decode cX12_told 192 = .ok (.ireturn, 1) := by decide +kernel
theorem dX12_told_193 : decode cX12_told 193 = .ok (.aload_n 0, 1) := by decide +kernel
theorem dX12_told_194 : decode cX12_told 194 = .ok (.invokevirtual 206, 3) := by decide +kernel
theorem dX12_told_197 : decode cX12_told 197 = .ok (.ireturn, 1) := by decide +kernel
theorem dX12_told_198 : decode cX12_told 198 = .ok (.aload_n 0, 1) := by decide +kernel
theorem dX12_told_199 : decode cX12_told 199 = .ok (.getfield 147, 3) := by decide +kernel
theorem dX12_told_202 : decode cX12_told 202 = .ok (.ireturn, 1) := by decide +kernel
theorem dX12_told_203 : decode cX12_told 203 = .ok (.aload_n 0, 1) := by decide +kernel
theorem dX12_told_204 : decode cX12_told 204 = .ok (.getfield 150, 3) := by decide +kernel
theorem dX12_told_207 : decode cX12_told 207 = .ok (.ireturn, 1) := by decide +kernel
theorem dX12_told_208 : decode cX12_told 208 = .ok (.ldc 84, 2) := by decide +kernel
theorem dX12_told_210 : decode cX12_told 210 = .ok (.ireturn, 1) := by decide +kernel
theorem dX12_ringOf_0 : decode cX12_ringOf 0 = .ok (.iload_n 1, 1) := by decide +kernel
theorem dX12_ringOf_1 : decode cX12_ringOf 1 = .ok (.istore_n 2, 1) := by decide +kernel
theorem dX12_ringOf_2 : decode cX12_ringOf 2 = .ok (.iconst 0, 1) := by decide +kernel
theorem dX12_ringOf_3 : decode cX12_ringOf 3 = .ok (.istore_n 3, 1) := by decide +kernel
theorem dX12_ringOf_4 : decode cX12_ringOf 4 = .ok (.iload_n 3, 1) := by decide +kernel
theorem dX12_ringOf_5 : decode cX12_ringOf 5 = .ok (.aload_n 0, 1) := by decide +kernel
theorem dX12_ringOf_6 : decode cX12_ringOf 6 = .ok (.getfield 72, 3) := by decide +kernel
theorem dX12_ringOf_9 : decode cX12_ringOf 9 = .ok (.if_icmp .ge 26, 3) := by decide +kernel
theorem dX12_ringOf_12 : decode cX12_ringOf 12 = .ok (.aload_n 0, 1) := by decide +kernel
theorem dX12_ringOf_13 : decode cX12_ringOf 13 = .ok (.getfield 16, 3) := by decide +kernel
theorem dX12_ringOf_16 : decode cX12_ringOf 16 = .ok (.iload_n 2, 1) := by decide +kernel
theorem dX12_ringOf_17 : decode cX12_ringOf 17 = .ok (.iaload, 1) := by decide +kernel
theorem dX12_ringOf_18 : decode cX12_ringOf 18 = .ok (.iconst (-1), 1) := by decide +kernel
theorem dX12_ringOf_19 : decode cX12_ringOf 19 = .ok (.if_icmp .eq 16, 3) := by decide +kernel
theorem dX12_ringOf_22 : decode cX12_ringOf 22 = .ok (.aload_n 0, 1) := by decide +kernel
theorem dX12_ringOf_23 : decode cX12_ringOf 23 = .ok (.getfield 16, 3) := by decide +kernel
theorem dX12_ringOf_26 : decode cX12_ringOf 26 = .ok (.iload_n 2, 1) := by decide +kernel
theorem dX12_ringOf_27 : decode cX12_ringOf 27 = .ok (.iaload, 1) := by decide +kernel
theorem dX12_ringOf_28 : decode cX12_ringOf 28 = .ok (.istore_n 2, 1) := by decide +kernel
theorem dX12_ringOf_29 : decode cX12_ringOf 29 = .ok (.iinc 3 1, 3) := by decide +kernel
theorem dX12_ringOf_32 : decode cX12_ringOf 32 = .ok (.goto (-28), 3) := by decide +kernel
theorem dX12_ringOf_35 : decode cX12_ringOf 35 = .ok (.aload_n 0, 1) := by decide +kernel
theorem dX12_ringOf_36 : decode cX12_ringOf 36 = .ok (.iload_n 2, 1) := by decide +kernel
theorem dX12_ringOf_37 : decode cX12_ringOf 37 = .ok (.putfield 209, 3) := by decide +kernel
theorem dX12_ringOf_40 : decode cX12_ringOf 40 = .ok (.aload_n 0, 1) := by decide +kernel
theorem dX12_ringOf_41 : decode cX12_ringOf 41 = .ok (.getfield 16, 3) := by decide +kernel
theorem dX12_ringOf_44 : decode cX12_ringOf 44 = .ok (.iload_n 2, 1) := by decide +kernel
theorem dX12_ringOf_45 : decode cX12_ringOf 45 = .ok (.iaload, 1) := by decide +kernel
theorem dX12_ringOf_46 : decode cX12_ringOf 46 = .ok (.iconst (-1), 1) := by decide +kernel
theorem dX12_ringOf_47 : decode cX12_ringOf 47 = .ok (.if_icmp .ne 5, 3) := by decide +kernel
theorem dX12_ringOf_50 : decode cX12_ringOf 50 = .ok (.iconst (-1), 1) := by decide +kernel
theorem dX12_ringOf_51 : decode cX12_ringOf 51 = .ok (.ireturn, 1) := by decide +kernel
theorem dX12_ringOf_52 : decode cX12_ringOf 52 = .ok (.iconst 1, 1) := by decide +kernel
theorem dX12_ringOf_53 : decode cX12_ringOf 53 = .ok (.istore_n 3, 1) := by decide +kernel
theorem dX12_ringOf_54 : decode cX12_ringOf 54 = .ok (.aload_n 0, 1) := by decide +kernel
theorem dX12_ringOf_55 : decode cX12_ringOf 55 = .ok (.getfield 16, 3) := by decide +kernel
theorem dX12_ringOf_58 : decode cX12_ringOf 58 = .ok (.iload_n 2, 1) := by decide +kernel
theorem dX12_ringOf_59 : decode cX12_ringOf 59 = .ok (.iaload, 1) := by decide +kernel
theorem dX12_ringOf_60 : decode cX12_ringOf 60 = .ok (.istore 4, 2) := by decide +kernel
theorem dX12_ringOf_62 : decode cX12_ringOf 62 = .ok (.iload 4, 2) := by decide +kernel
theorem dX12_ringOf_64 : decode cX12_ringOf 64 = .ok (.iload_n 2, 1) := by decide +kernel
theorem dX12_ringOf_65 : decode cX12_ringOf 65 = .ok (.if_icmp .eq 18, 3) := by decide +kernel
theorem dX12_ringOf_68 : decode cX12_ringOf 68 = .ok (.iinc 3 1, 3) := by decide +kernel
theorem dX12_ringOf_71 : decode cX12_ringOf 71 = .ok (.aload_n 0, 1) := by decide +kernel
theorem dX12_ringOf_72 : decode cX12_ringOf 72 = .ok (.getfield 16, 3) := by decide +kernel
theorem dX12_ringOf_75 : decode cX12_ringOf 75 = .ok (.iload 4, 2) := by decide +kernel
theorem dX12_ringOf_77 : decode cX12_ringOf 77 = .ok (.iaload, 1) := by decide +kernel
theorem dX12_ringOf_78 : decode cX12_ringOf 78 = .ok (.istore 4, 2) := by decide +kernel
theorem dX12_ringOf_80 : decode cX12_ringOf 80 = .ok (.goto (-18), 3) := by decide +kernel
theorem dX12_ringOf_83 : decode cX12_ringOf 83 = .ok (.iload_n 3, 1) := by decide +kernel
theorem dX12_ringOf_84 : decode cX12_ringOf 84 = .ok (.ireturn, 1) := by decide +kernel
theorem dX12_firstOf_0 : decode cX12_firstOf 0 = .ok (.aload_n 0, 1) := by decide +kernel
theorem dX12_firstOf_1 : decode cX12_firstOf 1 = .ok (.iload_n 1, 1) := by decide +kernel
theorem dX12_firstOf_2 : decode cX12_firstOf 2 = .ok (.invokevirtual 212, 3) := by decide +kernel
theorem dX12_firstOf_5 : decode cX12_firstOf 5 = .ok (.iconst (-1), 1) := by decide +kernel
theorem dX12_firstOf_6 : decode cX12_firstOf 6 = .ok (.if_icmp .ne 10, 3) := by decide +kernel
theorem dX12_firstOf_9 : decode cX12_firstOf 9 = .ok (.aload_n 0, 1) := by decide +kernel
theorem dX12_firstOf_10 : decode cX12_firstOf 10 = .ok (.getfield 209, 3) := by decide +kernel
theorem dX12_firstOf_13 : decode cX12_firstOf 13 = .ok (.goto 4, 3) := by decide +kernel
theorem dX12_firstOf_16 : decode cX12_firstOf 16 = .ok (.iconst (-1), 1) := by decide +kernel
theorem dX12_firstOf_17 : decode cX12_firstOf 17 = .ok (.ireturn, 1) := by decide +kernel
theorem dX12_person_0 : decode cX12_person 0 = .ok (.aload_n 0, 1) := by decide +kernel
theorem dX12_person_1 : decode cX12_person 1 = .ok (.iload_n 1, 1) := by decide +kernel
theorem dX12_person_2 : decode cX12_person 2 = .ok (.invokevirtual 215, 3) := by decide +kernel
theorem dX12_person_5 : decode cX12_person 5 = .ok (.ifCond .ne 6, 3) := by decide +kernel
theorem dX12_person_8 : decode cX12_person 8 = .ok (.ldc 219, 2) := by decide +kernel
theorem dX12_person_10 : decode cX12_person 10 = .ok (.ireturn, 1) := by decide +kernel
theorem dX12_person_11 : decode cX12_person 11 = .ok (.iload_n 2, 1) := by decide +kernel
theorem dX12_person_12 : decode cX12_person 12 = .ok (.tableswitch 120 0 8 #[52, 59, 66, 75, 82, 92, 102, 108, 114], 52) := by decide +kernel
theorem dX12_person_64 : decode cX12_person 64 = .ok (.aload_n 0, 1) := by decide +kernel
theorem dX12_person_65 : decode cX12_person 65 = .ok (.getfield 7, 3) := by decide +kernel
theorem dX12_person_68 : decode cX12_person 68 = .ok (.iload_n 1, 1) := by decide +kernel
theorem dX12_person_69 : decode cX12_person 69 = .ok (.iaload, 1) := by decide +kernel
theorem dX12_person_70 : decode cX12_person 70 = .ok (.ireturn, 1) := by decide +kernel
theorem dX12_person_71 : decode cX12_person 71 = .ok (.aload_n 0, 1) := by decide +kernel
theorem dX12_person_72 : decode cX12_person 72 = .ok (.getfield 13, 3) := by decide +kernel
theorem dX12_person_75 : decode cX12_person 75 = .ok (.iload_n 1, 1) := by decide +kernel
theorem dX12_person_76 : decode cX12_person 76 = .ok (.iaload, 1) := by decide +kernel
theorem dX12_person_77 : decode cX12_person 77 = .ok (.ireturn, 1) := by decide +kernel
theorem dX12_person_78 : decode cX12_person 78 = .ok (.aload_n 0, 1) := by decide +kernel
theorem dX12_person_79 : decode cX12_person 79 = .ok (.getfield 19, 3) := by decide +kernel
theorem dX12_person_82 : decode cX12_person 82 = .ok (.iconst 5, 1) := by decide +kernel
theorem dX12_person_83 : decode cX12_person 83 = .ok (.iload_n 1, 1) := by decide +kernel
theorem dX12_person_84 : decode cX12_person 84 = .ok (.iadd, 1) := by decide +kernel
theorem dX12_person_85 : decode cX12_person 85 = .ok (.iaload, 1) := by decide +kernel
theorem dX12_person_86 : decode cX12_person 86 = .ok (.ireturn, 1) := by decide +kernel
theorem dX12_person_87 : decode cX12_person 87 = .ok (.aload_n 0, 1) := by decide +kernel
theorem dX12_person_88 : decode cX12_person 88 = .ok (.getfield 16, 3) := by decide +kernel
theorem dX12_person_91 : decode cX12_person 91 = .ok (.iload_n 1, 1) := by decide +kernel
theorem dX12_person_92 : decode cX12_person 92 = .ok (.iaload, 1) := by decide +kernel
theorem dX12_person_93 : decode cX12_person 93 = .ok (.ireturn, 1) := by decide +kernel
theorem dX12_person_94 : decode cX12_person 94 = .ok (.aload_n 0, 1) := by decide +kernel
theorem dX12_person_95 : decode cX12_person 95 = .ok (.getfield 19, 3) := by decide +kernel
theorem dX12_person_98 : decode cX12_person 98 = .ok (.bipush 12, 2) := by decide +kernel
theorem dX12_person_100 : decode cX12_person 100 = .ok (.iload_n 1, 1) := by decide +kernel
theorem dX12_person_101 : decode cX12_person 101 = .ok (.iadd, 1) := by decide +kernel
theorem dX12_person_102 : decode cX12_person 102 = .ok (.iaload, 1) := by decide +kernel
theorem dX12_person_103 : decode cX12_person 103 = .ok (.ireturn, 1) := by decide +kernel
theorem dX12_person_104 : decode cX12_person 104 = .ok (.aload_n 0, 1) := by decide +kernel
theorem dX12_person_105 : decode cX12_person 105 = .ok (.getfield 19, 3) := by decide +kernel
theorem dX12_person_108 : decode cX12_person 108 = .ok (.bipush 19, 2) := by decide +kernel
theorem dX12_person_110 : decode cX12_person 110 = .ok (.iload_n 1, 1) := by decide +kernel
theorem dX12_person_111 : decode cX12_person 111 = .ok (.iadd, 1) := by decide +kernel
theorem dX12_person_112 : decode cX12_person 112 = .ok (.iaload, 1) := by decide +kernel
theorem dX12_person_113 : decode cX12_person 113 = .ok (.ireturn, 1) := by decide +kernel
theorem dX12_person_114 : decode cX12_person 114 = .ok (.aload_n 0, 1) := by decide +kernel
theorem dX12_person_115 : decode cX12_person 115 = .ok (.iload_n 1, 1) := by decide +kernel
theorem dX12_person_116 : decode cX12_person 116 = .ok (.invokevirtual 220, 3) := by decide +kernel
theorem dX12_person_119 : decode cX12_person 119 = .ok (.ireturn, 1) := by decide +kernel
theorem dX12_person_120 : decode cX12_person 120 = .ok (.aload_n 0, 1) := by decide +kernel
theorem dX12_person_121 : decode cX12_person 121 = .ok (.iload_n 1, 1) := by decide +kernel
theorem dX12_person_122 : decode cX12_person 122 = .ok (.invokevirtual 212, 3) := by decide +kernel
theorem dX12_person_125 : decode cX12_person 125 = .ok (.ireturn, 1) := by decide +kernel
theorem dX12_person_126 : decode cX12_person 126 = .ok (.aload_n 0, 1) := by decide +kernel
theorem dX12_person_127 : decode cX12_person 127 = .ok (.iload_n 1, 1) := by decide +kernel
theorem dX12_person_128 : decode cX12_person 128 = .ok (.invokevirtual 223, 3) := by decide +kernel
theorem dX12_person_131 : decode cX12_person 131 = .ok (.ireturn, 1) := by decide +kernel
theorem dX12_person_132 : decode cX12_person 132 = .ok (.ldc 84, 2) := by decide +kernel
theorem dX12_person_134 : decode cX12_person 134 = .ok (.ireturn, 1) := by decide +kernel
theorem dX12_harmOf_0 : decode cX12_harmOf 0 = .ok (.iconst 0, 1) := by decide +kernel
theorem dX12_harmOf_1 : decode cX12_harmOf 1 = .ok (.istore_n 2, 1) := by decide +kernel
theorem dX12_harmOf_2 : decode cX12_harmOf 2 = .ok (.iconst 0, 1) := by decide +kernel
theorem dX12_harmOf_3 : decode cX12_harmOf 3 = .ok (.istore_n 3, 1) := by decide +kernel
theorem dX12_harmOf_4 : decode cX12_harmOf 4 = .ok (.iload_n 3, 1) := by decide +kernel
theorem dX12_harmOf_5 : decode cX12_harmOf 5 = .ok (.aload_n 0, 1) := by decide +kernel
theorem dX12_harmOf_6 : decode cX12_harmOf 6 = .ok (.getfield 72, 3) := by decide +kernel
theorem dX12_harmOf_9 : decode cX12_harmOf 9 = .ok (.if_icmp .ge 35, 3) := by decide +kernel
theorem dX12_harmOf_12 : decode cX12_harmOf 12 = .ok (.iload_n 2, 1) := by decide +kernel
theorem dX12_harmOf_13 : decode cX12_harmOf 13 = .ok (.aload_n 0, 1) := by decide +kernel
theorem dX12_harmOf_14 : decode cX12_harmOf 14 = .ok (.getfield 13, 3) := by decide +kernel
theorem dX12_harmOf_17 : decode cX12_harmOf 17 = .ok (.iload_n 3, 1) := by decide +kernel
theorem dX12_harmOf_18 : decode cX12_harmOf 18 = .ok (.iaload, 1) := by decide +kernel
theorem dX12_harmOf_19 : decode cX12_harmOf 19 = .ok (.iload_n 1, 1) := by decide +kernel
theorem dX12_harmOf_20 : decode cX12_harmOf 20 = .ok (.if_icmp .ne 15, 3) := by decide +kernel
theorem dX12_harmOf_23 : decode cX12_harmOf 23 = .ok (.aload_n 0, 1) := by decide +kernel
theorem dX12_harmOf_24 : decode cX12_harmOf 24 = .ok (.getfield 19, 3) := by decide +kernel
theorem dX12_harmOf_27 : decode cX12_harmOf 27 = .ok (.bipush 19, 2) := by decide +kernel
theorem dX12_harmOf_29 : decode cX12_harmOf 29 = .ok (.iload_n 3, 1) := by decide +kernel
theorem dX12_harmOf_30 : decode cX12_harmOf 30 = .ok (.iadd, 1) := by decide +kernel
theorem dX12_harmOf_31 : decode cX12_harmOf 31 = .ok (.iaload, 1) := by decide +kernel
theorem dX12_harmOf_32 : decode cX12_harmOf 32 = .ok (.goto 4, 3) := by decide +kernel
theorem dX12_harmOf_35 : decode cX12_harmOf 35 = .ok (.iconst 0, 1) := by decide +kernel
theorem dX12_harmOf_36 : decode cX12_harmOf 36 = .ok (.iadd, 1) := by decide +kernel
theorem dX12_harmOf_37 : decode cX12_harmOf 37 = .ok (.istore_n 2, 1) := by decide +kernel
theorem dX12_harmOf_38 : decode cX12_harmOf 38 = .ok (.iinc 3 1, 3) := by decide +kernel
theorem dX12_harmOf_41 : decode cX12_harmOf 41 = .ok (.goto (-37), 3) := by decide +kernel
theorem dX12_harmOf_44 : decode cX12_harmOf 44 = .ok (.iload_n 2, 1) := by decide +kernel
theorem dX12_harmOf_45 : decode cX12_harmOf 45 = .ok (.ireturn, 1) := by decide +kernel
theorem dX12_village_0 : decode cX12_village 0 = .ok (.aload_n 0, 1) := by decide +kernel
theorem dX12_village_1 : decode cX12_village 1 = .ok (.iload_n 1, 1) := by decide +kernel
theorem dX12_village_2 : decode cX12_village 2 = .ok (.invokevirtual 226, 3) := by decide +kernel
theorem dX12_village_5 : decode cX12_village 5 = .ok (.ifCond .ne 6, 3) := by decide +kernel
theorem dX12_village_8 : decode cX12_village 8 = .ok (.ldc 219, 2) := by decide +kernel
theorem dX12_village_10 : decode cX12_village 10 = .ok (.ireturn, 1) := by decide +kernel
theorem dX12_village_11 : decode cX12_village 11 = .ok (.iload_n 2, 1) := by decide +kernel
theorem dX12_village_12 : decode cX12_village 12 = .ok (.tableswitch 60 0 3 #[32, 42, 48, 54], 32) := by decide +kernel
theorem dX12_village_44 : decode cX12_village 44 = .ok (.aload_n 0, 1) := by decide +kernel
theorem dX12_village_45 : decode cX12_village 45 = .ok (.getfield 19, 3) := by decide +kernel
theorem dX12_village_48 : decode cX12_village 48 = .ok (.bipush 26, 2) := by decide +kernel
theorem dX12_village_50 : decode cX12_village 50 = .ok (.iload_n 1, 1) := by decide +kernel
theorem dX12_village_51 : decode cX12_village 51 = .ok (.iadd, 1) := by decide +kernel
theorem dX12_village_52 : decode cX12_village 52 = .ok (.iaload, 1) := by decide +kernel
theorem dX12_village_53 : decode cX12_village 53 = .ok (.ireturn, 1) := by decide +kernel
theorem dX12_village_54 : decode cX12_village 54 = .ok (.aload_n 0, 1) := by decide +kernel
theorem dX12_village_55 : decode cX12_village 55 = .ok (.iload_n 1, 1) := by decide +kernel
theorem dX12_village_56 : decode cX12_village 56 = .ok (.invokevirtual 162, 3) := by decide +kernel
theorem dX12_village_59 : decode cX12_village 59 = .ok (.ireturn, 1) := by decide +kernel
theorem dX12_village_60 : decode cX12_village 60 = .ok (.aload_n 0, 1) := by decide +kernel
theorem dX12_village_61 : decode cX12_village 61 = .ok (.iload_n 1, 1) := by decide +kernel
theorem dX12_village_62 : decode cX12_village 62 = .ok (.invokevirtual 229, 3) := by decide +kernel
theorem dX12_village_65 : decode cX12_village 65 = .ok (.ireturn, 1) := by decide +kernel
theorem dX12_village_66 : decode cX12_village 66 = .ok (.aload_n 0, 1) := by decide +kernel
theorem dX12_village_67 : decode cX12_village 67 = .ok (.iload_n 1, 1) := by decide +kernel
theorem dX12_village_68 : decode cX12_village 68 = .ok (.invokevirtual 232, 3) := by decide +kernel
theorem dX12_village_71 : decode cX12_village 71 = .ok (.ireturn, 1) := by decide +kernel
theorem dX12_village_72 : decode cX12_village 72 = .ok (.ldc 84, 2) := by decide +kernel
theorem dX12_village_74 : decode cX12_village 74 = .ok (.ireturn, 1) := by decide +kernel
theorem dX12_remember_0 : decode cX12_remember 0 = .ok (.aload_n 0, 1) := by decide +kernel
theorem dX12_remember_1 : decode cX12_remember 1 = .ok (.getfield 150, 3) := by decide +kernel
theorem dX12_remember_4 : decode cX12_remember 4 = .ok (.bipush 16, 2) := by decide +kernel
theorem dX12_remember_6 : decode cX12_remember 6 = .ok (.if_icmp .ne 44, 3) := by decide +kernel
theorem dX12_remember_9 : decode cX12_remember 9 = .ok (.bipush 30, 2) := by decide +kernel
theorem dX12_remember_11 : decode cX12_remember 11 = .ok (.istore_n 1, 1) := by decide +kernel
theorem dX12_remember_12 : decode cX12_remember 12 = .ok (.iload_n 1, 1) := by decide +kernel
theorem dX12_remember_13 : decode cX12_remember 13 = .ok (.sipush 480, 3) := by decide +kernel
theorem dX12_remember_16 : decode cX12_remember 16 = .ok (.if_icmp .ge 24, 3) := by decide +kernel
theorem dX12_remember_19 : decode cX12_remember 19 = .ok (.aload_n 0, 1) := by decide +kernel
theorem dX12_remember_20 : decode cX12_remember 20 = .ok (.getfield 44, 3) := by decide +kernel
theorem dX12_remember_23 : decode cX12_remember 23 = .ok (.iload_n 1, 1) := by decide +kernel
theorem dX12_remember_24 : decode cX12_remember 24 = .ok (.bipush 30, 2) := by decide +kernel
theorem dX12_remember_26 : decode cX12_remember 26 = .ok (.isub, 1) := by decide +kernel
theorem dX12_remember_27 : decode cX12_remember 27 = .ok (.aload_n 0, 1) := by decide +kernel
theorem dX12_remember_28 : decode cX12_remember 28 = .ok (.getfield 44, 3) := by decide +kernel
theorem dX12_remember_31 : decode cX12_remember 31 = .ok (.iload_n 1, 1) := by decide +kernel
theorem dX12_remember_32 : decode cX12_remember 32 = .ok (.iaload, 1) := by decide +kernel
theorem dX12_remember_33 : decode cX12_remember 33 = .ok (.iastore, 1) := by decide +kernel
theorem dX12_remember_34 : decode cX12_remember 34 = .ok (.iinc 1 1, 3) := by decide +kernel
theorem dX12_remember_37 : decode cX12_remember 37 = .ok (.goto (-25), 3) := by decide +kernel
theorem dX12_remember_40 : decode cX12_remember 40 = .ok (.aload_n 0, 1) := by decide +kernel
theorem dX12_remember_41 : decode cX12_remember 41 = .ok (.dup, 1) := by decide +kernel
theorem dX12_remember_42 : decode cX12_remember 42 = .ok (.getfield 150, 3) := by decide +kernel
theorem dX12_remember_45 : decode cX12_remember 45 = .ok (.iconst 1, 1) := by decide +kernel
theorem dX12_remember_46 : decode cX12_remember 46 = .ok (.isub, 1) := by decide +kernel
theorem dX12_remember_47 : decode cX12_remember 47 = .ok (.putfield 150, 3) := by decide +kernel
theorem dX12_remember_50 : decode cX12_remember 50 = .ok (.iconst 0, 1) := by decide +kernel
theorem dX12_remember_51 : decode cX12_remember 51 = .ok (.istore_n 1, 1) := by decide +kernel
theorem dX12_remember_52 : decode cX12_remember 52 = .ok (.iload_n 1, 1) := by decide +kernel
theorem dX12_remember_53 : decode cX12_remember 53 = .ok (.bipush 30, 2) := by decide +kernel
theorem dX12_remember_55 : decode cX12_remember 55 = .ok (.if_icmp .ge 29, 3) := by decide +kernel
theorem dX12_remember_58 : decode cX12_remember 58 = .ok (.aload_n 0, 1) := by decide +kernel
theorem dX12_remember_59 : decode cX12_remember 59 = .ok (.getfield 44, 3) := by decide +kernel
theorem dX12_remember_62 : decode cX12_remember 62 = .ok (.bipush 30, 2) := by decide +kernel
theorem dX12_remember_64 : decode cX12_remember 64 = .ok (.aload_n 0, 1) := by decide +kernel
theorem dX12_remember_65 : decode cX12_remember 65 = .ok (.getfield 150, 3) := by decide +kernel
theorem dX12_remember_68 : decode cX12_remember 68 = .ok (.imul, 1) := by decide +kernel
theorem dX12_remember_69 : decode cX12_remember 69 = .ok (.iload_n 1, 1) := by decide +kernel
theorem dX12_remember_70 : decode cX12_remember 70 = .ok (.iadd, 1) := by decide +kernel
theorem dX12_remember_71 : decode cX12_remember 71 = .ok (.aload_n 0, 1) := by decide +kernel
theorem dX12_remember_72 : decode cX12_remember 72 = .ok (.getfield 19, 3) := by decide +kernel
theorem dX12_remember_75 : decode cX12_remember 75 = .ok (.iload_n 1, 1) := by decide +kernel
theorem dX12_remember_76 : decode cX12_remember 76 = .ok (.iaload, 1) := by decide +kernel
theorem dX12_remember_77 : decode cX12_remember 77 = .ok (.iastore, 1) := by decide +kernel
theorem dX12_remember_78 : decode cX12_remember 78 = .ok (.iinc 1 1, 3) := by decide +kernel
theorem dX12_remember_81 : decode cX12_remember 81 = .ok (.goto (-29), 3) := by decide +kernel
theorem dX12_remember_84 : decode cX12_remember 84 = .ok (.aload_n 0, 1) := by decide +kernel
theorem dX12_remember_85 : decode cX12_remember 85 = .ok (.dup, 1) := by decide +kernel
theorem dX12_remember_86 : decode cX12_remember 86 = .ok (.getfield 150, 3) := by decide +kernel
theorem dX12_remember_89 : decode cX12_remember 89 = .ok (.iconst 1, 1) := by decide +kernel
theorem dX12_remember_90 : decode cX12_remember 90 = .ok (.iadd, 1) := by decide +kernel
theorem dX12_remember_91 : decode cX12_remember 91 = .ok (.putfield 150, 3) := by decide +kernel
theorem dX12_remember_94 : decode cX12_remember 94 = .ok (.return_, 1) := by decide +kernel
theorem dX12_tells_0 : decode cX12_tells 0 = .ok (.aload_n 0, 1) := by decide +kernel
theorem dX12_tells_1 : decode cX12_tells 1 = .ok (.getfield 19, 3) := by decide +kernel
theorem dX12_tells_4 : decode cX12_tells 4 = .ok (.bipush 12, 2) := by decide +kernel
theorem dX12_tells_6 : decode cX12_tells 6 = .ok (.iload_n 1, 1) := by decide +kernel
theorem dX12_tells_7 : decode cX12_tells 7 = .ok (.iadd, 1) := by decide +kernel
theorem dX12_tells_8 : decode cX12_tells 8 = .ok (.iaload, 1) := by decide +kernel
theorem dX12_tells_9 : decode cX12_tells 9 = .ok (.istore_n 3, 1) := by decide +kernel
theorem dX12_tells_10 : decode cX12_tells 10 = .ok (.aload_n 0, 1) := by decide +kernel
theorem dX12_tells_11 : decode cX12_tells 11 = .ok (.getfield 19, 3) := by decide +kernel
theorem dX12_tells_14 : decode cX12_tells 14 = .ok (.bipush 12, 2) := by decide +kernel
theorem dX12_tells_16 : decode cX12_tells 16 = .ok (.iload_n 1, 1) := by decide +kernel
theorem dX12_tells_17 : decode cX12_tells 17 = .ok (.iadd, 1) := by decide +kernel
theorem dX12_tells_18 : decode cX12_tells 18 = .ok (.iload_n 2, 1) := by decide +kernel
theorem dX12_tells_19 : decode cX12_tells 19 = .ok (.iastore, 1) := by decide +kernel
theorem dX12_tells_20 : decode cX12_tells 20 = .ok (.aload_n 0, 1) := by decide +kernel
theorem dX12_tells_21 : decode cX12_tells 21 = .ok (.getfield 19, 3) := by decide +kernel
theorem dX12_tells_24 : decode cX12_tells 24 = .ok (.iconst 4, 1) := by decide +kernel
theorem dX12_tells_25 : decode cX12_tells 25 = .ok (.dup2, 1) := by decide +kernel
theorem dX12_tells_26 : decode cX12_tells 26 = .ok (.iaload, 1) := by decide +kernel
theorem dX12_tells_27 : decode cX12_tells 27 = .ok (.iconst 1, 1) := by decide +kernel
theorem dX12_tells_28 : decode cX12_tells 28 = .ok (.iload_n 1, 1) := by decide +kernel
theorem dX12_tells_29 : decode cX12_tells 29 = .ok (.ishl, 1) := by decide +kernel
theorem dX12_tells_30 : decode cX12_tells 30 = .ok (.ior, 1) := by decide +kernel
theorem dX12_tells_31 : decode cX12_tells 31 = .ok (.iastore, 1) := by decide +kernel
theorem dX12_tells_32 : decode cX12_tells 32 = .ok (.iload_n 3, 1) := by decide +kernel
theorem dX12_tells_33 : decode cX12_tells 33 = .ok (.ireturn, 1) := by decide +kernel
theorem dX12_tell_0 : decode cX12_tell 0 = .ok (.aload_n 0, 1) := by decide +kernel
theorem dX12_tell_1 : decode cX12_tell 1 = .ok (.iload_n 1, 1) := by decide +kernel
theorem dX12_tell_2 : decode cX12_tell 2 = .ok (.invokevirtual 215, 3) := by decide +kernel
theorem dX12_tell_5 : decode cX12_tell 5 = .ok (.ifCond .ne 6, 3) := by decide +kernel
theorem dX12_tell_8 : decode cX12_tell 8 = .ok (.ldc 219, 2) := by decide +kernel
theorem dX12_tell_10 : decode cX12_tell 10 = .ok (.ireturn, 1) := by decide +kernel
theorem dX12_tell_11 : decode cX12_tell 11 = .ok (.iload_n 2, 1) := by decide +kernel
theorem dX12_tell_12 : decode cX12_tell 12 = .ok (.i2l, 1) := by decide +kernel
theorem dX12_tell_13 : decode cX12_tell 13 = .ok (.lconst 0, 1) := by decide +kernel
theorem dX12_tell_14 : decode cX12_tell 14 = .ok (.ldc2_w 235, 3) := by decide +kernel
theorem dX12_tell_17 : decode cX12_tell 17 = .ok (.invokestatic 75, 3) := by decide +kernel
theorem dX12_tell_20 : decode cX12_tell 20 = .ok (.ifCond .ne 6, 3) := by decide +kernel
theorem dX12_tell_23 : decode cX12_tell 23 = .ok (.ldc 84, 2) := by decide +kernel
theorem dX12_tell_25 : decode cX12_tell 25 = .ok (.ireturn, 1) := by decide +kernel
theorem dX12_tell_26 : decode cX12_tell 26 = .ok (.aload_n 0, 1) := by decide +kernel
theorem dX12_tell_27 : decode cX12_tell 27 = .ok (.invokevirtual 237, 3) := by decide +kernel
theorem dX12_tell_30 : decode cX12_tell 30 = .ok (.aload_n 0, 1) := by decide +kernel
theorem dX12_tell_31 : decode cX12_tell 31 = .ok (.iload_n 1, 1) := by decide +kernel
theorem dX12_tell_32 : decode cX12_tell 32 = .ok (.iload_n 2, 1) := by decide +kernel
theorem dX12_tell_33 : decode cX12_tell 33 = .ok (.invokevirtual 240, 3) := by decide +kernel
theorem dX12_tell_36 : decode cX12_tell 36 = .ok (.ireturn, 1) := by decide +kernel
theorem dX12_mayGo_0 : decode cX12_mayGo 0 = .ok (.aload_n 0, 1) := by decide +kernel
theorem dX12_mayGo_1 : decode cX12_mayGo 1 = .ok (.getfield 19, 3) := by decide +kernel
theorem dX12_mayGo_4 : decode cX12_mayGo 4 = .ok (.bipush 12, 2) := by decide +kernel
theorem dX12_mayGo_6 : decode cX12_mayGo 6 = .ok (.iload_n 1, 1) := by decide +kernel
theorem dX12_mayGo_7 : decode cX12_mayGo 7 = .ok (.iadd, 1) := by decide +kernel
theorem dX12_mayGo_8 : decode cX12_mayGo 8 = .ok (.iaload, 1) := by decide +kernel
theorem dX12_mayGo_9 : decode cX12_mayGo 9 = .ok (.ifCond .le 20, 3) := by decide +kernel
theorem dX12_mayGo_12 : decode cX12_mayGo 12 = .ok (.aload_n 0, 1) := by decide +kernel
theorem dX12_mayGo_13 : decode cX12_mayGo 13 = .ok (.getfield 19, 3) := by decide +kernel
theorem dX12_mayGo_16 : decode cX12_mayGo 16 = .ok (.iconst 3, 1) := by decide +kernel
theorem dX12_mayGo_17 : decode cX12_mayGo 17 = .ok (.iaload, 1) := by decide +kernel
theorem dX12_mayGo_18 : decode cX12_mayGo 18 = .ok (.iload_n 2, 1) := by decide +kernel
theorem dX12_mayGo_19 : decode cX12_mayGo 19 = .ok (.invokestatic 174, 3) := by decide +kernel
theorem dX12_mayGo_22 : decode cX12_mayGo 22 = .ok (.ifCond .ne 7, 3) := by decide +kernel
theorem dX12_mayGo_25 : decode cX12_mayGo 25 = .ok (.iconst 1, 1) := by decide +kernel
theorem dX12_mayGo_26 : decode cX12_mayGo 26 = .ok (.goto 4, 3) := by decide +kernel
theorem dX12_mayGo_29 : decode cX12_mayGo 29 = .ok (.iconst 0, 1) := by decide +kernel
theorem dX12_mayGo_30 : decode cX12_mayGo 30 = .ok (.ireturn, 1) := by decide +kernel
theorem dX12_answers_0 : decode cX12_answers 0 = .ok (.aload_n 0, 1) := by decide +kernel
theorem dX12_answers_1 : decode cX12_answers 1 = .ok (.getfield 19, 3) := by decide +kernel
theorem dX12_answers_4 : decode cX12_answers 4 = .ok (.bipush 12, 2) := by decide +kernel
theorem dX12_answers_6 : decode cX12_answers 6 = .ok (.iload_n 1, 1) := by decide +kernel
theorem dX12_answers_7 : decode cX12_answers 7 = .ok (.iadd, 1) := by decide +kernel
theorem dX12_answers_8 : decode cX12_answers 8 = .ok (.iaload, 1) := by decide +kernel
theorem dX12_answers_9 : decode cX12_answers 9 = .ok (.istore_n 3, 1) := by decide +kernel
theorem dX12_answers_10 : decode cX12_answers 10 = .ok (.aload_n 0, 1) := by decide +kernel
theorem dX12_answers_11 : decode cX12_answers 11 = .ok (.iload_n 2, 1) := by decide +kernel
theorem dX12_answers_12 : decode cX12_answers 12 = .ok (.iload_n 3, 1) := by decide +kernel
theorem dX12_answers_13 : decode cX12_answers 13 = .ok (.invokevirtual 159, 3) := by decide +kernel
theorem dX12_answers_16 : decode cX12_answers 16 = .ok (.istore 4, 2) := by decide +kernel
theorem dX12_answers_18 : decode cX12_answers 18 = .ok (.aload_n 0, 1) := by decide +kernel
theorem dX12_answers_19 : decode cX12_answers 19 = .ok (.getfield 19, 3) := by decide +kernel
theorem dX12_answers_22 : decode cX12_answers 22 = .ok (.bipush 12, 2) := by decide +kernel
theorem dX12_answers_24 : decode cX12_answers 24 = .ok (.iload_n 1, 1) := by decide +kernel
theorem dX12_answers_25 : decode cX12_answers 25 = .ok (.iadd, 1) := by decide +kernel
theorem dX12_answers_26 : decode cX12_answers 26 = .ok (.iload 4, 2) := by decide +kernel
theorem dX12_answers_28 : decode cX12_answers 28 = .ok (.iastore, 1) := by decide +kernel
theorem dX12_answers_29 : decode cX12_answers 29 = .ok (.aload_n 0, 1) := by decide +kernel
theorem dX12_answers_30 : decode cX12_answers 30 = .ok (.getfield 19, 3) := by decide +kernel
theorem dX12_answers_33 : decode cX12_answers 33 = .ok (.iconst 2, 1) := by decide +kernel
theorem dX12_answers_34 : decode cX12_answers 34 = .ok (.iaload, 1) := by decide +kernel
theorem dX12_answers_35 : decode cX12_answers 35 = .ok (.iload_n 3, 1) := by decide +kernel
theorem dX12_answers_36 : decode cX12_answers 36 = .ok (.iload 4, 2) := by decide +kernel
theorem dX12_answers_38 : decode cX12_answers 38 = .ok (.if_icmp .le 10, 3) := by decide +kernel
theorem dX12_answers_41 : decode cX12_answers 41 = .ok (.iload_n 3, 1) := by decide +kernel
theorem dX12_answers_42 : decode cX12_answers 42 = .ok (.iload 4, 2) := by decide +kernel
theorem dX12_answers_44 : decode cX12_answers 44 = .ok (.isub, 1) := by decide +kernel
theorem dX12_answers_45 : decode cX12_answers 45 = .ok (.goto 4, 3) := by decide +kernel
theorem dX12_answers_48 : decode cX12_answers 48 = .ok (.iconst 0, 1) := by decide +kernel
theorem dX12_answers_49 : decode cX12_answers 49 = .ok (.iadd, 1) := by decide +kernel
theorem dX12_answers_50 : decode cX12_answers 50 = .ok (.istore 5, 2) := by decide +kernel
theorem dX12_answers_52 : decode cX12_answers 52 = .ok (.aload_n 0, 1) := by decide +kernel
theorem dX12_answers_53 : decode cX12_answers 53 = .ok (.getfield 19, 3) := by decide +kernel
theorem dX12_answers_56 : decode cX12_answers 56 = .ok (.iconst 2, 1) := by decide +kernel
theorem dX12_answers_57 : decode cX12_answers 57 = .ok (.iload 5, 2) := by decide +kernel
theorem dX12_answers_59 : decode cX12_answers 59 = .ok (.sipush 9999, 3) := by decide +kernel
theorem dX12_answers_62 : decode cX12_answers 62 = .ok (.if_icmp .le 9, 3) := by decide +kernel
theorem dX12_answers_65 : decode cX12_answers 65 = .ok (.sipush 9999, 3) := by decide +kernel
theorem dX12_answers_68 : decode cX12_answers 68 = .ok (.goto 5, 3) := by decide +kernel
theorem dX12_answers_71 : decode cX12_answers 71 = .ok (.iload 5, 2) := by decide +kernel
theorem dX12_answers_73 : decode cX12_answers 73 = .ok (.iastore, 1) := by decide +kernel
theorem dX12_answers_74 : decode cX12_answers 74 = .ok (.aload_n 0, 1) := by decide +kernel
theorem dX12_answers_75 : decode cX12_answers 75 = .ok (.getfield 19, 3) := by decide +kernel
theorem dX12_answers_78 : decode cX12_answers 78 = .ok (.iconst 0, 1) := by decide +kernel
theorem dX12_answers_79 : decode cX12_answers 79 = .ok (.dup2, 1) := by decide +kernel
theorem dX12_answers_80 : decode cX12_answers 80 = .ok (.iaload, 1) := by decide +kernel
theorem dX12_answers_81 : decode cX12_answers 81 = .ok (.aload_n 0, 1) := by decide +kernel
theorem dX12_answers_82 : decode cX12_answers 82 = .ok (.getfield 19, 3) := by decide +kernel
theorem dX12_answers_85 : decode cX12_answers 85 = .ok (.iconst 0, 1) := by decide +kernel
theorem dX12_answers_86 : decode cX12_answers 86 = .ok (.iaload, 1) := by decide +kernel
theorem dX12_answers_87 : decode cX12_answers 87 = .ok (.iconst 1, 1) := by decide +kernel
theorem dX12_answers_88 : decode cX12_answers 88 = .ok (.if_icmp .le 7, 3) := by decide +kernel
theorem dX12_answers_91 : decode cX12_answers 91 = .ok (.iconst 1, 1) := by decide +kernel
theorem dX12_answers_92 : decode cX12_answers 92 = .ok (.goto 4, 3) := by decide +kernel
theorem dX12_answers_95 : decode cX12_answers 95 = .ok (.iconst 0, 1) := by decide +kernel
theorem dX12_answers_96 : decode cX12_answers 96 = .ok (.isub, 1) := by decide +kernel
theorem dX12_answers_97 : decode cX12_answers 97 = .ok (.iastore, 1) := by decide +kernel
theorem dX12_answers_98 : decode cX12_answers 98 = .ok (.aload_n 0, 1) := by decide +kernel
theorem dX12_answers_99 : decode cX12_answers 99 = .ok (.getfield 19, 3) := by decide +kernel
theorem dX12_answers_102 : decode cX12_answers 102 = .ok (.iconst 3, 1) := by decide +kernel
theorem dX12_answers_103 : decode cX12_answers 103 = .ok (.dup2, 1) := by decide +kernel
theorem dX12_answers_104 : decode cX12_answers 104 = .ok (.iaload, 1) := by decide +kernel
theorem dX12_answers_105 : decode cX12_answers 105 = .ok (.iconst 1, 1) := by decide +kernel
theorem dX12_answers_106 : decode cX12_answers 106 = .ok (.iload_n 2, 1) := by decide +kernel
theorem dX12_answers_107 : decode cX12_answers 107 = .ok (.ishl, 1) := by decide +kernel
theorem dX12_answers_108 : decode cX12_answers 108 = .ok (.ior, 1) := by decide +kernel
theorem dX12_answers_109 : decode cX12_answers 109 = .ok (.iastore, 1) := by decide +kernel
theorem dX12_answers_110 : decode cX12_answers 110 = .ok (.return_, 1) := by decide +kernel
theorem dX12_answer_0 : decode cX12_answer 0 = .ok (.aload_n 0, 1) := by decide +kernel
theorem dX12_answer_1 : decode cX12_answer 1 = .ok (.iload_n 1, 1) := by decide +kernel
theorem dX12_answer_2 : decode cX12_answer 2 = .ok (.invokevirtual 215, 3) := by decide +kernel
theorem dX12_answer_5 : decode cX12_answer 5 = .ok (.ifCond .eq 11, 3) := by decide +kernel
theorem dX12_answer_8 : decode cX12_answer 8 = .ok (.aload_n 0, 1) := by decide +kernel
theorem dX12_answer_9 : decode cX12_answer 9 = .ok (.iload_n 2, 1) := by decide +kernel
theorem dX12_answer_10 : decode cX12_answer 10 = .ok (.invokevirtual 215, 3) := by decide +kernel
theorem dX12_answer_13 : decode cX12_answer 13 = .ok (.ifCond .ne 6, 3) := by decide +kernel
theorem dX12_answer_16 : decode cX12_answer 16 = .ok (.ldc 219, 2) := by decide +kernel
theorem dX12_answer_18 : decode cX12_answer 18 = .ok (.ireturn, 1) := by decide +kernel
theorem dX12_answer_19 : decode cX12_answer 19 = .ok (.aload_n 0, 1) := by decide +kernel
theorem dX12_answer_20 : decode cX12_answer 20 = .ok (.iload_n 1, 1) := by decide +kernel
theorem dX12_answer_21 : decode cX12_answer 21 = .ok (.iload_n 2, 1) := by decide +kernel
theorem dX12_answer_22 : decode cX12_answer 22 = .ok (.invokevirtual 243, 3) := by decide +kernel
theorem dX12_answer_25 : decode cX12_answer 25 = .ok (.ifCond .ne 6, 3) := by decide +kernel
theorem dX12_answer_28 : decode cX12_answer 28 = .ok (.ldc 246, 2) := by decide +kernel
theorem dX12_answer_30 : decode cX12_answer 30 = .ok (.ireturn, 1) := by decide +kernel
theorem dX12_answer_31 : decode cX12_answer 31 = .ok (.aload_n 0, 1) := by decide +kernel
theorem dX12_answer_32 : decode cX12_answer 32 = .ok (.invokevirtual 237, 3) := by decide +kernel
theorem dX12_answer_35 : decode cX12_answer 35 = .ok (.aload_n 0, 1) := by decide +kernel
theorem dX12_answer_36 : decode cX12_answer 36 = .ok (.iload_n 1, 1) := by decide +kernel
theorem dX12_answer_37 : decode cX12_answer 37 = .ok (.iload_n 2, 1) := by decide +kernel
theorem dX12_answer_38 : decode cX12_answer 38 = .ok (.invokevirtual 247, 3) := by decide +kernel
theorem dX12_answer_41 : decode cX12_answer 41 = .ok (.aload_n 0, 1) := by decide +kernel
theorem dX12_answer_42 : decode cX12_answer 42 = .ok (.getfield 19, 3) := by decide +kernel
theorem dX12_answer_45 : decode cX12_answer 45 = .ok (.bipush 12, 2) := by decide +kernel
theorem dX12_answer_47 : decode cX12_answer 47 = .ok (.iload_n 1, 1) := by decide +kernel
theorem dX12_answer_48 : decode cX12_answer 48 = .ok (.iadd, 1) := by decide +kernel
theorem dX12_answer_49 : decode cX12_answer 49 = .ok (.iaload, 1) := by decide +kernel
theorem dX12_answer_50 : decode cX12_answer 50 = .ok (.ireturn, 1) := by decide +kernel
theorem dX12_year_0 : decode cX12_year 0 = .ok (.iload_n 1, 1) := by decide +kernel
theorem dX12_year_1 : decode cX12_year 1 = .ok (.i2l, 1) := by decide +kernel
theorem dX12_year_2 : decode cX12_year 2 = .ok (.lconst 1, 1) := by decide +kernel
theorem dX12_year_3 : decode cX12_year 3 = .ok (.ldc2_w 251, 3) := by decide +kernel
theorem dX12_year_6 : decode cX12_year 6 = .ok (.invokestatic 75, 3) := by decide +kernel
theorem dX12_year_9 : decode cX12_year 9 = .ok (.ifCond .ne 6, 3) := by decide +kernel
theorem dX12_year_12 : decode cX12_year 12 = .ok (.ldc 84, 2) := by decide +kernel
theorem dX12_year_14 : decode cX12_year 14 = .ok (.ireturn, 1) := by decide +kernel
theorem dX12_year_15 : decode cX12_year 15 = .ok (.aload_n 0, 1) := by decide +kernel
theorem dX12_year_16 : decode cX12_year 16 = .ok (.invokevirtual 253, 3) := by decide +kernel
theorem dX12_year_19 : decode cX12_year 19 = .ok (.ifCond .ne 6, 3) := by decide +kernel
theorem dX12_year_22 : decode cX12_year 22 = .ok (.ldc 246, 2) := by decide +kernel
theorem dX12_year_24 : decode cX12_year 24 = .ok (.ireturn, 1) := by decide +kernel
theorem dX12_year_25 : decode cX12_year 25 = .ok (.aload_n 0, 1) := by decide +kernel
theorem dX12_year_26 : decode cX12_year 26 = .ok (.getfield 19, 3) := by decide +kernel
theorem dX12_year_29 : decode cX12_year 29 = .ok (.iconst 1, 1) := by decide +kernel
theorem dX12_year_30 : decode cX12_year 30 = .ok (.iaload, 1) := by decide +kernel
theorem dX12_year_31 : decode cX12_year 31 = .ok (.sipush 9000, 3) := by decide +kernel
theorem dX12_year_34 : decode cX12_year 34 = .ok (.if_icmp .le 6, 3) := by decide +kernel
theorem dX12_year_37 : decode cX12_year 37 = .ok (.ldc 88, 2) := by decide +kernel
theorem dX12_year_39 : decode cX12_year 39 = .ok (.ireturn, 1) := by decide +kernel
theorem dX12_year_40 : decode cX12_year 40 = .ok (.aload_n 0, 1) := by decide +kernel
theorem dX12_year_41 : decode cX12_year 41 = .ok (.invokevirtual 237, 3) := by decide +kernel
theorem dX12_year_44 : decode cX12_year 44 = .ok (.iconst 0, 1) := by decide +kernel
theorem dX12_year_45 : decode cX12_year 45 = .ok (.istore_n 2, 1) := by decide +kernel
theorem dX12_year_46 : decode cX12_year 46 = .ok (.iload_n 2, 1) := by decide +kernel
theorem dX12_year_47 : decode cX12_year 47 = .ok (.iload_n 1, 1) := by decide +kernel
theorem dX12_year_48 : decode cX12_year 48 = .ok (.if_icmp .ge 14, 3) := by decide +kernel
theorem dX12_year_51 : decode cX12_year 51 = .ok (.aload_n 0, 1) := by decide +kernel
theorem dX12_year_52 : decode cX12_year 52 = .ok (.iconst 0, 1) := by decide +kernel
theorem dX12_year_53 : decode cX12_year 53 = .ok (.invokevirtual 184, 3) := by decide +kernel
theorem dX12_year_56 : decode cX12_year 56 = .ok (.iinc 2 1, 3) := by decide +kernel
theorem dX12_year_59 : decode cX12_year 59 = .ok (.goto (-13), 3) := by decide +kernel
theorem dX12_year_62 : decode cX12_year 62 = .ok (.aload_n 0, 1) := by decide +kernel
theorem dX12_year_63 : decode cX12_year 63 = .ok (.getfield 19, 3) := by decide +kernel
theorem dX12_year_66 : decode cX12_year 66 = .ok (.iconst 2, 1) := by decide +kernel
theorem dX12_year_67 : decode cX12_year 67 = .ok (.iaload, 1) := by decide +kernel
theorem dX12_year_68 : decode cX12_year 68 = .ok (.ireturn, 1) := by decide +kernel
theorem dX12_wit_0 : decode cX12_wit 0 = .ok (.aload_n 0, 1) := by decide +kernel
theorem dX12_wit_1 : decode cX12_wit 1 = .ok (.iload_n 1, 1) := by decide +kernel
theorem dX12_wit_2 : decode cX12_wit 2 = .ok (.invokevirtual 215, 3) := by decide +kernel
theorem dX12_wit_5 : decode cX12_wit 5 = .ok (.ifCond .ne 6, 3) := by decide +kernel
theorem dX12_wit_8 : decode cX12_wit 8 = .ok (.ldc 219, 2) := by decide +kernel
theorem dX12_wit_10 : decode cX12_wit 10 = .ok (.ireturn, 1) := by decide +kernel
theorem dX12_wit_11 : decode cX12_wit 11 = .ok (.iload_n 2, 1) := by decide +kernel
theorem dX12_wit_12 : decode cX12_wit 12 = .ok (.i2l, 1) := by decide +kernel
theorem dX12_wit_13 : decode cX12_wit 13 = .ok (.lconst 1, 1) := by decide +kernel
theorem dX12_wit_14 : decode cX12_wit 14 = .ok (.ldc2_w 257, 3) := by decide +kernel
theorem dX12_wit_17 : decode cX12_wit 17 = .ok (.invokestatic 75, 3) := by decide +kernel
theorem dX12_wit_20 : decode cX12_wit 20 = .ok (.ifCond .ne 6, 3) := by decide +kernel
theorem dX12_wit_23 : decode cX12_wit 23 = .ok (.ldc 84, 2) := by decide +kernel
theorem dX12_wit_25 : decode cX12_wit 25 = .ok (.ireturn, 1) := by decide +kernel
theorem dX12_wit_26 : decode cX12_wit 26 = .ok (.aload_n 0, 1) := by decide +kernel
theorem dX12_wit_27 : decode cX12_wit 27 = .ok (.invokevirtual 237, 3) := by decide +kernel
theorem dX12_wit_30 : decode cX12_wit 30 = .ok (.aload_n 0, 1) := by decide +kernel
theorem dX12_wit_31 : decode cX12_wit 31 = .ok (.getfield 19, 3) := by decide +kernel
theorem dX12_wit_34 : decode cX12_wit 34 = .ok (.iconst 5, 1) := by decide +kernel
theorem dX12_wit_35 : decode cX12_wit 35 = .ok (.iload_n 1, 1) := by decide +kernel
theorem dX12_wit_36 : decode cX12_wit 36 = .ok (.iadd, 1) := by decide +kernel
theorem dX12_wit_37 : decode cX12_wit 37 = .ok (.iaload, 1) := by decide +kernel
theorem dX12_wit_38 : decode cX12_wit 38 = .ok (.istore_n 3, 1) := by decide +kernel
theorem dX12_wit_39 : decode cX12_wit 39 = .ok (.aload_n 0, 1) := by decide +kernel
theorem dX12_wit_40 : decode cX12_wit 40 = .ok (.getfield 19, 3) := by decide +kernel
theorem dX12_wit_43 : decode cX12_wit 43 = .ok (.iconst 5, 1) := by decide +kernel
theorem dX12_wit_44 : decode cX12_wit 44 = .ok (.iload_n 1, 1) := by decide +kernel
theorem dX12_wit_45 : decode cX12_wit 45 = .ok (.iadd, 1) := by decide +kernel
theorem dX12_wit_46 : decode cX12_wit 46 = .ok (.iload_n 2, 1) := by decide +kernel
theorem dX12_wit_47 : decode cX12_wit 47 = .ok (.iastore, 1) := by decide +kernel
theorem dX12_wit_48 : decode cX12_wit 48 = .ok (.iload_n 3, 1) := by decide +kernel
theorem dX12_wit_49 : decode cX12_wit 49 = .ok (.ireturn, 1) := by decide +kernel
theorem dX12_bear_0 : decode cX12_bear 0 = .ok (.aload_n 0, 1) := by decide +kernel
theorem dX12_bear_1 : decode cX12_bear 1 = .ok (.iload_n 1, 1) := by decide +kernel
theorem dX12_bear_2 : decode cX12_bear 2 = .ok (.invokevirtual 226, 3) := by decide +kernel
theorem dX12_bear_5 : decode cX12_bear 5 = .ok (.ifCond .ne 6, 3) := by decide +kernel
theorem dX12_bear_8 : decode cX12_bear 8 = .ok (.ldc 219, 2) := by decide +kernel
theorem dX12_bear_10 : decode cX12_bear 10 = .ok (.ireturn, 1) := by decide +kernel
theorem dX12_bear_11 : decode cX12_bear 11 = .ok (.iload_n 2, 1) := by decide +kernel
theorem dX12_bear_12 : decode cX12_bear 12 = .ok (.i2l, 1) := by decide +kernel
theorem dX12_bear_13 : decode cX12_bear 13 = .ok (.lconst 0, 1) := by decide +kernel
theorem dX12_bear_14 : decode cX12_bear 14 = .ok (.ldc2_w 235, 3) := by decide +kernel
theorem dX12_bear_17 : decode cX12_bear 17 = .ok (.invokestatic 75, 3) := by decide +kernel
theorem dX12_bear_20 : decode cX12_bear 20 = .ok (.ifCond .ne 6, 3) := by decide +kernel
theorem dX12_bear_23 : decode cX12_bear 23 = .ok (.ldc 84, 2) := by decide +kernel
theorem dX12_bear_25 : decode cX12_bear 25 = .ok (.ireturn, 1) := by decide +kernel
theorem dX12_bear_26 : decode cX12_bear 26 = .ok (.aload_n 0, 1) := by decide +kernel
theorem dX12_bear_27 : decode cX12_bear 27 = .ok (.invokevirtual 237, 3) := by decide +kernel
theorem dX12_bear_30 : decode cX12_bear 30 = .ok (.aload_n 0, 1) := by decide +kernel
theorem dX12_bear_31 : decode cX12_bear 31 = .ok (.getfield 19, 3) := by decide +kernel
theorem dX12_bear_34 : decode cX12_bear 34 = .ok (.bipush 26, 2) := by decide +kernel
theorem dX12_bear_36 : decode cX12_bear 36 = .ok (.iload_n 1, 1) := by decide +kernel
theorem dX12_bear_37 : decode cX12_bear 37 = .ok (.iadd, 1) := by decide +kernel
theorem dX12_bear_38 : decode cX12_bear 38 = .ok (.iaload, 1) := by decide +kernel
theorem dX12_bear_39 : decode cX12_bear 39 = .ok (.istore_n 3, 1) := by decide +kernel
