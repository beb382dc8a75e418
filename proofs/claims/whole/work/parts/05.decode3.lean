theorem dX7_lentTo_37 : decode cX7_lentTo 37 = .ok (.iload_n 2, 1) := by decide +kernel
theorem dX7_lentTo_38 : decode cX7_lentTo 38 = .ok (.ireturn, 1) := by decide +kernel
theorem dX7_ofLodger_0 : decode cX7_ofLodger 0 = .ok (.iload_n 2, 1) := by decide +kernel
theorem dX7_ofLodger_1 : decode cX7_ofLodger 1 = .ok (.iconst 3, 1) := by decide +kernel
theorem dX7_ofLodger_2 : decode cX7_ofLodger 2 = .ok (.if_icmp .ge 16, 3) := by decide +kernel
theorem dX7_ofLodger_5 : decode cX7_ofLodger 5 = .ok (.aload_n 0, 1) := by decide +kernel
theorem dX7_ofLodger_6 : decode cX7_ofLodger 6 = .ok (.getfield 7, 3) := by decide +kernel
theorem dX7_ofLodger_9 : decode cX7_ofLodger 9 = .ok (.iload_n 1, 1) := by decide +kernel
theorem dX7_ofLodger_10 : decode cX7_ofLodger 10 = .ok (.iload_n 2, 1) := by decide +kernel
theorem dX7_ofLodger_11 : decode cX7_ofLodger 11 = .ok (.invokestatic 25, 3) := by decide +kernel
theorem dX7_ofLodger_14 : decode cX7_ofLodger 14 = .ok (.iaload, 1) := by decide +kernel
theorem dX7_ofLodger_15 : decode cX7_ofLodger 15 = .ok (.goto 28, 3) := by decide +kernel
theorem dX7_ofLodger_18 : decode cX7_ofLodger 18 = .ok (.iload_n 2, 1) := by decide +kernel
theorem dX7_ofLodger_19 : decode cX7_ofLodger 19 = .ok (.iconst 3, 1) := by decide +kernel
theorem dX7_ofLodger_20 : decode cX7_ofLodger 20 = .ok (.if_icmp .ne 11, 3) := by decide +kernel
theorem dX7_ofLodger_23 : decode cX7_ofLodger 23 = .ok (.aload_n 0, 1) := by decide +kernel
theorem dX7_ofLodger_24 : decode cX7_ofLodger 24 = .ok (.iload_n 1, 1) := by decide +kernel
theorem dX7_ofLodger_25 : decode cX7_ofLodger 25 = .ok (.invokevirtual 142, 3) := by decide +kernel
theorem dX7_ofLodger_28 : decode cX7_ofLodger 28 = .ok (.goto 15, 3) := by decide +kernel
theorem dX7_ofLodger_31 : decode cX7_ofLodger 31 = .ok (.aload_n 0, 1) := by decide +kernel
theorem dX7_ofLodger_32 : decode cX7_ofLodger 32 = .ok (.getfield 7, 3) := by decide +kernel
theorem dX7_ofLodger_35 : decode cX7_ofLodger 35 = .ok (.iload_n 1, 1) := by decide +kernel
theorem dX7_ofLodger_36 : decode cX7_ofLodger 36 = .ok (.iload_n 2, 1) := by decide +kernel
theorem dX7_ofLodger_37 : decode cX7_ofLodger 37 = .ok (.iconst 1, 1) := by decide +kernel
theorem dX7_ofLodger_38 : decode cX7_ofLodger 38 = .ok (.isub, 1) := by decide +kernel
theorem dX7_ofLodger_39 : decode cX7_ofLodger 39 = .ok (.invokestatic 25, 3) := by decide +kernel
theorem dX7_ofLodger_42 : decode cX7_ofLodger 42 = .ok (.iaload, 1) := by decide +kernel
theorem dX7_ofLodger_43 : decode cX7_ofLodger 43 = .ok (.ireturn, 1) := by decide +kernel
theorem dX7_lodgerOf_0 : decode cX7_lodgerOf 0 = .ok (.aload_n 0, 1) := by decide +kernel
theorem dX7_lodgerOf_1 : decode cX7_lodgerOf 1 = .ok (.iload_n 1, 1) := by decide +kernel
theorem dX7_lodgerOf_2 : decode cX7_lodgerOf 2 = .ok (.invokestatic 70, 3) := by decide +kernel
theorem dX7_lodgerOf_5 : decode cX7_lodgerOf 5 = .ok (.ifCond .ne 7, 3) := by decide +kernel
theorem dX7_lodgerOf_8 : decode cX7_lodgerOf 8 = .ok (.iconst 1, 1) := by decide +kernel
theorem dX7_lodgerOf_9 : decode cX7_lodgerOf 9 = .ok (.goto 18, 3) := by decide +kernel
theorem dX7_lodgerOf_12 : decode cX7_lodgerOf 12 = .ok (.iload_n 2, 1) := by decide +kernel
theorem dX7_lodgerOf_13 : decode cX7_lodgerOf 13 = .ok (.iconst 0, 1) := by decide +kernel
theorem dX7_lodgerOf_14 : decode cX7_lodgerOf 14 = .ok (.bipush 6, 2) := by decide +kernel
theorem dX7_lodgerOf_16 : decode cX7_lodgerOf 16 = .ok (.invokestatic 33, 3) := by decide +kernel
theorem dX7_lodgerOf_19 : decode cX7_lodgerOf 19 = .ok (.ifCond .eq 7, 3) := by decide +kernel
theorem dX7_lodgerOf_22 : decode cX7_lodgerOf 22 = .ok (.iconst 0, 1) := by decide +kernel
theorem dX7_lodgerOf_23 : decode cX7_lodgerOf 23 = .ok (.goto 4, 3) := by decide +kernel
theorem dX7_lodgerOf_26 : decode cX7_lodgerOf 26 = .ok (.iconst 2, 1) := by decide +kernel
theorem dX7_lodgerOf_27 : decode cX7_lodgerOf 27 = .ok (.invokevirtual 78, 3) := by decide +kernel
theorem dX7_lodgerOf_30 : decode cX7_lodgerOf 30 = .ok (.ifCond .eq 12, 3) := by decide +kernel
theorem dX7_lodgerOf_33 : decode cX7_lodgerOf 33 = .ok (.aload_n 0, 1) := by decide +kernel
theorem dX7_lodgerOf_34 : decode cX7_lodgerOf 34 = .ok (.iload_n 1, 1) := by decide +kernel
theorem dX7_lodgerOf_35 : decode cX7_lodgerOf 35 = .ok (.iload_n 2, 1) := by decide +kernel
theorem dX7_lodgerOf_36 : decode cX7_lodgerOf 36 = .ok (.invokevirtual 146, 3) := by decide +kernel
theorem dX7_lodgerOf_39 : decode cX7_lodgerOf 39 = .ok (.goto 4, 3) := by decide +kernel
theorem dX7_lodgerOf_42 : decode cX7_lodgerOf 42 = .ok (.iconst 0, 1) := by decide +kernel
theorem dX7_lodgerOf_43 : decode cX7_lodgerOf 43 = .ok (.ireturn, 1) := by decide +kernel
theorem dX7_slept_0 : decode cX7_slept 0 = .ok (.iconst 0, 1) := by decide +kernel
theorem dX7_slept_1 : decode cX7_slept 1 = .ok (.istore_n 1, 1) := by decide +kernel
theorem dX7_slept_2 : decode cX7_slept 2 = .ok (.iconst 0, 1) := by decide +kernel
theorem dX7_slept_3 : decode cX7_slept 3 = .ok (.istore_n 2, 1) := by decide +kernel
theorem dX7_slept_4 : decode cX7_slept 4 = .ok (.iload_n 2, 1) := by decide +kernel
theorem dX7_slept_5 : decode cX7_slept 5 = .ok (.bipush 10, 2) := by decide +kernel
theorem dX7_slept_7 : decode cX7_slept 7 = .ok (.if_icmp .ge 22, 3) := by decide +kernel
theorem dX7_slept_10 : decode cX7_slept 10 = .ok (.iload_n 1, 1) := by decide +kernel
theorem dX7_slept_11 : decode cX7_slept 11 = .ok (.aload_n 0, 1) := by decide +kernel
theorem dX7_slept_12 : decode cX7_slept 12 = .ok (.getfield 7, 3) := by decide +kernel
theorem dX7_slept_15 : decode cX7_slept 15 = .ok (.iload_n 2, 1) := by decide +kernel
theorem dX7_slept_16 : decode cX7_slept 16 = .ok (.iconst 3, 1) := by decide +kernel
theorem dX7_slept_17 : decode cX7_slept 17 = .ok (.invokestatic 25, 3) := by decide +kernel
theorem dX7_slept_20 : decode cX7_slept 20 = .ok (.iaload, 1) := by decide +kernel
theorem dX7_slept_21 : decode cX7_slept 21 = .ok (.iadd, 1) := by decide +kernel
theorem dX7_slept_22 : decode cX7_slept 22 = .ok (.istore_n 1, 1) := by decide +kernel
theorem dX7_slept_23 : decode cX7_slept 23 = .ok (.iinc 2 1, 3) := by decide +kernel
theorem dX7_slept_26 : decode cX7_slept 26 = .ok (.goto (-22), 3) := by decide +kernel
theorem dX7_slept_29 : decode cX7_slept 29 = .ok (.iload_n 1, 1) := by decide +kernel
theorem dX7_slept_30 : decode cX7_slept 30 = .ok (.ireturn, 1) := by decide +kernel
theorem dX7_counted_0 : decode cX7_counted 0 = .ok (.iload_n 1, 1) := by decide +kernel
theorem dX7_counted_1 : decode cX7_counted 1 = .ok (.tableswitch 165 0 10 #[59, 67, 75, 80, 85, 93, 125, 133, 141, 149, 157], 59) := by decide +kernel
theorem dX7_counted_60 : decode cX7_counted 60 = .ok (.aload_n 0, 1) := by decide +kernel
theorem dX7_counted_61 : decode cX7_counted 61 = .ok (.getfield 7, 3) := by decide +kernel
theorem dX7_counted_64 : decode cX7_counted 64 = .ok (.bipush 108, 2) := by decide +kernel
theorem dX7_counted_66 : decode cX7_counted 66 = .ok (.iaload, 1) := by decide +kernel
theorem dX7_counted_67 : decode cX7_counted 67 = .ok (.ireturn, 1) := by decide +kernel
theorem dX7_counted_68 : decode cX7_counted 68 = .ok (.aload_n 0, 1) := by decide +kernel
theorem dX7_counted_69 : decode cX7_counted 69 = .ok (.getfield 7, 3) := by decide +kernel
theorem dX7_counted_72 : decode cX7_counted 72 = .ok (.bipush 109, 2) := by decide +kernel
theorem dX7_counted_74 : decode cX7_counted 74 = .ok (.iaload, 1) := by decide +kernel
theorem dX7_counted_75 : decode cX7_counted 75 = .ok (.ireturn, 1) := by decide +kernel
theorem dX7_counted_76 : decode cX7_counted 76 = .ok (.aload_n 0, 1) := by decide +kernel
theorem dX7_counted_77 : decode cX7_counted 77 = .ok (.invokevirtual 139, 3) := by decide +kernel
theorem dX7_counted_80 : decode cX7_counted 80 = .ok (.ireturn, 1) := by decide +kernel
theorem dX7_counted_81 : decode cX7_counted 81 = .ok (.aload_n 0, 1) := by decide +kernel
theorem dX7_counted_82 : decode cX7_counted 82 = .ok (.invokevirtual 149, 3) := by decide +kernel
theorem dX7_counted_85 : decode cX7_counted 85 = .ok (.ireturn, 1) := by decide +kernel
theorem dX7_counted_86 : decode cX7_counted 86 = .ok (.aload_n 0, 1) := by decide +kernel
theorem dX7_counted_87 : decode cX7_counted 87 = .ok (.getfield 7, 3) := by decide +kernel
theorem dX7_counted_90 : decode cX7_counted 90 = .ok (.bipush 110, 2) := by decide +kernel
theorem dX7_counted_92 : decode cX7_counted 92 = .ok (.iaload, 1) := by decide +kernel
theorem dX7_counted_93 : decode cX7_counted 93 = .ok (.ireturn, 1) := by decide +kernel
theorem dX7_counted_94 : decode cX7_counted 94 = .ok (.aload_n 0, 1) := by decide +kernel
theorem dX7_counted_95 : decode cX7_counted 95 = .ok (.getfield 7, 3) := by decide +kernel
theorem dX7_counted_98 : decode cX7_counted 98 = .ok (.bipush 111, 2) := by decide +kernel
theorem dX7_counted_100 : decode cX7_counted 100 = .ok (.iaload, 1) := by decide +kernel
theorem dX7_counted_101 : decode cX7_counted 101 = .ok (.aload_n 0, 1) := by decide +kernel
theorem dX7_counted_102 : decode cX7_counted 102 = .ok (.getfield 7, 3) := by decide +kernel
theorem dX7_counted_105 : decode cX7_counted 105 = .ok (.bipush 112, 2) := by decide +kernel
theorem dX7_counted_107 : decode cX7_counted 107 = .ok (.iaload, 1) := by decide +kernel
theorem dX7_counted_108 : decode cX7_counted 108 = .ok (.iadd, 1) := by decide +kernel
theorem dX7_counted_109 : decode cX7_counted 109 = .ok (.aload_n 0, 1) := by decide +kernel
theorem dX7_counted_110 : decode cX7_counted 110 = .ok (.getfield 7, 3) := by decide +kernel
theorem dX7_counted_113 : decode cX7_counted 113 = .ok (.bipush 113, 2) := by decide +kernel
theorem dX7_counted_115 : decode cX7_counted 115 = .ok (.iaload, 1) := by decide +kernel
theorem dX7_counted_116 : decode cX7_counted 116 = .ok (.iadd, 1) := by decide +kernel
theorem dX7_counted_117 : decode cX7_counted 117 = .ok (.aload_n 0, 1) := by decide +kernel
theorem dX7_counted_118 : decode cX7_counted 118 = .ok (.getfield 7, 3) := by decide +kernel
theorem dX7_counted_121 : decode cX7_counted 121 = .ok (.bipush 114, 2) := by decide +kernel
theorem dX7_counted_123 : decode cX7_counted 123 = .ok (.iaload, 1) := by decide +kernel
theorem dX7_counted_124 : decode cX7_counted 124 = .ok (.iadd, 1) := by decide +kernel
theorem dX7_counted_125 : decode cX7_counted 125 = .ok (.ireturn, 1) := by decide +kernel
theorem dX7_counted_126 : decode cX7_counted 126 = .ok (.aload_n 0, 1) := by decide +kernel
theorem dX7_counted_127 : decode cX7_counted 127 = .ok (.getfield 7, 3) := by decide +kernel
theorem dX7_counted_130 : decode cX7_counted 130 = .ok (.bipush 115, 2) := by decide +kernel
theorem dX7_counted_132 : decode cX7_counted 132 = .ok (.iaload, 1) := by decide +kernel
theorem dX7_counted_133 : decode cX7_counted 133 = .ok (.ireturn, 1) := by decide +kernel
theorem dX7_counted_134 : decode cX7_counted 134 = .ok (.aload_n 0, 1) := by decide +kernel
theorem dX7_counted_135 : decode cX7_counted 135 = .ok (.getfield 7, 3) := by decide +kernel
theorem dX7_counted_138 : decode cX7_counted 138 = .ok (.bipush 116, 2) := by decide +kernel
theorem dX7_counted_140 : decode cX7_counted 140 = .ok (.iaload, 1) := by decide +kernel
theorem dX7_counted_141 : decode cX7_counted 141 = .ok (.ireturn, 1) := by decide +kernel
theorem dX7_counted_142 : decode cX7_counted 142 = .ok (.aload_n 0, 1) := by decide +kernel
theorem dX7_counted_143 : decode cX7_counted 143 = .ok (.getfield 7, 3) := by decide +kernel
theorem dX7_counted_146 : decode cX7_counted 146 = .ok (.bipush 117, 2) := by decide +kernel
theorem dX7_counted_148 : decode cX7_counted 148 = .ok (.iaload, 1) := by decide +kernel
theorem dX7_counted_149 : decode cX7_counted 149 = .ok (.ireturn, 1) := by decide +kernel
theorem dX7_counted_150 : decode cX7_counted 150 = .ok (.aload_n 0, 1) := by decide +kernel
theorem dX7_counted_151 : decode cX7_counted 151 = .ok (.getfield 7, 3) := by decide +kernel
theorem dX7_counted_154 : decode cX7_counted 154 = .ok (.bipush 119, 2) := by decide +kernel
theorem dX7_counted_156 : decode cX7_counted 156 = .ok (.iaload, 1) := by decide +kernel
theorem dX7_counted_157 : decode cX7_counted 157 = .ok (.ireturn, 1) := by decide +kernel
theorem dX7_counted_158 : decode cX7_counted 158 = .ok (.aload_n 0, 1) := by decide +kernel
theorem dX7_counted_159 : decode cX7_counted 159 = .ok (.getfield 7, 3) := by decide +kernel
theorem dX7_counted_162 : decode cX7_counted 162 = .ok (.bipush 118, 2) := by decide +kernel
theorem dX7_counted_164 : decode cX7_counted 164 = .ok (.iaload, 1) := by decide +kernel
theorem dX7_counted_165 : decode cX7_counted 165 = .ok (.ireturn, 1) := by decide +kernel
theorem dX7_counted_166 : decode cX7_counted 166 = .ok (.aload_n 0, 1) := by decide +kernel
theorem dX7_counted_167 : decode cX7_counted 167 = .ok (.getfield 37, 3) := by decide +kernel
theorem dX7_counted_170 : decode cX7_counted 170 = .ok (.ireturn, 1) := by decide +kernel
theorem dX7_count_0 : decode cX7_count 0 = .ok (.aload_n 0, 1) := by decide +kernel
theorem dX7_count_1 : decode cX7_count 1 = .ok (.iload_n 1, 1) := by decide +kernel
theorem dX7_count_2 : decode cX7_count 2 = .ok (.iconst 0, 1) := by decide +kernel
theorem dX7_count_3 : decode cX7_count 3 = .ok (.bipush 11, 2) := by decide +kernel
theorem dX7_count_5 : decode cX7_count 5 = .ok (.invokestatic 33, 3) := by decide +kernel
theorem dX7_count_8 : decode cX7_count 8 = .ok (.ifCond .eq 7, 3) := by decide +kernel
theorem dX7_count_11 : decode cX7_count 11 = .ok (.iconst 0, 1) := by decide +kernel
theorem dX7_count_12 : decode cX7_count 12 = .ok (.goto 4, 3) := by decide +kernel
theorem dX7_count_15 : decode cX7_count 15 = .ok (.iconst 1, 1) := by decide +kernel
theorem dX7_count_16 : decode cX7_count 16 = .ok (.invokevirtual 78, 3) := by decide +kernel
theorem dX7_count_19 : decode cX7_count 19 = .ok (.ifCond .eq 11, 3) := by decide +kernel
theorem dX7_count_22 : decode cX7_count 22 = .ok (.aload_n 0, 1) := by decide +kernel
theorem dX7_count_23 : decode cX7_count 23 = .ok (.iload_n 1, 1) := by decide +kernel
theorem dX7_count_24 : decode cX7_count 24 = .ok (.invokevirtual 152, 3) := by decide +kernel
theorem dX7_count_27 : decode cX7_count 27 = .ok (.goto 4, 3) := by decide +kernel
theorem dX7_count_30 : decode cX7_count 30 = .ok (.iconst 0, 1) := by decide +kernel
theorem dX7_count_31 : decode cX7_count 31 = .ok (.ireturn, 1) := by decide +kernel
theorem dX7_refused_0 : decode cX7_refused 0 = .ok (.aload_n 0, 1) := by decide +kernel
theorem dX7_refused_1 : decode cX7_refused 1 = .ok (.iload_n 1, 1) := by decide +kernel
theorem dX7_refused_2 : decode cX7_refused 2 = .ok (.iconst 1, 1) := by decide +kernel
theorem dX7_refused_3 : decode cX7_refused 3 = .ok (.iconst 4, 1) := by decide +kernel
theorem dX7_refused_4 : decode cX7_refused 4 = .ok (.invokestatic 33, 3) := by decide +kernel
theorem dX7_refused_7 : decode cX7_refused 7 = .ok (.ifCond .eq 7, 3) := by decide +kernel
theorem dX7_refused_10 : decode cX7_refused 10 = .ok (.iconst 0, 1) := by decide +kernel
theorem dX7_refused_11 : decode cX7_refused 11 = .ok (.goto 4, 3) := by decide +kernel
theorem dX7_refused_14 : decode cX7_refused 14 = .ok (.iconst 1, 1) := by decide +kernel
theorem dX7_refused_15 : decode cX7_refused 15 = .ok (.invokevirtual 78, 3) := by decide +kernel
theorem dX7_refused_18 : decode cX7_refused 18 = .ok (.ifCond .eq 17, 3) := by decide +kernel
theorem dX7_refused_21 : decode cX7_refused 21 = .ok (.aload_n 0, 1) := by decide +kernel
theorem dX7_refused_22 : decode cX7_refused 22 = .ok (.getfield 7, 3) := by decide +kernel
theorem dX7_refused_25 : decode cX7_refused 25 = .ok (.bipush 111, 2) := by decide +kernel
theorem dX7_refused_27 : decode cX7_refused 27 = .ok (.iload_n 1, 1) := by decide +kernel
theorem dX7_refused_28 : decode cX7_refused 28 = .ok (.iadd, 1) := by decide +kernel
theorem dX7_refused_29 : decode cX7_refused 29 = .ok (.iconst 1, 1) := by decide +kernel
theorem dX7_refused_30 : decode cX7_refused 30 = .ok (.isub, 1) := by decide +kernel
theorem dX7_refused_31 : decode cX7_refused 31 = .ok (.iaload, 1) := by decide +kernel
theorem dX7_refused_32 : decode cX7_refused 32 = .ok (.goto 4, 3) := by decide +kernel
theorem dX7_refused_35 : decode cX7_refused 35 = .ok (.iconst 0, 1) := by decide +kernel
theorem dX7_refused_36 : decode cX7_refused 36 = .ok (.ireturn, 1) := by decide +kernel
theorem dX7_would_0 : decode cX7_would 0 = .ok (.iconst 0, 1) := by decide +kernel
theorem dX7_would_1 : decode cX7_would 1 = .ok (.istore 4, 2) := by decide +kernel
theorem dX7_would_3 : decode cX7_would 3 = .ok (.iload 4, 2) := by decide +kernel
theorem dX7_would_5 : decode cX7_would 5 = .ok (.bipush 120, 2) := by decide +kernel
theorem dX7_would_7 : decode cX7_would 7 = .ok (.if_icmp .ge 23, 3) := by decide +kernel
theorem dX7_would_10 : decode cX7_would 10 = .ok (.aload_n 0, 1) := by decide +kernel
theorem dX7_would_11 : decode cX7_would 11 = .ok (.getfield 13, 3) := by decide +kernel
theorem dX7_would_14 : decode cX7_would 14 = .ok (.iload 4, 2) := by decide +kernel
theorem dX7_would_16 : decode cX7_would 16 = .ok (.aload_n 0, 1) := by decide +kernel
theorem dX7_would_17 : decode cX7_would 17 = .ok (.getfield 7, 3) := by decide +kernel
theorem dX7_would_20 : decode cX7_would 20 = .ok (.iload 4, 2) := by decide +kernel
theorem dX7_would_22 : decode cX7_would 22 = .ok (.iaload, 1) := by decide +kernel
theorem dX7_would_23 : decode cX7_would 23 = .ok (.iastore, 1) := by decide +kernel
theorem dX7_would_24 : decode cX7_would 24 = .ok (.iinc 4 1, 3) := by decide +kernel
theorem dX7_would_27 : decode cX7_would 27 = .ok (.goto (-24), 3) := by decide +kernel
theorem dX7_would_30 : decode cX7_would 30 = .ok (.aload_n 0, 1) := by decide +kernel
theorem dX7_would_31 : decode cX7_would 31 = .ok (.iload_n 1, 1) := by decide +kernel
theorem dX7_would_32 : decode cX7_would 32 = .ok (.iload_n 2, 1) := by decide +kernel
theorem dX7_would_33 : decode cX7_would 33 = .ok (.iload_n 3, 1) := by decide +kernel
theorem dX7_would_34 : decode cX7_would 34 = .ok (.invokevirtual 84, 3) := by decide +kernel
theorem dX7_would_37 : decode cX7_would 37 = .ok (.istore 4, 2) := by decide +kernel
theorem dX7_would_39 : decode cX7_would 39 = .ok (.iconst 0, 1) := by decide +kernel
theorem dX7_would_40 : decode cX7_would 40 = .ok (.istore 5, 2) := by decide +kernel
theorem dX7_would_42 : decode cX7_would 42 = .ok (.iload 5, 2) := by decide +kernel
theorem dX7_would_44 : decode cX7_would 44 = .ok (.bipush 120, 2) := by decide +kernel
theorem dX7_would_46 : decode cX7_would 46 = .ok (.if_icmp .ge 23, 3) := by decide +kernel
theorem dX7_would_49 : decode cX7_would 49 = .ok (.aload_n 0, 1) := by decide +kernel
theorem dX7_would_50 : decode cX7_would 50 = .ok (.getfield 7, 3) := by decide +kernel
theorem dX7_would_53 : decode cX7_would 53 = .ok (.iload 5, 2) := by decide +kernel
theorem dX7_would_55 : decode cX7_would 55 = .ok (.aload_n 0, 1) := by decide +kernel
theorem dX7_would_56 : decode cX7_would 56 = .ok (.getfield 13, 3) := by decide +kernel
theorem dX7_would_59 : decode cX7_would 59 = .ok (.iload 5, 2) := by decide +kernel
theorem dX7_would_61 : decode cX7_would 61 = .ok (.iaload, 1) := by decide +kernel
theorem dX7_would_62 : decode cX7_would 62 = .ok (.iastore, 1) := by decide +kernel
theorem dX7_would_63 : decode cX7_would 63 = .ok (.iinc 5 1, 3) := by decide +kernel
theorem dX7_would_66 : decode cX7_would 66 = .ok (.goto (-24), 3) := by decide +kernel
theorem dX7_would_69 : decode cX7_would 69 = .ok (.iload 4, 2) := by decide +kernel
theorem dX7_would_71 : decode cX7_would 71 = .ok (.ireturn, 1) := by decide +kernel
theorem dX7_ifAsked_0 : decode cX7_ifAsked 0 = .ok (.aload_n 0, 1) := by decide +kernel
theorem dX7_ifAsked_1 : decode cX7_ifAsked 1 = .ok (.iload_n 1, 1) := by decide +kernel
theorem dX7_ifAsked_2 : decode cX7_ifAsked 2 = .ok (.invokestatic 70, 3) := by decide +kernel
theorem dX7_ifAsked_5 : decode cX7_ifAsked 5 = .ok (.ifCond .ne 7, 3) := by decide +kernel
theorem dX7_ifAsked_8 : decode cX7_ifAsked 8 = .ok (.iconst 1, 1) := by decide +kernel
theorem dX7_ifAsked_9 : decode cX7_ifAsked 9 = .ok (.goto 16, 3) := by decide +kernel
theorem dX7_ifAsked_12 : decode cX7_ifAsked 12 = .ok (.iload_n 2, 1) := by decide +kernel
theorem dX7_ifAsked_13 : decode cX7_ifAsked 13 = .ok (.iload_n 3, 1) := by decide +kernel
theorem dX7_ifAsked_14 : decode cX7_ifAsked 14 = .ok (.invokestatic 74, 3) := by decide +kernel
theorem dX7_ifAsked_17 : decode cX7_ifAsked 17 = .ok (.ifCond .eq 7, 3) := by decide +kernel
theorem dX7_ifAsked_20 : decode cX7_ifAsked 20 = .ok (.iconst 0, 1) := by decide +kernel
theorem dX7_ifAsked_21 : decode cX7_ifAsked 21 = .ok (.goto 4, 3) := by decide +kernel
theorem dX7_ifAsked_24 : decode cX7_ifAsked 24 = .ok (.iconst 2, 1) := by decide +kernel
theorem dX7_ifAsked_25 : decode cX7_ifAsked 25 = .ok (.invokevirtual 78, 3) := by decide +kernel
theorem dX7_ifAsked_28 : decode cX7_ifAsked 28 = .ok (.ifCond .eq 13, 3) := by decide +kernel
theorem dX7_ifAsked_31 : decode cX7_ifAsked 31 = .ok (.aload_n 0, 1) := by decide +kernel
theorem dX7_ifAsked_32 : decode cX7_ifAsked 32 = .ok (.iload_n 1, 1) := by decide +kernel
theorem dX7_ifAsked_33 : decode cX7_ifAsked 33 = .ok (.iload_n 2, 1) := by decide +kernel
theorem dX7_ifAsked_34 : decode cX7_ifAsked 34 = .ok (.iload_n 3, 1) := by decide +kernel
theorem dX7_ifAsked_35 : decode cX7_ifAsked 35 = .ok (.invokevirtual 155, 3) := by decide +kernel
theorem dX7_ifAsked_38 : decode cX7_ifAsked 38 = .ok (.goto 4, 3) := by decide +kernel
theorem dX7_ifAsked_41 : decode cX7_ifAsked 41 = .ok (.iconst 0, 1) := by decide +kernel
theorem dX7_ifAsked_42 : decode cX7_ifAsked 42 = .ok (.ireturn, 1) := by decide +kernel
theorem dX7_ifPutOut_0 : decode cX7_ifPutOut 0 = .ok (.aload_n 0, 1) := by decide +kernel
theorem dX7_ifPutOut_1 : decode cX7_ifPutOut 1 = .ok (.iload_n 1, 1) := by decide +kernel
theorem dX7_ifPutOut_2 : decode cX7_ifPutOut 2 = .ok (.invokestatic 70, 3) := by decide +kernel
theorem dX7_ifPutOut_5 : decode cX7_ifPutOut 5 = .ok (.ifCond .ne 7, 3) := by decide +kernel
theorem dX7_ifPutOut_8 : decode cX7_ifPutOut 8 = .ok (.iconst 1, 1) := by decide +kernel
theorem dX7_ifPutOut_9 : decode cX7_ifPutOut 9 = .ok (.goto 16, 3) := by decide +kernel
theorem dX7_ifPutOut_12 : decode cX7_ifPutOut 12 = .ok (.iload_n 2, 1) := by decide +kernel
theorem dX7_ifPutOut_13 : decode cX7_ifPutOut 13 = .ok (.iload_n 3, 1) := by decide +kernel
theorem dX7_ifPutOut_14 : decode cX7_ifPutOut 14 = .ok (.invokestatic 74, 3) := by decide +kernel
theorem dX7_ifPutOut_17 : decode cX7_ifPutOut 17 = .ok (.ifCond .eq 7, 3) := by decide +kernel
theorem dX7_ifPutOut_20 : decode cX7_ifPutOut 20 = .ok (.iconst 0, 1) := by decide +kernel
theorem dX7_ifPutOut_21 : decode cX7_ifPutOut 21 = .ok (.goto 4, 3) := by decide +kernel
theorem dX7_ifPutOut_24 : decode cX7_ifPutOut 24 = .ok (.iconst 2, 1) := by decide +kernel
theorem dX7_ifPutOut_25 : decode cX7_ifPutOut 25 = .ok (.invokevirtual 78, 3) := by decide +kernel
theorem dX7_ifPutOut_28 : decode cX7_ifPutOut 28 = .ok (.ifCond .ne 5, 3) := by decide +kernel
theorem dX7_ifPutOut_31 : decode cX7_ifPutOut 31 = .ok (.iconst 0, 1) := by decide +kernel
theorem dX7_ifPutOut_32 : decode cX7_ifPutOut 32 = .ok (.ireturn, 1) := by decide +kernel
theorem dX7_ifPutOut_33 : decode cX7_ifPutOut 33 = .ok (.aload_n 0, 1) := by decide +kernel
theorem dX7_ifPutOut_34 : decode cX7_ifPutOut 34 = .ok (.iload_n 1, 1) := by decide +kernel
theorem dX7_ifPutOut_35 : decode cX7_ifPutOut 35 = .ok (.iload_n 2, 1) := by decide +kernel
theorem dX7_ifPutOut_36 : decode cX7_ifPutOut 36 = .ok (.iload_n 3, 1) := by decide +kernel
theorem dX7_ifPutOut_37 : decode cX7_ifPutOut 37 = .ok (.invokevirtual 155, 3) := by decide +kernel
theorem dX7_ifPutOut_40 : decode cX7_ifPutOut 40 = .ok (.istore 4, 2) := by decide +kernel
theorem dX7_ifPutOut_42 : decode cX7_ifPutOut 42 = .ok (.aload_n 0, 1) := by decide +kernel
theorem dX7_ifPutOut_43 : decode cX7_ifPutOut 43 = .ok (.getfield 60, 3) := by decide +kernel
theorem dX7_ifPutOut_46 : decode cX7_ifPutOut 46 = .ok (.ireturn, 1) := by decide +kernel
theorem dX7_mostAtOnce_0 : decode cX7_mostAtOnce 0 = .ok (.iconst 0, 1) := by decide +kernel
theorem dX7_mostAtOnce_1 : decode cX7_mostAtOnce 1 = .ok (.istore_n 1, 1) := by decide +kernel
theorem dX7_mostAtOnce_2 : decode cX7_mostAtOnce 2 = .ok (.iconst 0, 1) := by decide +kernel
theorem dX7_mostAtOnce_3 : decode cX7_mostAtOnce 3 = .ok (.istore_n 2, 1) := by decide +kernel
theorem dX7_mostAtOnce_4 : decode cX7_mostAtOnce 4 = .ok (.iload_n 2, 1) := by decide +kernel
theorem dX7_mostAtOnce_5 : decode cX7_mostAtOnce 5 = .ok (.bipush 12, 2) := by decide +kernel
theorem dX7_mostAtOnce_7 : decode cX7_mostAtOnce 7 = .ok (.if_icmp .ge 60, 3) := by decide +kernel
theorem dX7_mostAtOnce_10 : decode cX7_mostAtOnce 10 = .ok (.iconst 0, 1) := by decide +kernel
theorem dX7_mostAtOnce_11 : decode cX7_mostAtOnce 11 = .ok (.istore_n 3, 1) := by decide +kernel
theorem dX7_mostAtOnce_12 : decode cX7_mostAtOnce 12 = .ok (.iconst 0, 1) := by decide +kernel
theorem dX7_mostAtOnce_13 : decode cX7_mostAtOnce 13 = .ok (.istore 4, 2) := by decide +kernel
theorem dX7_mostAtOnce_15 : decode cX7_mostAtOnce 15 = .ok (.iload 4, 2) := by decide +kernel
theorem dX7_mostAtOnce_17 : decode cX7_mostAtOnce 17 = .ok (.iconst 4, 1) := by decide +kernel
theorem dX7_mostAtOnce_18 : decode cX7_mostAtOnce 18 = .ok (.if_icmp .ge 32, 3) := by decide +kernel
theorem dX7_mostAtOnce_21 : decode cX7_mostAtOnce 21 = .ok (.iload_n 3, 1) := by decide +kernel
theorem dX7_mostAtOnce_22 : decode cX7_mostAtOnce 22 = .ok (.aload_n 0, 1) := by decide +kernel
theorem dX7_mostAtOnce_23 : decode cX7_mostAtOnce 23 = .ok (.getfield 7, 3) := by decide +kernel
theorem dX7_mostAtOnce_26 : decode cX7_mostAtOnce 26 = .ok (.iload 4, 2) := by decide +kernel
theorem dX7_mostAtOnce_28 : decode cX7_mostAtOnce 28 = .ok (.iload_n 2, 1) := by decide +kernel
theorem dX7_mostAtOnce_29 : decode cX7_mostAtOnce 29 = .ok (.invokestatic 40, 3) := by decide +kernel
theorem dX7_mostAtOnce_32 : decode cX7_mostAtOnce 32 = .ok (.iaload, 1) := by decide +kernel
theorem dX7_mostAtOnce_33 : decode cX7_mostAtOnce 33 = .ok (.iconst (-1), 1) := by decide +kernel
theorem dX7_mostAtOnce_34 : decode cX7_mostAtOnce 34 = .ok (.if_icmp .ne 7, 3) := by decide +kernel
theorem dX7_mostAtOnce_37 : decode cX7_mostAtOnce 37 = .ok (.iconst 0, 1) := by decide +kernel
theorem dX7_mostAtOnce_38 : decode cX7_mostAtOnce 38 = .ok (.goto 4, 3) := by decide +kernel
theorem dX7_mostAtOnce_41 : decode cX7_mostAtOnce 41 = .ok (.iconst 1, 1) := by decide +kernel
theorem dX7_mostAtOnce_42 : decode cX7_mostAtOnce 42 = .ok (.iadd, 1) := by decide +kernel
theorem dX7_mostAtOnce_43 : decode cX7_mostAtOnce 43 = .ok (.istore_n 3, 1) := by decide +kernel
theorem dX7_mostAtOnce_44 : decode cX7_mostAtOnce 44 = .ok (.iinc 4 1, 3) := by decide +kernel
theorem dX7_mostAtOnce_47 : decode cX7_mostAtOnce 47 = .ok (.goto (-32), 3) := by decide +kernel
theorem dX7_mostAtOnce_50 : decode cX7_mostAtOnce 50 = .ok (.iload_n 3, 1) := by decide +kernel
theorem dX7_mostAtOnce_51 : decode cX7_mostAtOnce 51 = .ok (.iload_n 1, 1) := by decide +kernel
theorem dX7_mostAtOnce_52 : decode cX7_mostAtOnce 52 = .ok (.if_icmp .le 7, 3) := by decide +kernel
theorem dX7_mostAtOnce_55 : decode cX7_mostAtOnce 55 = .ok (.iload_n 3, 1) := by decide +kernel
theorem dX7_mostAtOnce_56 : decode cX7_mostAtOnce 56 = .ok (.goto 4, 3) := by decide +kernel
theorem dX7_mostAtOnce_59 : decode cX7_mostAtOnce 59 = .ok (.iload_n 1, 1) := by decide +kernel
theorem dX7_mostAtOnce_60 : decode cX7_mostAtOnce 60 = .ok (.istore_n 1, 1) := by decide +kernel
theorem dX7_mostAtOnce_61 : decode cX7_mostAtOnce 61 = .ok (.iinc 2 1, 3) := by decide +kernel
theorem dX7_mostAtOnce_64 : decode cX7_mostAtOnce 64 = .ok (.goto (-60), 3) := by decide +kernel
theorem dX7_mostAtOnce_67 : decode cX7_mostAtOnce 67 = .ok (.iload_n 1, 1) := by decide +kernel
theorem dX7_mostAtOnce_68 : decode cX7_mostAtOnce 68 = .ok (.ireturn, 1) := by decide +kernel
theorem dX7_fewestBeds_0 : decode cX7_fewestBeds 0 = .ok (.aload_n 0, 1) := by decide +kernel
theorem dX7_fewestBeds_1 : decode cX7_fewestBeds 1 = .ok (.iload_n 1, 1) := by decide +kernel
theorem dX7_fewestBeds_2 : decode cX7_fewestBeds 2 = .ok (.iconst 0, 1) := by decide +kernel
theorem dX7_fewestBeds_3 : decode cX7_fewestBeds 3 = .ok (.iconst 1, 1) := by decide +kernel
theorem dX7_fewestBeds_4 : decode cX7_fewestBeds 4 = .ok (.invokestatic 33, 3) := by decide +kernel
theorem dX7_fewestBeds_7 : decode cX7_fewestBeds 7 = .ok (.ifCond .eq 7, 3) := by decide +kernel
theorem dX7_fewestBeds_10 : decode cX7_fewestBeds 10 = .ok (.iconst 0, 1) := by decide +kernel
theorem dX7_fewestBeds_11 : decode cX7_fewestBeds 11 = .ok (.goto 4, 3) := by decide +kernel
theorem dX7_fewestBeds_14 : decode cX7_fewestBeds 14 = .ok (.iconst 1, 1) := by decide +kernel
theorem dX7_fewestBeds_15 : decode cX7_fewestBeds 15 = .ok (.invokevirtual 78, 3) := by decide +kernel
theorem dX7_fewestBeds_18 : decode cX7_fewestBeds 18 = .ok (.ifCond .eq 10, 3) := by decide +kernel
theorem dX7_fewestBeds_21 : decode cX7_fewestBeds 21 = .ok (.aload_n 0, 1) := by decide +kernel
theorem dX7_fewestBeds_22 : decode cX7_fewestBeds 22 = .ok (.invokevirtual 158, 3) := by decide +kernel
theorem dX7_fewestBeds_25 : decode cX7_fewestBeds 25 = .ok (.goto 4, 3) := by decide +kernel
theorem dX7_fewestBeds_28 : decode cX7_fewestBeds 28 = .ok (.iconst 0, 1) := by decide +kernel
theorem dX7_fewestBeds_29 : decode cX7_fewestBeds 29 = .ok (.ireturn, 1) := by decide +kernel
theorem dX7_longestFor_0 : decode cX7_longestFor 0 = .ok (.iconst 0, 1) := by decide +kernel
theorem dX7_longestFor_1 : decode cX7_longestFor 1 = .ok (.istore_n 3, 1) := by decide +kernel
theorem dX7_longestFor_2 : decode cX7_longestFor 2 = .ok (.iconst 1, 1) := by decide +kernel
theorem dX7_longestFor_3 : decode cX7_longestFor 3 = .ok (.istore 4, 2) := by decide +kernel
theorem dX7_longestFor_5 : decode cX7_longestFor 5 = .ok (.iload 4, 2) := by decide +kernel
theorem dX7_longestFor_7 : decode cX7_longestFor 7 = .ok (.bipush 9, 2) := by decide +kernel
theorem dX7_longestFor_9 : decode cX7_longestFor 9 = .ok (.if_icmp .gt 76, 3) := by decide +kernel
theorem dX7_longestFor_12 : decode cX7_longestFor 12 = .ok (.iload_n 2, 1) := by decide +kernel
theorem dX7_longestFor_13 : decode cX7_longestFor 13 = .ok (.iload 4, 2) := by decide +kernel
theorem dX7_longestFor_15 : decode cX7_longestFor 15 = .ok (.iadd, 1) := by decide +kernel
theorem dX7_longestFor_16 : decode cX7_longestFor 16 = .ok (.bipush 12, 2) := by decide +kernel
theorem dX7_longestFor_18 : decode cX7_longestFor 18 = .ok (.if_icmp .gt 67, 3) := by decide +kernel
theorem dX7_longestFor_21 : decode cX7_longestFor 21 = .ok (.iload_n 2, 1) := by decide +kernel
theorem dX7_longestFor_22 : decode cX7_longestFor 22 = .ok (.aload_n 0, 1) := by decide +kernel
theorem dX7_longestFor_23 : decode cX7_longestFor 23 = .ok (.getfield 7, 3) := by decide +kernel
theorem dX7_longestFor_26 : decode cX7_longestFor 26 = .ok (.bipush 108, 2) := by decide +kernel
theorem dX7_longestFor_28 : decode cX7_longestFor 28 = .ok (.iaload, 1) := by decide +kernel
theorem dX7_longestFor_29 : decode cX7_longestFor 29 = .ok (.if_icmp .lt 56, 3) := by decide +kernel
theorem dX7_longestFor_32 : decode cX7_longestFor 32 = .ok (.aload_n 0, 1) := by decide +kernel
theorem dX7_longestFor_33 : decode cX7_longestFor 33 = .ok (.iload_n 1, 1) := by decide +kernel
theorem dX7_longestFor_34 : decode cX7_longestFor 34 = .ok (.iload_n 2, 1) := by decide +kernel
theorem dX7_longestFor_35 : decode cX7_longestFor 35 = .ok (.iload 4, 2) := by decide +kernel
theorem dX7_longestFor_37 : decode cX7_longestFor 37 = .ok (.invokevirtual 50, 3) := by decide +kernel
theorem dX7_longestFor_40 : decode cX7_longestFor 40 = .ok (.ifCond .ne 24, 3) := by decide +kernel
theorem dX7_longestFor_43 : decode cX7_longestFor 43 = .ok (.aload_n 0, 1) := by decide +kernel
theorem dX7_longestFor_44 : decode cX7_longestFor 44 = .ok (.aload_n 0, 1) := by decide +kernel
theorem dX7_longestFor_45 : decode cX7_longestFor 45 = .ok (.iload_n 2, 1) := by decide +kernel
theorem dX7_longestFor_46 : decode cX7_longestFor 46 = .ok (.iload 4, 2) := by decide +kernel
theorem dX7_longestFor_48 : decode cX7_longestFor 48 = .ok (.invokevirtual 53, 3) := by decide +kernel
theorem dX7_longestFor_51 : decode cX7_longestFor 51 = .ok (.iload_n 2, 1) := by decide +kernel
theorem dX7_longestFor_52 : decode cX7_longestFor 52 = .ok (.iload 4, 2) := by decide +kernel
theorem dX7_longestFor_54 : decode cX7_longestFor 54 = .ok (.invokevirtual 43, 3) := by decide +kernel
theorem dX7_longestFor_57 : decode cX7_longestFor 57 = .ok (.ifCond .ne 7, 3) := by decide +kernel
theorem dX7_longestFor_60 : decode cX7_longestFor 60 = .ok (.iconst 1, 1) := by decide +kernel
theorem dX7_longestFor_61 : decode cX7_longestFor 61 = .ok (.goto 4, 3) := by decide +kernel
theorem dX7_longestFor_64 : decode cX7_longestFor 64 = .ok (.iconst 0, 1) := by decide +kernel
theorem dX7_longestFor_65 : decode cX7_longestFor 65 = .ok (.istore 5, 2) := by decide +kernel
theorem dX7_longestFor_67 : decode cX7_longestFor 67 = .ok (.iload 5, 2) := by decide +kernel
theorem dX7_longestFor_69 : decode cX7_longestFor 69 = .ok (.ifCond .eq 8, 3) := by decide +kernel
theorem dX7_longestFor_72 : decode cX7_longestFor 72 = .ok (.iload 4, 2) := by decide +kernel
theorem dX7_longestFor_74 : decode cX7_longestFor 74 = .ok (.goto 4, 3) := by decide +kernel
theorem dX7_longestFor_77 : decode cX7_longestFor 77 = .ok (.iload_n 3, 1) := by decide +kernel
theorem dX7_longestFor_78 : decode cX7_longestFor 78 = .ok (.istore_n 3, 1) := by decide +kernel
theorem dX7_longestFor_79 : decode cX7_longestFor 79 = .ok (.iinc 4 1, 3) := by decide +kernel
theorem dX7_longestFor_82 : decode cX7_longestFor 82 = .ok (.goto (-77), 3) := by decide +kernel
theorem dX7_longestFor_85 : decode cX7_longestFor 85 = .ok (.iload_n 3, 1) := by decide +kernel
theorem dX7_longestFor_86 : decode cX7_longestFor 86 = .ok (.ireturn, 1) := by decide +kernel
theorem dX7_longest_0 : decode cX7_longest 0 = .ok (.aload_n 0, 1) := by decide +kernel
theorem dX7_longest_1 : decode cX7_longest 1 = .ok (.iload_n 1, 1) := by decide +kernel
theorem dX7_longest_2 : decode cX7_longest 2 = .ok (.invokestatic 70, 3) := by decide +kernel
theorem dX7_longest_5 : decode cX7_longest 5 = .ok (.ifCond .ne 7, 3) := by decide +kernel
theorem dX7_longest_8 : decode cX7_longest 8 = .ok (.iconst 1, 1) := by decide +kernel
theorem dX7_longest_9 : decode cX7_longest 9 = .ok (.goto 18, 3) := by decide +kernel
theorem dX7_longest_12 : decode cX7_longest 12 = .ok (.iload_n 2, 1) := by decide +kernel
theorem dX7_longest_13 : decode cX7_longest 13 = .ok (.iconst 0, 1) := by decide +kernel
theorem dX7_longest_14 : decode cX7_longest 14 = .ok (.bipush 11, 2) := by decide +kernel
theorem dX7_longest_16 : decode cX7_longest 16 = .ok (.invokestatic 33, 3) := by decide +kernel
theorem dX7_longest_19 : decode cX7_longest 19 = .ok (.ifCond .eq 7, 3) := by decide +kernel
theorem dX7_longest_22 : decode cX7_longest 22 = .ok (.iconst 0, 1) := by decide +kernel
theorem dX7_longest_23 : decode cX7_longest 23 = .ok (.goto 4, 3) := by decide +kernel
theorem dX7_longest_26 : decode cX7_longest 26 = .ok (.iconst 2, 1) := by decide +kernel
theorem dX7_longest_27 : decode cX7_longest 27 = .ok (.invokevirtual 78, 3) := by decide +kernel
theorem dX7_longest_30 : decode cX7_longest 30 = .ok (.ifCond .eq 12, 3) := by decide +kernel
theorem dX7_longest_33 : decode cX7_longest 33 = .ok (.aload_n 0, 1) := by decide +kernel
theorem dX7_longest_34 : decode cX7_longest 34 = .ok (.iload_n 1, 1) := by decide +kernel
theorem dX7_longest_35 : decode cX7_longest 35 = .ok (.iload_n 2, 1) := by decide +kernel
theorem dX7_longest_36 : decode cX7_longest 36 = .ok (.invokevirtual 161, 3) := by decide +kernel
theorem dX7_longest_39 : decode cX7_longest 39 = .ok (.goto 4, 3) := by decide +kernel
theorem dX7_longest_42 : decode cX7_longest 42 = .ok (.iconst 0, 1) := by decide +kernel
theorem dX7_longest_43 : decode cX7_longest 43 = .ok (.ireturn, 1) := by decide +kernel
theorem dX7_refusedMost_0 : decode cX7_refusedMost 0 = .ok (.iconst 0, 1) := by decide +kernel
theorem dX7_refusedMost_1 : decode cX7_refusedMost 1 = .ok (.istore_n 1, 1) := by decide +kernel
theorem dX7_refusedMost_2 : decode cX7_refusedMost 2 = .ok (.iconst 1, 1) := by decide +kernel
theorem dX7_refusedMost_3 : decode cX7_refusedMost 3 = .ok (.istore_n 2, 1) := by decide +kernel
theorem dX7_refusedMost_4 : decode cX7_refusedMost 4 = .ok (.iload_n 2, 1) := by decide +kernel
theorem dX7_refusedMost_5 : decode cX7_refusedMost 5 = .ok (.bipush 10, 2) := by decide +kernel
theorem dX7_refusedMost_7 : decode cX7_refusedMost 7 = .ok (.if_icmp .ge 71, 3) := by decide +kernel
theorem dX7_refusedMost_10 : decode cX7_refusedMost 10 = .ok (.aload_n 0, 1) := by decide +kernel
theorem dX7_refusedMost_11 : decode cX7_refusedMost 11 = .ok (.getfield 7, 3) := by decide +kernel
theorem dX7_refusedMost_14 : decode cX7_refusedMost 14 = .ok (.iload_n 2, 1) := by decide +kernel
theorem dX7_refusedMost_15 : decode cX7_refusedMost 15 = .ok (.iconst 1, 1) := by decide +kernel
theorem dX7_refusedMost_16 : decode cX7_refusedMost 16 = .ok (.invokestatic 25, 3) := by decide +kernel
theorem dX7_refusedMost_19 : decode cX7_refusedMost 19 = .ok (.iaload, 1) := by decide +kernel
theorem dX7_refusedMost_20 : decode cX7_refusedMost 20 = .ok (.aload_n 0, 1) := by decide +kernel
theorem dX7_refusedMost_21 : decode cX7_refusedMost 21 = .ok (.getfield 7, 3) := by decide +kernel
theorem dX7_refusedMost_24 : decode cX7_refusedMost 24 = .ok (.iload_n 1, 1) := by decide +kernel
theorem dX7_refusedMost_25 : decode cX7_refusedMost 25 = .ok (.iconst 1, 1) := by decide +kernel
theorem dX7_refusedMost_26 : decode cX7_refusedMost 26 = .ok (.invokestatic 25, 3) := by decide +kernel
theorem dX7_refusedMost_29 : decode cX7_refusedMost 29 = .ok (.iaload, 1) := by decide +kernel
theorem dX7_refusedMost_30 : decode cX7_refusedMost 30 = .ok (.isub, 1) := by decide +kernel
theorem dX7_refusedMost_31 : decode cX7_refusedMost 31 = .ok (.istore_n 3, 1) := by decide +kernel
theorem dX7_refusedMost_32 : decode cX7_refusedMost 32 = .ok (.iload_n 3, 1) := by decide +kernel
theorem dX7_refusedMost_33 : decode cX7_refusedMost 33 = .ok (.ifCond .ne 27, 3) := by decide +kernel
theorem dX7_refusedMost_36 : decode cX7_refusedMost 36 = .ok (.aload_n 0, 1) := by decide +kernel
theorem dX7_refusedMost_37 : decode cX7_refusedMost 37 = .ok (.getfield 7, 3) := by decide +kernel
theorem dX7_refusedMost_40 : decode cX7_refusedMost 40 = .ok (.iload_n 2, 1) := by decide +kernel
theorem dX7_refusedMost_41 : decode cX7_refusedMost 41 = .ok (.iconst 0, 1) := by decide +kernel
theorem dX7_refusedMost_42 : decode cX7_refusedMost 42 = .ok (.invokestatic 25, 3) := by decide +kernel
theorem dX7_refusedMost_45 : decode cX7_refusedMost 45 = .ok (.iaload, 1) := by decide +kernel
theorem dX7_refusedMost_46 : decode cX7_refusedMost 46 = .ok (.aload_n 0, 1) := by decide +kernel
theorem dX7_refusedMost_47 : decode cX7_refusedMost 47 = .ok (.getfield 7, 3) := by decide +kernel
theorem dX7_refusedMost_50 : decode cX7_refusedMost 50 = .ok (.iload_n 1, 1) := by decide +kernel
theorem dX7_refusedMost_51 : decode cX7_refusedMost 51 = .ok (.iconst 0, 1) := by decide +kernel
theorem dX7_refusedMost_52 : decode cX7_refusedMost 52 = .ok (.invokestatic 25, 3) := by decide +kernel
theorem dX7_refusedMost_55 : decode cX7_refusedMost 55 = .ok (.iaload, 1) := by decide +kernel
theorem dX7_refusedMost_56 : decode cX7_refusedMost 56 = .ok (.isub, 1) := by decide +kernel
theorem dX7_refusedMost_57 : decode cX7_refusedMost 57 = .ok (.goto 4, 3) := by decide +kernel
theorem dX7_refusedMost_60 : decode cX7_refusedMost 60 = .ok (.iload_n 3, 1) := by decide +kernel
theorem dX7_refusedMost_61 : decode cX7_refusedMost 61 = .ok (.istore_n 3, 1) := by decide +kernel
theorem dX7_refusedMost_62 : decode cX7_refusedMost 62 = .ok (.iload_n 3, 1) := by decide +kernel
theorem dX7_refusedMost_63 : decode cX7_refusedMost 63 = .ok (.ifCond .le 7, 3) := by decide +kernel
theorem dX7_refusedMost_66 : decode cX7_refusedMost 66 = .ok (.iload_n 2, 1) := by decide +kernel
theorem dX7_refusedMost_67 : decode cX7_refusedMost 67 = .ok (.goto 4, 3) := by decide +kernel
theorem dX7_refusedMost_70 : decode cX7_refusedMost 70 = .ok (.iload_n 1, 1) := by decide +kernel
theorem dX7_refusedMost_71 : decode cX7_refusedMost 71 = .ok (.istore_n 1, 1) := by decide +kernel
theorem dX7_refusedMost_72 : decode cX7_refusedMost 72 = .ok (.iinc 2 1, 3) := by decide +kernel
theorem dX7_refusedMost_75 : decode cX7_refusedMost 75 = .ok (.goto (-71), 3) := by decide +kernel
theorem dX7_refusedMost_78 : decode cX7_refusedMost 78 = .ok (.iload_n 1, 1) := by decide +kernel
theorem dX7_refusedMost_79 : decode cX7_refusedMost 79 = .ok (.ireturn, 1) := by decide +kernel
theorem dX7_poorest_0 : decode cX7_poorest 0 = .ok (.aload_n 0, 1) := by decide +kernel
theorem dX7_poorest_1 : decode cX7_poorest 1 = .ok (.iconst 0, 1) := by decide +kernel
theorem dX7_poorest_2 : decode cX7_poorest 2 = .ok (.putfield 29, 3) := by decide +kernel
theorem dX7_poorest_5 : decode cX7_poorest 5 = .ok (.aload_n 0, 1) := by decide +kernel
theorem dX7_poorest_6 : decode cX7_poorest 6 = .ok (.invokevirtual 164, 3) := by decide +kernel
theorem dX7_poorest_9 : decode cX7_poorest 9 = .ok (.ireturn, 1) := by decide +kernel
theorem dX7_share_0 : decode cX7_share 0 = .ok (.aload_n 0, 1) := by decide +kernel
theorem dX7_share_1 : decode cX7_share 1 = .ok (.invokevirtual 139, 3) := by decide +kernel
theorem dX7_share_4 : decode cX7_share 4 = .ok (.i2d, 1) := by decide +kernel
theorem dX7_share_5 : decode cX7_share 5 = .ok (.ldc2_w 167, 3) := by decide +kernel
theorem dX7_share_8 : decode cX7_share 8 = .ok (.ddiv, 1) := by decide +kernel
theorem dX7_share_9 : decode cX7_share 9 = .ok (.dreturn, 1) := by decide +kernel
theorem dX7_fullness_0 : decode cX7_fullness 0 = .ok (.aload_n 0, 1) := by decide +kernel
theorem dX7_fullness_1 : decode cX7_fullness 1 = .ok (.iconst 0, 1) := by decide +kernel
theorem dX7_fullness_2 : decode cX7_fullness 2 = .ok (.putfield 29, 3) := by decide +kernel
theorem dX7_fullness_5 : decode cX7_fullness 5 = .ok (.aload_n 0, 1) := by decide +kernel
theorem dX7_fullness_6 : decode cX7_fullness 6 = .ok (.invokevirtual 169, 3) := by decide +kernel
theorem dX7_fullness_9 : decode cX7_fullness 9 = .ok (.dreturn, 1) := by decide +kernel
theorem dX7_bitsOf_0 : decode cX7_bitsOf 0 = .ok (.dload_n 0, 1) := by decide +kernel
theorem dX7_bitsOf_1 : decode cX7_bitsOf 1 = .ok (.dconst 0, 1) := by decide +kernel
theorem dX7_bitsOf_2 : decode cX7_bitsOf 2 = .ok (.dcmp .l, 1) := by decide +kernel
theorem dX7_bitsOf_3 : decode cX7_bitsOf 3 = .ok (.ifCond .ne 5, 3) := by decide +kernel
theorem dX7_bitsOf_6 : decode cX7_bitsOf 6 = .ok (.lconst 0, 1) := by decide +kernel
theorem dX7_bitsOf_7 : decode cX7_bitsOf 7 = .ok (.lreturn, 1) := by decide +kernel
theorem dX7_bitsOf_8 : decode cX7_bitsOf 8 = .ok (.ldc2_w 173, 3) := by decide +kernel
theorem dX7_bitsOf_11 : decode cX7_bitsOf 11 = .ok (.lstore_n 2, 1) := by decide +kernel
theorem dX7_bitsOf_12 : decode cX7_bitsOf 12 = .ok (.dload_n 0, 1) := by decide +kernel
theorem dX7_bitsOf_13 : decode cX7_bitsOf 13 = .ok (.dstore 4, 2) := by decide +kernel
theorem dX7_bitsOf_15 : decode cX7_bitsOf 15 = .ok (.dload 4, 2) := by decide +kernel
theorem dX7_bitsOf_17 : decode cX7_bitsOf 17 = .ok (.dconst 1, 1) := by decide +kernel
theorem dX7_bitsOf_18 : decode cX7_bitsOf 18 = .ok (.dcmp .g, 1) := by decide +kernel
theorem dX7_bitsOf_19 : decode cX7_bitsOf 19 = .ok (.ifCond .ge 18, 3) := by decide +kernel
theorem dX7_bitsOf_22 : decode cX7_bitsOf 22 = .ok (.dload 4, 2) := by decide +kernel
theorem dX7_bitsOf_24 : decode cX7_bitsOf 24 = .ok (.ldc2_w 175, 3) := by decide +kernel
theorem dX7_bitsOf_27 : decode cX7_bitsOf 27 = .ok (.dmul, 1) := by decide +kernel
theorem dX7_bitsOf_28 : decode cX7_bitsOf 28 = .ok (.dstore 4, 2) := by decide +kernel
theorem dX7_bitsOf_30 : decode cX7_bitsOf 30 = .ok (.lload_n 2, 1) := by decide +kernel
theorem dX7_bitsOf_31 : decode cX7_bitsOf 31 = .ok (.lconst 1, 1) := by decide +kernel
theorem dX7_bitsOf_32 : decode cX7_bitsOf 32 = .ok (.lsub, 1) := by decide +kernel
theorem dX7_bitsOf_33 : decode cX7_bitsOf 33 = .ok (.lstore_n 2, 1) := by decide +kernel
theorem dX7_bitsOf_34 : decode cX7_bitsOf 34 = .ok (.goto (-19), 3) := by decide +kernel
theorem dX7_bitsOf_37 : decode cX7_bitsOf 37 = .ok (.lload_n 2, 1) := by decide +kernel
theorem dX7_bitsOf_38 : decode cX7_bitsOf 38 = .ok (.ldc2_w 177, 3) := by decide +kernel
theorem dX7_bitsOf_41 : decode cX7_bitsOf 41 = .ok (.lmul, 1) := by decide +kernel
theorem dX7_bitsOf_42 : decode cX7_bitsOf 42 = .ok (.dload 4, 2) := by decide +kernel
theorem dX7_bitsOf_44 : decode cX7_bitsOf 44 = .ok (.dconst 1, 1) := by decide +kernel
theorem dX7_bitsOf_45 : decode cX7_bitsOf 45 = .ok (.dsub, 1) := by decide +kernel
theorem dX7_bitsOf_46 : decode cX7_bitsOf 46 = .ok (.ldc2_w 179, 3) := by decide +kernel
theorem dX7_bitsOf_49 : decode cX7_bitsOf 49 = .ok (.dmul, 1) := by decide +kernel
theorem dX7_bitsOf_50 : decode cX7_bitsOf 50 = .ok (.d2l, 1) := by decide +kernel
theorem dX7_bitsOf_51 : decode cX7_bitsOf 51 = .ok (.ladd, 1) := by decide +kernel
theorem dX7_bitsOf_52 : decode cX7_bitsOf 52 = .ok (.lreturn, 1) := by decide +kernel
theorem dX7_digestOne_0 : decode cX7_digestOne 0 = .ok (.aload_n 0, 1) := by decide +kernel
theorem dX7_digestOne_1 : decode cX7_digestOne 1 = .ok (.ldc2_w 181, 3) := by decide +kernel
theorem dX7_digestOne_4 : decode cX7_digestOne 4 = .ok (.aload_n 0, 1) := by decide +kernel
theorem dX7_digestOne_5 : decode cX7_digestOne 5 = .ok (.getfield 183, 3) := by decide +kernel
theorem dX7_digestOne_8 : decode cX7_digestOne 8 = .ok (.lmul, 1) := by decide +kernel
theorem dX7_digestOne_9 : decode cX7_digestOne 9 = .ok (.lload_n 1, 1) := by decide +kernel
theorem dX7_digestOne_10 : decode cX7_digestOne 10 = .ok (.ladd, 1) := by decide +kernel
theorem dX7_digestOne_11 : decode cX7_digestOne 11 = .ok (.putfield 183, 3) := by decide +kernel
theorem dX7_digestOne_14 : decode cX7_digestOne 14 = .ok (.return_, 1) := by decide +kernel
theorem dX7_digestLodger_0 : decode cX7_digestLodger 0 = .ok (.iconst 0, 1) := by decide +kernel
theorem dX7_digestLodger_1 : decode cX7_digestLodger 1 = .ok (.istore_n 2, 1) := by decide +kernel
theorem dX7_digestLodger_2 : decode cX7_digestLodger 2 = .ok (.iload_n 2, 1) := by decide +kernel
theorem dX7_digestLodger_3 : decode cX7_digestLodger 3 = .ok (.bipush 7, 2) := by decide +kernel
theorem dX7_digestLodger_5 : decode cX7_digestLodger 5 = .ok (.if_icmp .ge 20, 3) := by decide +kernel
theorem dX7_digestLodger_8 : decode cX7_digestLodger 8 = .ok (.aload_n 0, 1) := by decide +kernel
theorem dX7_digestLodger_9 : decode cX7_digestLodger 9 = .ok (.aload_n 0, 1) := by decide +kernel
theorem dX7_digestLodger_10 : decode cX7_digestLodger 10 = .ok (.iload_n 1, 1) := by decide +kernel
theorem dX7_digestLodger_11 : decode cX7_digestLodger 11 = .ok (.iload_n 2, 1) := by decide +kernel
theorem dX7_digestLodger_12 : decode cX7_digestLodger 12 = .ok (.invokevirtual 146, 3) := by decide +kernel
theorem dX7_digestLodger_15 : decode cX7_digestLodger 15 = .ok (.i2l, 1) := by decide +kernel
theorem dX7_digestLodger_16 : decode cX7_digestLodger 16 = .ok (.invokevirtual 187, 3) := by decide +kernel
theorem dX7_digestLodger_19 : decode cX7_digestLodger 19 = .ok (.iinc 2 1, 3) := by decide +kernel
theorem dX7_digestLodger_22 : decode cX7_digestLodger 22 = .ok (.goto (-20), 3) := by decide +kernel
theorem dX7_digestLodger_25 : decode cX7_digestLodger 25 = .ok (.aload_n 0, 1) := by decide +kernel
theorem dX7_digestLodger_26 : decode cX7_digestLodger 26 = .ok (.aload_n 0, 1) := by decide +kernel
theorem dX7_digestLodger_27 : decode cX7_digestLodger 27 = .ok (.iload_n 1, 1) := by decide +kernel
theorem dX7_digestLodger_28 : decode cX7_digestLodger 28 = .ok (.iconst 0, 1) := by decide +kernel
theorem dX7_digestLodger_29 : decode cX7_digestLodger 29 = .ok (.invokevirtual 161, 3) := by decide +kernel
theorem dX7_digestLodger_32 : decode cX7_digestLodger 32 = .ok (.i2l, 1) := by decide +kernel
theorem dX7_digestLodger_33 : decode cX7_digestLodger 33 = .ok (.invokevirtual 187, 3) := by decide +kernel
theorem dX7_digestLodger_36 : decode cX7_digestLodger 36 = .ok (.aload_n 0, 1) := by decide +kernel
theorem dX7_digestLodger_37 : decode cX7_digestLodger 37 = .ok (.aload_n 0, 1) := by decide +kernel
theorem dX7_digestLodger_38 : decode cX7_digestLodger 38 = .ok (.iload_n 1, 1) := by decide +kernel
theorem dX7_digestLodger_39 : decode cX7_digestLodger 39 = .ok (.bipush 6, 2) := by decide +kernel
theorem dX7_digestLodger_41 : decode cX7_digestLodger 41 = .ok (.invokevirtual 161, 3) := by decide +kernel
theorem dX7_digestLodger_44 : decode cX7_digestLodger 44 = .ok (.i2l, 1) := by decide +kernel
theorem dX7_digestLodger_45 : decode cX7_digestLodger 45 = .ok (.invokevirtual 187, 3) := by decide +kernel
theorem dX7_digestLodger_48 : decode cX7_digestLodger 48 = .ok (.aload_n 0, 1) := by decide +kernel
theorem dX7_digestLodger_49 : decode cX7_digestLodger 49 = .ok (.aload_n 0, 1) := by decide +kernel
theorem dX7_digestLodger_50 : decode cX7_digestLodger 50 = .ok (.iload_n 1, 1) := by decide +kernel
theorem dX7_digestLodger_51 : decode cX7_digestLodger 51 = .ok (.bipush 8, 2) := by decide +kernel
theorem dX7_digestLodger_53 : decode cX7_digestLodger 53 = .ok (.iconst 3, 1) := by decide +kernel
theorem dX7_digestLodger_54 : decode cX7_digestLodger 54 = .ok (.invokevirtual 155, 3) := by decide +kernel
theorem dX7_digestLodger_57 : decode cX7_digestLodger 57 = .ok (.i2l, 1) := by decide +kernel
theorem dX7_digestLodger_58 : decode cX7_digestLodger 58 = .ok (.invokevirtual 187, 3) := by decide +kernel
theorem dX7_digestLodger_61 : decode cX7_digestLodger 61 = .ok (.aload_n 0, 1) := by decide +kernel
theorem dX7_digestLodger_62 : decode cX7_digestLodger 62 = .ok (.aload_n 0, 1) := by decide +kernel
theorem dX7_digestLodger_63 : decode cX7_digestLodger 63 = .ok (.getfield 60, 3) := by decide +kernel
theorem dX7_digestLodger_66 : decode cX7_digestLodger 66 = .ok (.i2l, 1) := by decide +kernel
theorem dX7_digestLodger_67 : decode cX7_digestLodger 67 = .ok (.invokevirtual 187, 3) := by decide +kernel
theorem dX7_digestLodger_70 : decode cX7_digestLodger 70 = .ok (.return_, 1) := by decide +kernel
theorem dX7_digest_0 : decode cX7_digest 0 = .ok (.aload_n 0, 1) := by decide +kernel
theorem dX7_digest_1 : decode cX7_digest 1 = .ok (.iconst 0, 1) := by decide +kernel
theorem dX7_digest_2 : decode cX7_digest 2 = .ok (.putfield 29, 3) := by decide +kernel
theorem dX7_digest_5 : decode cX7_digest 5 = .ok (.aload_n 0, 1) := by decide +kernel
theorem dX7_digest_6 : decode cX7_digest 6 = .ok (.ldc2_w 191, 3) := by decide +kernel
theorem dX7_digest_9 : decode cX7_digest 9 = .ok (.putfield 183, 3) := by decide +kernel
theorem dX7_digest_12 : decode cX7_digest 12 = .ok (.iconst 0, 1) := by decide +kernel
theorem dX7_digest_13 : decode cX7_digest 13 = .ok (.istore_n 1, 1) := by decide +kernel
theorem dX7_digest_14 : decode cX7_digest 14 = .ok (.iload_n 1, 1) := by decide +kernel
theorem dX7_digest_15 : decode cX7_digest 15 = .ok (.bipush 12, 2) := by decide +kernel
theorem dX7_digest_17 : decode cX7_digest 17 = .ok (.if_icmp .ge 19, 3) := by decide +kernel
theorem dX7_digest_20 : decode cX7_digest 20 = .ok (.aload_n 0, 1) := by decide +kernel
theorem dX7_digest_21 : decode cX7_digest 21 = .ok (.aload_n 0, 1) := by decide +kernel
theorem dX7_digest_22 : decode cX7_digest 22 = .ok (.iload_n 1, 1) := by decide +kernel
theorem dX7_digest_23 : decode cX7_digest 23 = .ok (.invokevirtual 152, 3) := by decide +kernel
theorem dX7_digest_26 : decode cX7_digest 26 = .ok (.i2l, 1) := by decide +kernel
theorem dX7_digest_27 : decode cX7_digest 27 = .ok (.invokevirtual 187, 3) := by decide +kernel
theorem dX7_digest_30 : decode cX7_digest 30 = .ok (.iinc 1 1, 3) := by decide +kernel
theorem dX7_digest_33 : decode cX7_digest 33 = .ok (.goto (-19), 3) := by decide +kernel
theorem dX7_digest_36 : decode cX7_digest 36 = .ok (.iconst 0, 1) := by decide +kernel
theorem dX7_digest_37 : decode cX7_digest 37 = .ok (.istore_n 1, 1) := by decide +kernel
theorem dX7_digest_38 : decode cX7_digest 38 = .ok (.iload_n 1, 1) := by decide +kernel
theorem dX7_digest_39 : decode cX7_digest 39 = .ok (.iconst 4, 1) := by decide +kernel
theorem dX7_digest_40 : decode cX7_digest 40 = .ok (.if_icmp .ge 23, 3) := by decide +kernel
theorem dX7_digest_43 : decode cX7_digest 43 = .ok (.aload_n 0, 1) := by decide +kernel
theorem dX7_digest_44 : decode cX7_digest 44 = .ok (.aload_n 0, 1) := by decide +kernel
theorem dX7_digest_45 : decode cX7_digest 45 = .ok (.getfield 7, 3) := by decide +kernel
theorem dX7_digest_48 : decode cX7_digest 48 = .ok (.bipush 111, 2) := by decide +kernel
theorem dX7_digest_50 : decode cX7_digest 50 = .ok (.iload_n 1, 1) := by decide +kernel
theorem dX7_digest_51 : decode cX7_digest 51 = .ok (.iadd, 1) := by decide +kernel
theorem dX7_digest_52 : decode cX7_digest 52 = .ok (.iaload, 1) := by decide +kernel
theorem dX7_digest_53 : decode cX7_digest 53 = .ok (.i2l, 1) := by decide +kernel
theorem dX7_digest_54 : decode cX7_digest 54 = .ok (.invokevirtual 187, 3) := by decide +kernel
theorem dX7_digest_57 : decode cX7_digest 57 = .ok (.iinc 1 1, 3) := by decide +kernel
theorem dX7_digest_60 : decode cX7_digest 60 = .ok (.goto (-22), 3) := by decide +kernel
theorem dX7_digest_63 : decode cX7_digest 63 = .ok (.iconst 0, 1) := by decide +kernel
theorem dX7_digest_64 : decode cX7_digest 64 = .ok (.istore_n 1, 1) := by decide +kernel
theorem dX7_digest_65 : decode cX7_digest 65 = .ok (.iload_n 1, 1) := by decide +kernel
theorem dX7_digest_66 : decode cX7_digest 66 = .ok (.bipush 48, 2) := by decide +kernel
theorem dX7_digest_68 : decode cX7_digest 68 = .ok (.if_icmp .ge 23, 3) := by decide +kernel
theorem dX7_digest_71 : decode cX7_digest 71 = .ok (.aload_n 0, 1) := by decide +kernel
theorem dX7_digest_72 : decode cX7_digest 72 = .ok (.aload_n 0, 1) := by decide +kernel
theorem dX7_digest_73 : decode cX7_digest 73 = .ok (.getfield 7, 3) := by decide +kernel
theorem dX7_digest_76 : decode cX7_digest 76 = .ok (.bipush 60, 2) := by decide +kernel
theorem dX7_digest_78 : decode cX7_digest 78 = .ok (.iload_n 1, 1) := by decide +kernel
theorem dX7_digest_79 : decode cX7_digest 79 = .ok (.iadd, 1) := by decide +kernel
theorem dX7_digest_80 : decode cX7_digest 80 = .ok (.iaload, 1) := by decide +kernel
theorem dX7_digest_81 : decode cX7_digest 81 = .ok (.i2l, 1) := by decide +kernel
theorem dX7_digest_82 : decode cX7_digest 82 = .ok (.invokevirtual 187, 3) := by decide +kernel
theorem dX7_digest_85 : decode cX7_digest 85 = .ok (.iinc 1 1, 3) := by decide +kernel
theorem dX7_digest_88 : decode cX7_digest 88 = .ok (.goto (-23), 3) := by decide +kernel
theorem dX7_digest_91 : decode cX7_digest 91 = .ok (.iconst 0, 1) := by decide +kernel
theorem dX7_digest_92 : decode cX7_digest 92 = .ok (.istore_n 1, 1) := by decide +kernel
theorem dX7_digest_93 : decode cX7_digest 93 = .ok (.iload_n 1, 1) := by decide +kernel
theorem dX7_digest_94 : decode cX7_digest 94 = .ok (.bipush 10, 2) := by decide +kernel
theorem dX7_digest_96 : decode cX7_digest 96 = .ok (.if_icmp .ge 14, 3) := by decide +kernel
theorem dX7_digest_99 : decode cX7_digest 99 = .ok (.aload_n 0, 1) := by decide +kernel
theorem dX7_digest_100 : decode cX7_digest 100 = .ok (.iload_n 1, 1) := by decide +kernel
theorem dX7_digest_101 : decode cX7_digest 101 = .ok (.invokevirtual 193, 3) := by decide +kernel
theorem dX7_digest_104 : decode cX7_digest 104 = .ok (.iinc 1 1, 3) := by decide +kernel
theorem dX7_digest_107 : decode cX7_digest 107 = .ok (.goto (-14), 3) := by decide +kernel
theorem dX7_digest_110 : decode cX7_digest 110 = .ok (.aload_n 0, 1) := by decide +kernel
theorem dX7_digest_111 : decode cX7_digest 111 = .ok (.aload_n 0, 1) := by decide +kernel
theorem dX7_digest_112 : decode cX7_digest 112 = .ok (.invokevirtual 158, 3) := by decide +kernel
theorem dX7_digest_115 : decode cX7_digest 115 = .ok (.i2l, 1) := by decide +kernel
theorem dX7_digest_116 : decode cX7_digest 116 = .ok (.invokevirtual 187, 3) := by decide +kernel
theorem dX7_digest_119 : decode cX7_digest 119 = .ok (.aload_n 0, 1) := by decide +kernel
theorem dX7_digest_120 : decode cX7_digest 120 = .ok (.aload_n 0, 1) := by decide +kernel
theorem dX7_digest_121 : decode cX7_digest 121 = .ok (.invokevirtual 158, 3) := by decide +kernel
theorem dX7_digest_124 : decode cX7_digest 124 = .ok (.i2l, 1) := by decide +kernel
theorem dX7_digest_125 : decode cX7_digest 125 = .ok (.invokevirtual 187, 3) := by decide +kernel
theorem dX7_digest_128 : decode cX7_digest 128 = .ok (.aload_n 0, 1) := by decide +kernel
theorem dX7_digest_129 : decode cX7_digest 129 = .ok (.aload_n 0, 1) := by decide +kernel
theorem dX7_digest_130 : decode cX7_digest 130 = .ok (.invokevirtual 164, 3) := by decide +kernel
theorem dX7_digest_133 : decode cX7_digest 133 = .ok (.i2l, 1) := by decide +kernel
theorem dX7_digest_134 : decode cX7_digest 134 = .ok (.invokevirtual 187, 3) := by decide +kernel
theorem dX7_digest_137 : decode cX7_digest 137 = .ok (.aload_n 0, 1) := by decide +kernel
theorem dX7_digest_138 : decode cX7_digest 138 = .ok (.aload_n 0, 1) := by decide +kernel
theorem dX7_digest_139 : decode cX7_digest 139 = .ok (.invokevirtual 169, 3) := by decide +kernel
theorem dX7_digest_142 : decode cX7_digest 142 = .ok (.invokestatic 197, 3) := by decide +kernel
theorem dX7_digest_145 : decode cX7_digest 145 = .ok (.invokevirtual 187, 3) := by decide +kernel
theorem dX7_digest_148 : decode cX7_digest 148 = .ok (.aload_n 0, 1) := by decide +kernel
theorem dX7_digest_149 : decode cX7_digest 149 = .ok (.aload_n 0, 1) := by decide +kernel
theorem dX7_digest_150 : decode cX7_digest 150 = .ok (.getfield 136, 3) := by decide +kernel
theorem dX7_digest_153 : decode cX7_digest 153 = .ok (.iconst 1, 1) := by decide +kernel
theorem dX7_digest_154 : decode cX7_digest 154 = .ok (.iand, 1) := by decide +kernel
theorem dX7_digest_155 : decode cX7_digest 155 = .ok (.i2l, 1) := by decide +kernel
theorem dX7_digest_156 : decode cX7_digest 156 = .ok (.invokevirtual 187, 3) := by decide +kernel
theorem dX7_digest_159 : decode cX7_digest 159 = .ok (.aload_n 0, 1) := by decide +kernel
theorem dX7_digest_160 : decode cX7_digest 160 = .ok (.aload_n 0, 1) := by decide +kernel
theorem dX7_digest_161 : decode cX7_digest 161 = .ok (.getfield 136, 3) := by decide +kernel
theorem dX7_digest_164 : decode cX7_digest 164 = .ok (.iconst 1, 1) := by decide +kernel
theorem dX7_digest_165 : decode cX7_digest 165 = .ok (.ishr, 1) := by decide +kernel
theorem dX7_digest_166 : decode cX7_digest 166 = .ok (.iconst 1, 1) := by decide +kernel
theorem dX7_digest_167 : decode cX7_digest 167 = .ok (.iand, 1) := by decide +kernel
theorem dX7_digest_168 : decode cX7_digest 168 = .ok (.i2l, 1) := by decide +kernel
theorem dX7_digest_169 : decode cX7_digest 169 = .ok (.invokevirtual 187, 3) := by decide +kernel
theorem dX7_digest_172 : decode cX7_digest 172 = .ok (.aload_n 0, 1) := by decide +kernel
theorem dX7_digest_173 : decode cX7_digest 173 = .ok (.aload_n 0, 1) := by decide +kernel
theorem dX7_digest_174 : decode cX7_digest 174 = .ok (.getfield 97, 3) := by decide +kernel
theorem dX7_digest_177 : decode cX7_digest 177 = .ok (.i2l, 1) := by decide +kernel
theorem dX7_digest_178 : decode cX7_digest 178 = .ok (.invokevirtual 187, 3) := by decide +kernel
theorem dX7_digest_181 : decode cX7_digest 181 = .ok (.iconst 0, 1) := by decide +kernel
theorem dX7_digest_182 : decode cX7_digest 182 = .ok (.istore_n 1, 1) := by decide +kernel
theorem dX7_digest_183 : decode cX7_digest 183 = .ok (.iload_n 1, 1) := by decide +kernel
theorem dX7_digest_184 : decode cX7_digest 184 = .ok (.aload_n 0, 1) := by decide +kernel
theorem dX7_digest_185 : decode cX7_digest 185 = .ok (.getfield 97, 3) := by decide +kernel
theorem dX7_digest_188 : decode cX7_digest 188 = .ok (.if_icmp .ge 20, 3) := by decide +kernel
theorem dX7_digest_191 : decode cX7_digest 191 = .ok (.aload_n 0, 1) := by decide +kernel
theorem dX7_digest_192 : decode cX7_digest 192 = .ok (.aload_n 0, 1) := by decide +kernel
theorem dX7_digest_193 : decode cX7_digest 193 = .ok (.getfield 22, 3) := by decide +kernel
theorem dX7_digest_196 : decode cX7_digest 196 = .ok (.iload_n 1, 1) := by decide +kernel
theorem dX7_digest_197 : decode cX7_digest 197 = .ok (.iaload, 1) := by decide +kernel
theorem dX7_digest_198 : decode cX7_digest 198 = .ok (.i2l, 1) := by decide +kernel
theorem dX7_digest_199 : decode cX7_digest 199 = .ok (.invokevirtual 187, 3) := by decide +kernel
theorem dX7_digest_202 : decode cX7_digest 202 = .ok (.iinc 1 1, 3) := by decide +kernel
theorem dX7_digest_205 : decode cX7_digest 205 = .ok (.goto (-22), 3) := by decide +kernel
theorem dX7_digest_208 : decode cX7_digest 208 = .ok (.aload_n 0, 1) := by decide +kernel
theorem dX7_digest_209 : decode cX7_digest 209 = .ok (.getfield 183, 3) := by decide +kernel
theorem dX7_digest_212 : decode cX7_digest 212 = .ok (.lreturn, 1) := by decide +kernel
theorem dJ6_bitCount_0f7a4_0 : decode cJ6_bitCount_0f7a4 0 = .ok (.iload_n 0, 1) := by decide +kernel
theorem dJ6_bitCount_0f7a4_1 : decode cJ6_bitCount_0f7a4 1 = .ok (.iload_n 0, 1) := by decide +kernel
theorem dJ6_bitCount_0f7a4_2 : decode cJ6_bitCount_0f7a4 2 = .ok (.iconst 1, 1) := by decide +kernel
theorem dJ6_bitCount_0f7a4_3 : decode cJ6_bitCount_0f7a4 3 = .ok (.iushr, 1) := by decide +kernel
theorem dJ6_bitCount_0f7a4_4 : decode cJ6_bitCount_0f7a4 4 = .ok (.ldc_w 265, 3) := by decide +kernel
theorem dJ6_bitCount_0f7a4_7 : decode cJ6_bitCount_0f7a4 7 = .ok (.iand, 1) := by decide +kernel
theorem dJ6_bitCount_0f7a4_8 : decode cJ6_bitCount_0f7a4 8 = .ok (.isub, 1) := by decide +kernel
theorem dJ6_bitCount_0f7a4_9 : decode cJ6_bitCount_0f7a4 9 = .ok (.istore_n 0, 1) := by decide +kernel
theorem dJ6_bitCount_0f7a4_10 : decode cJ6_bitCount_0f7a4 10 = .ok (.iload_n 0, 1) := by decide +kernel
theorem dJ6_bitCount_0f7a4_11 : decode cJ6_bitCount_0f7a4 11 = .ok (.ldc_w 266, 3) := by decide +kernel
theorem dJ6_bitCount_0f7a4_14 : decode cJ6_bitCount_0f7a4 14 = .ok (.iand, 1) := by decide +kernel
theorem dJ6_bitCount_0f7a4_15 : decode cJ6_bitCount_0f7a4 15 = .ok (.iload_n 0, 1) := by decide +kernel
theorem dJ6_bitCount_0f7a4_16 : decode cJ6_bitCount_0f7a4 16 = .ok (.iconst 2, 1) := by decide +kernel
theorem dJ6_bitCount_0f7a4_17 : decode cJ6_bitCount_0f7a4 17 = .ok (.iushr, 1) := by decide +kernel
theorem dJ6_bitCount_0f7a4_18 : decode cJ6_bitCount_0f7a4 18 = .ok (.ldc_w 266, 3) := by decide +kernel
theorem dJ6_bitCount_0f7a4_21 : decode cJ6_bitCount_0f7a4 21 = .ok (.iand, 1) := by decide +kernel
theorem dJ6_bitCount_0f7a4_22 : decode cJ6_bitCount_0f7a4 22 = .ok (.iadd, 1) := by decide +kernel
theorem dJ6_bitCount_0f7a4_23 : decode cJ6_bitCount_0f7a4 23 = .ok (.istore_n 0, 1) := by decide +kernel
theorem dJ6_bitCount_0f7a4_24 : decode cJ6_bitCount_0f7a4 24 = .ok (.iload_n 0, 1) := by decide +kernel
theorem dJ6_bitCount_0f7a4_25 : decode cJ6_bitCount_0f7a4 25 = .ok (.iload_n 0, 1) := by decide +kernel
theorem dJ6_bitCount_0f7a4_26 : decode cJ6_bitCount_0f7a4 26 = .ok (.iconst 4, 1) := by decide +kernel
theorem dJ6_bitCount_0f7a4_27 : decode cJ6_bitCount_0f7a4 27 = .ok (.iushr, 1) := by decide +kernel
theorem dJ6_bitCount_0f7a4_28 : decode cJ6_bitCount_0f7a4 28 = .ok (.iadd, 1) := by decide +kernel
theorem dJ6_bitCount_0f7a4_29 : decode cJ6_bitCount_0f7a4 29 = .ok (.ldc_w 267, 3) := by decide +kernel
theorem dJ6_bitCount_0f7a4_32 : decode cJ6_bitCount_0f7a4 32 = .ok (.iand, 1) := by decide +kernel
theorem dJ6_bitCount_0f7a4_33 : decode cJ6_bitCount_0f7a4 33 = .ok (.istore_n 0, 1) := by decide +kernel
theorem dJ6_bitCount_0f7a4_34 : decode cJ6_bitCount_0f7a4 34 = .ok (.iload_n 0, 1) := by decide +kernel
theorem dJ6_bitCount_0f7a4_35 : decode cJ6_bitCount_0f7a4 35 = .ok (.iload_n 0, 1) := by decide +kernel
theorem dJ6_bitCount_0f7a4_36 : decode cJ6_bitCount_0f7a4 36 = .ok (.bipush 8, 2) := by decide +kernel
theorem dJ6_bitCount_0f7a4_38 : decode cJ6_bitCount_0f7a4 38 = .ok (.iushr, 1) := by decide +kernel
theorem dJ6_bitCount_0f7a4_39 : decode cJ6_bitCount_0f7a4 39 = .ok (.iadd, 1) := by decide +kernel
theorem dJ6_bitCount_0f7a4_40 : decode cJ6_bitCount_0f7a4 40 = .ok (.istore_n 0, 1) := by decide +kernel
theorem dJ6_bitCount_0f7a4_41 : decode cJ6_bitCount_0f7a4 41 = .ok (.iload_n 0, 1) := by decide +kernel
theorem dJ6_bitCount_0f7a4_42 : decode cJ6_bitCount_0f7a4 42 = .ok (.iload_n 0, 1) := by decide +kernel
theorem dJ6_bitCount_0f7a4_43 : decode cJ6_bitCount_0f7a4 43 = .ok (.bipush 16, 2) := by decide +kernel
theorem dJ6_bitCount_0f7a4_45 : decode cJ6_bitCount_0f7a4 45 = .ok (.iushr, 1) := by decide +kernel
theorem dJ6_bitCount_0f7a4_46 : decode cJ6_bitCount_0f7a4 46 = .ok (.iadd, 1) := by decide +kernel
theorem dJ6_bitCount_0f7a4_47 : decode cJ6_bitCount_0f7a4 47 = .ok (.istore_n 0, 1) := by decide +kernel
theorem dJ6_bitCount_0f7a4_48 : decode cJ6_bitCount_0f7a4 48 = .ok (.iload_n 0, 1) := by decide +kernel
theorem dJ6_bitCount_0f7a4_49 : decode cJ6_bitCount_0f7a4 49 = .ok (.bipush 63, 2) := by decide +kernel
theorem dJ6_bitCount_0f7a4_51 : decode cJ6_bitCount_0f7a4 51 = .ok (.iand, 1) := by decide +kernel
theorem dJ6_bitCount_0f7a4_52 : decode cJ6_bitCount_0f7a4 52 = .ok (.ireturn, 1) := by decide +kernel
theorem dJ9_max_7cf53_0 : decode cJ9_max_7cf53 0 = .ok (.iload_n 0, 1) := by decide +kernel
theorem dJ9_max_7cf53_1 : decode cJ9_max_7cf53 1 = .ok (.iload_n 1, 1) := by decide +kernel
theorem dJ9_max_7cf53_2 : decode cJ9_max_7cf53 2 = .ok (.if_icmp .lt 7, 3) := by decide +kernel
theorem dJ9_max_7cf53_5 : decode cJ9_max_7cf53 5 = .ok (.iload_n 0, 1) := by decide +kernel
theorem dJ9_max_7cf53_6 : decode cJ9_max_7cf53 6 = .ok (.goto 4, 3) := by decide +kernel
theorem dJ9_max_7cf53_9 : decode cJ9_max_7cf53 9 = .ok (.iload_n 1, 1) := by decide +kernel
theorem dJ9_max_7cf53_10 : decode cJ9_max_7cf53 10 = .ok (.ireturn, 1) := by decide +kernel
theorem dJ9_min_7cf53_0 : decode cJ9_min_7cf53 0 = .ok (.iload_n 0, 1) := by decide +kernel
theorem dJ9_min_7cf53_1 : decode cJ9_min_7cf53 1 = .ok (.iload_n 1, 1) := by decide +kernel
theorem dJ9_min_7cf53_2 : decode cJ9_min_7cf53 2 = .ok (.if_icmp .gt 7, 3) := by decide +kernel
theorem dJ9_min_7cf53_5 : decode cJ9_min_7cf53 5 = .ok (.iload_n 0, 1) := by decide +kernel
theorem dJ9_min_7cf53_6 : decode cJ9_min_7cf53 6 = .ok (.goto 4, 3) := by decide +kernel
theorem dJ9_min_7cf53_9 : decode cJ9_min_7cf53 9 = .ok (.iload_n 1, 1) := by decide +kernel
theorem dJ9_min_7cf53_10 : decode cJ9_min_7cf53 10 = .ok (.ireturn, 1) := by decide +kernel
theorem dJ7_fill_53178_0 : decode cJ7_fill_53178 0 = .ok (.iconst 0, 1) := by decide +kernel
theorem dJ7_fill_53178_1 : decode cJ7_fill_53178 1 = .ok (.istore_n 2, 1) := by decide +kernel
theorem dJ7_fill_53178_2 : decode cJ7_fill_53178 2 = .ok (.aload_n 0, 1) := by decide +kernel
theorem dJ7_fill_53178_3 : decode cJ7_fill_53178 3 = .ok (.arraylength, 1) := by decide +kernel
theorem dJ7_fill_53178_4 : decode cJ7_fill_53178 4 = .ok (.istore_n 3, 1) := by decide +kernel
theorem dJ7_fill_53178_5 : decode cJ7_fill_53178 5 = .ok (.iload_n 2, 1) := by decide +kernel
theorem dJ7_fill_53178_6 : decode cJ7_fill_53178 6 = .ok (.iload_n 3, 1) := by decide +kernel
theorem dJ7_fill_53178_7 : decode cJ7_fill_53178 7 = .ok (.if_icmp .ge 13, 3) := by decide +kernel
theorem dJ7_fill_53178_10 : decode cJ7_fill_53178 10 = .ok (.aload_n 0, 1) := by decide +kernel
theorem dJ7_fill_53178_11 : decode cJ7_fill_53178 11 = .ok (.iload_n 2, 1) := by decide +kernel
theorem dJ7_fill_53178_12 : decode cJ7_fill_53178 12 = .ok (.iload_n 1, 1) := by decide +kernel
theorem dJ7_fill_53178_13 : decode cJ7_fill_53178 13 = .ok (.iastore, 1) := by decide +kernel
theorem dJ7_fill_53178_14 : decode cJ7_fill_53178 14 = .ok (.iinc 2 1, 3) := by decide +kernel
theorem dJ7_fill_53178_17 : decode cJ7_fill_53178 17 = .ok (.goto (-12), 3) := by decide +kernel
theorem dJ7_fill_53178_20 : decode cJ7_fill_53178 20 = .ok (.return_, 1) := by decide +kernel
theorem dL_ask_0 : decode cL_ask 0 = .ok (.aload 4, 2) := by decide +kernel
theorem dL_ask_2 : decode cL_ask 2 = .ok (.iconst 0, 1) := by decide +kernel
theorem dL_ask_3 : decode cL_ask 3 = .ok (.aload_n 0, 1) := by decide +kernel
theorem dL_ask_4 : decode cL_ask 4 = .ok (.iload_n 1, 1) := by decide +kernel
theorem dL_ask_5 : decode cL_ask 5 = .ok (.iload_n 2, 1) := by decide +kernel
theorem dL_ask_6 : decode cL_ask 6 = .ok (.iload_n 3, 1) := by decide +kernel
theorem dL_ask_7 : decode cL_ask 7 = .ok (.invokevirtual 7, 3) := by decide +kernel
theorem dL_ask_10 : decode cL_ask 10 = .ok (.i2l, 1) := by decide +kernel
theorem dL_ask_11 : decode cL_ask 11 = .ok (.lastore, 1) := by decide +kernel
theorem dL_ask_12 : decode cL_ask 12 = .ok (.goto 11, 3) := by decide +kernel
theorem dL_ask_15 : decode cL_ask 15 = .ok (.astore 5, 2) := by decide +kernel
theorem dL_ask_17 : decode cL_ask 17 = .ok (.iconst 1, 1) := by decide +kernel
theorem dL_ask_18 : decode cL_ask 18 = .ok (.ireturn, 1) := by decide +kernel
theorem dL_ask_19 : decode cL_ask 19 = .ok (.astore 5, 2) := by decide +kernel
theorem dL_ask_21 : decode cL_ask 21 = .ok (.iconst 2, 1) := by decide +kernel
theorem dL_ask_22 : decode cL_ask 22 = .ok (.ireturn, 1) := by decide +kernel
theorem dL_ask_23 : decode cL_ask 23 = .ok (.iconst 0, 1) := by decide +kernel
theorem dL_ask_24 : decode cL_ask 24 = .ok (.ireturn, 1) := by decide +kernel
theorem dL_giveBack_0 : decode cL_giveBack 0 = .ok (.aload_n 3, 1) := by decide +kernel
theorem dL_giveBack_1 : decode cL_giveBack 1 = .ok (.iconst 0, 1) := by decide +kernel
theorem dL_giveBack_2 : decode cL_giveBack 2 = .ok (.aload_n 0, 1) := by decide +kernel
theorem dL_giveBack_3 : decode cL_giveBack 3 = .ok (.iload_n 1, 1) := by decide +kernel
theorem dL_giveBack_4 : decode cL_giveBack 4 = .ok (.iload_n 2, 1) := by decide +kernel
theorem dL_giveBack_5 : decode cL_giveBack 5 = .ok (.invokevirtual 17, 3) := by decide +kernel
theorem dL_giveBack_8 : decode cL_giveBack 8 = .ok (.i2l, 1) := by decide +kernel
theorem dL_giveBack_9 : decode cL_giveBack 9 = .ok (.lastore, 1) := by decide +kernel
theorem dL_giveBack_10 : decode cL_giveBack 10 = .ok (.goto 11, 3) := by decide +kernel
theorem dL_giveBack_13 : decode cL_giveBack 13 = .ok (.astore 4, 2) := by decide +kernel
theorem dL_giveBack_15 : decode cL_giveBack 15 = .ok (.iconst 1, 1) := by decide +kernel
theorem dL_giveBack_16 : decode cL_giveBack 16 = .ok (.ireturn, 1) := by decide +kernel
theorem dL_giveBack_17 : decode cL_giveBack 17 = .ok (.astore 4, 2) := by decide +kernel
theorem dL_giveBack_19 : decode cL_giveBack 19 = .ok (.iconst 2, 1) := by decide +kernel
theorem dL_giveBack_20 : decode cL_giveBack 20 = .ok (.ireturn, 1) := by decide +kernel
theorem dL_giveBack_21 : decode cL_giveBack 21 = .ok (.iconst 0, 1) := by decide +kernel
theorem dL_giveBack_22 : decode cL_giveBack 22 = .ok (.ireturn, 1) := by decide +kernel
theorem dL_favour_0 : decode cL_favour 0 = .ok (.aload_n 2, 1) := by decide +kernel
theorem dL_favour_1 : decode cL_favour 1 = .ok (.iconst 0, 1) := by decide +kernel
theorem dL_favour_2 : decode cL_favour 2 = .ok (.aload_n 0, 1) := by decide +kernel
theorem dL_favour_3 : decode cL_favour 3 = .ok (.iload_n 1, 1) := by decide +kernel
theorem dL_favour_4 : decode cL_favour 4 = .ok (.invokevirtual 21, 3) := by decide +kernel
theorem dL_favour_7 : decode cL_favour 7 = .ok (.i2l, 1) := by decide +kernel
theorem dL_favour_8 : decode cL_favour 8 = .ok (.lastore, 1) := by decide +kernel
theorem dL_favour_9 : decode cL_favour 9 = .ok (.goto 6, 3) := by decide +kernel
theorem dL_favour_12 : decode cL_favour 12 = .ok (.astore_n 3, 1) := by decide +kernel
theorem dL_favour_13 : decode cL_favour 13 = .ok (.iconst 1, 1) := by decide +kernel
theorem dL_favour_14 : decode cL_favour 14 = .ok (.ireturn, 1) := by decide +kernel
theorem dL_favour_15 : decode cL_favour 15 = .ok (.iconst 0, 1) := by decide +kernel
theorem dL_favour_16 : decode cL_favour 16 = .ok (.ireturn, 1) := by decide +kernel
theorem dL_need_0 : decode cL_need 0 = .ok (.aload_n 3, 1) := by decide +kernel
theorem dL_need_1 : decode cL_need 1 = .ok (.iconst 0, 1) := by decide +kernel
theorem dL_need_2 : decode cL_need 2 = .ok (.aload_n 0, 1) := by decide +kernel
theorem dL_need_3 : decode cL_need 3 = .ok (.iload_n 1, 1) := by decide +kernel
theorem dL_need_4 : decode cL_need 4 = .ok (.iload_n 2, 1) := by decide +kernel
theorem dL_need_5 : decode cL_need 5 = .ok (.invokevirtual 25, 3) := by decide +kernel
theorem dL_need_8 : decode cL_need 8 = .ok (.i2l, 1) := by decide +kernel
theorem dL_need_9 : decode cL_need 9 = .ok (.lastore, 1) := by decide +kernel
theorem dL_need_10 : decode cL_need 10 = .ok (.goto 11, 3) := by decide +kernel
theorem dL_need_13 : decode cL_need 13 = .ok (.astore 4, 2) := by decide +kernel
theorem dL_need_15 : decode cL_need 15 = .ok (.iconst 1, 1) := by decide +kernel
theorem dL_need_16 : decode cL_need 16 = .ok (.ireturn, 1) := by decide +kernel
theorem dL_need_17 : decode cL_need 17 = .ok (.astore 4, 2) := by decide +kernel
theorem dL_need_19 : decode cL_need 19 = .ok (.iconst 2, 1) := by decide +kernel
theorem dL_need_20 : decode cL_need 20 = .ok (.ireturn, 1) := by decide +kernel
theorem dL_need_21 : decode cL_need 21 = .ok (.iconst 0, 1) := by decide +kernel
theorem dL_need_22 : decode cL_need 22 = .ok (.ireturn, 1) := by decide +kernel
theorem dL_pass_0 : decode cL_pass 0 = .ok (.aload_n 1, 1) := by decide +kernel
theorem dL_pass_1 : decode cL_pass 1 = .ok (.iconst 0, 1) := by decide +kernel
theorem dL_pass_2 : decode cL_pass 2 = .ok (.aload_n 0, 1) := by decide +kernel
theorem dL_pass_3 : decode cL_pass 3 = .ok (.invokevirtual 28, 3) := by decide +kernel
theorem dL_pass_6 : decode cL_pass 6 = .ok (.i2l, 1) := by decide +kernel
theorem dL_pass_7 : decode cL_pass 7 = .ok (.lastore, 1) := by decide +kernel
theorem dL_pass_8 : decode cL_pass 8 = .ok (.goto 6, 3) := by decide +kernel
theorem dL_pass_11 : decode cL_pass 11 = .ok (.astore_n 2, 1) := by decide +kernel
theorem dL_pass_12 : decode cL_pass 12 = .ok (.iconst 1, 1) := by decide +kernel
theorem dL_pass_13 : decode cL_pass 13 = .ok (.ireturn, 1) := by decide +kernel
theorem dL_pass_14 : decode cL_pass 14 = .ok (.iconst 0, 1) := by decide +kernel
theorem dL_pass_15 : decode cL_pass 15 = .ok (.ireturn, 1) := by decide +kernel
theorem dL_set_0 : decode cL_set 0 = .ok (.aload_n 2, 1) := by decide +kernel
theorem dL_set_1 : decode cL_set 1 = .ok (.iconst 0, 1) := by decide +kernel
theorem dL_set_2 : decode cL_set 2 = .ok (.aload_n 0, 1) := by decide +kernel
theorem dL_set_3 : decode cL_set 3 = .ok (.iload_n 1, 1) := by decide +kernel
theorem dL_set_4 : decode cL_set 4 = .ok (.invokevirtual 34, 3) := by decide +kernel
theorem dL_set_7 : decode cL_set 7 = .ok (.i2l, 1) := by decide +kernel
theorem dL_set_8 : decode cL_set 8 = .ok (.lastore, 1) := by decide +kernel
theorem dL_set_9 : decode cL_set 9 = .ok (.goto 6, 3) := by decide +kernel
theorem dL_set_12 : decode cL_set 12 = .ok (.astore_n 3, 1) := by decide +kernel
theorem dL_set_13 : decode cL_set 13 = .ok (.iconst 1, 1) := by decide +kernel
theorem dL_set_14 : decode cL_set 14 = .ok (.ireturn, 1) := by decide +kernel
theorem dL_set_15 : decode cL_set 15 = .ok (.iconst 0, 1) := by decide +kernel
theorem dL_set_16 : decode cL_set 16 = .ok (.ireturn, 1) := by decide +kernel
theorem dL_append_0 : decode cL_append 0 = .ok (.aload_n 2, 1) := by decide +kernel
theorem dL_append_1 : decode cL_append 1 = .ok (.iconst 0, 1) := by decide +kernel
theorem dL_append_2 : decode cL_append 2 = .ok (.aload_n 0, 1) := by decide +kernel
theorem dL_append_3 : decode cL_append 3 = .ok (.iload_n 1, 1) := by decide +kernel
theorem dL_append_4 : decode cL_append 4 = .ok (.invokevirtual 37, 3) := by decide +kernel
theorem dL_append_7 : decode cL_append 7 = .ok (.i2l, 1) := by decide +kernel
theorem dL_append_8 : decode cL_append 8 = .ok (.lastore, 1) := by decide +kernel
theorem dL_append_9 : decode cL_append 9 = .ok (.goto 9, 3) := by decide +kernel
theorem dL_append_12 : decode cL_append 12 = .ok (.astore_n 3, 1) := by decide +kernel
theorem dL_append_13 : decode cL_append 13 = .ok (.iconst 1, 1) := by decide +kernel
theorem dL_append_14 : decode cL_append 14 = .ok (.ireturn, 1) := by decide +kernel
theorem dL_append_15 : decode cL_append 15 = .ok (.astore_n 3, 1) := by decide +kernel
theorem dL_append_16 : decode cL_append 16 = .ok (.iconst 2, 1) := by decide +kernel
theorem dL_append_17 : decode cL_append 17 = .ok (.ireturn, 1) := by decide +kernel
theorem dL_append_18 : decode cL_append 18 = .ok (.iconst 0, 1) := by decide +kernel
theorem dL_append_19 : decode cL_append 19 = .ok (.ireturn, 1) := by decide +kernel
theorem dL_run_0 : decode cL_run 0 = .ok (.aload_n 1, 1) := by decide +kernel
theorem dL_run_1 : decode cL_run 1 = .ok (.iconst 0, 1) := by decide +kernel
theorem dL_run_2 : decode cL_run 2 = .ok (.aload_n 0, 1) := by decide +kernel
theorem dL_run_3 : decode cL_run 3 = .ok (.invokevirtual 40, 3) := by decide +kernel
theorem dL_run_6 : decode cL_run 6 = .ok (.i2l, 1) := by decide +kernel
theorem dL_run_7 : decode cL_run 7 = .ok (.lastore, 1) := by decide +kernel
theorem dL_run_8 : decode cL_run 8 = .ok (.goto 6, 3) := by decide +kernel
theorem dL_run_11 : decode cL_run 11 = .ok (.astore_n 2, 1) := by decide +kernel
theorem dL_run_12 : decode cL_run 12 = .ok (.iconst 1, 1) := by decide +kernel
theorem dL_run_13 : decode cL_run 13 = .ok (.ireturn, 1) := by decide +kernel
theorem dL_run_14 : decode cL_run 14 = .ok (.iconst 0, 1) := by decide +kernel
theorem dL_run_15 : decode cL_run 15 = .ok (.ireturn, 1) := by decide +kernel
theorem dL_keep_0 : decode cL_keep 0 = .ok (.aload_n 2, 1) := by decide +kernel
theorem dL_keep_1 : decode cL_keep 1 = .ok (.iconst 0, 1) := by decide +kernel
theorem dL_keep_2 : decode cL_keep 2 = .ok (.aload_n 0, 1) := by decide +kernel
theorem dL_keep_3 : decode cL_keep 3 = .ok (.iload_n 1, 1) := by decide +kernel
theorem dL_keep_4 : decode cL_keep 4 = .ok (.invokevirtual 43, 3) := by decide +kernel
theorem dL_keep_7 : decode cL_keep 7 = .ok (.i2l, 1) := by decide +kernel
theorem dL_keep_8 : decode cL_keep 8 = .ok (.lastore, 1) := by decide +kernel
theorem dL_keep_9 : decode cL_keep 9 = .ok (.goto 6, 3) := by decide +kernel
theorem dL_keep_12 : decode cL_keep 12 = .ok (.astore_n 3, 1) := by decide +kernel
theorem dL_keep_13 : decode cL_keep 13 = .ok (.iconst 1, 1) := by decide +kernel
theorem dL_keep_14 : decode cL_keep 14 = .ok (.ireturn, 1) := by decide +kernel
theorem dL_keep_15 : decode cL_keep 15 = .ok (.iconst 0, 1) := by decide +kernel
theorem dL_keep_16 : decode cL_keep 16 = .ok (.ireturn, 1) := by decide +kernel
theorem dL_goBack_0 : decode cL_goBack 0 = .ok (.aload_n 2, 1) := by decide +kernel
theorem dL_goBack_1 : decode cL_goBack 1 = .ok (.iconst 0, 1) := by decide +kernel
theorem dL_goBack_2 : decode cL_goBack 2 = .ok (.aload_n 0, 1) := by decide +kernel
theorem dL_goBack_3 : decode cL_goBack 3 = .ok (.iload_n 1, 1) := by decide +kernel
theorem dL_goBack_4 : decode cL_goBack 4 = .ok (.invokevirtual 46, 3) := by decide +kernel
theorem dL_goBack_7 : decode cL_goBack 7 = .ok (.i2l, 1) := by decide +kernel
theorem dL_goBack_8 : decode cL_goBack 8 = .ok (.lastore, 1) := by decide +kernel
theorem dL_goBack_9 : decode cL_goBack 9 = .ok (.goto 9, 3) := by decide +kernel
theorem dL_goBack_12 : decode cL_goBack 12 = .ok (.astore_n 3, 1) := by decide +kernel
theorem dL_goBack_13 : decode cL_goBack 13 = .ok (.iconst 1, 1) := by decide +kernel
theorem dL_goBack_14 : decode cL_goBack 14 = .ok (.ireturn, 1) := by decide +kernel
theorem dL_goBack_15 : decode cL_goBack 15 = .ok (.astore_n 3, 1) := by decide +kernel
theorem dL_goBack_16 : decode cL_goBack 16 = .ok (.iconst 2, 1) := by decide +kernel
theorem dL_goBack_17 : decode cL_goBack 17 = .ok (.ireturn, 1) := by decide +kernel
theorem dL_goBack_18 : decode cL_goBack 18 = .ok (.iconst 0, 1) := by decide +kernel
theorem dL_goBack_19 : decode cL_goBack 19 = .ok (.ireturn, 1) := by decide +kernel
theorem dL_undo_0 : decode cL_undo 0 = .ok (.aload_n 1, 1) := by decide +kernel
theorem dL_undo_1 : decode cL_undo 1 = .ok (.iconst 0, 1) := by decide +kernel
theorem dL_undo_2 : decode cL_undo 2 = .ok (.aload_n 0, 1) := by decide +kernel
theorem dL_undo_3 : decode cL_undo 3 = .ok (.invokevirtual 49, 3) := by decide +kernel
theorem dL_undo_6 : decode cL_undo 6 = .ok (.i2l, 1) := by decide +kernel
theorem dL_undo_7 : decode cL_undo 7 = .ok (.lastore, 1) := by decide +kernel
theorem dL_undo_8 : decode cL_undo 8 = .ok (.goto 6, 3) := by decide +kernel
theorem dL_undo_11 : decode cL_undo 11 = .ok (.astore_n 2, 1) := by decide +kernel
theorem dL_undo_12 : decode cL_undo 12 = .ok (.iconst 1, 1) := by decide +kernel
theorem dL_undo_13 : decode cL_undo 13 = .ok (.ireturn, 1) := by decide +kernel
theorem dL_undo_14 : decode cL_undo 14 = .ok (.iconst 0, 1) := by decide +kernel
theorem dL_undo_15 : decode cL_undo 15 = .ok (.ireturn, 1) := by decide +kernel
theorem dL_at_0 : decode cL_at 0 = .ok (.aload_n 3, 1) := by decide +kernel
theorem dL_at_1 : decode cL_at 1 = .ok (.iconst 0, 1) := by decide +kernel
theorem dL_at_2 : decode cL_at 2 = .ok (.aload_n 0, 1) := by decide +kernel
theorem dL_at_3 : decode cL_at 3 = .ok (.iload_n 1, 1) := by decide +kernel
theorem dL_at_4 : decode cL_at 4 = .ok (.iload_n 2, 1) := by decide +kernel
theorem dL_at_5 : decode cL_at 5 = .ok (.invokevirtual 52, 3) := by decide +kernel
theorem dL_at_8 : decode cL_at 8 = .ok (.i2l, 1) := by decide +kernel
theorem dL_at_9 : decode cL_at 9 = .ok (.lastore, 1) := by decide +kernel
theorem dL_at_10 : decode cL_at 10 = .ok (.goto 11, 3) := by decide +kernel
theorem dL_at_13 : decode cL_at 13 = .ok (.astore 4, 2) := by decide +kernel
theorem dL_at_15 : decode cL_at 15 = .ok (.iconst 1, 1) := by decide +kernel
theorem dL_at_16 : decode cL_at 16 = .ok (.ireturn, 1) := by decide +kernel
theorem dL_at_17 : decode cL_at 17 = .ok (.astore 4, 2) := by decide +kernel
theorem dL_at_19 : decode cL_at 19 = .ok (.iconst 2, 1) := by decide +kernel
theorem dL_at_20 : decode cL_at 20 = .ok (.ireturn, 1) := by decide +kernel
theorem dL_at_21 : decode cL_at 21 = .ok (.iconst 0, 1) := by decide +kernel
theorem dL_at_22 : decode cL_at 22 = .ok (.ireturn, 1) := by decide +kernel
theorem dL_lodgerOf_0 : decode cL_lodgerOf 0 = .ok (.aload_n 3, 1) := by decide +kernel
theorem dL_lodgerOf_1 : decode cL_lodgerOf 1 = .ok (.iconst 0, 1) := by decide +kernel
theorem dL_lodgerOf_2 : decode cL_lodgerOf 2 = .ok (.aload_n 0, 1) := by decide +kernel
theorem dL_lodgerOf_3 : decode cL_lodgerOf 3 = .ok (.iload_n 1, 1) := by decide +kernel
theorem dL_lodgerOf_4 : decode cL_lodgerOf 4 = .ok (.iload_n 2, 1) := by decide +kernel
theorem dL_lodgerOf_5 : decode cL_lodgerOf 5 = .ok (.invokevirtual 55, 3) := by decide +kernel
theorem dL_lodgerOf_8 : decode cL_lodgerOf 8 = .ok (.i2l, 1) := by decide +kernel
theorem dL_lodgerOf_9 : decode cL_lodgerOf 9 = .ok (.lastore, 1) := by decide +kernel
theorem dL_lodgerOf_10 : decode cL_lodgerOf 10 = .ok (.goto 11, 3) := by decide +kernel
theorem dL_lodgerOf_13 : decode cL_lodgerOf 13 = .ok (.astore 4, 2) := by decide +kernel
theorem dL_lodgerOf_15 : decode cL_lodgerOf 15 = .ok (.iconst 1, 1) := by decide +kernel
theorem dL_lodgerOf_16 : decode cL_lodgerOf 16 = .ok (.ireturn, 1) := by decide +kernel
theorem dL_lodgerOf_17 : decode cL_lodgerOf 17 = .ok (.astore 4, 2) := by decide +kernel
theorem dL_lodgerOf_19 : decode cL_lodgerOf 19 = .ok (.iconst 2, 1) := by decide +kernel
theorem dL_lodgerOf_20 : decode cL_lodgerOf 20 = .ok (.ireturn, 1) := by decide +kernel
theorem dL_lodgerOf_21 : decode cL_lodgerOf 21 = .ok (.iconst 0, 1) := by decide +kernel
theorem dL_lodgerOf_22 : decode cL_lodgerOf 22 = .ok (.ireturn, 1) := by decide +kernel
theorem dL_count_0 : decode cL_count 0 = .ok (.aload_n 2, 1) := by decide +kernel
theorem dL_count_1 : decode cL_count 1 = .ok (.iconst 0, 1) := by decide +kernel
theorem dL_count_2 : decode cL_count 2 = .ok (.aload_n 0, 1) := by decide +kernel
theorem dL_count_3 : decode cL_count 3 = .ok (.iload_n 1, 1) := by decide +kernel
theorem dL_count_4 : decode cL_count 4 = .ok (.invokevirtual 58, 3) := by decide +kernel
theorem dL_count_7 : decode cL_count 7 = .ok (.i2l, 1) := by decide +kernel
theorem dL_count_8 : decode cL_count 8 = .ok (.lastore, 1) := by decide +kernel
theorem dL_count_9 : decode cL_count 9 = .ok (.goto 6, 3) := by decide +kernel
theorem dL_count_12 : decode cL_count 12 = .ok (.astore_n 3, 1) := by decide +kernel
theorem dL_count_13 : decode cL_count 13 = .ok (.iconst 1, 1) := by decide +kernel
theorem dL_count_14 : decode cL_count 14 = .ok (.ireturn, 1) := by decide +kernel
theorem dL_count_15 : decode cL_count 15 = .ok (.iconst 0, 1) := by decide +kernel
theorem dL_count_16 : decode cL_count 16 = .ok (.ireturn, 1) := by decide +kernel
theorem dL_refused_0 : decode cL_refused 0 = .ok (.aload_n 2, 1) := by decide +kernel
theorem dL_refused_1 : decode cL_refused 1 = .ok (.iconst 0, 1) := by decide +kernel
theorem dL_refused_2 : decode cL_refused 2 = .ok (.aload_n 0, 1) := by decide +kernel
theorem dL_refused_3 : decode cL_refused 3 = .ok (.iload_n 1, 1) := by decide +kernel
theorem dL_refused_4 : decode cL_refused 4 = .ok (.invokevirtual 61, 3) := by decide +kernel
theorem dL_refused_7 : decode cL_refused 7 = .ok (.i2l, 1) := by decide +kernel
theorem dL_refused_8 : decode cL_refused 8 = .ok (.lastore, 1) := by decide +kernel
theorem dL_refused_9 : decode cL_refused 9 = .ok (.goto 6, 3) := by decide +kernel
theorem dL_refused_12 : decode cL_refused 12 = .ok (.astore_n 3, 1) := by decide +kernel
theorem dL_refused_13 : decode cL_refused 13 = .ok (.iconst 1, 1) := by decide +kernel
theorem dL_refused_14 : decode cL_refused 14 = .ok (.ireturn, 1) := by decide +kernel
theorem dL_refused_15 : decode cL_refused 15 = .ok (.iconst 0, 1) := by decide +kernel
theorem dL_refused_16 : decode cL_refused 16 = .ok (.ireturn, 1) := by decide +kernel
theorem dL_ifAsked_0 : decode cL_ifAsked 0 = .ok (.aload 4, 2) := by decide +kernel
theorem dL_ifAsked_2 : decode cL_ifAsked 2 = .ok (.iconst 0, 1) := by decide +kernel
theorem dL_ifAsked_3 : decode cL_ifAsked 3 = .ok (.aload_n 0, 1) := by decide +kernel
theorem dL_ifAsked_4 : decode cL_ifAsked 4 = .ok (.iload_n 1, 1) := by decide +kernel
theorem dL_ifAsked_5 : decode cL_ifAsked 5 = .ok (.iload_n 2, 1) := by decide +kernel
theorem dL_ifAsked_6 : decode cL_ifAsked 6 = .ok (.iload_n 3, 1) := by decide +kernel
theorem dL_ifAsked_7 : decode cL_ifAsked 7 = .ok (.invokevirtual 64, 3) := by decide +kernel
theorem dL_ifAsked_10 : decode cL_ifAsked 10 = .ok (.i2l, 1) := by decide +kernel
theorem dL_ifAsked_11 : decode cL_ifAsked 11 = .ok (.lastore, 1) := by decide +kernel
theorem dL_ifAsked_12 : decode cL_ifAsked 12 = .ok (.goto 11, 3) := by decide +kernel
theorem dL_ifAsked_15 : decode cL_ifAsked 15 = .ok (.astore 5, 2) := by decide +kernel
theorem dL_ifAsked_17 : decode cL_ifAsked 17 = .ok (.iconst 1, 1) := by decide +kernel
theorem dL_ifAsked_18 : decode cL_ifAsked 18 = .ok (.ireturn, 1) := by decide +kernel
theorem dL_ifAsked_19 : decode cL_ifAsked 19 = .ok (.astore 5, 2) := by decide +kernel
theorem dL_ifAsked_21 : decode cL_ifAsked 21 = .ok (.iconst 2, 1) := by decide +kernel
theorem dL_ifAsked_22 : decode cL_ifAsked 22 = .ok (.ireturn, 1) := by decide +kernel
theorem dL_ifAsked_23 : decode cL_ifAsked 23 = .ok (.iconst 0, 1) := by decide +kernel
theorem dL_ifAsked_24 : decode cL_ifAsked 24 = .ok (.ireturn, 1) := by decide +kernel
theorem dL_ifPutOut_0 : decode cL_ifPutOut 0 = .ok (.aload 4, 2) := by decide +kernel
theorem dL_ifPutOut_2 : decode cL_ifPutOut 2 = .ok (.iconst 0, 1) := by decide +kernel
theorem dL_ifPutOut_3 : decode cL_ifPutOut 3 = .ok (.aload_n 0, 1) := by decide +kernel
theorem dL_ifPutOut_4 : decode cL_ifPutOut 4 = .ok (.iload_n 1, 1) := by decide +kernel
theorem dL_ifPutOut_5 : decode cL_ifPutOut 5 = .ok (.iload_n 2, 1) := by decide +kernel
theorem dL_ifPutOut_6 : decode cL_ifPutOut 6 = .ok (.iload_n 3, 1) := by decide +kernel
theorem dL_ifPutOut_7 : decode cL_ifPutOut 7 = .ok (.invokevirtual 67, 3) := by decide +kernel
theorem dL_ifPutOut_10 : decode cL_ifPutOut 10 = .ok (.i2l, 1) := by decide +kernel
theorem dL_ifPutOut_11 : decode cL_ifPutOut 11 = .ok (.lastore, 1) := by decide +kernel
theorem dL_ifPutOut_12 : decode cL_ifPutOut 12 = .ok (.goto 11, 3) := by decide +kernel
theorem dL_ifPutOut_15 : decode cL_ifPutOut 15 = .ok (.astore 5, 2) := by decide +kernel
theorem dL_ifPutOut_17 : decode cL_ifPutOut 17 = .ok (.iconst 1, 1) := by decide +kernel
theorem dL_ifPutOut_18 : decode cL_ifPutOut 18 = .ok (.ireturn, 1) := by decide +kernel
theorem dL_ifPutOut_19 : decode cL_ifPutOut 19 = .ok (.astore 5, 2) := by decide +kernel
theorem dL_ifPutOut_21 : decode cL_ifPutOut 21 = .ok (.iconst 2, 1) := by decide +kernel
theorem dL_ifPutOut_22 : decode cL_ifPutOut 22 = .ok (.ireturn, 1) := by decide +kernel
theorem dL_ifPutOut_23 : decode cL_ifPutOut 23 = .ok (.iconst 0, 1) := by decide +kernel
theorem dL_ifPutOut_24 : decode cL_ifPutOut 24 = .ok (.ireturn, 1) := by decide +kernel
theorem dL_fewestBeds_0 : decode cL_fewestBeds 0 = .ok (.aload_n 2, 1) := by decide +kernel
theorem dL_fewestBeds_1 : decode cL_fewestBeds 1 = .ok (.iconst 0, 1) := by decide +kernel
theorem dL_fewestBeds_2 : decode cL_fewestBeds 2 = .ok (.aload_n 0, 1) := by decide +kernel
theorem dL_fewestBeds_3 : decode cL_fewestBeds 3 = .ok (.iload_n 1, 1) := by decide +kernel
theorem dL_fewestBeds_4 : decode cL_fewestBeds 4 = .ok (.invokevirtual 70, 3) := by decide +kernel
theorem dL_fewestBeds_7 : decode cL_fewestBeds 7 = .ok (.i2l, 1) := by decide +kernel
theorem dL_fewestBeds_8 : decode cL_fewestBeds 8 = .ok (.lastore, 1) := by decide +kernel
theorem dL_fewestBeds_9 : decode cL_fewestBeds 9 = .ok (.goto 6, 3) := by decide +kernel
theorem dL_fewestBeds_12 : decode cL_fewestBeds 12 = .ok (.astore_n 3, 1) := by decide +kernel
theorem dL_fewestBeds_13 : decode cL_fewestBeds 13 = .ok (.iconst 1, 1) := by decide +kernel
theorem dL_fewestBeds_14 : decode cL_fewestBeds 14 = .ok (.ireturn, 1) := by decide +kernel
theorem dL_fewestBeds_15 : decode cL_fewestBeds 15 = .ok (.iconst 0, 1) := by decide +kernel
theorem dL_fewestBeds_16 : decode cL_fewestBeds 16 = .ok (.ireturn, 1) := by decide +kernel
theorem dL_longest_0 : decode cL_longest 0 = .ok (.aload_n 3, 1) := by decide +kernel
theorem dL_longest_1 : decode cL_longest 1 = .ok (.iconst 0, 1) := by decide +kernel
theorem dL_longest_2 : decode cL_longest 2 = .ok (.aload_n 0, 1) := by decide +kernel
theorem dL_longest_3 : decode cL_longest 3 = .ok (.iload_n 1, 1) := by decide +kernel
theorem dL_longest_4 : decode cL_longest 4 = .ok (.iload_n 2, 1) := by decide +kernel
theorem dL_longest_5 : decode cL_longest 5 = .ok (.invokevirtual 73, 3) := by decide +kernel
theorem dL_longest_8 : decode cL_longest 8 = .ok (.i2l, 1) := by decide +kernel
theorem dL_longest_9 : decode cL_longest 9 = .ok (.lastore, 1) := by decide +kernel
theorem dL_longest_10 : decode cL_longest 10 = .ok (.goto 11, 3) := by decide +kernel
theorem dL_longest_13 : decode cL_longest 13 = .ok (.astore 4, 2) := by decide +kernel
theorem dL_longest_15 : decode cL_longest 15 = .ok (.iconst 1, 1) := by decide +kernel
theorem dL_longest_16 : decode cL_longest 16 = .ok (.ireturn, 1) := by decide +kernel
theorem dL_longest_17 : decode cL_longest 17 = .ok (.astore 4, 2) := by decide +kernel
theorem dL_longest_19 : decode cL_longest 19 = .ok (.iconst 2, 1) := by decide +kernel
theorem dL_longest_20 : decode cL_longest 20 = .ok (.ireturn, 1) := by decide +kernel
theorem dL_longest_21 : decode cL_longest 21 = .ok (.iconst 0, 1) := by decide +kernel
theorem dL_longest_22 : decode cL_longest 22 = .ok (.ireturn, 1) := by decide +kernel
theorem dL_law_0 : decode cL_law 0 = .ok (.new 8, 3) := by decide +kernel
theorem dL_law_3 : decode cL_law 3 = .ok (.dup, 1) := by decide +kernel
theorem dL_law_4 : decode cL_law 4 = .ok (.invokespecial 76, 3) := by decide +kernel
theorem dL_law_7 : decode cL_law 7 = .ok (.astore_n 1, 1) := by decide +kernel
theorem dL_law_8 : decode cL_law 8 = .ok (.new 77, 3) := by decide +kernel
theorem dL_law_11 : decode cL_law 11 = .ok (.dup, 1) := by decide +kernel
theorem dL_law_12 : decode cL_law 12 = .ok (.invokespecial 79, 3) := by decide +kernel
theorem dL_law_15 : decode cL_law 15 = .ok (.astore_n 2, 1) := by decide +kernel
theorem dL_law_16 : decode cL_law 16 = .ok (.iconst 1, 1) := by decide +kernel
theorem dL_law_17 : decode cL_law 17 = .ok (.newarray .long, 2) := by decide +kernel
theorem dL_law_19 : decode cL_law 19 = .ok (.astore_n 3, 1) := by decide +kernel
theorem dL_law_20 : decode cL_law 20 = .ok (.iconst 0, 1) := by decide +kernel
theorem dL_law_21 : decode cL_law 21 = .ok (.istore 4, 2) := by decide +kernel
theorem dL_law_23 : decode cL_law 23 = .ok (.iload 4, 2) := by decide +kernel
theorem dL_law_25 : decode cL_law 25 = .ok (.aload_n 0, 1) := by decide +kernel
theorem dL_law_26 : decode cL_law 26 = .ok (.arraylength, 1) := by decide +kernel
theorem dL_law_27 : decode cL_law 27 = .ok (.iconst 4, 1) := by decide +kernel
theorem dL_law_28 : decode cL_law 28 = .ok (.isub, 1) := by decide +kernel
theorem dL_law_29 : decode cL_law 29 = .ok (.if_icmp .gt 1379, 3) := by decide +kernel
theorem dL_law_32 : decode cL_law 32 = .ok (.aload_n 0, 1) := by decide +kernel
theorem dL_law_33 : decode cL_law 33 = .ok (.iload 4, 2) := by decide +kernel
theorem dL_law_35 : decode cL_law 35 = .ok (.iaload, 1) := by decide +kernel
theorem dL_law_36 : decode cL_law 36 = .ok (.bipush 31, 2) := by decide +kernel
theorem dL_law_38 : decode cL_law 38 = .ok (.iand, 1) := by decide +kernel
theorem dL_law_39 : decode cL_law 39 = .ok (.tableswitch 1363 0 23 #[109, 189, 257, 313, 381, 425, 481, 537, 550, 563, 607, 663, 719, 763, 831, 899, 955, 1011, 1091, 1171, 1227, 1295, 1308, 1349], 109) := by decide +kernel
theorem dL_law_148 : decode cL_law 148 = .ok (.aload_n 1, 1) := by decide +kernel
theorem dL_law_149 : decode cL_law 149 = .ok (.aload_n 0, 1) := by decide +kernel
theorem dL_law_150 : decode cL_law 150 = .ok (.iload 4, 2) := by decide +kernel
theorem dL_law_152 : decode cL_law 152 = .ok (.iconst 1, 1) := by decide +kernel
theorem dL_law_153 : decode cL_law 153 = .ok (.iadd, 1) := by decide +kernel
theorem dL_law_154 : decode cL_law 154 = .ok (.iaload, 1) := by decide +kernel
theorem dL_law_155 : decode cL_law 155 = .ok (.aload_n 0, 1) := by decide +kernel
theorem dL_law_156 : decode cL_law 156 = .ok (.iload 4, 2) := by decide +kernel
theorem dL_law_158 : decode cL_law 158 = .ok (.iconst 2, 1) := by decide +kernel
theorem dL_law_159 : decode cL_law 159 = .ok (.iadd, 1) := by decide +kernel
theorem dL_law_160 : decode cL_law 160 = .ok (.iaload, 1) := by decide +kernel
theorem dL_law_161 : decode cL_law 161 = .ok (.aload_n 0, 1) := by decide +kernel
theorem dL_law_162 : decode cL_law 162 = .ok (.iload 4, 2) := by decide +kernel
theorem dL_law_164 : decode cL_law 164 = .ok (.iconst 3, 1) := by decide +kernel
theorem dL_law_165 : decode cL_law 165 = .ok (.iadd, 1) := by decide +kernel
theorem dL_law_166 : decode cL_law 166 = .ok (.iaload, 1) := by decide +kernel
theorem dL_law_167 : decode cL_law 167 = .ok (.aload_n 3, 1) := by decide +kernel
theorem dL_law_168 : decode cL_law 168 = .ok (.invokestatic 80, 3) := by decide +kernel
theorem dL_law_171 : decode cL_law 171 = .ok (.istore 5, 2) := by decide +kernel
theorem dL_law_173 : decode cL_law 173 = .ok (.aload_n 2, 1) := by decide +kernel
theorem dL_law_174 : decode cL_law 174 = .ok (.aload_n 0, 1) := by decide +kernel
theorem dL_law_175 : decode cL_law 175 = .ok (.iload 4, 2) := by decide +kernel
theorem dL_law_177 : decode cL_law 177 = .ok (.iconst 1, 1) := by decide +kernel
theorem dL_law_178 : decode cL_law 178 = .ok (.iadd, 1) := by decide +kernel
theorem dL_law_179 : decode cL_law 179 = .ok (.iaload, 1) := by decide +kernel
theorem dL_law_180 : decode cL_law 180 = .ok (.aload_n 0, 1) := by decide +kernel
theorem dL_law_181 : decode cL_law 181 = .ok (.iload 4, 2) := by decide +kernel
theorem dL_law_183 : decode cL_law 183 = .ok (.iconst 2, 1) := by decide +kernel
theorem dL_law_184 : decode cL_law 184 = .ok (.iadd, 1) := by decide +kernel
theorem dL_law_185 : decode cL_law 185 = .ok (.iaload, 1) := by decide +kernel
theorem dL_law_186 : decode cL_law 186 = .ok (.aload_n 0, 1) := by decide +kernel
theorem dL_law_187 : decode cL_law 187 = .ok (.iload 4, 2) := by decide +kernel
theorem dL_law_189 : decode cL_law 189 = .ok (.iconst 3, 1) := by decide +kernel
theorem dL_law_190 : decode cL_law 190 = .ok (.iadd, 1) := by decide +kernel
theorem dL_law_191 : decode cL_law 191 = .ok (.iaload, 1) := by decide +kernel
theorem dL_law_192 : decode cL_law 192 = .ok (.invokevirtual 85, 3) := by decide +kernel
theorem dL_law_195 : decode cL_law 195 = .ok (.istore 6, 2) := by decide +kernel
theorem dL_law_197 : decode cL_law 197 = .ok (.aload_n 2, 1) := by decide +kernel
theorem dL_law_198 : decode cL_law 198 = .ok (.invokevirtual 86, 3) := by decide +kernel
theorem dL_law_201 : decode cL_law 201 = .ok (.iload 5, 2) := by decide +kernel
theorem dL_law_203 : decode cL_law 203 = .ok (.if_icmp .eq 5, 3) := by decide +kernel
theorem dL_law_206 : decode cL_law 206 = .ok (.iconst 0, 1) := by decide +kernel
theorem dL_law_207 : decode cL_law 207 = .ok (.ireturn, 1) := by decide +kernel
theorem dL_law_208 : decode cL_law 208 = .ok (.iload 5, 2) := by decide +kernel
theorem dL_law_210 : decode cL_law 210 = .ok (.ifCond .ne 15, 3) := by decide +kernel
theorem dL_law_213 : decode cL_law 213 = .ok (.aload_n 3, 1) := by decide +kernel
theorem dL_law_214 : decode cL_law 214 = .ok (.iconst 0, 1) := by decide +kernel
theorem dL_law_215 : decode cL_law 215 = .ok (.laload, 1) := by decide +kernel
theorem dL_law_216 : decode cL_law 216 = .ok (.iload 6, 2) := by decide +kernel
theorem dL_law_218 : decode cL_law 218 = .ok (.i2l, 1) := by decide +kernel
theorem dL_law_219 : decode cL_law 219 = .ok (.lcmp, 1) := by decide +kernel
theorem dL_law_220 : decode cL_law 220 = .ok (.ifCond .eq 5, 3) := by decide +kernel
theorem dL_law_223 : decode cL_law 223 = .ok (.iconst 0, 1) := by decide +kernel
theorem dL_law_224 : decode cL_law 224 = .ok (.ireturn, 1) := by decide +kernel
theorem dL_law_225 : decode cL_law 225 = .ok (.goto 1177, 3) := by decide +kernel
theorem dL_law_228 : decode cL_law 228 = .ok (.aload_n 1, 1) := by decide +kernel
theorem dL_law_229 : decode cL_law 229 = .ok (.aload_n 0, 1) := by decide +kernel
theorem dL_law_230 : decode cL_law 230 = .ok (.iload 4, 2) := by decide +kernel
theorem dL_law_232 : decode cL_law 232 = .ok (.iconst 1, 1) := by decide +kernel
theorem dL_law_233 : decode cL_law 233 = .ok (.iadd, 1) := by decide +kernel
theorem dL_law_234 : decode cL_law 234 = .ok (.iaload, 1) := by decide +kernel
theorem dL_law_235 : decode cL_law 235 = .ok (.aload_n 0, 1) := by decide +kernel
theorem dL_law_236 : decode cL_law 236 = .ok (.iload 4, 2) := by decide +kernel
theorem dL_law_238 : decode cL_law 238 = .ok (.iconst 2, 1) := by decide +kernel
theorem dL_law_239 : decode cL_law 239 = .ok (.iadd, 1) := by decide +kernel
theorem dL_law_240 : decode cL_law 240 = .ok (.iaload, 1) := by decide +kernel
theorem dL_law_241 : decode cL_law 241 = .ok (.aload_n 3, 1) := by decide +kernel
theorem dL_law_242 : decode cL_law 242 = .ok (.invokestatic 89, 3) := by decide +kernel
theorem dL_law_245 : decode cL_law 245 = .ok (.istore 5, 2) := by decide +kernel
theorem dL_law_247 : decode cL_law 247 = .ok (.aload_n 2, 1) := by decide +kernel
theorem dL_law_248 : decode cL_law 248 = .ok (.aload_n 0, 1) := by decide +kernel
theorem dL_law_249 : decode cL_law 249 = .ok (.iload 4, 2) := by decide +kernel
theorem dL_law_251 : decode cL_law 251 = .ok (.iconst 1, 1) := by decide +kernel
theorem dL_law_252 : decode cL_law 252 = .ok (.iadd, 1) := by decide +kernel
theorem dL_law_253 : decode cL_law 253 = .ok (.iaload, 1) := by decide +kernel
theorem dL_law_254 : decode cL_law 254 = .ok (.aload_n 0, 1) := by decide +kernel
theorem dL_law_255 : decode cL_law 255 = .ok (.iload 4, 2) := by decide +kernel
theorem dL_law_257 : decode cL_law 257 = .ok (.iconst 2, 1) := by decide +kernel
theorem dL_law_258 : decode cL_law 258 = .ok (.iadd, 1) := by decide +kernel
theorem dL_law_259 : decode cL_law 259 = .ok (.iaload, 1) := by decide +kernel
theorem dL_law_260 : decode cL_law 260 = .ok (.invokevirtual 92, 3) := by decide +kernel
theorem dL_law_263 : decode cL_law 263 = .ok (.istore 6, 2) := by decide +kernel
theorem dL_law_265 : decode cL_law 265 = .ok (.aload_n 2, 1) := by decide +kernel
theorem dL_law_266 : decode cL_law 266 = .ok (.invokevirtual 86, 3) := by decide +kernel
theorem dL_law_269 : decode cL_law 269 = .ok (.iload 5, 2) := by decide +kernel
theorem dL_law_271 : decode cL_law 271 = .ok (.if_icmp .eq 5, 3) := by decide +kernel
theorem dL_law_274 : decode cL_law 274 = .ok (.iconst 0, 1) := by decide +kernel
theorem dL_law_275 : decode cL_law 275 = .ok (.ireturn, 1) := by decide +kernel
theorem dL_law_276 : decode cL_law 276 = .ok (.iload 5, 2) := by decide +kernel
theorem dL_law_278 : decode cL_law 278 = .ok (.ifCond .ne 15, 3) := by decide +kernel
theorem dL_law_281 : decode cL_law 281 = .ok (.aload_n 3, 1) := by decide +kernel
theorem dL_law_282 : decode cL_law 282 = .ok (.iconst 0, 1) := by decide +kernel
theorem dL_law_283 : decode cL_law 283 = .ok (.laload, 1) := by decide +kernel
theorem dL_law_284 : decode cL_law 284 = .ok (.iload 6, 2) := by decide +kernel
theorem dL_law_286 : decode cL_law 286 = .ok (.i2l, 1) := by decide +kernel
theorem dL_law_287 : decode cL_law 287 = .ok (.lcmp, 1) := by decide +kernel
theorem dL_law_288 : decode cL_law 288 = .ok (.ifCond .eq 5, 3) := by decide +kernel
theorem dL_law_291 : decode cL_law 291 = .ok (.iconst 0, 1) := by decide +kernel
theorem dL_law_292 : decode cL_law 292 = .ok (.ireturn, 1) := by decide +kernel
theorem dL_law_293 : decode cL_law 293 = .ok (.goto 1109, 3) := by decide +kernel
theorem dL_law_296 : decode cL_law 296 = .ok (.aload_n 1, 1) := by decide +kernel
theorem dL_law_297 : decode cL_law 297 = .ok (.aload_n 0, 1) := by decide +kernel
theorem dL_law_298 : decode cL_law 298 = .ok (.iload 4, 2) := by decide +kernel
theorem dL_law_300 : decode cL_law 300 = .ok (.iconst 1, 1) := by decide +kernel
theorem dL_law_301 : decode cL_law 301 = .ok (.iadd, 1) := by decide +kernel
theorem dL_law_302 : decode cL_law 302 = .ok (.iaload, 1) := by decide +kernel
theorem dL_law_303 : decode cL_law 303 = .ok (.aload_n 3, 1) := by decide +kernel
theorem dL_law_304 : decode cL_law 304 = .ok (.invokestatic 93, 3) := by decide +kernel
theorem dL_law_307 : decode cL_law 307 = .ok (.istore 5, 2) := by decide +kernel
theorem dL_law_309 : decode cL_law 309 = .ok (.aload_n 2, 1) := by decide +kernel
theorem dL_law_310 : decode cL_law 310 = .ok (.aload_n 0, 1) := by decide +kernel
theorem dL_law_311 : decode cL_law 311 = .ok (.iload 4, 2) := by decide +kernel
theorem dL_law_313 : decode cL_law 313 = .ok (.iconst 1, 1) := by decide +kernel
theorem dL_law_314 : decode cL_law 314 = .ok (.iadd, 1) := by decide +kernel
theorem dL_law_315 : decode cL_law 315 = .ok (.iaload, 1) := by decide +kernel
theorem dL_law_316 : decode cL_law 316 = .ok (.invokevirtual 96, 3) := by decide +kernel
theorem dL_law_319 : decode cL_law 319 = .ok (.istore 6, 2) := by decide +kernel
theorem dL_law_321 : decode cL_law 321 = .ok (.aload_n 2, 1) := by decide +kernel
theorem dL_law_322 : decode cL_law 322 = .ok (.invokevirtual 86, 3) := by decide +kernel
theorem dL_law_325 : decode cL_law 325 = .ok (.iload 5, 2) := by decide +kernel
theorem dL_law_327 : decode cL_law 327 = .ok (.if_icmp .eq 5, 3) := by decide +kernel
theorem dL_law_330 : decode cL_law 330 = .ok (.iconst 0, 1) := by decide +kernel
theorem dL_law_331 : decode cL_law 331 = .ok (.ireturn, 1) := by decide +kernel
theorem dL_law_332 : decode cL_law 332 = .ok (.iload 5, 2) := by decide +kernel
theorem dL_law_334 : decode cL_law 334 = .ok (.ifCond .ne 15, 3) := by decide +kernel
theorem dL_law_337 : decode cL_law 337 = .ok (.aload_n 3, 1) := by decide +kernel
theorem dL_law_338 : decode cL_law 338 = .ok (.iconst 0, 1) := by decide +kernel
theorem dL_law_339 : decode cL_law 339 = .ok (.laload, 1) := by decide +kernel
theorem dL_law_340 : decode cL_law 340 = .ok (.iload 6, 2) := by decide +kernel
theorem dL_law_342 : decode cL_law 342 = .ok (.i2l, 1) := by decide +kernel
theorem dL_law_343 : decode cL_law 343 = .ok (.lcmp, 1) := by decide +kernel
theorem dL_law_344 : decode cL_law 344 = .ok (.ifCond .eq 5, 3) := by decide +kernel
theorem dL_law_347 : decode cL_law 347 = .ok (.iconst 0, 1) := by decide +kernel
theorem dL_law_348 : decode cL_law 348 = .ok (.ireturn, 1) := by decide +kernel
theorem dL_law_349 : decode cL_law 349 = .ok (.goto 1053, 3) := by decide +kernel
theorem dL_law_352 : decode cL_law 352 = .ok (.aload_n 1, 1) := by decide +kernel
theorem dL_law_353 : decode cL_law 353 = .ok (.aload_n 0, 1) := by decide +kernel
theorem dL_law_354 : decode cL_law 354 = .ok (.iload 4, 2) := by decide +kernel
theorem dL_law_356 : decode cL_law 356 = .ok (.iconst 1, 1) := by decide +kernel
theorem dL_law_357 : decode cL_law 357 = .ok (.iadd, 1) := by decide +kernel
theorem dL_law_358 : decode cL_law 358 = .ok (.iaload, 1) := by decide +kernel
theorem dL_law_359 : decode cL_law 359 = .ok (.aload_n 0, 1) := by decide +kernel
theorem dL_law_360 : decode cL_law 360 = .ok (.iload 4, 2) := by decide +kernel
theorem dL_law_362 : decode cL_law 362 = .ok (.iconst 2, 1) := by decide +kernel
theorem dL_law_363 : decode cL_law 363 = .ok (.iadd, 1) := by decide +kernel
theorem dL_law_364 : decode cL_law 364 = .ok (.iaload, 1) := by decide +kernel
theorem dL_law_365 : decode cL_law 365 = .ok (.aload_n 3, 1) := by decide +kernel
theorem dL_law_366 : decode cL_law 366 = .ok (.invokestatic 97, 3) := by decide +kernel
theorem dL_law_369 : decode cL_law 369 = .ok (.istore 5, 2) := by decide +kernel
theorem dL_law_371 : decode cL_law 371 = .ok (.aload_n 2, 1) := by decide +kernel
theorem dL_law_372 : decode cL_law 372 = .ok (.aload_n 0, 1) := by decide +kernel
theorem dL_law_373 : decode cL_law 373 = .ok (.iload 4, 2) := by decide +kernel
theorem dL_law_375 : decode cL_law 375 = .ok (.iconst 1, 1) := by decide +kernel
theorem dL_law_376 : decode cL_law 376 = .ok (.iadd, 1) := by decide +kernel
theorem dL_law_377 : decode cL_law 377 = .ok (.iaload, 1) := by decide +kernel
theorem dL_law_378 : decode cL_law 378 = .ok (.aload_n 0, 1) := by decide +kernel
theorem dL_law_379 : decode cL_law 379 = .ok (.iload 4, 2) := by decide +kernel
theorem dL_law_381 : decode cL_law 381 = .ok (.iconst 2, 1) := by decide +kernel
theorem dL_law_382 : decode cL_law 382 = .ok (.iadd, 1) := by decide +kernel
theorem dL_law_383 : decode cL_law 383 = .ok (.iaload, 1) := by decide +kernel
theorem dL_law_384 : decode cL_law 384 = .ok (.invokevirtual 99, 3) := by decide +kernel
theorem dL_law_387 : decode cL_law 387 = .ok (.istore 6, 2) := by decide +kernel
theorem dL_law_389 : decode cL_law 389 = .ok (.aload_n 2, 1) := by decide +kernel
theorem dL_law_390 : decode cL_law 390 = .ok (.invokevirtual 86, 3) := by decide +kernel
theorem dL_law_393 : decode cL_law 393 = .ok (.iload 5, 2) := by decide +kernel
theorem dL_law_395 : decode cL_law 395 = .ok (.if_icmp .eq 5, 3) := by decide +kernel
theorem dL_law_398 : decode cL_law 398 = .ok (.iconst 0, 1) := by decide +kernel
theorem dL_law_399 : decode cL_law 399 = .ok (.ireturn, 1) := by decide +kernel
theorem dL_law_400 : decode cL_law 400 = .ok (.iload 5, 2) := by decide +kernel
theorem dL_law_402 : decode cL_law 402 = .ok (.ifCond .ne 15, 3) := by decide +kernel
theorem dL_law_405 : decode cL_law 405 = .ok (.aload_n 3, 1) := by decide +kernel
theorem dL_law_406 : decode cL_law 406 = .ok (.iconst 0, 1) := by decide +kernel
theorem dL_law_407 : decode cL_law 407 = .ok (.laload, 1) := by decide +kernel
theorem dL_law_408 : decode cL_law 408 = .ok (.iload 6, 2) := by decide +kernel
theorem dL_law_410 : decode cL_law 410 = .ok (.i2l, 1) := by decide +kernel
theorem dL_law_411 : decode cL_law 411 = .ok (.lcmp, 1) := by decide +kernel
theorem dL_law_412 : decode cL_law 412 = .ok (.ifCond .eq 5, 3) := by decide +kernel
theorem dL_law_415 : decode cL_law 415 = .ok (.iconst 0, 1) := by decide +kernel
theorem dL_law_416 : decode cL_law 416 = .ok (.ireturn, 1) := by decide +kernel
theorem dL_law_417 : decode cL_law 417 = .ok (.goto 985, 3) := by decide +kernel
theorem dL_law_420 : decode cL_law 420 = .ok (.aload_n 1, 1) := by decide +kernel
theorem dL_law_421 : decode cL_law 421 = .ok (.aload_n 3, 1) := by decide +kernel
theorem dL_law_422 : decode cL_law 422 = .ok (.invokestatic 100, 3) := by decide +kernel
theorem dL_law_425 : decode cL_law 425 = .ok (.istore 5, 2) := by decide +kernel
theorem dL_law_427 : decode cL_law 427 = .ok (.aload_n 2, 1) := by decide +kernel
theorem dL_law_428 : decode cL_law 428 = .ok (.invokevirtual 103, 3) := by decide +kernel
theorem dL_law_431 : decode cL_law 431 = .ok (.istore 6, 2) := by decide +kernel
theorem dL_law_433 : decode cL_law 433 = .ok (.aload_n 2, 1) := by decide +kernel
theorem dL_law_434 : decode cL_law 434 = .ok (.invokevirtual 86, 3) := by decide +kernel
theorem dL_law_437 : decode cL_law 437 = .ok (.iload 5, 2) := by decide +kernel
theorem dL_law_439 : decode cL_law 439 = .ok (.if_icmp .eq 5, 3) := by decide +kernel
theorem dL_law_442 : decode cL_law 442 = .ok (.iconst 0, 1) := by decide +kernel
theorem dL_law_443 : decode cL_law 443 = .ok (.ireturn, 1) := by decide +kernel
theorem dL_law_444 : decode cL_law 444 = .ok (.iload 5, 2) := by decide +kernel
theorem dL_law_446 : decode cL_law 446 = .ok (.ifCond .ne 15, 3) := by decide +kernel
theorem dL_law_449 : decode cL_law 449 = .ok (.aload_n 3, 1) := by decide +kernel
theorem dL_law_450 : decode cL_law 450 = .ok (.iconst 0, 1) := by decide +kernel
theorem dL_law_451 : decode cL_law 451 = .ok (.laload, 1) := by decide +kernel
theorem dL_law_452 : decode cL_law 452 = .ok (.iload 6, 2) := by decide +kernel
theorem dL_law_454 : decode cL_law 454 = .ok (.i2l, 1) := by decide +kernel
theorem dL_law_455 : decode cL_law 455 = .ok (.lcmp, 1) := by decide +kernel
theorem dL_law_456 : decode cL_law 456 = .ok (.ifCond .eq 5, 3) := by decide +kernel
theorem dL_law_459 : decode cL_law 459 = .ok (.iconst 0, 1) := by decide +kernel
theorem dL_law_460 : decode cL_law 460 = .ok (.ireturn, 1) := by decide +kernel
theorem dL_law_461 : decode cL_law 461 = .ok (.goto 941, 3) := by decide +kernel
theorem dL_law_464 : decode cL_law 464 = .ok (.aload_n 1, 1) := by decide +kernel
theorem dL_law_465 : decode cL_law 465 = .ok (.aload_n 0, 1) := by decide +kernel
theorem dL_law_466 : decode cL_law 466 = .ok (.iload 4, 2) := by decide +kernel
theorem dL_law_468 : decode cL_law 468 = .ok (.iconst 1, 1) := by decide +kernel
theorem dL_law_469 : decode cL_law 469 = .ok (.iadd, 1) := by decide +kernel
theorem dL_law_470 : decode cL_law 470 = .ok (.iaload, 1) := by decide +kernel
theorem dL_law_471 : decode cL_law 471 = .ok (.aload_n 3, 1) := by decide +kernel
theorem dL_law_472 : decode cL_law 472 = .ok (.invokestatic 104, 3) := by decide +kernel
theorem dL_law_475 : decode cL_law 475 = .ok (.istore 5, 2) := by decide +kernel
theorem dL_law_477 : decode cL_law 477 = .ok (.aload_n 2, 1) := by decide +kernel
theorem dL_law_478 : decode cL_law 478 = .ok (.aload_n 0, 1) := by decide +kernel
theorem dL_law_479 : decode cL_law 479 = .ok (.iload 4, 2) := by decide +kernel
theorem dL_law_481 : decode cL_law 481 = .ok (.iconst 1, 1) := by decide +kernel
theorem dL_law_482 : decode cL_law 482 = .ok (.iadd, 1) := by decide +kernel
theorem dL_law_483 : decode cL_law 483 = .ok (.iaload, 1) := by decide +kernel
theorem dL_law_484 : decode cL_law 484 = .ok (.invokevirtual 106, 3) := by decide +kernel
theorem dL_law_487 : decode cL_law 487 = .ok (.istore 6, 2) := by decide +kernel
theorem dL_law_489 : decode cL_law 489 = .ok (.aload_n 2, 1) := by decide +kernel
theorem dL_law_490 : decode cL_law 490 = .ok (.invokevirtual 86, 3) := by decide +kernel
theorem dL_law_493 : decode cL_law 493 = .ok (.iload 5, 2) := by decide +kernel
theorem dL_law_495 : decode cL_law 495 = .ok (.if_icmp .eq 5, 3) := by decide +kernel
theorem dL_law_498 : decode cL_law 498 = .ok (.iconst 0, 1) := by decide +kernel
theorem dL_law_499 : decode cL_law 499 = .ok (.ireturn, 1) := by decide +kernel
theorem dL_law_500 : decode cL_law 500 = .ok (.iload 5, 2) := by decide +kernel
theorem dL_law_502 : decode cL_law 502 = .ok (.ifCond .ne 15, 3) := by decide +kernel
theorem dL_law_505 : decode cL_law 505 = .ok (.aload_n 3, 1) := by decide +kernel
theorem dL_law_506 : decode cL_law 506 = .ok (.iconst 0, 1) := by decide +kernel
theorem dL_law_507 : decode cL_law 507 = .ok (.laload, 1) := by decide +kernel
theorem dL_law_508 : decode cL_law 508 = .ok (.iload 6, 2) := by decide +kernel
theorem dL_law_510 : decode cL_law 510 = .ok (.i2l, 1) := by decide +kernel
theorem dL_law_511 : decode cL_law 511 = .ok (.lcmp, 1) := by decide +kernel
theorem dL_law_512 : decode cL_law 512 = .ok (.ifCond .eq 5, 3) := by decide +kernel
theorem dL_law_515 : decode cL_law 515 = .ok (.iconst 0, 1) := by decide +kernel
theorem dL_law_516 : decode cL_law 516 = .ok (.ireturn, 1) := by decide +kernel
theorem dL_law_517 : decode cL_law 517 = .ok (.goto 885, 3) := by decide +kernel
theorem dL_law_520 : decode cL_law 520 = .ok (.aload_n 1, 1) := by decide +kernel
theorem dL_law_521 : decode cL_law 521 = .ok (.aload_n 0, 1) := by decide +kernel
theorem dL_law_522 : decode cL_law 522 = .ok (.iload 4, 2) := by decide +kernel
theorem dL_law_524 : decode cL_law 524 = .ok (.iconst 1, 1) := by decide +kernel
theorem dL_law_525 : decode cL_law 525 = .ok (.iadd, 1) := by decide +kernel
theorem dL_law_526 : decode cL_law 526 = .ok (.iaload, 1) := by decide +kernel
theorem dL_law_527 : decode cL_law 527 = .ok (.aload_n 3, 1) := by decide +kernel
theorem dL_law_528 : decode cL_law 528 = .ok (.invokestatic 107, 3) := by decide +kernel
theorem dL_law_531 : decode cL_law 531 = .ok (.istore 5, 2) := by decide +kernel
theorem dL_law_533 : decode cL_law 533 = .ok (.aload_n 2, 1) := by decide +kernel
theorem dL_law_534 : decode cL_law 534 = .ok (.aload_n 0, 1) := by decide +kernel
theorem dL_law_535 : decode cL_law 535 = .ok (.iload 4, 2) := by decide +kernel
theorem dL_law_537 : decode cL_law 537 = .ok (.iconst 1, 1) := by decide +kernel
theorem dL_law_538 : decode cL_law 538 = .ok (.iadd, 1) := by decide +kernel
theorem dL_law_539 : decode cL_law 539 = .ok (.iaload, 1) := by decide +kernel
theorem dL_law_540 : decode cL_law 540 = .ok (.invokevirtual 109, 3) := by decide +kernel
theorem dL_law_543 : decode cL_law 543 = .ok (.istore 6, 2) := by decide +kernel
theorem dL_law_545 : decode cL_law 545 = .ok (.aload_n 2, 1) := by decide +kernel
theorem dL_law_546 : decode cL_law 546 = .ok (.invokevirtual 86, 3) := by decide +kernel
theorem dL_law_549 : decode cL_law 549 = .ok (.iload 5, 2) := by decide +kernel
theorem dL_law_551 : decode cL_law 551 = .ok (.if_icmp .eq 5, 3) := by decide +kernel
theorem dL_law_554 : decode cL_law 554 = .ok (.iconst 0, 1) := by decide +kernel
theorem dL_law_555 : decode cL_law 555 = .ok (.ireturn, 1) := by decide +kernel
theorem dL_law_556 : decode cL_law 556 = .ok (.iload 5, 2) := by decide +kernel
theorem dL_law_558 : decode cL_law 558 = .ok (.ifCond .ne 15, 3) := by decide +kernel
theorem dL_law_561 : decode cL_law 561 = .ok (.aload_n 3, 1) := by decide +kernel
theorem dL_law_562 : decode cL_law 562 = .ok (.iconst 0, 1) := by decide +kernel
theorem dL_law_563 : decode cL_law 563 = .ok (.laload, 1) := by decide +kernel
theorem dL_law_564 : decode cL_law 564 = .ok (.iload 6, 2) := by decide +kernel
theorem dL_law_566 : decode cL_law 566 = .ok (.i2l, 1) := by decide +kernel
theorem dL_law_567 : decode cL_law 567 = .ok (.lcmp, 1) := by decide +kernel
theorem dL_law_568 : decode cL_law 568 = .ok (.ifCond .eq 5, 3) := by decide +kernel
theorem dL_law_571 : decode cL_law 571 = .ok (.iconst 0, 1) := by decide +kernel
theorem dL_law_572 : decode cL_law 572 = .ok (.ireturn, 1) := by decide +kernel
theorem dL_law_573 : decode cL_law 573 = .ok (.goto 829, 3) := by decide +kernel
theorem dL_law_576 : decode cL_law 576 = .ok (.aload_n 1, 1) := by decide +kernel
theorem dL_law_577 : decode cL_law 577 = .ok (.invokevirtual 110, 3) := by decide +kernel
theorem dL_law_580 : decode cL_law 580 = .ok (.aload_n 2, 1) := by decide +kernel
theorem dL_law_581 : decode cL_law 581 = .ok (.invokevirtual 113, 3) := by decide +kernel
theorem dL_law_584 : decode cL_law 584 = .ok (.if_icmp .eq 818, 3) := by decide +kernel
theorem dL_law_587 : decode cL_law 587 = .ok (.iconst 0, 1) := by decide +kernel
theorem dL_law_588 : decode cL_law 588 = .ok (.ireturn, 1) := by decide +kernel
theorem dL_law_589 : decode cL_law 589 = .ok (.aload_n 1, 1) := by decide +kernel
theorem dL_law_590 : decode cL_law 590 = .ok (.invokevirtual 114, 3) := by decide +kernel
theorem dL_law_593 : decode cL_law 593 = .ok (.aload_n 2, 1) := by decide +kernel
theorem dL_law_594 : decode cL_law 594 = .ok (.invokevirtual 117, 3) := by decide +kernel
theorem dL_law_597 : decode cL_law 597 = .ok (.if_icmp .eq 805, 3) := by decide +kernel
theorem dL_law_600 : decode cL_law 600 = .ok (.iconst 0, 1) := by decide +kernel
theorem dL_law_601 : decode cL_law 601 = .ok (.ireturn, 1) := by decide +kernel
theorem dL_law_602 : decode cL_law 602 = .ok (.aload_n 1, 1) := by decide +kernel
theorem dL_law_603 : decode cL_law 603 = .ok (.aload_n 3, 1) := by decide +kernel
theorem dL_law_604 : decode cL_law 604 = .ok (.invokestatic 118, 3) := by decide +kernel
theorem dL_law_607 : decode cL_law 607 = .ok (.istore 5, 2) := by decide +kernel
theorem dL_law_609 : decode cL_law 609 = .ok (.aload_n 2, 1) := by decide +kernel
theorem dL_law_610 : decode cL_law 610 = .ok (.invokevirtual 120, 3) := by decide +kernel
theorem dL_law_613 : decode cL_law 613 = .ok (.istore 6, 2) := by decide +kernel
theorem dL_law_615 : decode cL_law 615 = .ok (.aload_n 2, 1) := by decide +kernel
theorem dL_law_616 : decode cL_law 616 = .ok (.invokevirtual 86, 3) := by decide +kernel
theorem dL_law_619 : decode cL_law 619 = .ok (.iload 5, 2) := by decide +kernel
theorem dL_law_621 : decode cL_law 621 = .ok (.if_icmp .eq 5, 3) := by decide +kernel
theorem dL_law_624 : decode cL_law 624 = .ok (.iconst 0, 1) := by decide +kernel
theorem dL_law_625 : decode cL_law 625 = .ok (.ireturn, 1) := by decide +kernel
theorem dL_law_626 : decode cL_law 626 = .ok (.iload 5, 2) := by decide +kernel
theorem dL_law_628 : decode cL_law 628 = .ok (.ifCond .ne 15, 3) := by decide +kernel
theorem dL_law_631 : decode cL_law 631 = .ok (.aload_n 3, 1) := by decide +kernel
theorem dL_law_632 : decode cL_law 632 = .ok (.iconst 0, 1) := by decide +kernel
theorem dL_law_633 : decode cL_law 633 = .ok (.laload, 1) := by decide +kernel
theorem dL_law_634 : decode cL_law 634 = .ok (.iload 6, 2) := by decide +kernel
theorem dL_law_636 : decode cL_law 636 = .ok (.i2l, 1) := by decide +kernel
theorem dL_law_637 : decode cL_law 637 = .ok (.lcmp, 1) := by decide +kernel
theorem dL_law_638 : decode cL_law 638 = .ok (.ifCond .eq 5, 3) := by decide +kernel
theorem dL_law_641 : decode cL_law 641 = .ok (.iconst 0, 1) := by decide +kernel
theorem dL_law_642 : decode cL_law 642 = .ok (.ireturn, 1) := by decide +kernel
theorem dL_law_643 : decode cL_law 643 = .ok (.goto 759, 3) := by decide +kernel
theorem dL_law_646 : decode cL_law 646 = .ok (.aload_n 1, 1) := by decide +kernel
theorem dL_law_647 : decode cL_law 647 = .ok (.aload_n 0, 1) := by decide +kernel
theorem dL_law_648 : decode cL_law 648 = .ok (.iload 4, 2) := by decide +kernel
theorem dL_law_650 : decode cL_law 650 = .ok (.iconst 1, 1) := by decide +kernel
theorem dL_law_651 : decode cL_law 651 = .ok (.iadd, 1) := by decide +kernel
theorem dL_law_652 : decode cL_law 652 = .ok (.iaload, 1) := by decide +kernel
theorem dL_law_653 : decode cL_law 653 = .ok (.aload_n 3, 1) := by decide +kernel
theorem dL_law_654 : decode cL_law 654 = .ok (.invokestatic 121, 3) := by decide +kernel
theorem dL_law_657 : decode cL_law 657 = .ok (.istore 5, 2) := by decide +kernel
theorem dL_law_659 : decode cL_law 659 = .ok (.aload_n 2, 1) := by decide +kernel
theorem dL_law_660 : decode cL_law 660 = .ok (.aload_n 0, 1) := by decide +kernel
theorem dL_law_661 : decode cL_law 661 = .ok (.iload 4, 2) := by decide +kernel
theorem dL_law_663 : decode cL_law 663 = .ok (.iconst 1, 1) := by decide +kernel
theorem dL_law_664 : decode cL_law 664 = .ok (.iadd, 1) := by decide +kernel
theorem dL_law_665 : decode cL_law 665 = .ok (.iaload, 1) := by decide +kernel
theorem dL_law_666 : decode cL_law 666 = .ok (.invokevirtual 123, 3) := by decide +kernel
theorem dL_law_669 : decode cL_law 669 = .ok (.istore 6, 2) := by decide +kernel
theorem dL_law_671 : decode cL_law 671 = .ok (.aload_n 2, 1) := by decide +kernel
theorem dL_law_672 : decode cL_law 672 = .ok (.invokevirtual 86, 3) := by decide +kernel
theorem dL_law_675 : decode cL_law 675 = .ok (.iload 5, 2) := by decide +kernel
theorem dL_law_677 : decode cL_law 677 = .ok (.if_icmp .eq 5, 3) := by decide +kernel
theorem dL_law_680 : decode cL_law 680 = .ok (.iconst 0, 1) := by decide +kernel
theorem dL_law_681 : decode cL_law 681 = .ok (.ireturn, 1) := by decide +kernel
theorem dL_law_682 : decode cL_law 682 = .ok (.iload 5, 2) := by decide +kernel
theorem dL_law_684 : decode cL_law 684 = .ok (.ifCond .ne 15, 3) := by decide +kernel
theorem dL_law_687 : decode cL_law 687 = .ok (.aload_n 3, 1) := by decide +kernel
theorem dL_law_688 : decode cL_law 688 = .ok (.iconst 0, 1) := by decide +kernel
theorem dL_law_689 : decode cL_law 689 = .ok (.laload, 1) := by decide +kernel
theorem dL_law_690 : decode cL_law 690 = .ok (.iload 6, 2) := by decide +kernel
theorem dL_law_692 : decode cL_law 692 = .ok (.i2l, 1) := by decide +kernel
theorem dL_law_693 : decode cL_law 693 = .ok (.lcmp, 1) := by decide +kernel
theorem dL_law_694 : decode cL_law 694 = .ok (.ifCond .eq 5, 3) := by decide +kernel
theorem dL_law_697 : decode cL_law 697 = .ok (.iconst 0, 1) := by decide +kernel
theorem dL_law_698 : decode cL_law 698 = .ok (.ireturn, 1) := by decide +kernel
theorem dL_law_699 : decode cL_law 699 = .ok (.goto 703, 3) := by decide +kernel
theorem dL_law_702 : decode cL_law 702 = .ok (.aload_n 1, 1) := by decide +kernel
theorem dL_law_703 : decode cL_law 703 = .ok (.aload_n 0, 1) := by decide +kernel
theorem dL_law_704 : decode cL_law 704 = .ok (.iload 4, 2) := by decide +kernel
theorem dL_law_706 : decode cL_law 706 = .ok (.iconst 1, 1) := by decide +kernel
theorem dL_law_707 : decode cL_law 707 = .ok (.iadd, 1) := by decide +kernel
theorem dL_law_708 : decode cL_law 708 = .ok (.iaload, 1) := by decide +kernel
theorem dL_law_709 : decode cL_law 709 = .ok (.aload_n 3, 1) := by decide +kernel
theorem dL_law_710 : decode cL_law 710 = .ok (.invokestatic 124, 3) := by decide +kernel
theorem dL_law_713 : decode cL_law 713 = .ok (.istore 5, 2) := by decide +kernel
theorem dL_law_715 : decode cL_law 715 = .ok (.aload_n 2, 1) := by decide +kernel
theorem dL_law_716 : decode cL_law 716 = .ok (.aload_n 0, 1) := by decide +kernel
theorem dL_law_717 : decode cL_law 717 = .ok (.iload 4, 2) := by decide +kernel
theorem dL_law_719 : decode cL_law 719 = .ok (.iconst 1, 1) := by decide +kernel
theorem dL_law_720 : decode cL_law 720 = .ok (.iadd, 1) := by decide +kernel
theorem dL_law_721 : decode cL_law 721 = .ok (.iaload, 1) := by decide +kernel
theorem dL_law_722 : decode cL_law 722 = .ok (.invokevirtual 126, 3) := by decide +kernel
theorem dL_law_725 : decode cL_law 725 = .ok (.istore 6, 2) := by decide +kernel
theorem dL_law_727 : decode cL_law 727 = .ok (.aload_n 2, 1) := by decide +kernel
theorem dL_law_728 : decode cL_law 728 = .ok (.invokevirtual 86, 3) := by decide +kernel
theorem dL_law_731 : decode cL_law 731 = .ok (.iload 5, 2) := by decide +kernel
theorem dL_law_733 : decode cL_law 733 = .ok (.if_icmp .eq 5, 3) := by decide +kernel
theorem dL_law_736 : decode cL_law 736 = .ok (.iconst 0, 1) := by decide +kernel
theorem dL_law_737 : decode cL_law 737 = .ok (.ireturn, 1) := by decide +kernel
theorem dL_law_738 : decode cL_law 738 = .ok (.iload 5, 2) := by decide +kernel
theorem dL_law_740 : decode cL_law 740 = .ok (.ifCond .ne 15, 3) := by decide +kernel
theorem dL_law_743 : decode cL_law 743 = .ok (.aload_n 3, 1) := by decide +kernel
theorem dL_law_744 : decode cL_law 744 = .ok (.iconst 0, 1) := by decide +kernel
theorem dL_law_745 : decode cL_law 745 = .ok (.laload, 1) := by decide +kernel
theorem dL_law_746 : decode cL_law 746 = .ok (.iload 6, 2) := by decide +kernel
theorem dL_law_748 : decode cL_law 748 = .ok (.i2l, 1) := by decide +kernel
theorem dL_law_749 : decode cL_law 749 = .ok (.lcmp, 1) := by decide +kernel
theorem dL_law_750 : decode cL_law 750 = .ok (.ifCond .eq 5, 3) := by decide +kernel
theorem dL_law_753 : decode cL_law 753 = .ok (.iconst 0, 1) := by decide +kernel
theorem dL_law_754 : decode cL_law 754 = .ok (.ireturn, 1) := by decide +kernel
theorem dL_law_755 : decode cL_law 755 = .ok (.goto 647, 3) := by decide +kernel
theorem dL_law_758 : decode cL_law 758 = .ok (.aload_n 1, 1) := by decide +kernel
theorem dL_law_759 : decode cL_law 759 = .ok (.aload_n 3, 1) := by decide +kernel
theorem dL_law_760 : decode cL_law 760 = .ok (.invokestatic 127, 3) := by decide +kernel
theorem dL_law_763 : decode cL_law 763 = .ok (.istore 5, 2) := by decide +kernel
theorem dL_law_765 : decode cL_law 765 = .ok (.aload_n 2, 1) := by decide +kernel
theorem dL_law_766 : decode cL_law 766 = .ok (.invokevirtual 129, 3) := by decide +kernel
theorem dL_law_769 : decode cL_law 769 = .ok (.istore 6, 2) := by decide +kernel
theorem dL_law_771 : decode cL_law 771 = .ok (.aload_n 2, 1) := by decide +kernel
theorem dL_law_772 : decode cL_law 772 = .ok (.invokevirtual 86, 3) := by decide +kernel
theorem dL_law_775 : decode cL_law 775 = .ok (.iload 5, 2) := by decide +kernel
theorem dL_law_777 : decode cL_law 777 = .ok (.if_icmp .eq 5, 3) := by decide +kernel
theorem dL_law_780 : decode cL_law 780 = .ok (.iconst 0, 1) := by decide +kernel
theorem dL_law_781 : decode cL_law 781 = .ok (.ireturn, 1) := by decide +kernel
theorem dL_law_782 : decode cL_law 782 = .ok (.iload 5, 2) := by decide +kernel
theorem dL_law_784 : decode cL_law 784 = .ok (.ifCond .ne 15, 3) := by decide +kernel
theorem dL_law_787 : decode cL_law 787 = .ok (.aload_n 3, 1) := by decide +kernel
theorem dL_law_788 : decode cL_law 788 = .ok (.iconst 0, 1) := by decide +kernel
theorem dL_law_789 : decode cL_law 789 = .ok (.laload, 1) := by decide +kernel
theorem dL_law_790 : decode cL_law 790 = .ok (.iload 6, 2) := by decide +kernel
theorem dL_law_792 : decode cL_law 792 = .ok (.i2l, 1) := by decide +kernel
theorem dL_law_793 : decode cL_law 793 = .ok (.lcmp, 1) := by decide +kernel
theorem dL_law_794 : decode cL_law 794 = .ok (.ifCond .eq 5, 3) := by decide +kernel
theorem dL_law_797 : decode cL_law 797 = .ok (.iconst 0, 1) := by decide +kernel
theorem dL_law_798 : decode cL_law 798 = .ok (.ireturn, 1) := by decide +kernel
theorem dL_law_799 : decode cL_law 799 = .ok (.goto 603, 3) := by decide +kernel
theorem dL_law_802 : decode cL_law 802 = .ok (.aload_n 1, 1) := by decide +kernel
theorem dL_law_803 : decode cL_law 803 = .ok (.aload_n 0, 1) := by decide +kernel
theorem dL_law_804 : decode cL_law 804 = .ok (.iload 4, 2) := by decide +kernel
theorem dL_law_806 : decode cL_law 806 = .ok (.iconst 1, 1) := by decide +kernel
theorem dL_law_807 : decode cL_law 807 = .ok (.iadd, 1) := by decide +kernel
theorem dL_law_808 : decode cL_law 808 = .ok (.iaload, 1) := by decide +kernel
theorem dL_law_809 : decode cL_law 809 = .ok (.aload_n 0, 1) := by decide +kernel
theorem dL_law_810 : decode cL_law 810 = .ok (.iload 4, 2) := by decide +kernel
theorem dL_law_812 : decode cL_law 812 = .ok (.iconst 2, 1) := by decide +kernel
theorem dL_law_813 : decode cL_law 813 = .ok (.iadd, 1) := by decide +kernel
theorem dL_law_814 : decode cL_law 814 = .ok (.iaload, 1) := by decide +kernel
theorem dL_law_815 : decode cL_law 815 = .ok (.aload_n 3, 1) := by decide +kernel
theorem dL_law_816 : decode cL_law 816 = .ok (.invokestatic 130, 3) := by decide +kernel
theorem dL_law_819 : decode cL_law 819 = .ok (.istore 5, 2) := by decide +kernel
theorem dL_law_821 : decode cL_law 821 = .ok (.aload_n 2, 1) := by decide +kernel
theorem dL_law_822 : decode cL_law 822 = .ok (.aload_n 0, 1) := by decide +kernel
theorem dL_law_823 : decode cL_law 823 = .ok (.iload 4, 2) := by decide +kernel
theorem dL_law_825 : decode cL_law 825 = .ok (.iconst 1, 1) := by decide +kernel
theorem dL_law_826 : decode cL_law 826 = .ok (.iadd, 1) := by decide +kernel
theorem dL_law_827 : decode cL_law 827 = .ok (.iaload, 1) := by decide +kernel
theorem dL_law_828 : decode cL_law 828 = .ok (.aload_n 0, 1) := by decide +kernel
theorem dL_law_829 : decode cL_law 829 = .ok (.iload 4, 2) := by decide +kernel
theorem dL_law_831 : decode cL_law 831 = .ok (.iconst 2, 1) := by decide +kernel
theorem dL_law_832 : decode cL_law 832 = .ok (.iadd, 1) := by decide +kernel
theorem dL_law_833 : decode cL_law 833 = .ok (.iaload, 1) := by decide +kernel
theorem dL_law_834 : decode cL_law 834 = .ok (.invokevirtual 132, 3) := by decide +kernel
theorem dL_law_837 : decode cL_law 837 = .ok (.istore 6, 2) := by decide +kernel
theorem dL_law_839 : decode cL_law 839 = .ok (.aload_n 2, 1) := by decide +kernel
theorem dL_law_840 : decode cL_law 840 = .ok (.invokevirtual 86, 3) := by decide +kernel
theorem dL_law_843 : decode cL_law 843 = .ok (.iload 5, 2) := by decide +kernel
theorem dL_law_845 : decode cL_law 845 = .ok (.if_icmp .eq 5, 3) := by decide +kernel
theorem dL_law_848 : decode cL_law 848 = .ok (.iconst 0, 1) := by decide +kernel
theorem dL_law_849 : decode cL_law 849 = .ok (.ireturn, 1) := by decide +kernel
theorem dL_law_850 : decode cL_law 850 = .ok (.iload 5, 2) := by decide +kernel
theorem dL_law_852 : decode cL_law 852 = .ok (.ifCond .ne 15, 3) := by decide +kernel
theorem dL_law_855 : decode cL_law 855 = .ok (.aload_n 3, 1) := by decide +kernel
theorem dL_law_856 : decode cL_law 856 = .ok (.iconst 0, 1) := by decide +kernel
theorem dL_law_857 : decode cL_law 857 = .ok (.laload, 1) := by decide +kernel
theorem dL_law_858 : decode cL_law 858 = .ok (.iload 6, 2) := by decide +kernel
theorem dL_law_860 : decode cL_law 860 = .ok (.i2l, 1) := by decide +kernel
theorem dL_law_861 : decode cL_law 861 = .ok (.lcmp, 1) := by decide +kernel
theorem dL_law_862 : decode cL_law 862 = .ok (.ifCond .eq 5, 3) := by decide +kernel
theorem dL_law_865 : decode cL_law 865 = .ok (.iconst 0, 1) := by decide +kernel
theorem dL_law_866 : decode cL_law 866 = .ok (.ireturn, 1) := by decide +kernel
theorem dL_law_867 : decode cL_law 867 = .ok (.goto 535, 3) := by decide +kernel
theorem dL_law_870 : decode cL_law 870 = .ok (.aload_n 1, 1) := by decide +kernel
theorem dL_law_871 : decode cL_law 871 = .ok (.aload_n 0, 1) := by decide +kernel
theorem dL_law_872 : decode cL_law 872 = .ok (.iload 4, 2) := by decide +kernel
theorem dL_law_874 : decode cL_law 874 = .ok (.iconst 1, 1) := by decide +kernel
theorem dL_law_875 : decode cL_law 875 = .ok (.iadd, 1) := by decide +kernel
theorem dL_law_876 : decode cL_law 876 = .ok (.iaload, 1) := by decide +kernel
theorem dL_law_877 : decode cL_law 877 = .ok (.aload_n 0, 1) := by decide +kernel
theorem dL_law_878 : decode cL_law 878 = .ok (.iload 4, 2) := by decide +kernel
theorem dL_law_880 : decode cL_law 880 = .ok (.iconst 2, 1) := by decide +kernel
theorem dL_law_881 : decode cL_law 881 = .ok (.iadd, 1) := by decide +kernel
theorem dL_law_882 : decode cL_law 882 = .ok (.iaload, 1) := by decide +kernel
theorem dL_law_883 : decode cL_law 883 = .ok (.aload_n 3, 1) := by decide +kernel
theorem dL_law_884 : decode cL_law 884 = .ok (.invokestatic 133, 3) := by decide +kernel
theorem dL_law_887 : decode cL_law 887 = .ok (.istore 5, 2) := by decide +kernel
theorem dL_law_889 : decode cL_law 889 = .ok (.aload_n 2, 1) := by decide +kernel
theorem dL_law_890 : decode cL_law 890 = .ok (.aload_n 0, 1) := by decide +kernel
theorem dL_law_891 : decode cL_law 891 = .ok (.iload 4, 2) := by decide +kernel
theorem dL_law_893 : decode cL_law 893 = .ok (.iconst 1, 1) := by decide +kernel
theorem dL_law_894 : decode cL_law 894 = .ok (.iadd, 1) := by decide +kernel
theorem dL_law_895 : decode cL_law 895 = .ok (.iaload, 1) := by decide +kernel
theorem dL_law_896 : decode cL_law 896 = .ok (.aload_n 0, 1) := by decide +kernel
theorem dL_law_897 : decode cL_law 897 = .ok (.iload 4, 2) := by decide +kernel
theorem dL_law_899 : decode cL_law 899 = .ok (.iconst 2, 1) := by decide +kernel
theorem dL_law_900 : decode cL_law 900 = .ok (.iadd, 1) := by decide +kernel
theorem dL_law_901 : decode cL_law 901 = .ok (.iaload, 1) := by decide +kernel
theorem dL_law_902 : decode cL_law 902 = .ok (.invokevirtual 135, 3) := by decide +kernel
theorem dL_law_905 : decode cL_law 905 = .ok (.istore 6, 2) := by decide +kernel
theorem dL_law_907 : decode cL_law 907 = .ok (.aload_n 2, 1) := by decide +kernel
theorem dL_law_908 : decode cL_law 908 = .ok (.invokevirtual 86, 3) := by decide +kernel
theorem dL_law_911 : decode cL_law 911 = .ok (.iload 5, 2) := by decide +kernel
theorem dL_law_913 : decode cL_law 913 = .ok (.if_icmp .eq 5, 3) := by decide +kernel
theorem dL_law_916 : decode cL_law 916 = .ok (.iconst 0, 1) := by decide +kernel
theorem dL_law_917 : decode cL_law 917 = .ok (.ireturn, 1) := by decide +kernel
theorem dL_law_918 : decode cL_law 918 = .ok (.iload 5, 2) := by decide +kernel
theorem dL_law_920 : decode cL_law 920 = .ok (.ifCond .ne 15, 3) := by decide +kernel
theorem dL_law_923 : decode cL_law 923 = .ok (.aload_n 3, 1) := by decide +kernel
theorem dL_law_924 : decode cL_law 924 = .ok (.iconst 0, 1) := by decide +kernel
theorem dL_law_925 : decode cL_law 925 = .ok (.laload, 1) := by decide +kernel
theorem dL_law_926 : decode cL_law 926 = .ok (.iload 6, 2) := by decide +kernel
theorem dL_law_928 : decode cL_law 928 = .ok (.i2l, 1) := by decide +kernel
theorem dL_law_929 : decode cL_law 929 = .ok (.lcmp, 1) := by decide +kernel
theorem dL_law_930 : decode cL_law 930 = .ok (.ifCond .eq 5, 3) := by decide +kernel
theorem dL_law_933 : decode cL_law 933 = .ok (.iconst 0, 1) := by decide +kernel
theorem dL_law_934 : decode cL_law 934 = .ok (.ireturn, 1) := by decide +kernel
theorem dL_law_935 : decode cL_law 935 = .ok (.goto 467, 3) := by decide +kernel
theorem dL_law_938 : decode cL_law 938 = .ok (.aload_n 1, 1) := by decide +kernel
theorem dL_law_939 : decode cL_law 939 = .ok (.aload_n 0, 1) := by decide +kernel
theorem dL_law_940 : decode cL_law 940 = .ok (.iload 4, 2) := by decide +kernel
theorem dL_law_942 : decode cL_law 942 = .ok (.iconst 1, 1) := by decide +kernel
theorem dL_law_943 : decode cL_law 943 = .ok (.iadd, 1) := by decide +kernel
theorem dL_law_944 : decode cL_law 944 = .ok (.iaload, 1) := by decide +kernel
theorem dL_law_945 : decode cL_law 945 = .ok (.aload_n 3, 1) := by decide +kernel
theorem dL_law_946 : decode cL_law 946 = .ok (.invokestatic 136, 3) := by decide +kernel
theorem dL_law_949 : decode cL_law 949 = .ok (.istore 5, 2) := by decide +kernel
theorem dL_law_951 : decode cL_law 951 = .ok (.aload_n 2, 1) := by decide +kernel
theorem dL_law_952 : decode cL_law 952 = .ok (.aload_n 0, 1) := by decide +kernel
theorem dL_law_953 : decode cL_law 953 = .ok (.iload 4, 2) := by decide +kernel
theorem dL_law_955 : decode cL_law 955 = .ok (.iconst 1, 1) := by decide +kernel
theorem dL_law_956 : decode cL_law 956 = .ok (.iadd, 1) := by decide +kernel
theorem dL_law_957 : decode cL_law 957 = .ok (.iaload, 1) := by decide +kernel
theorem dL_law_958 : decode cL_law 958 = .ok (.invokevirtual 138, 3) := by decide +kernel
theorem dL_law_961 : decode cL_law 961 = .ok (.istore 6, 2) := by decide +kernel
theorem dL_law_963 : decode cL_law 963 = .ok (.aload_n 2, 1) := by decide +kernel
theorem dL_law_964 : decode cL_law 964 = .ok (.invokevirtual 86, 3) := by decide +kernel
theorem dL_law_967 : decode cL_law 967 = .ok (.iload 5, 2) := by decide +kernel
theorem dL_law_969 : decode cL_law 969 = .ok (.if_icmp .eq 5, 3) := by decide +kernel
theorem dL_law_972 : decode cL_law 972 = .ok (.iconst 0, 1) := by decide +kernel
theorem dL_law_973 : decode cL_law 973 = .ok (.ireturn, 1) := by decide +kernel
theorem dL_law_974 : decode cL_law 974 = .ok (.iload 5, 2) := by decide +kernel
theorem dL_law_976 : decode cL_law 976 = .ok (.ifCond .ne 15, 3) := by decide +kernel
theorem dL_law_979 : decode cL_law 979 = .ok (.aload_n 3, 1) := by decide +kernel
theorem dL_law_980 : decode cL_law 980 = .ok (.iconst 0, 1) := by decide +kernel
theorem dL_law_981 : decode cL_law 981 = .ok (.laload, 1) := by decide +kernel
theorem dL_law_982 : decode cL_law 982 = .ok (.iload 6, 2) := by decide +kernel
theorem dL_law_984 : decode cL_law 984 = .ok (.i2l, 1) := by decide +kernel
theorem dL_law_985 : decode cL_law 985 = .ok (.lcmp, 1) := by decide +kernel
theorem dL_law_986 : decode cL_law 986 = .ok (.ifCond .eq 5, 3) := by decide +kernel
theorem dL_law_989 : decode cL_law 989 = .ok (.iconst 0, 1) := by decide +kernel
theorem dL_law_990 : decode cL_law 990 = .ok (.ireturn, 1) := by decide +kernel
theorem dL_law_991 : decode cL_law 991 = .ok (.goto 411, 3) := by decide +kernel
theorem dL_law_994 : decode cL_law 994 = .ok (.aload_n 1, 1) := by decide +kernel
theorem dL_law_995 : decode cL_law 995 = .ok (.aload_n 0, 1) := by decide +kernel
theorem dL_law_996 : decode cL_law 996 = .ok (.iload 4, 2) := by decide +kernel
theorem dL_law_998 : decode cL_law 998 = .ok (.iconst 1, 1) := by decide +kernel
theorem dL_law_999 : decode cL_law 999 = .ok (.iadd, 1) := by decide +kernel
theorem dL_law_1000 : decode cL_law 1000 = .ok (.iaload, 1) := by decide +kernel
theorem dL_law_1001 : decode cL_law 1001 = .ok (.aload_n 3, 1) := by decide +kernel
theorem dL_law_1002 : decode cL_law 1002 = .ok (.invokestatic 139, 3) := by decide +kernel
theorem dL_law_1005 : decode cL_law 1005 = .ok (.istore 5, 2) := by decide +kernel
theorem dL_law_1007 : decode cL_law 1007 = .ok (.aload_n 2, 1) := by decide +kernel
theorem dL_law_1008 : decode cL_law 1008 = .ok (.aload_n 0, 1) := by decide +kernel
theorem dL_law_1009 : decode cL_law 1009 = .ok (.iload 4, 2) := by decide +kernel
theorem dL_law_1011 : decode cL_law 1011 = .ok (.iconst 1, 1) := by decide +kernel
theorem dL_law_1012 : decode cL_law 1012 = .ok (.iadd, 1) := by decide +kernel
theorem dL_law_1013 : decode cL_law 1013 = .ok (.iaload, 1) := by decide +kernel
theorem dL_law_1014 : decode cL_law 1014 = .ok (.invokevirtual 141, 3) := by decide +kernel
theorem dL_law_1017 : decode cL_law 1017 = .ok (.istore 6, 2) := by decide +kernel
theorem dL_law_1019 : decode cL_law 1019 = .ok (.aload_n 2, 1) := by decide +kernel
theorem dL_law_1020 : decode cL_law 1020 = .ok (.invokevirtual 86, 3) := by decide +kernel
theorem dL_law_1023 : decode cL_law 1023 = .ok (.iload 5, 2) := by decide +kernel
theorem dL_law_1025 : decode cL_law 1025 = .ok (.if_icmp .eq 5, 3) := by decide +kernel
theorem dL_law_1028 : decode cL_law 1028 = .ok (.iconst 0, 1) := by decide +kernel
theorem dL_law_1029 : decode cL_law 1029 = .ok (.ireturn, 1) := by decide +kernel
theorem dL_law_1030 : decode cL_law 1030 = .ok (.iload 5, 2) := by decide +kernel
theorem dL_law_1032 : decode cL_law 1032 = .ok (.ifCond .ne 15, 3) := by decide +kernel
theorem dL_law_1035 : decode cL_law 1035 = .ok (.aload_n 3, 1) := by decide +kernel
theorem dL_law_1036 : decode cL_law 1036 = .ok (.iconst 0, 1) := by decide +kernel
theorem dL_law_1037 : decode cL_law 1037 = .ok (.laload, 1) := by decide +kernel
theorem dL_law_1038 : decode cL_law 1038 = .ok (.iload 6, 2) := by decide +kernel
theorem dL_law_1040 : decode cL_law 1040 = .ok (.i2l, 1) := by decide +kernel
theorem dL_law_1041 : decode cL_law 1041 = .ok (.lcmp, 1) := by decide +kernel
theorem dL_law_1042 : decode cL_law 1042 = .ok (.ifCond .eq 5, 3) := by decide +kernel
theorem dL_law_1045 : decode cL_law 1045 = .ok (.iconst 0, 1) := by decide +kernel
theorem dL_law_1046 : decode cL_law 1046 = .ok (.ireturn, 1) := by decide +kernel
theorem dL_law_1047 : decode cL_law 1047 = .ok (.goto 355, 3) := by decide +kernel
theorem dL_law_1050 : decode cL_law 1050 = .ok (.aload_n 1, 1) := by decide +kernel
theorem dL_law_1051 : decode cL_law 1051 = .ok (.aload_n 0, 1) := by decide +kernel
theorem dL_law_1052 : decode cL_law 1052 = .ok (.iload 4, 2) := by decide +kernel
theorem dL_law_1054 : decode cL_law 1054 = .ok (.iconst 1, 1) := by decide +kernel
theorem dL_law_1055 : decode cL_law 1055 = .ok (.iadd, 1) := by decide +kernel
theorem dL_law_1056 : decode cL_law 1056 = .ok (.iaload, 1) := by decide +kernel
theorem dL_law_1057 : decode cL_law 1057 = .ok (.aload_n 0, 1) := by decide +kernel
theorem dL_law_1058 : decode cL_law 1058 = .ok (.iload 4, 2) := by decide +kernel
theorem dL_law_1060 : decode cL_law 1060 = .ok (.iconst 2, 1) := by decide +kernel
theorem dL_law_1061 : decode cL_law 1061 = .ok (.iadd, 1) := by decide +kernel
theorem dL_law_1062 : decode cL_law 1062 = .ok (.iaload, 1) := by decide +kernel
theorem dL_law_1063 : decode cL_law 1063 = .ok (.aload_n 0, 1) := by decide +kernel
theorem dL_law_1064 : decode cL_law 1064 = .ok (.iload 4, 2) := by decide +kernel
theorem dL_law_1066 : decode cL_law 1066 = .ok (.iconst 3, 1) := by decide +kernel
theorem dL_law_1067 : decode cL_law 1067 = .ok (.iadd, 1) := by decide +kernel
theorem dL_law_1068 : decode cL_law 1068 = .ok (.iaload, 1) := by decide +kernel
theorem dL_law_1069 : decode cL_law 1069 = .ok (.aload_n 3, 1) := by decide +kernel
theorem dL_law_1070 : decode cL_law 1070 = .ok (.invokestatic 142, 3) := by decide +kernel
theorem dL_law_1073 : decode cL_law 1073 = .ok (.istore 5, 2) := by decide +kernel
theorem dL_law_1075 : decode cL_law 1075 = .ok (.aload_n 2, 1) := by decide +kernel
theorem dL_law_1076 : decode cL_law 1076 = .ok (.aload_n 0, 1) := by decide +kernel
theorem dL_law_1077 : decode cL_law 1077 = .ok (.iload 4, 2) := by decide +kernel
theorem dL_law_1079 : decode cL_law 1079 = .ok (.iconst 1, 1) := by decide +kernel
theorem dL_law_1080 : decode cL_law 1080 = .ok (.iadd, 1) := by decide +kernel
theorem dL_law_1081 : decode cL_law 1081 = .ok (.iaload, 1) := by decide +kernel
theorem dL_law_1082 : decode cL_law 1082 = .ok (.aload_n 0, 1) := by decide +kernel
theorem dL_law_1083 : decode cL_law 1083 = .ok (.iload 4, 2) := by decide +kernel
theorem dL_law_1085 : decode cL_law 1085 = .ok (.iconst 2, 1) := by decide +kernel
theorem dL_law_1086 : decode cL_law 1086 = .ok (.iadd, 1) := by decide +kernel
theorem dL_law_1087 : decode cL_law 1087 = .ok (.iaload, 1) := by decide +kernel
theorem dL_law_1088 : decode cL_law 1088 = .ok (.aload_n 0, 1) := by decide +kernel
theorem dL_law_1089 : decode cL_law 1089 = .ok (.iload 4, 2) := by decide +kernel
theorem dL_law_1091 : decode cL_law 1091 = .ok (.iconst 3, 1) := by decide +kernel
theorem dL_law_1092 : decode cL_law 1092 = .ok (.iadd, 1) := by decide +kernel
theorem dL_law_1093 : decode cL_law 1093 = .ok (.iaload, 1) := by decide +kernel
theorem dL_law_1094 : decode cL_law 1094 = .ok (.invokevirtual 144, 3) := by decide +kernel
theorem dL_law_1097 : decode cL_law 1097 = .ok (.istore 6, 2) := by decide +kernel
theorem dL_law_1099 : decode cL_law 1099 = .ok (.aload_n 2, 1) := by decide +kernel
theorem dL_law_1100 : decode cL_law 1100 = .ok (.invokevirtual 86, 3) := by decide +kernel
theorem dL_law_1103 : decode cL_law 1103 = .ok (.iload 5, 2) := by decide +kernel
theorem dL_law_1105 : decode cL_law 1105 = .ok (.if_icmp .eq 5, 3) := by decide +kernel
theorem dL_law_1108 : decode cL_law 1108 = .ok (.iconst 0, 1) := by decide +kernel
theorem dL_law_1109 : decode cL_law 1109 = .ok (.ireturn, 1) := by decide +kernel
theorem dL_law_1110 : decode cL_law 1110 = .ok (.iload 5, 2) := by decide +kernel
theorem dL_law_1112 : decode cL_law 1112 = .ok (.ifCond .ne 15, 3) := by decide +kernel
theorem dL_law_1115 : decode cL_law 1115 = .ok (.aload_n 3, 1) := by decide +kernel
theorem dL_law_1116 : decode cL_law 1116 = .ok (.iconst 0, 1) := by decide +kernel
theorem dL_law_1117 : decode cL_law 1117 = .ok (.laload, 1) := by decide +kernel
theorem dL_law_1118 : decode cL_law 1118 = .ok (.iload 6, 2) := by decide +kernel
theorem dL_law_1120 : decode cL_law 1120 = .ok (.i2l, 1) := by decide +kernel
theorem dL_law_1121 : decode cL_law 1121 = .ok (.lcmp, 1) := by decide +kernel
theorem dL_law_1122 : decode cL_law 1122 = .ok (.ifCond .eq 5, 3) := by decide +kernel
theorem dL_law_1125 : decode cL_law 1125 = .ok (.iconst 0, 1) := by decide +kernel
theorem dL_law_1126 : decode cL_law 1126 = .ok (.ireturn, 1) := by decide +kernel
theorem dL_law_1127 : decode cL_law 1127 = .ok (.goto 275, 3) := by decide +kernel
theorem dL_law_1130 : decode cL_law 1130 = .ok (.aload_n 1, 1) := by decide +kernel
theorem dL_law_1131 : decode cL_law 1131 = .ok (.aload_n 0, 1) := by decide +kernel
theorem dL_law_1132 : decode cL_law 1132 = .ok (.iload 4, 2) := by decide +kernel
theorem dL_law_1134 : decode cL_law 1134 = .ok (.iconst 1, 1) := by decide +kernel
theorem dL_law_1135 : decode cL_law 1135 = .ok (.iadd, 1) := by decide +kernel
theorem dL_law_1136 : decode cL_law 1136 = .ok (.iaload, 1) := by decide +kernel
theorem dL_law_1137 : decode cL_law 1137 = .ok (.aload_n 0, 1) := by decide +kernel
theorem dL_law_1138 : decode cL_law 1138 = .ok (.iload 4, 2) := by decide +kernel
theorem dL_law_1140 : decode cL_law 1140 = .ok (.iconst 2, 1) := by decide +kernel
theorem dL_law_1141 : decode cL_law 1141 = .ok (.iadd, 1) := by decide +kernel
theorem dL_law_1142 : decode cL_law 1142 = .ok (.iaload, 1) := by decide +kernel
theorem dL_law_1143 : decode cL_law 1143 = .ok (.aload_n 0, 1) := by decide +kernel
theorem dL_law_1144 : decode cL_law 1144 = .ok (.iload 4, 2) := by decide +kernel
theorem dL_law_1146 : decode cL_law 1146 = .ok (.iconst 3, 1) := by decide +kernel
theorem dL_law_1147 : decode cL_law 1147 = .ok (.iadd, 1) := by decide +kernel
theorem dL_law_1148 : decode cL_law 1148 = .ok (.iaload, 1) := by decide +kernel
theorem dL_law_1149 : decode cL_law 1149 = .ok (.aload_n 3, 1) := by decide +kernel
theorem dL_law_1150 : decode cL_law 1150 = .ok (.invokestatic 145, 3) := by decide +kernel
theorem dL_law_1153 : decode cL_law 1153 = .ok (.istore 5, 2) := by decide +kernel
theorem dL_law_1155 : decode cL_law 1155 = .ok (.aload_n 2, 1) := by decide +kernel
theorem dL_law_1156 : decode cL_law 1156 = .ok (.aload_n 0, 1) := by decide +kernel
theorem dL_law_1157 : decode cL_law 1157 = .ok (.iload 4, 2) := by decide +kernel
theorem dL_law_1159 : decode cL_law 1159 = .ok (.iconst 1, 1) := by decide +kernel
theorem dL_law_1160 : decode cL_law 1160 = .ok (.iadd, 1) := by decide +kernel
theorem dL_law_1161 : decode cL_law 1161 = .ok (.iaload, 1) := by decide +kernel
theorem dL_law_1162 : decode cL_law 1162 = .ok (.aload_n 0, 1) := by decide +kernel
theorem dL_law_1163 : decode cL_law 1163 = .ok (.iload 4, 2) := by decide +kernel
theorem dL_law_1165 : decode cL_law 1165 = .ok (.iconst 2, 1) := by decide +kernel
theorem dL_law_1166 : decode cL_law 1166 = .ok (.iadd, 1) := by decide +kernel
theorem dL_law_1167 : decode cL_law 1167 = .ok (.iaload, 1) := by decide +kernel
theorem dL_law_1168 : decode cL_law 1168 = .ok (.aload_n 0, 1) := by decide +kernel
theorem dL_law_1169 : decode cL_law 1169 = .ok (.iload 4, 2) := by decide +kernel
theorem dL_law_1171 : decode cL_law 1171 = .ok (.iconst 3, 1) := by decide +kernel
theorem dL_law_1172 : decode cL_law 1172 = .ok (.iadd, 1) := by decide +kernel
theorem dL_law_1173 : decode cL_law 1173 = .ok (.iaload, 1) := by decide +kernel
theorem dL_law_1174 : decode cL_law 1174 = .ok (.invokevirtual 147, 3) := by decide +kernel
theorem dL_law_1177 : decode cL_law 1177 = .ok (.istore 6, 2) := by decide +kernel
theorem dL_law_1179 : decode cL_law 1179 = .ok (.aload_n 2, 1) := by decide +kernel
theorem dL_law_1180 : decode cL_law 1180 = .ok (.invokevirtual 86, 3) := by decide +kernel
theorem dL_law_1183 : decode cL_law 1183 = .ok (.iload 5, 2) := by decide +kernel
theorem dL_law_1185 : decode cL_law 1185 = .ok (.if_icmp .eq 5, 3) := by decide +kernel
theorem dL_law_1188 : decode cL_law 1188 = .ok (.iconst 0, 1) := by decide +kernel
theorem dL_law_1189 : decode cL_law 1189 = .ok (.ireturn, 1) := by decide +kernel
theorem dL_law_1190 : decode cL_law 1190 = .ok (.iload 5, 2) := by decide +kernel
theorem dL_law_1192 : decode cL_law 1192 = .ok (.ifCond .ne 15, 3) := by decide +kernel
theorem dL_law_1195 : decode cL_law 1195 = .ok (.aload_n 3, 1) := by decide +kernel
theorem dL_law_1196 : decode cL_law 1196 = .ok (.iconst 0, 1) := by decide +kernel
theorem dL_law_1197 : decode cL_law 1197 = .ok (.laload, 1) := by decide +kernel
theorem dL_law_1198 : decode cL_law 1198 = .ok (.iload 6, 2) := by decide +kernel
theorem dL_law_1200 : decode cL_law 1200 = .ok (.i2l, 1) := by decide +kernel
theorem dL_law_1201 : decode cL_law 1201 = .ok (.lcmp, 1) := by decide +kernel
theorem dL_law_1202 : decode cL_law 1202 = .ok (.ifCond .eq 5, 3) := by decide +kernel
theorem dL_law_1205 : decode cL_law 1205 = .ok (.iconst 0, 1) := by decide +kernel
theorem dL_law_1206 : decode cL_law 1206 = .ok (.ireturn, 1) := by decide +kernel
theorem dL_law_1207 : decode cL_law 1207 = .ok (.goto 195, 3) := by decide +kernel
theorem dL_law_1210 : decode cL_law 1210 = .ok (.aload_n 1, 1) := by decide +kernel
theorem dL_law_1211 : decode cL_law 1211 = .ok (.aload_n 0, 1) := by decide +kernel
theorem dL_law_1212 : decode cL_law 1212 = .ok (.iload 4, 2) := by decide +kernel
theorem dL_law_1214 : decode cL_law 1214 = .ok (.iconst 1, 1) := by decide +kernel
theorem dL_law_1215 : decode cL_law 1215 = .ok (.iadd, 1) := by decide +kernel
theorem dL_law_1216 : decode cL_law 1216 = .ok (.iaload, 1) := by decide +kernel
theorem dL_law_1217 : decode cL_law 1217 = .ok (.aload_n 3, 1) := by decide +kernel
theorem dL_law_1218 : decode cL_law 1218 = .ok (.invokestatic 148, 3) := by decide +kernel
theorem dL_law_1221 : decode cL_law 1221 = .ok (.istore 5, 2) := by decide +kernel
theorem dL_law_1223 : decode cL_law 1223 = .ok (.aload_n 2, 1) := by decide +kernel
theorem dL_law_1224 : decode cL_law 1224 = .ok (.aload_n 0, 1) := by decide +kernel
theorem dL_law_1225 : decode cL_law 1225 = .ok (.iload 4, 2) := by decide +kernel
theorem dL_law_1227 : decode cL_law 1227 = .ok (.iconst 1, 1) := by decide +kernel
theorem dL_law_1228 : decode cL_law 1228 = .ok (.iadd, 1) := by decide +kernel
theorem dL_law_1229 : decode cL_law 1229 = .ok (.iaload, 1) := by decide +kernel
theorem dL_law_1230 : decode cL_law 1230 = .ok (.invokevirtual 150, 3) := by decide +kernel
theorem dL_law_1233 : decode cL_law 1233 = .ok (.istore 6, 2) := by decide +kernel
theorem dL_law_1235 : decode cL_law 1235 = .ok (.aload_n 2, 1) := by decide +kernel
theorem dL_law_1236 : decode cL_law 1236 = .ok (.invokevirtual 86, 3) := by decide +kernel
theorem dL_law_1239 : decode cL_law 1239 = .ok (.iload 5, 2) := by decide +kernel
theorem dL_law_1241 : decode cL_law 1241 = .ok (.if_icmp .eq 5, 3) := by decide +kernel
theorem dL_law_1244 : decode cL_law 1244 = .ok (.iconst 0, 1) := by decide +kernel
theorem dL_law_1245 : decode cL_law 1245 = .ok (.ireturn, 1) := by decide +kernel
theorem dL_law_1246 : decode cL_law 1246 = .ok (.iload 5, 2) := by decide +kernel
theorem dL_law_1248 : decode cL_law 1248 = .ok (.ifCond .ne 15, 3) := by decide +kernel
theorem dL_law_1251 : decode cL_law 1251 = .ok (.aload_n 3, 1) := by decide +kernel
theorem dL_law_1252 : decode cL_law 1252 = .ok (.iconst 0, 1) := by decide +kernel
theorem dL_law_1253 : decode cL_law 1253 = .ok (.laload, 1) := by decide +kernel
theorem dL_law_1254 : decode cL_law 1254 = .ok (.iload 6, 2) := by decide +kernel
theorem dL_law_1256 : decode cL_law 1256 = .ok (.i2l, 1) := by decide +kernel
theorem dL_law_1257 : decode cL_law 1257 = .ok (.lcmp, 1) := by decide +kernel
theorem dL_law_1258 : decode cL_law 1258 = .ok (.ifCond .eq 5, 3) := by decide +kernel
theorem dL_law_1261 : decode cL_law 1261 = .ok (.iconst 0, 1) := by decide +kernel
theorem dL_law_1262 : decode cL_law 1262 = .ok (.ireturn, 1) := by decide +kernel
theorem dL_law_1263 : decode cL_law 1263 = .ok (.goto 139, 3) := by decide +kernel
theorem dL_law_1266 : decode cL_law 1266 = .ok (.aload_n 1, 1) := by decide +kernel
theorem dL_law_1267 : decode cL_law 1267 = .ok (.aload_n 0, 1) := by decide +kernel
theorem dL_law_1268 : decode cL_law 1268 = .ok (.iload 4, 2) := by decide +kernel
theorem dL_law_1270 : decode cL_law 1270 = .ok (.iconst 1, 1) := by decide +kernel
theorem dL_law_1271 : decode cL_law 1271 = .ok (.iadd, 1) := by decide +kernel
theorem dL_law_1272 : decode cL_law 1272 = .ok (.iaload, 1) := by decide +kernel
theorem dL_law_1273 : decode cL_law 1273 = .ok (.aload_n 0, 1) := by decide +kernel
theorem dL_law_1274 : decode cL_law 1274 = .ok (.iload 4, 2) := by decide +kernel
theorem dL_law_1276 : decode cL_law 1276 = .ok (.iconst 2, 1) := by decide +kernel
theorem dL_law_1277 : decode cL_law 1277 = .ok (.iadd, 1) := by decide +kernel
theorem dL_law_1278 : decode cL_law 1278 = .ok (.iaload, 1) := by decide +kernel
theorem dL_law_1279 : decode cL_law 1279 = .ok (.aload_n 3, 1) := by decide +kernel
theorem dL_law_1280 : decode cL_law 1280 = .ok (.invokestatic 151, 3) := by decide +kernel
theorem dL_law_1283 : decode cL_law 1283 = .ok (.istore 5, 2) := by decide +kernel
theorem dL_law_1285 : decode cL_law 1285 = .ok (.aload_n 2, 1) := by decide +kernel
theorem dL_law_1286 : decode cL_law 1286 = .ok (.aload_n 0, 1) := by decide +kernel
theorem dL_law_1287 : decode cL_law 1287 = .ok (.iload 4, 2) := by decide +kernel
theorem dL_law_1289 : decode cL_law 1289 = .ok (.iconst 1, 1) := by decide +kernel
theorem dL_law_1290 : decode cL_law 1290 = .ok (.iadd, 1) := by decide +kernel
theorem dL_law_1291 : decode cL_law 1291 = .ok (.iaload, 1) := by decide +kernel
theorem dL_law_1292 : decode cL_law 1292 = .ok (.aload_n 0, 1) := by decide +kernel
theorem dL_law_1293 : decode cL_law 1293 = .ok (.iload 4, 2) := by decide +kernel
theorem dL_law_1295 : decode cL_law 1295 = .ok (.iconst 2, 1) := by decide +kernel
theorem dL_law_1296 : decode cL_law 1296 = .ok (.iadd, 1) := by decide +kernel
theorem dL_law_1297 : decode cL_law 1297 = .ok (.iaload, 1) := by decide +kernel
theorem dL_law_1298 : decode cL_law 1298 = .ok (.invokevirtual 153, 3) := by decide +kernel
theorem dL_law_1301 : decode cL_law 1301 = .ok (.istore 6, 2) := by decide +kernel
theorem dL_law_1303 : decode cL_law 1303 = .ok (.aload_n 2, 1) := by decide +kernel
theorem dL_law_1304 : decode cL_law 1304 = .ok (.invokevirtual 86, 3) := by decide +kernel
theorem dL_law_1307 : decode cL_law 1307 = .ok (.iload 5, 2) := by decide +kernel
theorem dL_law_1309 : decode cL_law 1309 = .ok (.if_icmp .eq 5, 3) := by decide +kernel
theorem dL_law_1312 : decode cL_law 1312 = .ok (.iconst 0, 1) := by decide +kernel
theorem dL_law_1313 : decode cL_law 1313 = .ok (.ireturn, 1) := by decide +kernel
theorem dL_law_1314 : decode cL_law 1314 = .ok (.iload 5, 2) := by decide +kernel
theorem dL_law_1316 : decode cL_law 1316 = .ok (.ifCond .ne 15, 3) := by decide +kernel
theorem dL_law_1319 : decode cL_law 1319 = .ok (.aload_n 3, 1) := by decide +kernel
theorem dL_law_1320 : decode cL_law 1320 = .ok (.iconst 0, 1) := by decide +kernel
theorem dL_law_1321 : decode cL_law 1321 = .ok (.laload, 1) := by decide +kernel
theorem dL_law_1322 : decode cL_law 1322 = .ok (.iload 6, 2) := by decide +kernel
theorem dL_law_1324 : decode cL_law 1324 = .ok (.i2l, 1) := by decide +kernel
theorem dL_law_1325 : decode cL_law 1325 = .ok (.lcmp, 1) := by decide +kernel
theorem dL_law_1326 : decode cL_law 1326 = .ok (.ifCond .eq 5, 3) := by decide +kernel
theorem dL_law_1329 : decode cL_law 1329 = .ok (.iconst 0, 1) := by decide +kernel
theorem dL_law_1330 : decode cL_law 1330 = .ok (.ireturn, 1) := by decide +kernel
theorem dL_law_1331 : decode cL_law 1331 = .ok (.goto 71, 3) := by decide +kernel
theorem dL_law_1334 : decode cL_law 1334 = .ok (.aload_n 1, 1) := by decide +kernel
theorem dL_law_1335 : decode cL_law 1335 = .ok (.invokevirtual 154, 3) := by decide +kernel
theorem dL_law_1338 : decode cL_law 1338 = .ok (.aload_n 2, 1) := by decide +kernel
theorem dL_law_1339 : decode cL_law 1339 = .ok (.invokevirtual 157, 3) := by decide +kernel
theorem dL_law_1342 : decode cL_law 1342 = .ok (.if_icmp .eq 60, 3) := by decide +kernel
theorem dL_law_1345 : decode cL_law 1345 = .ok (.iconst 0, 1) := by decide +kernel
theorem dL_law_1346 : decode cL_law 1346 = .ok (.ireturn, 1) := by decide +kernel
theorem dL_law_1347 : decode cL_law 1347 = .ok (.aload_n 1, 1) := by decide +kernel
theorem dL_law_1348 : decode cL_law 1348 = .ok (.invokevirtual 158, 3) := by decide +kernel
theorem dL_law_1351 : decode cL_law 1351 = .ok (.dstore 5, 2) := by decide +kernel
theorem dL_law_1353 : decode cL_law 1353 = .ok (.aload_n 2, 1) := by decide +kernel
theorem dL_law_1354 : decode cL_law 1354 = .ok (.invokevirtual 162, 3) := by decide +kernel
theorem dL_law_1357 : decode cL_law 1357 = .ok (.dstore 7, 2) := by decide +kernel
theorem dL_law_1359 : decode cL_law 1359 = .ok (.dload 5, 2) := by decide +kernel
theorem dL_law_1361 : decode cL_law 1361 = .ok (.dload 7, 2) := by decide +kernel
theorem dL_law_1363 : decode cL_law 1363 = .ok (.dcmp .l, 1) := by decide +kernel
theorem dL_law_1364 : decode cL_law 1364 = .ok (.ifCond .eq 21, 3) := by decide +kernel
theorem dL_law_1367 : decode cL_law 1367 = .ok (.dload 5, 2) := by decide +kernel
theorem dL_law_1369 : decode cL_law 1369 = .ok (.dload 5, 2) := by decide +kernel
theorem dL_law_1371 : decode cL_law 1371 = .ok (.dcmp .l, 1) := by decide +kernel
theorem dL_law_1372 : decode cL_law 1372 = .ok (.ifCond .eq 11, 3) := by decide +kernel
theorem dL_law_1375 : decode cL_law 1375 = .ok (.dload 7, 2) := by decide +kernel
theorem dL_law_1377 : decode cL_law 1377 = .ok (.dload 7, 2) := by decide +kernel
theorem dL_law_1379 : decode cL_law 1379 = .ok (.dcmp .l, 1) := by decide +kernel
theorem dL_law_1380 : decode cL_law 1380 = .ok (.ifCond .ne 5, 3) := by decide +kernel
theorem dL_law_1383 : decode cL_law 1383 = .ok (.iconst 0, 1) := by decide +kernel
theorem dL_law_1384 : decode cL_law 1384 = .ok (.ireturn, 1) := by decide +kernel
theorem dL_law_1385 : decode cL_law 1385 = .ok (.goto 17, 3) := by decide +kernel
theorem dL_law_1388 : decode cL_law 1388 = .ok (.aload_n 1, 1) := by decide +kernel
theorem dL_law_1389 : decode cL_law 1389 = .ok (.invokevirtual 163, 3) := by decide +kernel
theorem dL_law_1392 : decode cL_law 1392 = .ok (.aload_n 2, 1) := by decide +kernel
theorem dL_law_1393 : decode cL_law 1393 = .ok (.invokevirtual 167, 3) := by decide +kernel
theorem dL_law_1396 : decode cL_law 1396 = .ok (.lcmp, 1) := by decide +kernel
theorem dL_law_1397 : decode cL_law 1397 = .ok (.ifCond .eq 5, 3) := by decide +kernel
theorem dL_law_1400 : decode cL_law 1400 = .ok (.iconst 0, 1) := by decide +kernel
theorem dL_law_1401 : decode cL_law 1401 = .ok (.ireturn, 1) := by decide +kernel
theorem dL_law_1402 : decode cL_law 1402 = .ok (.iinc 4 4, 3) := by decide +kernel
theorem dL_law_1405 : decode cL_law 1405 = .ok (.goto (-1382), 3) := by decide +kernel
theorem dL_law_1408 : decode cL_law 1408 = .ok (.iconst 1, 1) := by decide +kernel
theorem dL_law_1409 : decode cL_law 1409 = .ok (.ireturn, 1) := by decide +kernel
