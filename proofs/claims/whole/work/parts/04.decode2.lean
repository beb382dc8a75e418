theorem dX6_digest_103 : decode cX6_digest 103 = .ok (.lconst 1, 1) := by decide +kernel
theorem dX6_digest_104 : decode cX6_digest 104 = .ok (.goto 4, 3) := by decide +kernel
theorem dX6_digest_107 : decode cX6_digest 107 = .ok (.lconst 0, 1) := by decide +kernel
theorem dX6_digest_108 : decode cX6_digest 108 = .ok (.invokestatic 207, 3) := by decide +kernel
theorem dX6_digest_111 : decode cX6_digest 111 = .ok (.lstore_n 1, 1) := by decide +kernel
theorem dX6_digest_112 : decode cX6_digest 112 = .ok (.iinc 3 1, 3) := by decide +kernel
theorem dX6_digest_115 : decode cX6_digest 115 = .ok (.goto (-29), 3) := by decide +kernel
theorem dX6_digest_118 : decode cX6_digest 118 = .ok (.aload_n 0, 1) := by decide +kernel
theorem dX6_digest_119 : decode cX6_digest 119 = .ok (.lload_n 1, 1) := by decide +kernel
theorem dX6_digest_120 : decode cX6_digest 120 = .ok (.invokevirtual 215, 3) := by decide +kernel
theorem dX6_digest_123 : decode cX6_digest 123 = .ok (.lreturn, 1) := by decide +kernel
theorem dX6_mixed_0 : decode cX6_mixed 0 = .ok (.ldc2_w 218, 3) := by decide +kernel
theorem dX6_mixed_3 : decode cX6_mixed 3 = .ok (.lload_n 0, 1) := by decide +kernel
theorem dX6_mixed_4 : decode cX6_mixed 4 = .ok (.lmul, 1) := by decide +kernel
theorem dX6_mixed_5 : decode cX6_mixed 5 = .ok (.lload_n 2, 1) := by decide +kernel
theorem dX6_mixed_6 : decode cX6_mixed 6 = .ok (.ladd, 1) := by decide +kernel
theorem dX6_mixed_7 : decode cX6_mixed 7 = .ok (.lreturn, 1) := by decide +kernel
theorem dX6_withAccounts_0 : decode cX6_withAccounts 0 = .ok (.lload_n 1, 1) := by decide +kernel
theorem dX6_withAccounts_1 : decode cX6_withAccounts 1 = .ok (.lstore_n 3, 1) := by decide +kernel
theorem dX6_withAccounts_2 : decode cX6_withAccounts 2 = .ok (.iconst 0, 1) := by decide +kernel
theorem dX6_withAccounts_3 : decode cX6_withAccounts 3 = .ok (.istore 5, 2) := by decide +kernel
theorem dX6_withAccounts_5 : decode cX6_withAccounts 5 = .ok (.iload 5, 2) := by decide +kernel
theorem dX6_withAccounts_7 : decode cX6_withAccounts 7 = .ok (.bipush 12, 2) := by decide +kernel
theorem dX6_withAccounts_9 : decode cX6_withAccounts 9 = .ok (.if_icmp .ge 21, 3) := by decide +kernel
theorem dX6_withAccounts_12 : decode cX6_withAccounts 12 = .ok (.lload_n 3, 1) := by decide +kernel
theorem dX6_withAccounts_13 : decode cX6_withAccounts 13 = .ok (.aload_n 0, 1) := by decide +kernel
theorem dX6_withAccounts_14 : decode cX6_withAccounts 14 = .ok (.iload 5, 2) := by decide +kernel
theorem dX6_withAccounts_16 : decode cX6_withAccounts 16 = .ok (.invokevirtual 166, 3) := by decide +kernel
theorem dX6_withAccounts_19 : decode cX6_withAccounts 19 = .ok (.i2l, 1) := by decide +kernel
theorem dX6_withAccounts_20 : decode cX6_withAccounts 20 = .ok (.invokestatic 207, 3) := by decide +kernel
theorem dX6_withAccounts_23 : decode cX6_withAccounts 23 = .ok (.lstore_n 3, 1) := by decide +kernel
theorem dX6_withAccounts_24 : decode cX6_withAccounts 24 = .ok (.iinc 5 1, 3) := by decide +kernel
theorem dX6_withAccounts_27 : decode cX6_withAccounts 27 = .ok (.goto (-22), 3) := by decide +kernel
theorem dX6_withAccounts_30 : decode cX6_withAccounts 30 = .ok (.iconst 1, 1) := by decide +kernel
theorem dX6_withAccounts_31 : decode cX6_withAccounts 31 = .ok (.istore 5, 2) := by decide +kernel
theorem dX6_withAccounts_33 : decode cX6_withAccounts 33 = .ok (.iload 5, 2) := by decide +kernel
theorem dX6_withAccounts_35 : decode cX6_withAccounts 35 = .ok (.iconst 4, 1) := by decide +kernel
theorem dX6_withAccounts_36 : decode cX6_withAccounts 36 = .ok (.if_icmp .gt 24, 3) := by decide +kernel
theorem dX6_withAccounts_39 : decode cX6_withAccounts 39 = .ok (.lload_n 3, 1) := by decide +kernel
theorem dX6_withAccounts_40 : decode cX6_withAccounts 40 = .ok (.aload_n 0, 1) := by decide +kernel
theorem dX6_withAccounts_41 : decode cX6_withAccounts 41 = .ok (.getfield 10, 3) := by decide +kernel
theorem dX6_withAccounts_44 : decode cX6_withAccounts 44 = .ok (.iload 5, 2) := by decide +kernel
theorem dX6_withAccounts_46 : decode cX6_withAccounts 46 = .ok (.invokevirtual 169, 3) := by decide +kernel
theorem dX6_withAccounts_49 : decode cX6_withAccounts 49 = .ok (.i2l, 1) := by decide +kernel
theorem dX6_withAccounts_50 : decode cX6_withAccounts 50 = .ok (.invokestatic 207, 3) := by decide +kernel
theorem dX6_withAccounts_53 : decode cX6_withAccounts 53 = .ok (.lstore_n 3, 1) := by decide +kernel
theorem dX6_withAccounts_54 : decode cX6_withAccounts 54 = .ok (.iinc 5 1, 3) := by decide +kernel
theorem dX6_withAccounts_57 : decode cX6_withAccounts 57 = .ok (.goto (-24), 3) := by decide +kernel
theorem dX6_withAccounts_60 : decode cX6_withAccounts 60 = .ok (.lload_n 3, 1) := by decide +kernel
theorem dX6_withAccounts_61 : decode cX6_withAccounts 61 = .ok (.lreturn, 1) := by decide +kernel
theorem dX6_withBeds_0 : decode cX6_withBeds 0 = .ok (.lload_n 1, 1) := by decide +kernel
theorem dX6_withBeds_1 : decode cX6_withBeds 1 = .ok (.lstore_n 3, 1) := by decide +kernel
theorem dX6_withBeds_2 : decode cX6_withBeds 2 = .ok (.iconst 0, 1) := by decide +kernel
theorem dX6_withBeds_3 : decode cX6_withBeds 3 = .ok (.istore 5, 2) := by decide +kernel
theorem dX6_withBeds_5 : decode cX6_withBeds 5 = .ok (.iload 5, 2) := by decide +kernel
theorem dX6_withBeds_7 : decode cX6_withBeds 7 = .ok (.iconst 4, 1) := by decide +kernel
theorem dX6_withBeds_8 : decode cX6_withBeds 8 = .ok (.if_icmp .ge 45, 3) := by decide +kernel
theorem dX6_withBeds_11 : decode cX6_withBeds 11 = .ok (.iconst 0, 1) := by decide +kernel
theorem dX6_withBeds_12 : decode cX6_withBeds 12 = .ok (.istore 6, 2) := by decide +kernel
theorem dX6_withBeds_14 : decode cX6_withBeds 14 = .ok (.iload 6, 2) := by decide +kernel
theorem dX6_withBeds_16 : decode cX6_withBeds 16 = .ok (.bipush 12, 2) := by decide +kernel
theorem dX6_withBeds_18 : decode cX6_withBeds 18 = .ok (.if_icmp .ge 29, 3) := by decide +kernel
theorem dX6_withBeds_21 : decode cX6_withBeds 21 = .ok (.lload_n 3, 1) := by decide +kernel
theorem dX6_withBeds_22 : decode cX6_withBeds 22 = .ok (.aload_n 0, 1) := by decide +kernel
theorem dX6_withBeds_23 : decode cX6_withBeds 23 = .ok (.getfield 10, 3) := by decide +kernel
theorem dX6_withBeds_26 : decode cX6_withBeds 26 = .ok (.getfield 151, 3) := by decide +kernel
theorem dX6_withBeds_29 : decode cX6_withBeds 29 = .ok (.iload 5, 2) := by decide +kernel
theorem dX6_withBeds_31 : decode cX6_withBeds 31 = .ok (.iload 6, 2) := by decide +kernel
theorem dX6_withBeds_33 : decode cX6_withBeds 33 = .ok (.invokevirtual 155, 3) := by decide +kernel
theorem dX6_withBeds_36 : decode cX6_withBeds 36 = .ok (.i2l, 1) := by decide +kernel
theorem dX6_withBeds_37 : decode cX6_withBeds 37 = .ok (.invokestatic 207, 3) := by decide +kernel
theorem dX6_withBeds_40 : decode cX6_withBeds 40 = .ok (.lstore_n 3, 1) := by decide +kernel
theorem dX6_withBeds_41 : decode cX6_withBeds 41 = .ok (.iinc 6 1, 3) := by decide +kernel
theorem dX6_withBeds_44 : decode cX6_withBeds 44 = .ok (.goto (-30), 3) := by decide +kernel
theorem dX6_withBeds_47 : decode cX6_withBeds 47 = .ok (.iinc 5 1, 3) := by decide +kernel
theorem dX6_withBeds_50 : decode cX6_withBeds 50 = .ok (.goto (-45), 3) := by decide +kernel
theorem dX6_withBeds_53 : decode cX6_withBeds 53 = .ok (.lload_n 3, 1) := by decide +kernel
theorem dX6_withBeds_54 : decode cX6_withBeds 54 = .ok (.lreturn, 1) := by decide +kernel
theorem dX6_withLodgers_0 : decode cX6_withLodgers 0 = .ok (.lload_n 1, 1) := by decide +kernel
theorem dX6_withLodgers_1 : decode cX6_withLodgers 1 = .ok (.lstore_n 3, 1) := by decide +kernel
theorem dX6_withLodgers_2 : decode cX6_withLodgers 2 = .ok (.iconst 0, 1) := by decide +kernel
theorem dX6_withLodgers_3 : decode cX6_withLodgers 3 = .ok (.istore 5, 2) := by decide +kernel
theorem dX6_withLodgers_5 : decode cX6_withLodgers 5 = .ok (.iload 5, 2) := by decide +kernel
theorem dX6_withLodgers_7 : decode cX6_withLodgers 7 = .ok (.bipush 10, 2) := by decide +kernel
theorem dX6_withLodgers_9 : decode cX6_withLodgers 9 = .ok (.if_icmp .ge 117, 3) := by decide +kernel
theorem dX6_withLodgers_12 : decode cX6_withLodgers 12 = .ok (.iconst 0, 1) := by decide +kernel
theorem dX6_withLodgers_13 : decode cX6_withLodgers 13 = .ok (.istore 6, 2) := by decide +kernel
theorem dX6_withLodgers_15 : decode cX6_withLodgers 15 = .ok (.iload 6, 2) := by decide +kernel
theorem dX6_withLodgers_17 : decode cX6_withLodgers 17 = .ok (.bipush 7, 2) := by decide +kernel
theorem dX6_withLodgers_19 : decode cX6_withLodgers 19 = .ok (.if_icmp .ge 26, 3) := by decide +kernel
theorem dX6_withLodgers_22 : decode cX6_withLodgers 22 = .ok (.lload_n 3, 1) := by decide +kernel
theorem dX6_withLodgers_23 : decode cX6_withLodgers 23 = .ok (.aload_n 0, 1) := by decide +kernel
theorem dX6_withLodgers_24 : decode cX6_withLodgers 24 = .ok (.getfield 10, 3) := by decide +kernel
theorem dX6_withLodgers_27 : decode cX6_withLodgers 27 = .ok (.iload 5, 2) := by decide +kernel
theorem dX6_withLodgers_29 : decode cX6_withLodgers 29 = .ok (.iload 6, 2) := by decide +kernel
theorem dX6_withLodgers_31 : decode cX6_withLodgers 31 = .ok (.invokevirtual 163, 3) := by decide +kernel
theorem dX6_withLodgers_34 : decode cX6_withLodgers 34 = .ok (.i2l, 1) := by decide +kernel
theorem dX6_withLodgers_35 : decode cX6_withLodgers 35 = .ok (.invokestatic 207, 3) := by decide +kernel
theorem dX6_withLodgers_38 : decode cX6_withLodgers 38 = .ok (.lstore_n 3, 1) := by decide +kernel
theorem dX6_withLodgers_39 : decode cX6_withLodgers 39 = .ok (.iinc 6 1, 3) := by decide +kernel
theorem dX6_withLodgers_42 : decode cX6_withLodgers 42 = .ok (.goto (-27), 3) := by decide +kernel
theorem dX6_withLodgers_45 : decode cX6_withLodgers 45 = .ok (.lload_n 3, 1) := by decide +kernel
theorem dX6_withLodgers_46 : decode cX6_withLodgers 46 = .ok (.aload_n 0, 1) := by decide +kernel
theorem dX6_withLodgers_47 : decode cX6_withLodgers 47 = .ok (.getfield 10, 3) := by decide +kernel
theorem dX6_withLodgers_50 : decode cX6_withLodgers 50 = .ok (.getfield 151, 3) := by decide +kernel
theorem dX6_withLodgers_53 : decode cX6_withLodgers 53 = .ok (.iload 5, 2) := by decide +kernel
theorem dX6_withLodgers_55 : decode cX6_withLodgers 55 = .ok (.iconst 0, 1) := by decide +kernel
theorem dX6_withLodgers_56 : decode cX6_withLodgers 56 = .ok (.invokevirtual 185, 3) := by decide +kernel
theorem dX6_withLodgers_59 : decode cX6_withLodgers 59 = .ok (.i2l, 1) := by decide +kernel
theorem dX6_withLodgers_60 : decode cX6_withLodgers 60 = .ok (.invokestatic 207, 3) := by decide +kernel
theorem dX6_withLodgers_63 : decode cX6_withLodgers 63 = .ok (.lstore_n 3, 1) := by decide +kernel
theorem dX6_withLodgers_64 : decode cX6_withLodgers 64 = .ok (.lload_n 3, 1) := by decide +kernel
theorem dX6_withLodgers_65 : decode cX6_withLodgers 65 = .ok (.aload_n 0, 1) := by decide +kernel
theorem dX6_withLodgers_66 : decode cX6_withLodgers 66 = .ok (.getfield 10, 3) := by decide +kernel
theorem dX6_withLodgers_69 : decode cX6_withLodgers 69 = .ok (.getfield 151, 3) := by decide +kernel
theorem dX6_withLodgers_72 : decode cX6_withLodgers 72 = .ok (.iload 5, 2) := by decide +kernel
theorem dX6_withLodgers_74 : decode cX6_withLodgers 74 = .ok (.bipush 6, 2) := by decide +kernel
theorem dX6_withLodgers_76 : decode cX6_withLodgers 76 = .ok (.invokevirtual 185, 3) := by decide +kernel
theorem dX6_withLodgers_79 : decode cX6_withLodgers 79 = .ok (.i2l, 1) := by decide +kernel
theorem dX6_withLodgers_80 : decode cX6_withLodgers 80 = .ok (.invokestatic 207, 3) := by decide +kernel
theorem dX6_withLodgers_83 : decode cX6_withLodgers 83 = .ok (.lstore_n 3, 1) := by decide +kernel
theorem dX6_withLodgers_84 : decode cX6_withLodgers 84 = .ok (.lload_n 3, 1) := by decide +kernel
theorem dX6_withLodgers_85 : decode cX6_withLodgers 85 = .ok (.aload_n 0, 1) := by decide +kernel
theorem dX6_withLodgers_86 : decode cX6_withLodgers 86 = .ok (.getfield 10, 3) := by decide +kernel
theorem dX6_withLodgers_89 : decode cX6_withLodgers 89 = .ok (.iload 5, 2) := by decide +kernel
theorem dX6_withLodgers_91 : decode cX6_withLodgers 91 = .ok (.bipush 8, 2) := by decide +kernel
theorem dX6_withLodgers_93 : decode cX6_withLodgers 93 = .ok (.iconst 3, 1) := by decide +kernel
theorem dX6_withLodgers_94 : decode cX6_withLodgers 94 = .ok (.invokevirtual 172, 3) := by decide +kernel
theorem dX6_withLodgers_97 : decode cX6_withLodgers 97 = .ok (.i2l, 1) := by decide +kernel
theorem dX6_withLodgers_98 : decode cX6_withLodgers 98 = .ok (.invokestatic 207, 3) := by decide +kernel
theorem dX6_withLodgers_101 : decode cX6_withLodgers 101 = .ok (.lstore_n 3, 1) := by decide +kernel
theorem dX6_withLodgers_102 : decode cX6_withLodgers 102 = .ok (.lload_n 3, 1) := by decide +kernel
theorem dX6_withLodgers_103 : decode cX6_withLodgers 103 = .ok (.aload_n 0, 1) := by decide +kernel
theorem dX6_withLodgers_104 : decode cX6_withLodgers 104 = .ok (.getfield 10, 3) := by decide +kernel
theorem dX6_withLodgers_107 : decode cX6_withLodgers 107 = .ok (.iload 5, 2) := by decide +kernel
theorem dX6_withLodgers_109 : decode cX6_withLodgers 109 = .ok (.bipush 8, 2) := by decide +kernel
theorem dX6_withLodgers_111 : decode cX6_withLodgers 111 = .ok (.iconst 3, 1) := by decide +kernel
theorem dX6_withLodgers_112 : decode cX6_withLodgers 112 = .ok (.invokevirtual 175, 3) := by decide +kernel
theorem dX6_withLodgers_115 : decode cX6_withLodgers 115 = .ok (.i2l, 1) := by decide +kernel
theorem dX6_withLodgers_116 : decode cX6_withLodgers 116 = .ok (.invokestatic 207, 3) := by decide +kernel
theorem dX6_withLodgers_119 : decode cX6_withLodgers 119 = .ok (.lstore_n 3, 1) := by decide +kernel
theorem dX6_withLodgers_120 : decode cX6_withLodgers 120 = .ok (.iinc 5 1, 3) := by decide +kernel
theorem dX6_withLodgers_123 : decode cX6_withLodgers 123 = .ok (.goto (-118), 3) := by decide +kernel
theorem dX6_withLodgers_126 : decode cX6_withLodgers 126 = .ok (.lload_n 3, 1) := by decide +kernel
theorem dX6_withLodgers_127 : decode cX6_withLodgers 127 = .ok (.lreturn, 1) := by decide +kernel
theorem dX6_withText_0 : decode cX6_withText 0 = .ok (.lload_n 1, 1) := by decide +kernel
theorem dX6_withText_1 : decode cX6_withText 1 = .ok (.aload_n 0, 1) := by decide +kernel
theorem dX6_withText_2 : decode cX6_withText 2 = .ok (.getfield 38, 3) := by decide +kernel
theorem dX6_withText_5 : decode cX6_withText 5 = .ok (.invokevirtual 220, 3) := by decide +kernel
theorem dX6_withText_8 : decode cX6_withText 8 = .ok (.i2l, 1) := by decide +kernel
theorem dX6_withText_9 : decode cX6_withText 9 = .ok (.invokestatic 207, 3) := by decide +kernel
theorem dX6_withText_12 : decode cX6_withText 12 = .ok (.lstore_n 3, 1) := by decide +kernel
theorem dX6_withText_13 : decode cX6_withText 13 = .ok (.iconst 0, 1) := by decide +kernel
theorem dX6_withText_14 : decode cX6_withText 14 = .ok (.istore 5, 2) := by decide +kernel
theorem dX6_withText_16 : decode cX6_withText 16 = .ok (.iload 5, 2) := by decide +kernel
theorem dX6_withText_18 : decode cX6_withText 18 = .ok (.aload_n 0, 1) := by decide +kernel
theorem dX6_withText_19 : decode cX6_withText 19 = .ok (.getfield 38, 3) := by decide +kernel
theorem dX6_withText_22 : decode cX6_withText 22 = .ok (.invokevirtual 220, 3) := by decide +kernel
theorem dX6_withText_25 : decode cX6_withText 25 = .ok (.if_icmp .ge 24, 3) := by decide +kernel
theorem dX6_withText_28 : decode cX6_withText 28 = .ok (.lload_n 3, 1) := by decide +kernel
theorem dX6_withText_29 : decode cX6_withText 29 = .ok (.aload_n 0, 1) := by decide +kernel
theorem dX6_withText_30 : decode cX6_withText 30 = .ok (.getfield 38, 3) := by decide +kernel
theorem dX6_withText_33 : decode cX6_withText 33 = .ok (.iload 5, 2) := by decide +kernel
theorem dX6_withText_35 : decode cX6_withText 35 = .ok (.invokevirtual 223, 3) := by decide +kernel
theorem dX6_withText_38 : decode cX6_withText 38 = .ok (.i2l, 1) := by decide +kernel
theorem dX6_withText_39 : decode cX6_withText 39 = .ok (.invokestatic 207, 3) := by decide +kernel
theorem dX6_withText_42 : decode cX6_withText 42 = .ok (.lstore_n 3, 1) := by decide +kernel
theorem dX6_withText_43 : decode cX6_withText 43 = .ok (.iinc 5 1, 3) := by decide +kernel
theorem dX6_withText_46 : decode cX6_withText 46 = .ok (.goto (-30), 3) := by decide +kernel
theorem dX6_withText_49 : decode cX6_withText 49 = .ok (.lload_n 3, 1) := by decide +kernel
theorem dX6_withText_50 : decode cX6_withText 50 = .ok (.lreturn, 1) := by decide +kernel
theorem dX6_bitsOf_0 : decode cX6_bitsOf 0 = .ok (.dload_n 0, 1) := by decide +kernel
theorem dX6_bitsOf_1 : decode cX6_bitsOf 1 = .ok (.dconst 0, 1) := by decide +kernel
theorem dX6_bitsOf_2 : decode cX6_bitsOf 2 = .ok (.dcmp .l, 1) := by decide +kernel
theorem dX6_bitsOf_3 : decode cX6_bitsOf 3 = .ok (.ifCond .gt 5, 3) := by decide +kernel
theorem dX6_bitsOf_6 : decode cX6_bitsOf 6 = .ok (.lconst 0, 1) := by decide +kernel
theorem dX6_bitsOf_7 : decode cX6_bitsOf 7 = .ok (.lreturn, 1) := by decide +kernel
theorem dX6_bitsOf_8 : decode cX6_bitsOf 8 = .ok (.dload_n 0, 1) := by decide +kernel
theorem dX6_bitsOf_9 : decode cX6_bitsOf 9 = .ok (.dstore_n 2, 1) := by decide +kernel
theorem dX6_bitsOf_10 : decode cX6_bitsOf 10 = .ok (.ldc2_w 226, 3) := by decide +kernel
theorem dX6_bitsOf_13 : decode cX6_bitsOf 13 = .ok (.lstore 4, 2) := by decide +kernel
theorem dX6_bitsOf_15 : decode cX6_bitsOf 15 = .ok (.iconst 0, 1) := by decide +kernel
theorem dX6_bitsOf_16 : decode cX6_bitsOf 16 = .ok (.istore 6, 2) := by decide +kernel
theorem dX6_bitsOf_18 : decode cX6_bitsOf 18 = .ok (.iload 6, 2) := by decide +kernel
theorem dX6_bitsOf_20 : decode cX6_bitsOf 20 = .ok (.sipush 1022, 3) := by decide +kernel
theorem dX6_bitsOf_23 : decode cX6_bitsOf 23 = .ok (.if_icmp .ge 27, 3) := by decide +kernel
theorem dX6_bitsOf_26 : decode cX6_bitsOf 26 = .ok (.dload_n 2, 1) := by decide +kernel
theorem dX6_bitsOf_27 : decode cX6_bitsOf 27 = .ok (.dconst 1, 1) := by decide +kernel
theorem dX6_bitsOf_28 : decode cX6_bitsOf 28 = .ok (.dcmp .g, 1) := by decide +kernel
theorem dX6_bitsOf_29 : decode cX6_bitsOf 29 = .ok (.ifCond .ge 21, 3) := by decide +kernel
theorem dX6_bitsOf_32 : decode cX6_bitsOf 32 = .ok (.dload_n 2, 1) := by decide +kernel
theorem dX6_bitsOf_33 : decode cX6_bitsOf 33 = .ok (.ldc2_w 228, 3) := by decide +kernel
theorem dX6_bitsOf_36 : decode cX6_bitsOf 36 = .ok (.dmul, 1) := by decide +kernel
theorem dX6_bitsOf_37 : decode cX6_bitsOf 37 = .ok (.dstore_n 2, 1) := by decide +kernel
theorem dX6_bitsOf_38 : decode cX6_bitsOf 38 = .ok (.lload 4, 2) := by decide +kernel
theorem dX6_bitsOf_40 : decode cX6_bitsOf 40 = .ok (.lconst 1, 1) := by decide +kernel
theorem dX6_bitsOf_41 : decode cX6_bitsOf 41 = .ok (.lsub, 1) := by decide +kernel
theorem dX6_bitsOf_42 : decode cX6_bitsOf 42 = .ok (.lstore 4, 2) := by decide +kernel
theorem dX6_bitsOf_44 : decode cX6_bitsOf 44 = .ok (.iinc 6 1, 3) := by decide +kernel
theorem dX6_bitsOf_47 : decode cX6_bitsOf 47 = .ok (.goto (-29), 3) := by decide +kernel
theorem dX6_bitsOf_50 : decode cX6_bitsOf 50 = .ok (.ldc2_w 230, 3) := by decide +kernel
theorem dX6_bitsOf_53 : decode cX6_bitsOf 53 = .ok (.lstore 6, 2) := by decide +kernel
theorem dX6_bitsOf_55 : decode cX6_bitsOf 55 = .ok (.lload 4, 2) := by decide +kernel
theorem dX6_bitsOf_57 : decode cX6_bitsOf 57 = .ok (.bipush 52, 2) := by decide +kernel
theorem dX6_bitsOf_59 : decode cX6_bitsOf 59 = .ok (.lshl, 1) := by decide +kernel
theorem dX6_bitsOf_60 : decode cX6_bitsOf 60 = .ok (.dload_n 2, 1) := by decide +kernel
theorem dX6_bitsOf_61 : decode cX6_bitsOf 61 = .ok (.lload 6, 2) := by decide +kernel
theorem dX6_bitsOf_63 : decode cX6_bitsOf 63 = .ok (.l2d, 1) := by decide +kernel
theorem dX6_bitsOf_64 : decode cX6_bitsOf 64 = .ok (.dmul, 1) := by decide +kernel
theorem dX6_bitsOf_65 : decode cX6_bitsOf 65 = .ok (.d2l, 1) := by decide +kernel
theorem dX6_bitsOf_66 : decode cX6_bitsOf 66 = .ok (.lload 6, 2) := by decide +kernel
theorem dX6_bitsOf_68 : decode cX6_bitsOf 68 = .ok (.lsub, 1) := by decide +kernel
theorem dX6_bitsOf_69 : decode cX6_bitsOf 69 = .ok (.ladd, 1) := by decide +kernel
theorem dX6_bitsOf_70 : decode cX6_bitsOf 70 = .ok (.lreturn, 1) := by decide +kernel
theorem dX6_checkLodger_0 : decode cX6_checkLodger 0 = .ok (.iload_n 0, 1) := by decide +kernel
theorem dX6_checkLodger_1 : decode cX6_checkLodger 1 = .ok (.ifCond .lt 9, 3) := by decide +kernel
theorem dX6_checkLodger_4 : decode cX6_checkLodger 4 = .ok (.iload_n 0, 1) := by decide +kernel
theorem dX6_checkLodger_5 : decode cX6_checkLodger 5 = .ok (.bipush 10, 2) := by decide +kernel
theorem dX6_checkLodger_7 : decode cX6_checkLodger 7 = .ok (.if_icmp .lt 13, 3) := by decide +kernel
theorem dX6_checkLodger_10 : decode cX6_checkLodger 10 = .ok (.new 146, 3) := by decide +kernel
theorem dX6_checkLodger_13 : decode cX6_checkLodger 13 = .ok (.dup, 1) := by decide +kernel
theorem dX6_checkLodger_14 : decode cX6_checkLodger 14 = .ok (.ldc 232, 2) := by decide +kernel
theorem dX6_checkLodger_16 : decode cX6_checkLodger 16 = .ok (.invokespecial 150, 3) := by decide +kernel
theorem dX6_checkLodger_19 : decode cX6_checkLodger 19 = .ok (.athrow, 1) := by decide +kernel
theorem dX6_checkLodger_20 : decode cX6_checkLodger 20 = .ok (.return_, 1) := by decide +kernel
theorem dX6_checkHour_0 : decode cX6_checkHour 0 = .ok (.iload_n 0, 1) := by decide +kernel
theorem dX6_checkHour_1 : decode cX6_checkHour 1 = .ok (.iconst 0, 1) := by decide +kernel
theorem dX6_checkHour_2 : decode cX6_checkHour 2 = .ok (.bipush 11, 2) := by decide +kernel
theorem dX6_checkHour_4 : decode cX6_checkHour 4 = .ok (.invokestatic 160, 3) := by decide +kernel
theorem dX6_checkHour_7 : decode cX6_checkHour 7 = .ok (.return_, 1) := by decide +kernel
theorem dX6_checkNeed_0 : decode cX6_checkNeed 0 = .ok (.iload_n 0, 1) := by decide +kernel
theorem dX6_checkNeed_1 : decode cX6_checkNeed 1 = .ok (.iconst 0, 1) := by decide +kernel
theorem dX6_checkNeed_2 : decode cX6_checkNeed 2 = .ok (.bipush 9, 2) := by decide +kernel
theorem dX6_checkNeed_4 : decode cX6_checkNeed 4 = .ok (.invokestatic 160, 3) := by decide +kernel
theorem dX6_checkNeed_7 : decode cX6_checkNeed 7 = .ok (.return_, 1) := by decide +kernel
theorem dX6_checkSlot_0 : decode cX6_checkSlot 0 = .ok (.iload_n 0, 1) := by decide +kernel
theorem dX6_checkSlot_1 : decode cX6_checkSlot 1 = .ok (.iconst 0, 1) := by decide +kernel
theorem dX6_checkSlot_2 : decode cX6_checkSlot 2 = .ok (.iconst 1, 1) := by decide +kernel
theorem dX6_checkSlot_3 : decode cX6_checkSlot 3 = .ok (.invokestatic 160, 3) := by decide +kernel
theorem dX6_checkSlot_6 : decode cX6_checkSlot 6 = .ok (.return_, 1) := by decide +kernel
theorem dX6_checkRange_0 : decode cX6_checkRange 0 = .ok (.iload_n 0, 1) := by decide +kernel
theorem dX6_checkRange_1 : decode cX6_checkRange 1 = .ok (.iload_n 1, 1) := by decide +kernel
theorem dX6_checkRange_2 : decode cX6_checkRange 2 = .ok (.if_icmp .lt 8, 3) := by decide +kernel
theorem dX6_checkRange_5 : decode cX6_checkRange 5 = .ok (.iload_n 0, 1) := by decide +kernel
theorem dX6_checkRange_6 : decode cX6_checkRange 6 = .ok (.iload_n 2, 1) := by decide +kernel
theorem dX6_checkRange_7 : decode cX6_checkRange 7 = .ok (.if_icmp .le 13, 3) := by decide +kernel
theorem dX6_checkRange_10 : decode cX6_checkRange 10 = .ok (.new 91, 3) := by decide +kernel
theorem dX6_checkRange_13 : decode cX6_checkRange 13 = .ok (.dup, 1) := by decide +kernel
theorem dX6_checkRange_14 : decode cX6_checkRange 14 = .ok (.ldc 234, 2) := by decide +kernel
theorem dX6_checkRange_16 : decode cX6_checkRange 16 = .ok (.invokespecial 95, 3) := by decide +kernel
theorem dX6_checkRange_19 : decode cX6_checkRange 19 = .ok (.athrow, 1) := by decide +kernel
theorem dX6_checkRange_20 : decode cX6_checkRange 20 = .ok (.return_, 1) := by decide +kernel
theorem dX6_checkAsking_0 : decode cX6_checkAsking 0 = .ok (.iload_n 0, 1) := by decide +kernel
theorem dX6_checkAsking_1 : decode cX6_checkAsking 1 = .ok (.invokestatic 53, 3) := by decide +kernel
theorem dX6_checkAsking_4 : decode cX6_checkAsking 4 = .ok (.iload_n 1, 1) := by decide +kernel
theorem dX6_checkAsking_5 : decode cX6_checkAsking 5 = .ok (.iload_n 2, 1) := by decide +kernel
theorem dX6_checkAsking_6 : decode cX6_checkAsking 6 = .ok (.invokestatic 236, 3) := by decide +kernel
theorem dX6_checkAsking_9 : decode cX6_checkAsking 9 = .ok (.ifCond .ne 13, 3) := by decide +kernel
theorem dX6_checkAsking_12 : decode cX6_checkAsking 12 = .ok (.new 91, 3) := by decide +kernel
theorem dX6_checkAsking_15 : decode cX6_checkAsking 15 = .ok (.dup, 1) := by decide +kernel
theorem dX6_checkAsking_16 : decode cX6_checkAsking 16 = .ok (.ldc 240, 2) := by decide +kernel
theorem dX6_checkAsking_18 : decode cX6_checkAsking 18 = .ok (.invokespecial 95, 3) := by decide +kernel
theorem dX6_checkAsking_21 : decode cX6_checkAsking 21 = .ok (.athrow, 1) := by decide +kernel
theorem dX6_checkAsking_22 : decode cX6_checkAsking 22 = .ok (.return_, 1) := by decide +kernel
theorem dX6_isWithinNight_0 : decode cX6_isWithinNight 0 = .ok (.iload_n 0, 1) := by decide +kernel
theorem dX6_isWithinNight_1 : decode cX6_isWithinNight 1 = .ok (.ifCond .lt 32, 3) := by decide +kernel
theorem dX6_isWithinNight_4 : decode cX6_isWithinNight 4 = .ok (.iload_n 0, 1) := by decide +kernel
theorem dX6_isWithinNight_5 : decode cX6_isWithinNight 5 = .ok (.bipush 12, 2) := by decide +kernel
theorem dX6_isWithinNight_7 : decode cX6_isWithinNight 7 = .ok (.if_icmp .ge 26, 3) := by decide +kernel
theorem dX6_isWithinNight_10 : decode cX6_isWithinNight 10 = .ok (.iload_n 1, 1) := by decide +kernel
theorem dX6_isWithinNight_11 : decode cX6_isWithinNight 11 = .ok (.iconst 1, 1) := by decide +kernel
theorem dX6_isWithinNight_12 : decode cX6_isWithinNight 12 = .ok (.if_icmp .lt 21, 3) := by decide +kernel
theorem dX6_isWithinNight_15 : decode cX6_isWithinNight 15 = .ok (.iload_n 1, 1) := by decide +kernel
theorem dX6_isWithinNight_16 : decode cX6_isWithinNight 16 = .ok (.bipush 9, 2) := by decide +kernel
theorem dX6_isWithinNight_18 : decode cX6_isWithinNight 18 = .ok (.if_icmp .gt 15, 3) := by decide +kernel
theorem dX6_isWithinNight_21 : decode cX6_isWithinNight 21 = .ok (.iload_n 0, 1) := by decide +kernel
theorem dX6_isWithinNight_22 : decode cX6_isWithinNight 22 = .ok (.iload_n 1, 1) := by decide +kernel
theorem dX6_isWithinNight_23 : decode cX6_isWithinNight 23 = .ok (.iadd, 1) := by decide +kernel
theorem dX6_isWithinNight_24 : decode cX6_isWithinNight 24 = .ok (.bipush 12, 2) := by decide +kernel
theorem dX6_isWithinNight_26 : decode cX6_isWithinNight 26 = .ok (.if_icmp .gt 7, 3) := by decide +kernel
theorem dX6_isWithinNight_29 : decode cX6_isWithinNight 29 = .ok (.iconst 1, 1) := by decide +kernel
theorem dX6_isWithinNight_30 : decode cX6_isWithinNight 30 = .ok (.goto 4, 3) := by decide +kernel
theorem dX6_isWithinNight_33 : decode cX6_isWithinNight 33 = .ok (.iconst 0, 1) := by decide +kernel
theorem dX6_isWithinNight_34 : decode cX6_isWithinNight 34 = .ok (.ireturn, 1) := by decide +kernel
theorem dX6_accountOf_0 : decode cX6_accountOf 0 = .ok (.iload_n 1, 1) := by decide +kernel
theorem dX6_accountOf_1 : decode cX6_accountOf 1 = .ok (.bipush 11, 2) := by decide +kernel
theorem dX6_accountOf_3 : decode cX6_accountOf 3 = .ok (.if_icmp .ne 10, 3) := by decide +kernel
theorem dX6_accountOf_6 : decode cX6_accountOf 6 = .ok (.aload_n 0, 1) := by decide +kernel
theorem dX6_accountOf_7 : decode cX6_accountOf 7 = .ok (.getfield 137, 3) := by decide +kernel
theorem dX6_accountOf_10 : decode cX6_accountOf 10 = .ok (.goto 11, 3) := by decide +kernel
theorem dX6_accountOf_13 : decode cX6_accountOf 13 = .ok (.aload_n 0, 1) := by decide +kernel
theorem dX6_accountOf_14 : decode cX6_accountOf 14 = .ok (.getfield 10, 3) := by decide +kernel
theorem dX6_accountOf_17 : decode cX6_accountOf 17 = .ok (.iload_n 1, 1) := by decide +kernel
theorem dX6_accountOf_18 : decode cX6_accountOf 18 = .ok (.invokevirtual 125, 3) := by decide +kernel
theorem dX6_accountOf_21 : decode cX6_accountOf 21 = .ok (.ireturn, 1) := by decide +kernel
theorem dX6_saveState_0 : decode cX6_saveState 0 = .ok (.aload_n 0, 1) := by decide +kernel
theorem dX6_saveState_1 : decode cX6_saveState 1 = .ok (.getfield 25, 3) := by decide +kernel
theorem dX6_saveState_4 : decode cX6_saveState 4 = .ok (.aload_n 0, 1) := by decide +kernel
theorem dX6_saveState_5 : decode cX6_saveState 5 = .ok (.getfield 143, 3) := by decide +kernel
theorem dX6_saveState_8 : decode cX6_saveState 8 = .ok (.aload_n 0, 1) := by decide +kernel
theorem dX6_saveState_9 : decode cX6_saveState 9 = .ok (.getfield 10, 3) := by decide +kernel
theorem dX6_saveState_12 : decode cX6_saveState 12 = .ok (.invokevirtual 121, 3) := by decide +kernel
theorem dX6_saveState_15 : decode cX6_saveState 15 = .ok (.aload_n 0, 1) := by decide +kernel
theorem dX6_saveState_16 : decode cX6_saveState 16 = .ok (.aload_n 0, 1) := by decide +kernel
theorem dX6_saveState_17 : decode cX6_saveState 17 = .ok (.getfield 143, 3) := by decide +kernel
theorem dX6_saveState_20 : decode cX6_saveState 20 = .ok (.iconst 1, 1) := by decide +kernel
theorem dX6_saveState_21 : decode cX6_saveState 21 = .ok (.iadd, 1) := by decide +kernel
theorem dX6_saveState_22 : decode cX6_saveState 22 = .ok (.bipush 6, 2) := by decide +kernel
theorem dX6_saveState_24 : decode cX6_saveState 24 = .ok (.if_icmp .ge 12, 3) := by decide +kernel
theorem dX6_saveState_27 : decode cX6_saveState 27 = .ok (.aload_n 0, 1) := by decide +kernel
theorem dX6_saveState_28 : decode cX6_saveState 28 = .ok (.getfield 143, 3) := by decide +kernel
theorem dX6_saveState_31 : decode cX6_saveState 31 = .ok (.iconst 1, 1) := by decide +kernel
theorem dX6_saveState_32 : decode cX6_saveState 32 = .ok (.iadd, 1) := by decide +kernel
theorem dX6_saveState_33 : decode cX6_saveState 33 = .ok (.goto 4, 3) := by decide +kernel
theorem dX6_saveState_36 : decode cX6_saveState 36 = .ok (.iconst 0, 1) := by decide +kernel
theorem dX6_saveState_37 : decode cX6_saveState 37 = .ok (.putfield 143, 3) := by decide +kernel
theorem dX6_saveState_40 : decode cX6_saveState 40 = .ok (.aload_n 0, 1) := by decide +kernel
theorem dX6_saveState_41 : decode cX6_saveState 41 = .ok (.getfield 137, 3) := by decide +kernel
theorem dX6_saveState_44 : decode cX6_saveState 44 = .ok (.bipush 6, 2) := by decide +kernel
theorem dX6_saveState_46 : decode cX6_saveState 46 = .ok (.if_icmp .ge 13, 3) := by decide +kernel
theorem dX6_saveState_49 : decode cX6_saveState 49 = .ok (.aload_n 0, 1) := by decide +kernel
theorem dX6_saveState_50 : decode cX6_saveState 50 = .ok (.dup, 1) := by decide +kernel
theorem dX6_saveState_51 : decode cX6_saveState 51 = .ok (.getfield 137, 3) := by decide +kernel
theorem dX6_saveState_54 : decode cX6_saveState 54 = .ok (.iconst 1, 1) := by decide +kernel
theorem dX6_saveState_55 : decode cX6_saveState 55 = .ok (.iadd, 1) := by decide +kernel
theorem dX6_saveState_56 : decode cX6_saveState 56 = .ok (.putfield 137, 3) := by decide +kernel
theorem dX6_saveState_59 : decode cX6_saveState 59 = .ok (.return_, 1) := by decide +kernel
theorem dX6_doText_0 : decode cX6_doText 0 = .ok (.iconst 0, 1) := by decide +kernel
theorem dX6_doText_1 : decode cX6_doText 1 = .ok (.istore_n 1, 1) := by decide +kernel
theorem dX6_doText_2 : decode cX6_doText 2 = .ok (.iconst 0, 1) := by decide +kernel
theorem dX6_doText_3 : decode cX6_doText 3 = .ok (.istore_n 2, 1) := by decide +kernel
theorem dX6_doText_4 : decode cX6_doText 4 = .ok (.iload_n 2, 1) := by decide +kernel
theorem dX6_doText_5 : decode cX6_doText 5 = .ok (.aload_n 0, 1) := by decide +kernel
theorem dX6_doText_6 : decode cX6_doText 6 = .ok (.getfield 38, 3) := by decide +kernel
theorem dX6_doText_9 : decode cX6_doText 9 = .ok (.invokevirtual 220, 3) := by decide +kernel
theorem dX6_doText_12 : decode cX6_doText 12 = .ok (.if_icmp .ge 95, 3) := by decide +kernel
theorem dX6_doText_15 : decode cX6_doText 15 = .ok (.aload_n 0, 1) := by decide +kernel
theorem dX6_doText_16 : decode cX6_doText 16 = .ok (.iload_n 2, 1) := by decide +kernel
theorem dX6_doText_17 : decode cX6_doText 17 = .ok (.invokevirtual 242, 3) := by decide +kernel
theorem dX6_doText_20 : decode cX6_doText 20 = .ok (.ifCond .eq 87, 3) := by decide +kernel
theorem dX6_doText_23 : decode cX6_doText 23 = .ok (.aload_n 0, 1) := by decide +kernel
theorem dX6_doText_24 : decode cX6_doText 24 = .ok (.getfield 38, 3) := by decide +kernel
theorem dX6_doText_27 : decode cX6_doText 27 = .ok (.iload_n 2, 1) := by decide +kernel
theorem dX6_doText_28 : decode cX6_doText 28 = .ok (.invokevirtual 245, 3) := by decide +kernel
theorem dX6_doText_31 : decode cX6_doText 31 = .ok (.ifCond .eq 20, 3) := by decide +kernel
theorem dX6_doText_34 : decode cX6_doText 34 = .ok (.aload_n 0, 1) := by decide +kernel
theorem dX6_doText_35 : decode cX6_doText 35 = .ok (.getfield 10, 3) := by decide +kernel
theorem dX6_doText_38 : decode cX6_doText 38 = .ok (.invokevirtual 84, 3) := by decide +kernel
theorem dX6_doText_41 : decode cX6_doText 41 = .ok (.pop, 1) := by decide +kernel
theorem dX6_doText_42 : decode cX6_doText 42 = .ok (.iinc 1 1, 3) := by decide +kernel
theorem dX6_doText_45 : decode cX6_doText 45 = .ok (.iinc 2 2, 3) := by decide +kernel
theorem dX6_doText_48 : decode cX6_doText 48 = .ok (.goto (-44), 3) := by decide +kernel
theorem dX6_doText_51 : decode cX6_doText 51 = .ok (.aload_n 0, 1) := by decide +kernel
theorem dX6_doText_52 : decode cX6_doText 52 = .ok (.getfield 38, 3) := by decide +kernel
theorem dX6_doText_55 : decode cX6_doText 55 = .ok (.iload_n 2, 1) := by decide +kernel
theorem dX6_doText_56 : decode cX6_doText 56 = .ok (.invokevirtual 248, 3) := by decide +kernel
theorem dX6_doText_59 : decode cX6_doText 59 = .ok (.istore_n 3, 1) := by decide +kernel
theorem dX6_doText_60 : decode cX6_doText 60 = .ok (.aload_n 0, 1) := by decide +kernel
theorem dX6_doText_61 : decode cX6_doText 61 = .ok (.getfield 10, 3) := by decide +kernel
theorem dX6_doText_64 : decode cX6_doText 64 = .ok (.aload_n 0, 1) := by decide +kernel
theorem dX6_doText_65 : decode cX6_doText 65 = .ok (.getfield 38, 3) := by decide +kernel
theorem dX6_doText_68 : decode cX6_doText 68 = .ok (.iload_n 2, 1) := by decide +kernel
theorem dX6_doText_69 : decode cX6_doText 69 = .ok (.invokevirtual 251, 3) := by decide +kernel
theorem dX6_doText_72 : decode cX6_doText 72 = .ok (.iload_n 3, 1) := by decide +kernel
theorem dX6_doText_73 : decode cX6_doText 73 = .ok (.aload_n 0, 1) := by decide +kernel
theorem dX6_doText_74 : decode cX6_doText 74 = .ok (.getfield 38, 3) := by decide +kernel
theorem dX6_doText_77 : decode cX6_doText 77 = .ok (.iload_n 2, 1) := by decide +kernel
theorem dX6_doText_78 : decode cX6_doText 78 = .ok (.invokevirtual 254, 3) := by decide +kernel
theorem dX6_doText_81 : decode cX6_doText 81 = .ok (.invokevirtual 49, 3) := by decide +kernel
theorem dX6_doText_84 : decode cX6_doText 84 = .ok (.istore 4, 2) := by decide +kernel
theorem dX6_doText_86 : decode cX6_doText 86 = .ok (.iload_n 1, 1) := by decide +kernel
theorem dX6_doText_87 : decode cX6_doText 87 = .ok (.iload 4, 2) := by decide +kernel
theorem dX6_doText_89 : decode cX6_doText 89 = .ok (.bipush 10, 2) := by decide +kernel
theorem dX6_doText_91 : decode cX6_doText 91 = .ok (.if_icmp .lt 7, 3) := by decide +kernel
theorem dX6_doText_94 : decode cX6_doText 94 = .ok (.iconst 1, 1) := by decide +kernel
theorem dX6_doText_95 : decode cX6_doText 95 = .ok (.goto 4, 3) := by decide +kernel
theorem dX6_doText_98 : decode cX6_doText 98 = .ok (.iconst 0, 1) := by decide +kernel
theorem dX6_doText_99 : decode cX6_doText 99 = .ok (.iadd, 1) := by decide +kernel
theorem dX6_doText_100 : decode cX6_doText 100 = .ok (.istore_n 1, 1) := by decide +kernel
theorem dX6_doText_101 : decode cX6_doText 101 = .ok (.iinc 2 5, 3) := by decide +kernel
theorem dX6_doText_104 : decode cX6_doText 104 = .ok (.goto (-100), 3) := by decide +kernel
theorem dX6_doText_107 : decode cX6_doText 107 = .ok (.iload_n 1, 1) := by decide +kernel
theorem dX6_doText_108 : decode cX6_doText 108 = .ok (.ireturn, 1) := by decide +kernel
theorem dX6_canDo_0 : decode cX6_canDo 0 = .ok (.aload_n 0, 1) := by decide +kernel
theorem dX6_canDo_1 : decode cX6_canDo 1 = .ok (.getfield 38, 3) := by decide +kernel
theorem dX6_canDo_4 : decode cX6_canDo 4 = .ok (.iload_n 1, 1) := by decide +kernel
theorem dX6_canDo_5 : decode cX6_canDo 5 = .ok (.invokevirtual 245, 3) := by decide +kernel
theorem dX6_canDo_8 : decode cX6_canDo 8 = .ok (.ifCond .eq 11, 3) := by decide +kernel
theorem dX6_canDo_11 : decode cX6_canDo 11 = .ok (.aload_n 0, 1) := by decide +kernel
theorem dX6_canDo_12 : decode cX6_canDo 12 = .ok (.getfield 10, 3) := by decide +kernel
theorem dX6_canDo_15 : decode cX6_canDo 15 = .ok (.invokevirtual 73, 3) := by decide +kernel
theorem dX6_canDo_18 : decode cX6_canDo 18 = .ok (.ireturn, 1) := by decide +kernel
theorem dX6_canDo_19 : decode cX6_canDo 19 = .ok (.aload_n 0, 1) := by decide +kernel
theorem dX6_canDo_20 : decode cX6_canDo 20 = .ok (.getfield 38, 3) := by decide +kernel
theorem dX6_canDo_23 : decode cX6_canDo 23 = .ok (.iload_n 1, 1) := by decide +kernel
theorem dX6_canDo_24 : decode cX6_canDo 24 = .ok (.invokevirtual 248, 3) := by decide +kernel
theorem dX6_canDo_27 : decode cX6_canDo 27 = .ok (.aload_n 0, 1) := by decide +kernel
theorem dX6_canDo_28 : decode cX6_canDo 28 = .ok (.getfield 38, 3) := by decide +kernel
theorem dX6_canDo_31 : decode cX6_canDo 31 = .ok (.iload_n 1, 1) := by decide +kernel
theorem dX6_canDo_32 : decode cX6_canDo 32 = .ok (.invokevirtual 254, 3) := by decide +kernel
theorem dX6_canDo_35 : decode cX6_canDo 35 = .ok (.invokestatic 236, 3) := by decide +kernel
theorem dX6_canDo_38 : decode cX6_canDo 38 = .ok (.ireturn, 1) := by decide +kernel
theorem dX7_init_0 : decode cX7_init 0 = .ok (.aload_n 0, 1) := by decide +kernel
theorem dX7_init_1 : decode cX7_init 1 = .ok (.invokespecial 1, 3) := by decide +kernel
theorem dX7_init_4 : decode cX7_init 4 = .ok (.aload_n 0, 1) := by decide +kernel
theorem dX7_init_5 : decode cX7_init 5 = .ok (.bipush 120, 2) := by decide +kernel
theorem dX7_init_7 : decode cX7_init 7 = .ok (.newarray .int, 2) := by decide +kernel
theorem dX7_init_9 : decode cX7_init 9 = .ok (.putfield 7, 3) := by decide +kernel
theorem dX7_init_12 : decode cX7_init 12 = .ok (.aload_n 0, 1) := by decide +kernel
theorem dX7_init_13 : decode cX7_init 13 = .ok (.bipush 120, 2) := by decide +kernel
theorem dX7_init_15 : decode cX7_init 15 = .ok (.newarray .int, 2) := by decide +kernel
theorem dX7_init_17 : decode cX7_init 17 = .ok (.putfield 13, 3) := by decide +kernel
theorem dX7_init_20 : decode cX7_init 20 = .ok (.aload_n 0, 1) := by decide +kernel
theorem dX7_init_21 : decode cX7_init 21 = .ok (.sipush 720, 3) := by decide +kernel
theorem dX7_init_24 : decode cX7_init 24 = .ok (.newarray .int, 2) := by decide +kernel
theorem dX7_init_26 : decode cX7_init 26 = .ok (.putfield 16, 3) := by decide +kernel
theorem dX7_init_29 : decode cX7_init 29 = .ok (.aload_n 0, 1) := by decide +kernel
theorem dX7_init_30 : decode cX7_init 30 = .ok (.sipush 240, 3) := by decide +kernel
theorem dX7_init_33 : decode cX7_init 33 = .ok (.newarray .int, 2) := by decide +kernel
theorem dX7_init_35 : decode cX7_init 35 = .ok (.putfield 19, 3) := by decide +kernel
theorem dX7_init_38 : decode cX7_init 38 = .ok (.aload_n 0, 1) := by decide +kernel
theorem dX7_init_39 : decode cX7_init 39 = .ok (.bipush 60, 2) := by decide +kernel
theorem dX7_init_41 : decode cX7_init 41 = .ok (.newarray .int, 2) := by decide +kernel
theorem dX7_init_43 : decode cX7_init 43 = .ok (.putfield 22, 3) := by decide +kernel
theorem dX7_init_46 : decode cX7_init 46 = .ok (.iconst 0, 1) := by decide +kernel
theorem dX7_init_47 : decode cX7_init 47 = .ok (.istore_n 1, 1) := by decide +kernel
theorem dX7_init_48 : decode cX7_init 48 = .ok (.iload_n 1, 1) := by decide +kernel
theorem dX7_init_49 : decode cX7_init 49 = .ok (.bipush 10, 2) := by decide +kernel
theorem dX7_init_51 : decode cX7_init 51 = .ok (.if_icmp .ge 20, 3) := by decide +kernel
theorem dX7_init_54 : decode cX7_init 54 = .ok (.aload_n 0, 1) := by decide +kernel
theorem dX7_init_55 : decode cX7_init 55 = .ok (.getfield 7, 3) := by decide +kernel
theorem dX7_init_58 : decode cX7_init 58 = .ok (.iload_n 1, 1) := by decide +kernel
theorem dX7_init_59 : decode cX7_init 59 = .ok (.iconst 0, 1) := by decide +kernel
theorem dX7_init_60 : decode cX7_init 60 = .ok (.invokestatic 25, 3) := by decide +kernel
theorem dX7_init_63 : decode cX7_init 63 = .ok (.iload_n 1, 1) := by decide +kernel
theorem dX7_init_64 : decode cX7_init 64 = .ok (.iastore, 1) := by decide +kernel
theorem dX7_init_65 : decode cX7_init 65 = .ok (.iinc 1 1, 3) := by decide +kernel
theorem dX7_init_68 : decode cX7_init 68 = .ok (.goto (-20), 3) := by decide +kernel
theorem dX7_init_71 : decode cX7_init 71 = .ok (.iconst 0, 1) := by decide +kernel
theorem dX7_init_72 : decode cX7_init 72 = .ok (.istore_n 1, 1) := by decide +kernel
theorem dX7_init_73 : decode cX7_init 73 = .ok (.iload_n 1, 1) := by decide +kernel
theorem dX7_init_74 : decode cX7_init 74 = .ok (.bipush 48, 2) := by decide +kernel
theorem dX7_init_76 : decode cX7_init 76 = .ok (.if_icmp .ge 19, 3) := by decide +kernel
theorem dX7_init_79 : decode cX7_init 79 = .ok (.aload_n 0, 1) := by decide +kernel
theorem dX7_init_80 : decode cX7_init 80 = .ok (.getfield 7, 3) := by decide +kernel
theorem dX7_init_83 : decode cX7_init 83 = .ok (.bipush 60, 2) := by decide +kernel
theorem dX7_init_85 : decode cX7_init 85 = .ok (.iload_n 1, 1) := by decide +kernel
theorem dX7_init_86 : decode cX7_init 86 = .ok (.iadd, 1) := by decide +kernel
theorem dX7_init_87 : decode cX7_init 87 = .ok (.iconst (-1), 1) := by decide +kernel
theorem dX7_init_88 : decode cX7_init 88 = .ok (.iastore, 1) := by decide +kernel
theorem dX7_init_89 : decode cX7_init 89 = .ok (.iinc 1 1, 3) := by decide +kernel
theorem dX7_init_92 : decode cX7_init 92 = .ok (.goto (-19), 3) := by decide +kernel
theorem dX7_init_95 : decode cX7_init 95 = .ok (.aload_n 0, 1) := by decide +kernel
theorem dX7_init_96 : decode cX7_init 96 = .ok (.getfield 7, 3) := by decide +kernel
theorem dX7_init_99 : decode cX7_init 99 = .ok (.bipush 119, 2) := by decide +kernel
theorem dX7_init_101 : decode cX7_init 101 = .ok (.iconst 3, 1) := by decide +kernel
theorem dX7_init_102 : decode cX7_init 102 = .ok (.iastore, 1) := by decide +kernel
theorem dX7_init_103 : decode cX7_init 103 = .ok (.return_, 1) := by decide +kernel
theorem dX7_thrown_0 : decode cX7_thrown 0 = .ok (.aload_n 0, 1) := by decide +kernel
theorem dX7_thrown_1 : decode cX7_thrown 1 = .ok (.getfield 29, 3) := by decide +kernel
theorem dX7_thrown_4 : decode cX7_thrown 4 = .ok (.ireturn, 1) := by decide +kernel
theorem dX7_in_0 : decode cX7_in 0 = .ok (.iload_n 0, 1) := by decide +kernel
theorem dX7_in_1 : decode cX7_in 1 = .ok (.iload_n 1, 1) := by decide +kernel
theorem dX7_in_2 : decode cX7_in 2 = .ok (.if_icmp .lt 12, 3) := by decide +kernel
theorem dX7_in_5 : decode cX7_in 5 = .ok (.iload_n 0, 1) := by decide +kernel
theorem dX7_in_6 : decode cX7_in 6 = .ok (.iload_n 2, 1) := by decide +kernel
theorem dX7_in_7 : decode cX7_in 7 = .ok (.if_icmp .gt 7, 3) := by decide +kernel
theorem dX7_in_10 : decode cX7_in 10 = .ok (.iconst 1, 1) := by decide +kernel
theorem dX7_in_11 : decode cX7_in 11 = .ok (.goto 4, 3) := by decide +kernel
theorem dX7_in_14 : decode cX7_in 14 = .ok (.iconst 0, 1) := by decide +kernel
theorem dX7_in_15 : decode cX7_in 15 = .ok (.ireturn, 1) := by decide +kernel
theorem dX7_holds_0 : decode cX7_holds 0 = .ok (.aload_n 0, 1) := by decide +kernel
theorem dX7_holds_1 : decode cX7_holds 1 = .ok (.iload_n 1, 1) := by decide +kernel
theorem dX7_holds_2 : decode cX7_holds 2 = .ok (.putfield 29, 3) := by decide +kernel
theorem dX7_holds_5 : decode cX7_holds 5 = .ok (.iload_n 1, 1) := by decide +kernel
theorem dX7_holds_6 : decode cX7_holds 6 = .ok (.ifCond .ne 7, 3) := by decide +kernel
theorem dX7_holds_9 : decode cX7_holds 9 = .ok (.iconst 1, 1) := by decide +kernel
theorem dX7_holds_10 : decode cX7_holds 10 = .ok (.goto 4, 3) := by decide +kernel
theorem dX7_holds_13 : decode cX7_holds 13 = .ok (.iconst 0, 1) := by decide +kernel
theorem dX7_holds_14 : decode cX7_holds 14 = .ok (.ireturn, 1) := by decide +kernel
theorem dX7_of_0 : decode cX7_of 0 = .ok (.iconst 0, 1) := by decide +kernel
theorem dX7_of_1 : decode cX7_of 1 = .ok (.bipush 6, 2) := by decide +kernel
theorem dX7_of_3 : decode cX7_of 3 = .ok (.iload_n 0, 1) := by decide +kernel
theorem dX7_of_4 : decode cX7_of 4 = .ok (.imul, 1) := by decide +kernel
theorem dX7_of_5 : decode cX7_of 5 = .ok (.iadd, 1) := by decide +kernel
theorem dX7_of_6 : decode cX7_of 6 = .ok (.iload_n 1, 1) := by decide +kernel
theorem dX7_of_7 : decode cX7_of 7 = .ok (.iadd, 1) := by decide +kernel
theorem dX7_of_8 : decode cX7_of 8 = .ok (.ireturn, 1) := by decide +kernel
theorem dX7_ofBed_0 : decode cX7_ofBed 0 = .ok (.bipush 60, 2) := by decide +kernel
theorem dX7_ofBed_2 : decode cX7_ofBed 2 = .ok (.bipush 12, 2) := by decide +kernel
theorem dX7_ofBed_4 : decode cX7_ofBed 4 = .ok (.iload_n 0, 1) := by decide +kernel
theorem dX7_ofBed_5 : decode cX7_ofBed 5 = .ok (.imul, 1) := by decide +kernel
theorem dX7_ofBed_6 : decode cX7_ofBed 6 = .ok (.iadd, 1) := by decide +kernel
theorem dX7_ofBed_7 : decode cX7_ofBed 7 = .ok (.iload_n 1, 1) := by decide +kernel
theorem dX7_ofBed_8 : decode cX7_ofBed 8 = .ok (.iadd, 1) := by decide +kernel
theorem dX7_ofBed_9 : decode cX7_ofBed 9 = .ok (.ireturn, 1) := by decide +kernel
theorem dX7_isLodger_0 : decode cX7_isLodger 0 = .ok (.iload_n 0, 1) := by decide +kernel
theorem dX7_isLodger_1 : decode cX7_isLodger 1 = .ok (.iconst 0, 1) := by decide +kernel
theorem dX7_isLodger_2 : decode cX7_isLodger 2 = .ok (.bipush 9, 2) := by decide +kernel
theorem dX7_isLodger_4 : decode cX7_isLodger 4 = .ok (.invokestatic 33, 3) := by decide +kernel
theorem dX7_isLodger_7 : decode cX7_isLodger 7 = .ok (.ireturn, 1) := by decide +kernel
theorem dX7_isTime_0 : decode cX7_isTime 0 = .ok (.iload_n 0, 1) := by decide +kernel
theorem dX7_isTime_1 : decode cX7_isTime 1 = .ok (.iconst 0, 1) := by decide +kernel
theorem dX7_isTime_2 : decode cX7_isTime 2 = .ok (.bipush 11, 2) := by decide +kernel
theorem dX7_isTime_4 : decode cX7_isTime 4 = .ok (.invokestatic 33, 3) := by decide +kernel
theorem dX7_isTime_7 : decode cX7_isTime 7 = .ok (.ifCond .eq 25, 3) := by decide +kernel
theorem dX7_isTime_10 : decode cX7_isTime 10 = .ok (.iload_n 1, 1) := by decide +kernel
theorem dX7_isTime_11 : decode cX7_isTime 11 = .ok (.iconst 1, 1) := by decide +kernel
theorem dX7_isTime_12 : decode cX7_isTime 12 = .ok (.bipush 9, 2) := by decide +kernel
theorem dX7_isTime_14 : decode cX7_isTime 14 = .ok (.invokestatic 33, 3) := by decide +kernel
theorem dX7_isTime_17 : decode cX7_isTime 17 = .ok (.ifCond .eq 15, 3) := by decide +kernel
theorem dX7_isTime_20 : decode cX7_isTime 20 = .ok (.iload_n 0, 1) := by decide +kernel
theorem dX7_isTime_21 : decode cX7_isTime 21 = .ok (.iload_n 1, 1) := by decide +kernel
theorem dX7_isTime_22 : decode cX7_isTime 22 = .ok (.iadd, 1) := by decide +kernel
theorem dX7_isTime_23 : decode cX7_isTime 23 = .ok (.bipush 12, 2) := by decide +kernel
theorem dX7_isTime_25 : decode cX7_isTime 25 = .ok (.if_icmp .gt 7, 3) := by decide +kernel
theorem dX7_isTime_28 : decode cX7_isTime 28 = .ok (.iconst 1, 1) := by decide +kernel
theorem dX7_isTime_29 : decode cX7_isTime 29 = .ok (.goto 4, 3) := by decide +kernel
theorem dX7_isTime_32 : decode cX7_isTime 32 = .ok (.iconst 0, 1) := by decide +kernel
theorem dX7_isTime_33 : decode cX7_isTime 33 = .ok (.ireturn, 1) := by decide +kernel
theorem dX7_save_0 : decode cX7_save 0 = .ok (.aload_n 0, 1) := by decide +kernel
theorem dX7_save_1 : decode cX7_save 1 = .ok (.getfield 37, 3) := by decide +kernel
theorem dX7_save_4 : decode cX7_save 4 = .ok (.bipush 6, 2) := by decide +kernel
theorem dX7_save_6 : decode cX7_save 6 = .ok (.if_icmp .ne 43, 3) := by decide +kernel
theorem dX7_save_9 : decode cX7_save 9 = .ok (.iconst 0, 1) := by decide +kernel
theorem dX7_save_10 : decode cX7_save 10 = .ok (.istore_n 1, 1) := by decide +kernel
theorem dX7_save_11 : decode cX7_save 11 = .ok (.iload_n 1, 1) := by decide +kernel
theorem dX7_save_12 : decode cX7_save 12 = .ok (.sipush 600, 3) := by decide +kernel
theorem dX7_save_15 : decode cX7_save 15 = .ok (.if_icmp .ge 24, 3) := by decide +kernel
theorem dX7_save_18 : decode cX7_save 18 = .ok (.aload_n 0, 1) := by decide +kernel
theorem dX7_save_19 : decode cX7_save 19 = .ok (.getfield 16, 3) := by decide +kernel
theorem dX7_save_22 : decode cX7_save 22 = .ok (.iload_n 1, 1) := by decide +kernel
theorem dX7_save_23 : decode cX7_save 23 = .ok (.aload_n 0, 1) := by decide +kernel
theorem dX7_save_24 : decode cX7_save 24 = .ok (.getfield 16, 3) := by decide +kernel
theorem dX7_save_27 : decode cX7_save 27 = .ok (.iload_n 1, 1) := by decide +kernel
theorem dX7_save_28 : decode cX7_save 28 = .ok (.bipush 120, 2) := by decide +kernel
theorem dX7_save_30 : decode cX7_save 30 = .ok (.iadd, 1) := by decide +kernel
theorem dX7_save_31 : decode cX7_save 31 = .ok (.iaload, 1) := by decide +kernel
theorem dX7_save_32 : decode cX7_save 32 = .ok (.iastore, 1) := by decide +kernel
theorem dX7_save_33 : decode cX7_save 33 = .ok (.iinc 1 1, 3) := by decide +kernel
theorem dX7_save_36 : decode cX7_save 36 = .ok (.goto (-25), 3) := by decide +kernel
theorem dX7_save_39 : decode cX7_save 39 = .ok (.aload_n 0, 1) := by decide +kernel
theorem dX7_save_40 : decode cX7_save 40 = .ok (.dup, 1) := by decide +kernel
theorem dX7_save_41 : decode cX7_save 41 = .ok (.getfield 37, 3) := by decide +kernel
theorem dX7_save_44 : decode cX7_save 44 = .ok (.iconst 1, 1) := by decide +kernel
theorem dX7_save_45 : decode cX7_save 45 = .ok (.isub, 1) := by decide +kernel
theorem dX7_save_46 : decode cX7_save 46 = .ok (.putfield 37, 3) := by decide +kernel
theorem dX7_save_49 : decode cX7_save 49 = .ok (.iconst 0, 1) := by decide +kernel
theorem dX7_save_50 : decode cX7_save 50 = .ok (.istore_n 1, 1) := by decide +kernel
theorem dX7_save_51 : decode cX7_save 51 = .ok (.iload_n 1, 1) := by decide +kernel
theorem dX7_save_52 : decode cX7_save 52 = .ok (.bipush 120, 2) := by decide +kernel
theorem dX7_save_54 : decode cX7_save 54 = .ok (.if_icmp .ge 29, 3) := by decide +kernel
theorem dX7_save_57 : decode cX7_save 57 = .ok (.aload_n 0, 1) := by decide +kernel
theorem dX7_save_58 : decode cX7_save 58 = .ok (.getfield 16, 3) := by decide +kernel
theorem dX7_save_61 : decode cX7_save 61 = .ok (.bipush 120, 2) := by decide +kernel
theorem dX7_save_63 : decode cX7_save 63 = .ok (.aload_n 0, 1) := by decide +kernel
theorem dX7_save_64 : decode cX7_save 64 = .ok (.getfield 37, 3) := by decide +kernel
theorem dX7_save_67 : decode cX7_save 67 = .ok (.imul, 1) := by decide +kernel
theorem dX7_save_68 : decode cX7_save 68 = .ok (.iload_n 1, 1) := by decide +kernel
theorem dX7_save_69 : decode cX7_save 69 = .ok (.iadd, 1) := by decide +kernel
theorem dX7_save_70 : decode cX7_save 70 = .ok (.aload_n 0, 1) := by decide +kernel
theorem dX7_save_71 : decode cX7_save 71 = .ok (.getfield 7, 3) := by decide +kernel
theorem dX7_save_74 : decode cX7_save 74 = .ok (.iload_n 1, 1) := by decide +kernel
theorem dX7_save_75 : decode cX7_save 75 = .ok (.iaload, 1) := by decide +kernel
theorem dX7_save_76 : decode cX7_save 76 = .ok (.iastore, 1) := by decide +kernel
theorem dX7_save_77 : decode cX7_save 77 = .ok (.iinc 1 1, 3) := by decide +kernel
theorem dX7_save_80 : decode cX7_save 80 = .ok (.goto (-29), 3) := by decide +kernel
theorem dX7_save_83 : decode cX7_save 83 = .ok (.aload_n 0, 1) := by decide +kernel
theorem dX7_save_84 : decode cX7_save 84 = .ok (.dup, 1) := by decide +kernel
theorem dX7_save_85 : decode cX7_save 85 = .ok (.getfield 37, 3) := by decide +kernel
theorem dX7_save_88 : decode cX7_save 88 = .ok (.iconst 1, 1) := by decide +kernel
theorem dX7_save_89 : decode cX7_save 89 = .ok (.iadd, 1) := by decide +kernel
theorem dX7_save_90 : decode cX7_save 90 = .ok (.putfield 37, 3) := by decide +kernel
theorem dX7_save_93 : decode cX7_save 93 = .ok (.return_, 1) := by decide +kernel
theorem dX7_lentIn_0 : decode cX7_lentIn 0 = .ok (.iconst 0, 1) := by decide +kernel
theorem dX7_lentIn_1 : decode cX7_lentIn 1 = .ok (.istore 4, 2) := by decide +kernel
theorem dX7_lentIn_3 : decode cX7_lentIn 3 = .ok (.iload_n 2, 1) := by decide +kernel
theorem dX7_lentIn_4 : decode cX7_lentIn 4 = .ok (.istore 5, 2) := by decide +kernel
theorem dX7_lentIn_6 : decode cX7_lentIn 6 = .ok (.iload 5, 2) := by decide +kernel
theorem dX7_lentIn_8 : decode cX7_lentIn 8 = .ok (.iload_n 2, 1) := by decide +kernel
theorem dX7_lentIn_9 : decode cX7_lentIn 9 = .ok (.iload_n 3, 1) := by decide +kernel
theorem dX7_lentIn_10 : decode cX7_lentIn 10 = .ok (.iadd, 1) := by decide +kernel
theorem dX7_lentIn_11 : decode cX7_lentIn 11 = .ok (.if_icmp .ge 34, 3) := by decide +kernel
theorem dX7_lentIn_14 : decode cX7_lentIn 14 = .ok (.iload 4, 2) := by decide +kernel
theorem dX7_lentIn_16 : decode cX7_lentIn 16 = .ok (.aload_n 0, 1) := by decide +kernel
theorem dX7_lentIn_17 : decode cX7_lentIn 17 = .ok (.getfield 7, 3) := by decide +kernel
theorem dX7_lentIn_20 : decode cX7_lentIn 20 = .ok (.iload_n 1, 1) := by decide +kernel
theorem dX7_lentIn_21 : decode cX7_lentIn 21 = .ok (.iload 5, 2) := by decide +kernel
theorem dX7_lentIn_23 : decode cX7_lentIn 23 = .ok (.invokestatic 40, 3) := by decide +kernel
theorem dX7_lentIn_26 : decode cX7_lentIn 26 = .ok (.iaload, 1) := by decide +kernel
theorem dX7_lentIn_27 : decode cX7_lentIn 27 = .ok (.iconst (-1), 1) := by decide +kernel
theorem dX7_lentIn_28 : decode cX7_lentIn 28 = .ok (.if_icmp .ne 7, 3) := by decide +kernel
theorem dX7_lentIn_31 : decode cX7_lentIn 31 = .ok (.iconst 0, 1) := by decide +kernel
theorem dX7_lentIn_32 : decode cX7_lentIn 32 = .ok (.goto 4, 3) := by decide +kernel
theorem dX7_lentIn_35 : decode cX7_lentIn 35 = .ok (.iconst 1, 1) := by decide +kernel
theorem dX7_lentIn_36 : decode cX7_lentIn 36 = .ok (.iadd, 1) := by decide +kernel
theorem dX7_lentIn_37 : decode cX7_lentIn 37 = .ok (.istore 4, 2) := by decide +kernel
theorem dX7_lentIn_39 : decode cX7_lentIn 39 = .ok (.iinc 5 1, 3) := by decide +kernel
theorem dX7_lentIn_42 : decode cX7_lentIn 42 = .ok (.goto (-36), 3) := by decide +kernel
theorem dX7_lentIn_45 : decode cX7_lentIn 45 = .ok (.iload 4, 2) := by decide +kernel
theorem dX7_lentIn_47 : decode cX7_lentIn 47 = .ok (.ireturn, 1) := by decide +kernel
theorem dX7_emptiest_0 : decode cX7_emptiest 0 = .ok (.iconst 0, 1) := by decide +kernel
theorem dX7_emptiest_1 : decode cX7_emptiest 1 = .ok (.istore_n 3, 1) := by decide +kernel
theorem dX7_emptiest_2 : decode cX7_emptiest 2 = .ok (.iconst 1, 1) := by decide +kernel
theorem dX7_emptiest_3 : decode cX7_emptiest 3 = .ok (.istore 4, 2) := by decide +kernel
theorem dX7_emptiest_5 : decode cX7_emptiest 5 = .ok (.iload 4, 2) := by decide +kernel
theorem dX7_emptiest_7 : decode cX7_emptiest 7 = .ok (.iconst 4, 1) := by decide +kernel
theorem dX7_emptiest_8 : decode cX7_emptiest 8 = .ok (.if_icmp .ge 34, 3) := by decide +kernel
theorem dX7_emptiest_11 : decode cX7_emptiest 11 = .ok (.aload_n 0, 1) := by decide +kernel
theorem dX7_emptiest_12 : decode cX7_emptiest 12 = .ok (.iload 4, 2) := by decide +kernel
theorem dX7_emptiest_14 : decode cX7_emptiest 14 = .ok (.iload_n 1, 1) := by decide +kernel
theorem dX7_emptiest_15 : decode cX7_emptiest 15 = .ok (.iload_n 2, 1) := by decide +kernel
theorem dX7_emptiest_16 : decode cX7_emptiest 16 = .ok (.invokevirtual 43, 3) := by decide +kernel
theorem dX7_emptiest_19 : decode cX7_emptiest 19 = .ok (.aload_n 0, 1) := by decide +kernel
theorem dX7_emptiest_20 : decode cX7_emptiest 20 = .ok (.iload_n 3, 1) := by decide +kernel
theorem dX7_emptiest_21 : decode cX7_emptiest 21 = .ok (.iload_n 1, 1) := by decide +kernel
theorem dX7_emptiest_22 : decode cX7_emptiest 22 = .ok (.iload_n 2, 1) := by decide +kernel
theorem dX7_emptiest_23 : decode cX7_emptiest 23 = .ok (.invokevirtual 43, 3) := by decide +kernel
theorem dX7_emptiest_26 : decode cX7_emptiest 26 = .ok (.if_icmp .ge 8, 3) := by decide +kernel
theorem dX7_emptiest_29 : decode cX7_emptiest 29 = .ok (.iload 4, 2) := by decide +kernel
theorem dX7_emptiest_31 : decode cX7_emptiest 31 = .ok (.goto 4, 3) := by decide +kernel
theorem dX7_emptiest_34 : decode cX7_emptiest 34 = .ok (.iload_n 3, 1) := by decide +kernel
theorem dX7_emptiest_35 : decode cX7_emptiest 35 = .ok (.istore_n 3, 1) := by decide +kernel
theorem dX7_emptiest_36 : decode cX7_emptiest 36 = .ok (.iinc 4 1, 3) := by decide +kernel
theorem dX7_emptiest_39 : decode cX7_emptiest 39 = .ok (.goto (-34), 3) := by decide +kernel
theorem dX7_emptiest_42 : decode cX7_emptiest 42 = .ok (.iload_n 3, 1) := by decide +kernel
theorem dX7_emptiest_43 : decode cX7_emptiest 43 = .ok (.ireturn, 1) := by decide +kernel
theorem dX7_bedOf_0 : decode cX7_bedOf 0 = .ok (.iconst (-1), 1) := by decide +kernel
theorem dX7_bedOf_1 : decode cX7_bedOf 1 = .ok (.istore_n 3, 1) := by decide +kernel
theorem dX7_bedOf_2 : decode cX7_bedOf 2 = .ok (.iconst 0, 1) := by decide +kernel
theorem dX7_bedOf_3 : decode cX7_bedOf 3 = .ok (.istore 4, 2) := by decide +kernel
theorem dX7_bedOf_5 : decode cX7_bedOf 5 = .ok (.iload 4, 2) := by decide +kernel
theorem dX7_bedOf_7 : decode cX7_bedOf 7 = .ok (.iconst 4, 1) := by decide +kernel
theorem dX7_bedOf_8 : decode cX7_bedOf 8 = .ok (.if_icmp .ge 31, 3) := by decide +kernel
theorem dX7_bedOf_11 : decode cX7_bedOf 11 = .ok (.aload_n 0, 1) := by decide +kernel
theorem dX7_bedOf_12 : decode cX7_bedOf 12 = .ok (.getfield 7, 3) := by decide +kernel
theorem dX7_bedOf_15 : decode cX7_bedOf 15 = .ok (.iload 4, 2) := by decide +kernel
theorem dX7_bedOf_17 : decode cX7_bedOf 17 = .ok (.iload_n 2, 1) := by decide +kernel
theorem dX7_bedOf_18 : decode cX7_bedOf 18 = .ok (.invokestatic 40, 3) := by decide +kernel
theorem dX7_bedOf_21 : decode cX7_bedOf 21 = .ok (.iaload, 1) := by decide +kernel
theorem dX7_bedOf_22 : decode cX7_bedOf 22 = .ok (.iload_n 1, 1) := by decide +kernel
theorem dX7_bedOf_23 : decode cX7_bedOf 23 = .ok (.if_icmp .ne 8, 3) := by decide +kernel
theorem dX7_bedOf_26 : decode cX7_bedOf 26 = .ok (.iload 4, 2) := by decide +kernel
theorem dX7_bedOf_28 : decode cX7_bedOf 28 = .ok (.goto 4, 3) := by decide +kernel
theorem dX7_bedOf_31 : decode cX7_bedOf 31 = .ok (.iload_n 3, 1) := by decide +kernel
theorem dX7_bedOf_32 : decode cX7_bedOf 32 = .ok (.istore_n 3, 1) := by decide +kernel
theorem dX7_bedOf_33 : decode cX7_bedOf 33 = .ok (.iinc 4 1, 3) := by decide +kernel
theorem dX7_bedOf_36 : decode cX7_bedOf 36 = .ok (.goto (-31), 3) := by decide +kernel
theorem dX7_bedOf_39 : decode cX7_bedOf 39 = .ok (.iload_n 3, 1) := by decide +kernel
theorem dX7_bedOf_40 : decode cX7_bedOf 40 = .ok (.ireturn, 1) := by decide +kernel
theorem dX7_hasBed_0 : decode cX7_hasBed 0 = .ok (.iconst 0, 1) := by decide +kernel
theorem dX7_hasBed_1 : decode cX7_hasBed 1 = .ok (.istore 4, 2) := by decide +kernel
theorem dX7_hasBed_3 : decode cX7_hasBed 3 = .ok (.iload_n 2, 1) := by decide +kernel
theorem dX7_hasBed_4 : decode cX7_hasBed 4 = .ok (.istore 5, 2) := by decide +kernel
theorem dX7_hasBed_6 : decode cX7_hasBed 6 = .ok (.iload 5, 2) := by decide +kernel
theorem dX7_hasBed_8 : decode cX7_hasBed 8 = .ok (.iload_n 2, 1) := by decide +kernel
theorem dX7_hasBed_9 : decode cX7_hasBed 9 = .ok (.iload_n 3, 1) := by decide +kernel
theorem dX7_hasBed_10 : decode cX7_hasBed 10 = .ok (.iadd, 1) := by decide +kernel
theorem dX7_hasBed_11 : decode cX7_hasBed 11 = .ok (.if_icmp .ge 32, 3) := by decide +kernel
theorem dX7_hasBed_14 : decode cX7_hasBed 14 = .ok (.iload 4, 2) := by decide +kernel
theorem dX7_hasBed_16 : decode cX7_hasBed 16 = .ok (.ifCond .ne 14, 3) := by decide +kernel
theorem dX7_hasBed_19 : decode cX7_hasBed 19 = .ok (.aload_n 0, 1) := by decide +kernel
theorem dX7_hasBed_20 : decode cX7_hasBed 20 = .ok (.iload_n 1, 1) := by decide +kernel
theorem dX7_hasBed_21 : decode cX7_hasBed 21 = .ok (.iload 5, 2) := by decide +kernel
theorem dX7_hasBed_23 : decode cX7_hasBed 23 = .ok (.invokevirtual 47, 3) := by decide +kernel
theorem dX7_hasBed_26 : decode cX7_hasBed 26 = .ok (.iconst (-1), 1) := by decide +kernel
theorem dX7_hasBed_27 : decode cX7_hasBed 27 = .ok (.if_icmp .eq 7, 3) := by decide +kernel
theorem dX7_hasBed_30 : decode cX7_hasBed 30 = .ok (.iconst 1, 1) := by decide +kernel
theorem dX7_hasBed_31 : decode cX7_hasBed 31 = .ok (.goto 4, 3) := by decide +kernel
theorem dX7_hasBed_34 : decode cX7_hasBed 34 = .ok (.iconst 0, 1) := by decide +kernel
theorem dX7_hasBed_35 : decode cX7_hasBed 35 = .ok (.istore 4, 2) := by decide +kernel
theorem dX7_hasBed_37 : decode cX7_hasBed 37 = .ok (.iinc 5 1, 3) := by decide +kernel
theorem dX7_hasBed_40 : decode cX7_hasBed 40 = .ok (.goto (-34), 3) := by decide +kernel
theorem dX7_hasBed_43 : decode cX7_hasBed 43 = .ok (.iload 4, 2) := by decide +kernel
theorem dX7_hasBed_45 : decode cX7_hasBed 45 = .ok (.ireturn, 1) := by decide +kernel
theorem dX7_hindrance_0 : decode cX7_hindrance 0 = .ok (.iload_n 2, 1) := by decide +kernel
theorem dX7_hindrance_1 : decode cX7_hindrance 1 = .ok (.aload_n 0, 1) := by decide +kernel
theorem dX7_hindrance_2 : decode cX7_hindrance 2 = .ok (.getfield 7, 3) := by decide +kernel
theorem dX7_hindrance_5 : decode cX7_hindrance 5 = .ok (.bipush 108, 2) := by decide +kernel
theorem dX7_hindrance_7 : decode cX7_hindrance 7 = .ok (.iaload, 1) := by decide +kernel
theorem dX7_hindrance_8 : decode cX7_hindrance 8 = .ok (.if_icmp .lt 13, 3) := by decide +kernel
theorem dX7_hindrance_11 : decode cX7_hindrance 11 = .ok (.aload_n 0, 1) := by decide +kernel
theorem dX7_hindrance_12 : decode cX7_hindrance 12 = .ok (.iload_n 1, 1) := by decide +kernel
theorem dX7_hindrance_13 : decode cX7_hindrance 13 = .ok (.iload_n 2, 1) := by decide +kernel
theorem dX7_hindrance_14 : decode cX7_hindrance 14 = .ok (.iload_n 3, 1) := by decide +kernel
theorem dX7_hindrance_15 : decode cX7_hindrance 15 = .ok (.invokevirtual 50, 3) := by decide +kernel
theorem dX7_hindrance_18 : decode cX7_hindrance 18 = .ok (.ifCond .eq 20, 3) := by decide +kernel
theorem dX7_hindrance_21 : decode cX7_hindrance 21 = .ok (.iload_n 2, 1) := by decide +kernel
theorem dX7_hindrance_22 : decode cX7_hindrance 22 = .ok (.aload_n 0, 1) := by decide +kernel
theorem dX7_hindrance_23 : decode cX7_hindrance 23 = .ok (.getfield 7, 3) := by decide +kernel
theorem dX7_hindrance_26 : decode cX7_hindrance 26 = .ok (.bipush 108, 2) := by decide +kernel
theorem dX7_hindrance_28 : decode cX7_hindrance 28 = .ok (.iaload, 1) := by decide +kernel
theorem dX7_hindrance_29 : decode cX7_hindrance 29 = .ok (.if_icmp .ge 7, 3) := by decide +kernel
theorem dX7_hindrance_32 : decode cX7_hindrance 32 = .ok (.iconst 1, 1) := by decide +kernel
theorem dX7_hindrance_33 : decode cX7_hindrance 33 = .ok (.goto 4, 3) := by decide +kernel
theorem dX7_hindrance_36 : decode cX7_hindrance 36 = .ok (.iconst 2, 1) := by decide +kernel
theorem dX7_hindrance_37 : decode cX7_hindrance 37 = .ok (.ireturn, 1) := by decide +kernel
theorem dX7_hindrance_38 : decode cX7_hindrance 38 = .ok (.aload_n 0, 1) := by decide +kernel
theorem dX7_hindrance_39 : decode cX7_hindrance 39 = .ok (.getfield 7, 3) := by decide +kernel
theorem dX7_hindrance_42 : decode cX7_hindrance 42 = .ok (.iload_n 1, 1) := by decide +kernel
theorem dX7_hindrance_43 : decode cX7_hindrance 43 = .ok (.iconst 1, 1) := by decide +kernel
theorem dX7_hindrance_44 : decode cX7_hindrance 44 = .ok (.invokestatic 25, 3) := by decide +kernel
theorem dX7_hindrance_47 : decode cX7_hindrance 47 = .ok (.iaload, 1) := by decide +kernel
theorem dX7_hindrance_48 : decode cX7_hindrance 48 = .ok (.bipush 7, 2) := by decide +kernel
theorem dX7_hindrance_50 : decode cX7_hindrance 50 = .ok (.if_icmp .ne 5, 3) := by decide +kernel
theorem dX7_hindrance_53 : decode cX7_hindrance 53 = .ok (.iconst 0, 1) := by decide +kernel
theorem dX7_hindrance_54 : decode cX7_hindrance 54 = .ok (.ireturn, 1) := by decide +kernel
theorem dX7_hindrance_55 : decode cX7_hindrance 55 = .ok (.aload_n 0, 1) := by decide +kernel
theorem dX7_hindrance_56 : decode cX7_hindrance 56 = .ok (.getfield 7, 3) := by decide +kernel
theorem dX7_hindrance_59 : decode cX7_hindrance 59 = .ok (.iload_n 1, 1) := by decide +kernel
theorem dX7_hindrance_60 : decode cX7_hindrance 60 = .ok (.iconst 0, 1) := by decide +kernel
theorem dX7_hindrance_61 : decode cX7_hindrance 61 = .ok (.invokestatic 25, 3) := by decide +kernel
theorem dX7_hindrance_64 : decode cX7_hindrance 64 = .ok (.iaload, 1) := by decide +kernel
theorem dX7_hindrance_65 : decode cX7_hindrance 65 = .ok (.aload_n 0, 1) := by decide +kernel
theorem dX7_hindrance_66 : decode cX7_hindrance 66 = .ok (.getfield 7, 3) := by decide +kernel
theorem dX7_hindrance_69 : decode cX7_hindrance 69 = .ok (.bipush 119, 2) := by decide +kernel
theorem dX7_hindrance_71 : decode cX7_hindrance 71 = .ok (.iaload, 1) := by decide +kernel
theorem dX7_hindrance_72 : decode cX7_hindrance 72 = .ok (.if_icmp .ge 18, 3) := by decide +kernel
theorem dX7_hindrance_75 : decode cX7_hindrance 75 = .ok (.aload_n 0, 1) := by decide +kernel
theorem dX7_hindrance_76 : decode cX7_hindrance 76 = .ok (.getfield 7, 3) := by decide +kernel
theorem dX7_hindrance_79 : decode cX7_hindrance 79 = .ok (.iload_n 1, 1) := by decide +kernel
theorem dX7_hindrance_80 : decode cX7_hindrance 80 = .ok (.iconst 2, 1) := by decide +kernel
theorem dX7_hindrance_81 : decode cX7_hindrance 81 = .ok (.invokestatic 25, 3) := by decide +kernel
theorem dX7_hindrance_84 : decode cX7_hindrance 84 = .ok (.iaload, 1) := by decide +kernel
theorem dX7_hindrance_85 : decode cX7_hindrance 85 = .ok (.ifCond .ne 5, 3) := by decide +kernel
theorem dX7_hindrance_88 : decode cX7_hindrance 88 = .ok (.iconst 3, 1) := by decide +kernel
theorem dX7_hindrance_89 : decode cX7_hindrance 89 = .ok (.ireturn, 1) := by decide +kernel
theorem dX7_hindrance_90 : decode cX7_hindrance 90 = .ok (.aload_n 0, 1) := by decide +kernel
theorem dX7_hindrance_91 : decode cX7_hindrance 91 = .ok (.aload_n 0, 1) := by decide +kernel
theorem dX7_hindrance_92 : decode cX7_hindrance 92 = .ok (.iload_n 2, 1) := by decide +kernel
theorem dX7_hindrance_93 : decode cX7_hindrance 93 = .ok (.iload_n 3, 1) := by decide +kernel
theorem dX7_hindrance_94 : decode cX7_hindrance 94 = .ok (.invokevirtual 53, 3) := by decide +kernel
theorem dX7_hindrance_97 : decode cX7_hindrance 97 = .ok (.iload_n 2, 1) := by decide +kernel
theorem dX7_hindrance_98 : decode cX7_hindrance 98 = .ok (.iload_n 3, 1) := by decide +kernel
theorem dX7_hindrance_99 : decode cX7_hindrance 99 = .ok (.invokevirtual 43, 3) := by decide +kernel
theorem dX7_hindrance_102 : decode cX7_hindrance 102 = .ok (.ifCond .le 7, 3) := by decide +kernel
theorem dX7_hindrance_105 : decode cX7_hindrance 105 = .ok (.iconst 4, 1) := by decide +kernel
theorem dX7_hindrance_106 : decode cX7_hindrance 106 = .ok (.goto 4, 3) := by decide +kernel
theorem dX7_hindrance_109 : decode cX7_hindrance 109 = .ok (.iconst 0, 1) := by decide +kernel
theorem dX7_hindrance_110 : decode cX7_hindrance 110 = .ok (.ireturn, 1) := by decide +kernel
theorem dX7_frees_0 : decode cX7_frees 0 = .ok (.aload_n 0, 1) := by decide +kernel
theorem dX7_frees_1 : decode cX7_frees 1 = .ok (.getfield 7, 3) := by decide +kernel
theorem dX7_frees_4 : decode cX7_frees 4 = .ok (.iload_n 1, 1) := by decide +kernel
theorem dX7_frees_5 : decode cX7_frees 5 = .ok (.iload_n 2, 1) := by decide +kernel
theorem dX7_frees_6 : decode cX7_frees 6 = .ok (.invokestatic 40, 3) := by decide +kernel
theorem dX7_frees_9 : decode cX7_frees 9 = .ok (.iaload, 1) := by decide +kernel
theorem dX7_frees_10 : decode cX7_frees 10 = .ok (.istore 4, 2) := by decide +kernel
theorem dX7_frees_12 : decode cX7_frees 12 = .ok (.iload_n 2, 1) := by decide +kernel
theorem dX7_frees_13 : decode cX7_frees 13 = .ok (.iload_n 3, 1) := by decide +kernel
theorem dX7_frees_14 : decode cX7_frees 14 = .ok (.iadd, 1) := by decide +kernel
theorem dX7_frees_15 : decode cX7_frees 15 = .ok (.istore 5, 2) := by decide +kernel
theorem dX7_frees_17 : decode cX7_frees 17 = .ok (.iload 5, 2) := by decide +kernel
theorem dX7_frees_19 : decode cX7_frees 19 = .ok (.aload_n 0, 1) := by decide +kernel
theorem dX7_frees_20 : decode cX7_frees 20 = .ok (.getfield 7, 3) := by decide +kernel
theorem dX7_frees_23 : decode cX7_frees 23 = .ok (.bipush 108, 2) := by decide +kernel
theorem dX7_frees_25 : decode cX7_frees 25 = .ok (.iaload, 1) := by decide +kernel
theorem dX7_frees_26 : decode cX7_frees 26 = .ok (.bipush 11, 2) := by decide +kernel
theorem dX7_frees_28 : decode cX7_frees 28 = .ok (.invokestatic 33, 3) := by decide +kernel
theorem dX7_frees_31 : decode cX7_frees 31 = .ok (.ifCond .eq 51, 3) := by decide +kernel
theorem dX7_frees_34 : decode cX7_frees 34 = .ok (.aload_n 0, 1) := by decide +kernel
theorem dX7_frees_35 : decode cX7_frees 35 = .ok (.getfield 7, 3) := by decide +kernel
theorem dX7_frees_38 : decode cX7_frees 38 = .ok (.iload_n 1, 1) := by decide +kernel
theorem dX7_frees_39 : decode cX7_frees 39 = .ok (.iload 5, 2) := by decide +kernel
theorem dX7_frees_41 : decode cX7_frees 41 = .ok (.invokestatic 40, 3) := by decide +kernel
theorem dX7_frees_44 : decode cX7_frees 44 = .ok (.iaload, 1) := by decide +kernel
theorem dX7_frees_45 : decode cX7_frees 45 = .ok (.iload 4, 2) := by decide +kernel
theorem dX7_frees_47 : decode cX7_frees 47 = .ok (.if_icmp .ne 35, 3) := by decide +kernel
theorem dX7_frees_50 : decode cX7_frees 50 = .ok (.aload_n 0, 1) := by decide +kernel
theorem dX7_frees_51 : decode cX7_frees 51 = .ok (.getfield 7, 3) := by decide +kernel
theorem dX7_frees_54 : decode cX7_frees 54 = .ok (.iload_n 1, 1) := by decide +kernel
theorem dX7_frees_55 : decode cX7_frees 55 = .ok (.iload 5, 2) := by decide +kernel
theorem dX7_frees_57 : decode cX7_frees 57 = .ok (.invokestatic 40, 3) := by decide +kernel
theorem dX7_frees_60 : decode cX7_frees 60 = .ok (.iconst (-1), 1) := by decide +kernel
theorem dX7_frees_61 : decode cX7_frees 61 = .ok (.iastore, 1) := by decide +kernel
theorem dX7_frees_62 : decode cX7_frees 62 = .ok (.aload_n 0, 1) := by decide +kernel
theorem dX7_frees_63 : decode cX7_frees 63 = .ok (.getfield 7, 3) := by decide +kernel
theorem dX7_frees_66 : decode cX7_frees 66 = .ok (.bipush 116, 2) := by decide +kernel
theorem dX7_frees_68 : decode cX7_frees 68 = .ok (.dup2, 1) := by decide +kernel
theorem dX7_frees_69 : decode cX7_frees 69 = .ok (.iaload, 1) := by decide +kernel
theorem dX7_frees_70 : decode cX7_frees 70 = .ok (.iconst 1, 1) := by decide +kernel
theorem dX7_frees_71 : decode cX7_frees 71 = .ok (.iadd, 1) := by decide +kernel
theorem dX7_frees_72 : decode cX7_frees 72 = .ok (.iastore, 1) := by decide +kernel
theorem dX7_frees_73 : decode cX7_frees 73 = .ok (.iload 5, 2) := by decide +kernel
theorem dX7_frees_75 : decode cX7_frees 75 = .ok (.iload_n 3, 1) := by decide +kernel
theorem dX7_frees_76 : decode cX7_frees 76 = .ok (.iadd, 1) := by decide +kernel
theorem dX7_frees_77 : decode cX7_frees 77 = .ok (.istore 5, 2) := by decide +kernel
theorem dX7_frees_79 : decode cX7_frees 79 = .ok (.goto (-62), 3) := by decide +kernel
theorem dX7_frees_82 : decode cX7_frees 82 = .ok (.return_, 1) := by decide +kernel
theorem dX7_putsOut_0 : decode cX7_putsOut 0 = .ok (.aload_n 0, 1) := by decide +kernel
theorem dX7_putsOut_1 : decode cX7_putsOut 1 = .ok (.getfield 7, 3) := by decide +kernel
theorem dX7_putsOut_4 : decode cX7_putsOut 4 = .ok (.iload_n 1, 1) := by decide +kernel
theorem dX7_putsOut_5 : decode cX7_putsOut 5 = .ok (.iload_n 2, 1) := by decide +kernel
theorem dX7_putsOut_6 : decode cX7_putsOut 6 = .ok (.invokestatic 40, 3) := by decide +kernel
theorem dX7_putsOut_9 : decode cX7_putsOut 9 = .ok (.iaload, 1) := by decide +kernel
theorem dX7_putsOut_10 : decode cX7_putsOut 10 = .ok (.istore_n 3, 1) := by decide +kernel
theorem dX7_putsOut_11 : decode cX7_putsOut 11 = .ok (.aload_n 0, 1) := by decide +kernel
theorem dX7_putsOut_12 : decode cX7_putsOut 12 = .ok (.iload_n 1, 1) := by decide +kernel
theorem dX7_putsOut_13 : decode cX7_putsOut 13 = .ok (.iload_n 2, 1) := by decide +kernel
theorem dX7_putsOut_14 : decode cX7_putsOut 14 = .ok (.iconst (-1), 1) := by decide +kernel
theorem dX7_putsOut_15 : decode cX7_putsOut 15 = .ok (.invokevirtual 56, 3) := by decide +kernel
theorem dX7_putsOut_18 : decode cX7_putsOut 18 = .ok (.aload_n 0, 1) := by decide +kernel
theorem dX7_putsOut_19 : decode cX7_putsOut 19 = .ok (.iload_n 1, 1) := by decide +kernel
theorem dX7_putsOut_20 : decode cX7_putsOut 20 = .ok (.iload_n 2, 1) := by decide +kernel
theorem dX7_putsOut_21 : decode cX7_putsOut 21 = .ok (.iconst 1, 1) := by decide +kernel
theorem dX7_putsOut_22 : decode cX7_putsOut 22 = .ok (.invokevirtual 56, 3) := by decide +kernel
theorem dX7_putsOut_25 : decode cX7_putsOut 25 = .ok (.aload_n 0, 1) := by decide +kernel
theorem dX7_putsOut_26 : decode cX7_putsOut 26 = .ok (.getfield 7, 3) := by decide +kernel
theorem dX7_putsOut_29 : decode cX7_putsOut 29 = .ok (.iload_n 1, 1) := by decide +kernel
theorem dX7_putsOut_30 : decode cX7_putsOut 30 = .ok (.iload_n 2, 1) := by decide +kernel
theorem dX7_putsOut_31 : decode cX7_putsOut 31 = .ok (.invokestatic 40, 3) := by decide +kernel
theorem dX7_putsOut_34 : decode cX7_putsOut 34 = .ok (.iconst (-1), 1) := by decide +kernel
theorem dX7_putsOut_35 : decode cX7_putsOut 35 = .ok (.iastore, 1) := by decide +kernel
theorem dX7_putsOut_36 : decode cX7_putsOut 36 = .ok (.aload_n 0, 1) := by decide +kernel
theorem dX7_putsOut_37 : decode cX7_putsOut 37 = .ok (.getfield 7, 3) := by decide +kernel
theorem dX7_putsOut_40 : decode cX7_putsOut 40 = .ok (.bipush 116, 2) := by decide +kernel
theorem dX7_putsOut_42 : decode cX7_putsOut 42 = .ok (.dup2, 1) := by decide +kernel
theorem dX7_putsOut_43 : decode cX7_putsOut 43 = .ok (.iaload, 1) := by decide +kernel
theorem dX7_putsOut_44 : decode cX7_putsOut 44 = .ok (.iconst 1, 1) := by decide +kernel
theorem dX7_putsOut_45 : decode cX7_putsOut 45 = .ok (.iadd, 1) := by decide +kernel
theorem dX7_putsOut_46 : decode cX7_putsOut 46 = .ok (.iastore, 1) := by decide +kernel
theorem dX7_putsOut_47 : decode cX7_putsOut 47 = .ok (.aload_n 0, 1) := by decide +kernel
theorem dX7_putsOut_48 : decode cX7_putsOut 48 = .ok (.getfield 60, 3) := by decide +kernel
theorem dX7_putsOut_51 : decode cX7_putsOut 51 = .ok (.iload_n 3, 1) := by decide +kernel
theorem dX7_putsOut_52 : decode cX7_putsOut 52 = .ok (.ishr, 1) := by decide +kernel
theorem dX7_putsOut_53 : decode cX7_putsOut 53 = .ok (.iconst 1, 1) := by decide +kernel
theorem dX7_putsOut_54 : decode cX7_putsOut 54 = .ok (.iand, 1) := by decide +kernel
theorem dX7_putsOut_55 : decode cX7_putsOut 55 = .ok (.ifCond .ne 73, 3) := by decide +kernel
theorem dX7_putsOut_58 : decode cX7_putsOut 58 = .ok (.aload_n 0, 1) := by decide +kernel
theorem dX7_putsOut_59 : decode cX7_putsOut 59 = .ok (.dup, 1) := by decide +kernel
theorem dX7_putsOut_60 : decode cX7_putsOut 60 = .ok (.getfield 60, 3) := by decide +kernel
theorem dX7_putsOut_63 : decode cX7_putsOut 63 = .ok (.iconst 1, 1) := by decide +kernel
theorem dX7_putsOut_64 : decode cX7_putsOut 64 = .ok (.iload_n 3, 1) := by decide +kernel
theorem dX7_putsOut_65 : decode cX7_putsOut 65 = .ok (.ishl, 1) := by decide +kernel
theorem dX7_putsOut_66 : decode cX7_putsOut 66 = .ok (.ior, 1) := by decide +kernel
theorem dX7_putsOut_67 : decode cX7_putsOut 67 = .ok (.putfield 60, 3) := by decide +kernel
theorem dX7_putsOut_70 : decode cX7_putsOut 70 = .ok (.aload_n 0, 1) := by decide +kernel
theorem dX7_putsOut_71 : decode cX7_putsOut 71 = .ok (.getfield 7, 3) := by decide +kernel
theorem dX7_putsOut_74 : decode cX7_putsOut 74 = .ok (.bipush 115, 2) := by decide +kernel
theorem dX7_putsOut_76 : decode cX7_putsOut 76 = .ok (.dup2, 1) := by decide +kernel
theorem dX7_putsOut_77 : decode cX7_putsOut 77 = .ok (.iaload, 1) := by decide +kernel
theorem dX7_putsOut_78 : decode cX7_putsOut 78 = .ok (.iconst 1, 1) := by decide +kernel
theorem dX7_putsOut_79 : decode cX7_putsOut 79 = .ok (.iadd, 1) := by decide +kernel
theorem dX7_putsOut_80 : decode cX7_putsOut 80 = .ok (.iastore, 1) := by decide +kernel
theorem dX7_putsOut_81 : decode cX7_putsOut 81 = .ok (.aload_n 0, 1) := by decide +kernel
theorem dX7_putsOut_82 : decode cX7_putsOut 82 = .ok (.getfield 7, 3) := by decide +kernel
theorem dX7_putsOut_85 : decode cX7_putsOut 85 = .ok (.iload_n 3, 1) := by decide +kernel
theorem dX7_putsOut_86 : decode cX7_putsOut 86 = .ok (.iconst 4, 1) := by decide +kernel
theorem dX7_putsOut_87 : decode cX7_putsOut 87 = .ok (.invokestatic 25, 3) := by decide +kernel
theorem dX7_putsOut_90 : decode cX7_putsOut 90 = .ok (.dup2, 1) := by decide +kernel
theorem dX7_putsOut_91 : decode cX7_putsOut 91 = .ok (.iaload, 1) := by decide +kernel
theorem dX7_putsOut_92 : decode cX7_putsOut 92 = .ok (.iconst 1, 1) := by decide +kernel
theorem dX7_putsOut_93 : decode cX7_putsOut 93 = .ok (.iadd, 1) := by decide +kernel
theorem dX7_putsOut_94 : decode cX7_putsOut 94 = .ok (.iastore, 1) := by decide +kernel
theorem dX7_putsOut_95 : decode cX7_putsOut 95 = .ok (.aload_n 0, 1) := by decide +kernel
theorem dX7_putsOut_96 : decode cX7_putsOut 96 = .ok (.getfield 7, 3) := by decide +kernel
theorem dX7_putsOut_99 : decode cX7_putsOut 99 = .ok (.iload_n 3, 1) := by decide +kernel
theorem dX7_putsOut_100 : decode cX7_putsOut 100 = .ok (.iconst 1, 1) := by decide +kernel
theorem dX7_putsOut_101 : decode cX7_putsOut 101 = .ok (.invokestatic 25, 3) := by decide +kernel
theorem dX7_putsOut_104 : decode cX7_putsOut 104 = .ok (.dup2, 1) := by decide +kernel
theorem dX7_putsOut_105 : decode cX7_putsOut 105 = .ok (.iaload, 1) := by decide +kernel
theorem dX7_putsOut_106 : decode cX7_putsOut 106 = .ok (.aload_n 0, 1) := by decide +kernel
theorem dX7_putsOut_107 : decode cX7_putsOut 107 = .ok (.getfield 7, 3) := by decide +kernel
theorem dX7_putsOut_110 : decode cX7_putsOut 110 = .ok (.iload_n 3, 1) := by decide +kernel
theorem dX7_putsOut_111 : decode cX7_putsOut 111 = .ok (.iconst 1, 1) := by decide +kernel
theorem dX7_putsOut_112 : decode cX7_putsOut 112 = .ok (.invokestatic 25, 3) := by decide +kernel
theorem dX7_putsOut_115 : decode cX7_putsOut 115 = .ok (.iaload, 1) := by decide +kernel
theorem dX7_putsOut_116 : decode cX7_putsOut 116 = .ok (.bipush 7, 2) := by decide +kernel
theorem dX7_putsOut_118 : decode cX7_putsOut 118 = .ok (.if_icmp .ge 7, 3) := by decide +kernel
theorem dX7_putsOut_121 : decode cX7_putsOut 121 = .ok (.iconst 1, 1) := by decide +kernel
theorem dX7_putsOut_122 : decode cX7_putsOut 122 = .ok (.goto 4, 3) := by decide +kernel
theorem dX7_putsOut_125 : decode cX7_putsOut 125 = .ok (.iconst 0, 1) := by decide +kernel
theorem dX7_putsOut_126 : decode cX7_putsOut 126 = .ok (.iadd, 1) := by decide +kernel
theorem dX7_putsOut_127 : decode cX7_putsOut 127 = .ok (.iastore, 1) := by decide +kernel
theorem dX7_putsOut_128 : decode cX7_putsOut 128 = .ok (.return_, 1) := by decide +kernel
theorem dX7_asks_0 : decode cX7_asks 0 = .ok (.aload_n 0, 1) := by decide +kernel
theorem dX7_asks_1 : decode cX7_asks 1 = .ok (.iload_n 1, 1) := by decide +kernel
theorem dX7_asks_2 : decode cX7_asks 2 = .ok (.iload_n 2, 1) := by decide +kernel
theorem dX7_asks_3 : decode cX7_asks 3 = .ok (.iload_n 3, 1) := by decide +kernel
theorem dX7_asks_4 : decode cX7_asks 4 = .ok (.invokevirtual 63, 3) := by decide +kernel
theorem dX7_asks_7 : decode cX7_asks 7 = .ok (.istore 4, 2) := by decide +kernel
theorem dX7_asks_9 : decode cX7_asks 9 = .ok (.aload_n 0, 1) := by decide +kernel
theorem dX7_asks_10 : decode cX7_asks 10 = .ok (.iconst 0, 1) := by decide +kernel
theorem dX7_asks_11 : decode cX7_asks 11 = .ok (.putfield 60, 3) := by decide +kernel
theorem dX7_asks_14 : decode cX7_asks 14 = .ok (.iload 4, 2) := by decide +kernel
theorem dX7_asks_16 : decode cX7_asks 16 = .ok (.ifCond .le 61, 3) := by decide +kernel
theorem dX7_asks_19 : decode cX7_asks 19 = .ok (.aload_n 0, 1) := by decide +kernel
theorem dX7_asks_20 : decode cX7_asks 20 = .ok (.getfield 7, 3) := by decide +kernel
theorem dX7_asks_23 : decode cX7_asks 23 = .ok (.bipush 111, 2) := by decide +kernel
theorem dX7_asks_25 : decode cX7_asks 25 = .ok (.iload 4, 2) := by decide +kernel
theorem dX7_asks_27 : decode cX7_asks 27 = .ok (.iadd, 1) := by decide +kernel
theorem dX7_asks_28 : decode cX7_asks 28 = .ok (.iconst 1, 1) := by decide +kernel
theorem dX7_asks_29 : decode cX7_asks 29 = .ok (.isub, 1) := by decide +kernel
theorem dX7_asks_30 : decode cX7_asks 30 = .ok (.dup2, 1) := by decide +kernel
theorem dX7_asks_31 : decode cX7_asks 31 = .ok (.iaload, 1) := by decide +kernel
theorem dX7_asks_32 : decode cX7_asks 32 = .ok (.iconst 1, 1) := by decide +kernel
theorem dX7_asks_33 : decode cX7_asks 33 = .ok (.iadd, 1) := by decide +kernel
theorem dX7_asks_34 : decode cX7_asks 34 = .ok (.iastore, 1) := by decide +kernel
theorem dX7_asks_35 : decode cX7_asks 35 = .ok (.aload_n 0, 1) := by decide +kernel
theorem dX7_asks_36 : decode cX7_asks 36 = .ok (.getfield 7, 3) := by decide +kernel
theorem dX7_asks_39 : decode cX7_asks 39 = .ok (.iload_n 1, 1) := by decide +kernel
theorem dX7_asks_40 : decode cX7_asks 40 = .ok (.iconst 1, 1) := by decide +kernel
theorem dX7_asks_41 : decode cX7_asks 41 = .ok (.invokestatic 25, 3) := by decide +kernel
theorem dX7_asks_44 : decode cX7_asks 44 = .ok (.dup2, 1) := by decide +kernel
theorem dX7_asks_45 : decode cX7_asks 45 = .ok (.iaload, 1) := by decide +kernel
theorem dX7_asks_46 : decode cX7_asks 46 = .ok (.iload 4, 2) := by decide +kernel
theorem dX7_asks_48 : decode cX7_asks 48 = .ok (.iconst 2, 1) := by decide +kernel
theorem dX7_asks_49 : decode cX7_asks 49 = .ok (.if_icmp .le 22, 3) := by decide +kernel
theorem dX7_asks_52 : decode cX7_asks 52 = .ok (.aload_n 0, 1) := by decide +kernel
theorem dX7_asks_53 : decode cX7_asks 53 = .ok (.getfield 7, 3) := by decide +kernel
theorem dX7_asks_56 : decode cX7_asks 56 = .ok (.iload_n 1, 1) := by decide +kernel
theorem dX7_asks_57 : decode cX7_asks 57 = .ok (.iconst 1, 1) := by decide +kernel
theorem dX7_asks_58 : decode cX7_asks 58 = .ok (.invokestatic 25, 3) := by decide +kernel
theorem dX7_asks_61 : decode cX7_asks 61 = .ok (.iaload, 1) := by decide +kernel
theorem dX7_asks_62 : decode cX7_asks 62 = .ok (.bipush 7, 2) := by decide +kernel
theorem dX7_asks_64 : decode cX7_asks 64 = .ok (.if_icmp .ge 7, 3) := by decide +kernel
theorem dX7_asks_67 : decode cX7_asks 67 = .ok (.iconst 1, 1) := by decide +kernel
theorem dX7_asks_68 : decode cX7_asks 68 = .ok (.goto 4, 3) := by decide +kernel
theorem dX7_asks_71 : decode cX7_asks 71 = .ok (.iconst 0, 1) := by decide +kernel
theorem dX7_asks_72 : decode cX7_asks 72 = .ok (.iadd, 1) := by decide +kernel
theorem dX7_asks_73 : decode cX7_asks 73 = .ok (.iastore, 1) := by decide +kernel
theorem dX7_asks_74 : decode cX7_asks 74 = .ok (.iload 4, 2) := by decide +kernel
theorem dX7_asks_76 : decode cX7_asks 76 = .ok (.ireturn, 1) := by decide +kernel
theorem dX7_asks_77 : decode cX7_asks 77 = .ok (.aload_n 0, 1) := by decide +kernel
theorem dX7_asks_78 : decode cX7_asks 78 = .ok (.getfield 7, 3) := by decide +kernel
theorem dX7_asks_81 : decode cX7_asks 81 = .ok (.iload_n 1, 1) := by decide +kernel
theorem dX7_asks_82 : decode cX7_asks 82 = .ok (.iconst 1, 1) := by decide +kernel
theorem dX7_asks_83 : decode cX7_asks 83 = .ok (.invokestatic 25, 3) := by decide +kernel
theorem dX7_asks_86 : decode cX7_asks 86 = .ok (.iaload, 1) := by decide +kernel
theorem dX7_asks_87 : decode cX7_asks 87 = .ok (.bipush 7, 2) := by decide +kernel
theorem dX7_asks_89 : decode cX7_asks 89 = .ok (.if_icmp .ne 7, 3) := by decide +kernel
theorem dX7_asks_92 : decode cX7_asks 92 = .ok (.iconst 1, 1) := by decide +kernel
theorem dX7_asks_93 : decode cX7_asks 93 = .ok (.goto 4, 3) := by decide +kernel
theorem dX7_asks_96 : decode cX7_asks 96 = .ok (.iconst 0, 1) := by decide +kernel
theorem dX7_asks_97 : decode cX7_asks 97 = .ok (.istore 5, 2) := by decide +kernel
theorem dX7_asks_99 : decode cX7_asks 99 = .ok (.iload 5, 2) := by decide +kernel
theorem dX7_asks_101 : decode cX7_asks 101 = .ok (.ifCond .ne 27, 3) := by decide +kernel
theorem dX7_asks_104 : decode cX7_asks 104 = .ok (.aload_n 0, 1) := by decide +kernel
theorem dX7_asks_105 : decode cX7_asks 105 = .ok (.getfield 7, 3) := by decide +kernel
theorem dX7_asks_108 : decode cX7_asks 108 = .ok (.iload_n 1, 1) := by decide +kernel
theorem dX7_asks_109 : decode cX7_asks 109 = .ok (.iconst 0, 1) := by decide +kernel
theorem dX7_asks_110 : decode cX7_asks 110 = .ok (.invokestatic 25, 3) := by decide +kernel
theorem dX7_asks_113 : decode cX7_asks 113 = .ok (.iaload, 1) := by decide +kernel
theorem dX7_asks_114 : decode cX7_asks 114 = .ok (.aload_n 0, 1) := by decide +kernel
theorem dX7_asks_115 : decode cX7_asks 115 = .ok (.getfield 7, 3) := by decide +kernel
theorem dX7_asks_118 : decode cX7_asks 118 = .ok (.bipush 119, 2) := by decide +kernel
theorem dX7_asks_120 : decode cX7_asks 120 = .ok (.iaload, 1) := by decide +kernel
theorem dX7_asks_121 : decode cX7_asks 121 = .ok (.if_icmp .ge 7, 3) := by decide +kernel
theorem dX7_asks_124 : decode cX7_asks 124 = .ok (.iconst 1, 1) := by decide +kernel
theorem dX7_asks_125 : decode cX7_asks 125 = .ok (.goto 4, 3) := by decide +kernel
theorem dX7_asks_128 : decode cX7_asks 128 = .ok (.iconst 0, 1) := by decide +kernel
theorem dX7_asks_129 : decode cX7_asks 129 = .ok (.istore 6, 2) := by decide +kernel
theorem dX7_asks_131 : decode cX7_asks 131 = .ok (.aload_n 0, 1) := by decide +kernel
theorem dX7_asks_132 : decode cX7_asks 132 = .ok (.iload_n 2, 1) := by decide +kernel
theorem dX7_asks_133 : decode cX7_asks 133 = .ok (.iload_n 3, 1) := by decide +kernel
theorem dX7_asks_134 : decode cX7_asks 134 = .ok (.invokevirtual 53, 3) := by decide +kernel
theorem dX7_asks_137 : decode cX7_asks 137 = .ok (.istore 7, 2) := by decide +kernel
theorem dX7_asks_139 : decode cX7_asks 139 = .ok (.iload_n 2, 1) := by decide +kernel
theorem dX7_asks_140 : decode cX7_asks 140 = .ok (.istore 8, 2) := by decide +kernel
theorem dX7_asks_142 : decode cX7_asks 142 = .ok (.iload 8, 2) := by decide +kernel
theorem dX7_asks_144 : decode cX7_asks 144 = .ok (.iload_n 2, 1) := by decide +kernel
theorem dX7_asks_145 : decode cX7_asks 145 = .ok (.iload_n 3, 1) := by decide +kernel
theorem dX7_asks_146 : decode cX7_asks 146 = .ok (.iadd, 1) := by decide +kernel
theorem dX7_asks_147 : decode cX7_asks 147 = .ok (.if_icmp .ge 33, 3) := by decide +kernel
theorem dX7_asks_150 : decode cX7_asks 150 = .ok (.aload_n 0, 1) := by decide +kernel
theorem dX7_asks_151 : decode cX7_asks 151 = .ok (.getfield 7, 3) := by decide +kernel
theorem dX7_asks_154 : decode cX7_asks 154 = .ok (.iload 7, 2) := by decide +kernel
theorem dX7_asks_156 : decode cX7_asks 156 = .ok (.iload 8, 2) := by decide +kernel
theorem dX7_asks_158 : decode cX7_asks 158 = .ok (.invokestatic 40, 3) := by decide +kernel
theorem dX7_asks_161 : decode cX7_asks 161 = .ok (.iaload, 1) := by decide +kernel
theorem dX7_asks_162 : decode cX7_asks 162 = .ok (.iconst (-1), 1) := by decide +kernel
theorem dX7_asks_163 : decode cX7_asks 163 = .ok (.if_icmp .eq 11, 3) := by decide +kernel
theorem dX7_asks_166 : decode cX7_asks 166 = .ok (.aload_n 0, 1) := by decide +kernel
theorem dX7_asks_167 : decode cX7_asks 167 = .ok (.iload 7, 2) := by decide +kernel
theorem dX7_asks_169 : decode cX7_asks 169 = .ok (.iload 8, 2) := by decide +kernel
theorem dX7_asks_171 : decode cX7_asks 171 = .ok (.invokevirtual 66, 3) := by decide +kernel
theorem dX7_asks_174 : decode cX7_asks 174 = .ok (.iinc 8 1, 3) := by decide +kernel
theorem dX7_asks_177 : decode cX7_asks 177 = .ok (.goto (-35), 3) := by decide +kernel
theorem dX7_asks_180 : decode cX7_asks 180 = .ok (.iload_n 2, 1) := by decide +kernel
theorem dX7_asks_181 : decode cX7_asks 181 = .ok (.istore 8, 2) := by decide +kernel
theorem dX7_asks_183 : decode cX7_asks 183 = .ok (.iload 8, 2) := by decide +kernel
theorem dX7_asks_185 : decode cX7_asks 185 = .ok (.iload_n 2, 1) := by decide +kernel
theorem dX7_asks_186 : decode cX7_asks 186 = .ok (.iload_n 3, 1) := by decide +kernel
theorem dX7_asks_187 : decode cX7_asks 187 = .ok (.iadd, 1) := by decide +kernel
theorem dX7_asks_188 : decode cX7_asks 188 = .ok (.if_icmp .ge 22, 3) := by decide +kernel
theorem dX7_asks_191 : decode cX7_asks 191 = .ok (.aload_n 0, 1) := by decide +kernel
theorem dX7_asks_192 : decode cX7_asks 192 = .ok (.getfield 7, 3) := by decide +kernel
theorem dX7_asks_195 : decode cX7_asks 195 = .ok (.iload 7, 2) := by decide +kernel
theorem dX7_asks_197 : decode cX7_asks 197 = .ok (.iload 8, 2) := by decide +kernel
theorem dX7_asks_199 : decode cX7_asks 199 = .ok (.invokestatic 40, 3) := by decide +kernel
theorem dX7_asks_202 : decode cX7_asks 202 = .ok (.iload_n 1, 1) := by decide +kernel
theorem dX7_asks_203 : decode cX7_asks 203 = .ok (.iastore, 1) := by decide +kernel
theorem dX7_asks_204 : decode cX7_asks 204 = .ok (.iinc 8 1, 3) := by decide +kernel
theorem dX7_asks_207 : decode cX7_asks 207 = .ok (.goto (-24), 3) := by decide +kernel
theorem dX7_asks_210 : decode cX7_asks 210 = .ok (.aload_n 0, 1) := by decide +kernel
theorem dX7_asks_211 : decode cX7_asks 211 = .ok (.getfield 7, 3) := by decide +kernel
theorem dX7_asks_214 : decode cX7_asks 214 = .ok (.iload_n 1, 1) := by decide +kernel
theorem dX7_asks_215 : decode cX7_asks 215 = .ok (.iconst 1, 1) := by decide +kernel
theorem dX7_asks_216 : decode cX7_asks 216 = .ok (.invokestatic 25, 3) := by decide +kernel
theorem dX7_asks_219 : decode cX7_asks 219 = .ok (.iconst 0, 1) := by decide +kernel
theorem dX7_asks_220 : decode cX7_asks 220 = .ok (.iastore, 1) := by decide +kernel
theorem dX7_asks_221 : decode cX7_asks 221 = .ok (.aload_n 0, 1) := by decide +kernel
theorem dX7_asks_222 : decode cX7_asks 222 = .ok (.getfield 7, 3) := by decide +kernel
theorem dX7_asks_225 : decode cX7_asks 225 = .ok (.iload_n 1, 1) := by decide +kernel
theorem dX7_asks_226 : decode cX7_asks 226 = .ok (.iconst 5, 1) := by decide +kernel
theorem dX7_asks_227 : decode cX7_asks 227 = .ok (.invokestatic 25, 3) := by decide +kernel
theorem dX7_asks_230 : decode cX7_asks 230 = .ok (.dup2, 1) := by decide +kernel
theorem dX7_asks_231 : decode cX7_asks 231 = .ok (.iaload, 1) := by decide +kernel
theorem dX7_asks_232 : decode cX7_asks 232 = .ok (.iload 5, 2) := by decide +kernel
theorem dX7_asks_234 : decode cX7_asks 234 = .ok (.ifCond .eq 7, 3) := by decide +kernel
theorem dX7_asks_237 : decode cX7_asks 237 = .ok (.iconst 1, 1) := by decide +kernel
theorem dX7_asks_238 : decode cX7_asks 238 = .ok (.goto 4, 3) := by decide +kernel
theorem dX7_asks_241 : decode cX7_asks 241 = .ok (.iconst 0, 1) := by decide +kernel
theorem dX7_asks_242 : decode cX7_asks 242 = .ok (.iadd, 1) := by decide +kernel
theorem dX7_asks_243 : decode cX7_asks 243 = .ok (.iastore, 1) := by decide +kernel
theorem dX7_asks_244 : decode cX7_asks 244 = .ok (.aload_n 0, 1) := by decide +kernel
theorem dX7_asks_245 : decode cX7_asks 245 = .ok (.getfield 7, 3) := by decide +kernel
theorem dX7_asks_248 : decode cX7_asks 248 = .ok (.iload_n 1, 1) := by decide +kernel
theorem dX7_asks_249 : decode cX7_asks 249 = .ok (.iconst 2, 1) := by decide +kernel
theorem dX7_asks_250 : decode cX7_asks 250 = .ok (.invokestatic 25, 3) := by decide +kernel
theorem dX7_asks_253 : decode cX7_asks 253 = .ok (.dup2, 1) := by decide +kernel
theorem dX7_asks_254 : decode cX7_asks 254 = .ok (.iaload, 1) := by decide +kernel
theorem dX7_asks_255 : decode cX7_asks 255 = .ok (.iload 6, 2) := by decide +kernel
theorem dX7_asks_257 : decode cX7_asks 257 = .ok (.ifCond .eq 7, 3) := by decide +kernel
theorem dX7_asks_260 : decode cX7_asks 260 = .ok (.iconst 1, 1) := by decide +kernel
theorem dX7_asks_261 : decode cX7_asks 261 = .ok (.goto 4, 3) := by decide +kernel
theorem dX7_asks_264 : decode cX7_asks 264 = .ok (.iconst 0, 1) := by decide +kernel
theorem dX7_asks_265 : decode cX7_asks 265 = .ok (.isub, 1) := by decide +kernel
theorem dX7_asks_266 : decode cX7_asks 266 = .ok (.iastore, 1) := by decide +kernel
theorem dX7_asks_267 : decode cX7_asks 267 = .ok (.aload_n 0, 1) := by decide +kernel
theorem dX7_asks_268 : decode cX7_asks 268 = .ok (.getfield 7, 3) := by decide +kernel
theorem dX7_asks_271 : decode cX7_asks 271 = .ok (.bipush 117, 2) := by decide +kernel
theorem dX7_asks_273 : decode cX7_asks 273 = .ok (.dup2, 1) := by decide +kernel
theorem dX7_asks_274 : decode cX7_asks 274 = .ok (.iaload, 1) := by decide +kernel
theorem dX7_asks_275 : decode cX7_asks 275 = .ok (.iload 6, 2) := by decide +kernel
theorem dX7_asks_277 : decode cX7_asks 277 = .ok (.ifCond .eq 7, 3) := by decide +kernel
theorem dX7_asks_280 : decode cX7_asks 280 = .ok (.iconst 1, 1) := by decide +kernel
theorem dX7_asks_281 : decode cX7_asks 281 = .ok (.goto 4, 3) := by decide +kernel
theorem dX7_asks_284 : decode cX7_asks 284 = .ok (.iconst 0, 1) := by decide +kernel
theorem dX7_asks_285 : decode cX7_asks 285 = .ok (.iadd, 1) := by decide +kernel
theorem dX7_asks_286 : decode cX7_asks 286 = .ok (.iastore, 1) := by decide +kernel
theorem dX7_asks_287 : decode cX7_asks 287 = .ok (.aload_n 0, 1) := by decide +kernel
theorem dX7_asks_288 : decode cX7_asks 288 = .ok (.getfield 7, 3) := by decide +kernel
theorem dX7_asks_291 : decode cX7_asks 291 = .ok (.bipush 110, 2) := by decide +kernel
theorem dX7_asks_293 : decode cX7_asks 293 = .ok (.dup2, 1) := by decide +kernel
theorem dX7_asks_294 : decode cX7_asks 294 = .ok (.iaload, 1) := by decide +kernel
theorem dX7_asks_295 : decode cX7_asks 295 = .ok (.iconst 1, 1) := by decide +kernel
theorem dX7_asks_296 : decode cX7_asks 296 = .ok (.iadd, 1) := by decide +kernel
theorem dX7_asks_297 : decode cX7_asks 297 = .ok (.iastore, 1) := by decide +kernel
theorem dX7_asks_298 : decode cX7_asks 298 = .ok (.bipush 10, 2) := by decide +kernel
theorem dX7_asks_300 : decode cX7_asks 300 = .ok (.iload 7, 2) := by decide +kernel
theorem dX7_asks_302 : decode cX7_asks 302 = .ok (.iadd, 1) := by decide +kernel
theorem dX7_asks_303 : decode cX7_asks 303 = .ok (.ireturn, 1) := by decide +kernel
theorem dX7_ask_0 : decode cX7_ask 0 = .ok (.aload_n 0, 1) := by decide +kernel
theorem dX7_ask_1 : decode cX7_ask 1 = .ok (.iload_n 1, 1) := by decide +kernel
theorem dX7_ask_2 : decode cX7_ask 2 = .ok (.invokestatic 70, 3) := by decide +kernel
theorem dX7_ask_5 : decode cX7_ask 5 = .ok (.ifCond .ne 7, 3) := by decide +kernel
theorem dX7_ask_8 : decode cX7_ask 8 = .ok (.iconst 1, 1) := by decide +kernel
theorem dX7_ask_9 : decode cX7_ask 9 = .ok (.goto 16, 3) := by decide +kernel
theorem dX7_ask_12 : decode cX7_ask 12 = .ok (.iload_n 2, 1) := by decide +kernel
theorem dX7_ask_13 : decode cX7_ask 13 = .ok (.iload_n 3, 1) := by decide +kernel
theorem dX7_ask_14 : decode cX7_ask 14 = .ok (.invokestatic 74, 3) := by decide +kernel
theorem dX7_ask_17 : decode cX7_ask 17 = .ok (.ifCond .eq 7, 3) := by decide +kernel
theorem dX7_ask_20 : decode cX7_ask 20 = .ok (.iconst 0, 1) := by decide +kernel
theorem dX7_ask_21 : decode cX7_ask 21 = .ok (.goto 4, 3) := by decide +kernel
theorem dX7_ask_24 : decode cX7_ask 24 = .ok (.iconst 2, 1) := by decide +kernel
theorem dX7_ask_25 : decode cX7_ask 25 = .ok (.invokevirtual 78, 3) := by decide +kernel
theorem dX7_ask_28 : decode cX7_ask 28 = .ok (.ifCond .ne 5, 3) := by decide +kernel
theorem dX7_ask_31 : decode cX7_ask 31 = .ok (.iconst 0, 1) := by decide +kernel
theorem dX7_ask_32 : decode cX7_ask 32 = .ok (.ireturn, 1) := by decide +kernel
theorem dX7_ask_33 : decode cX7_ask 33 = .ok (.aload_n 0, 1) := by decide +kernel
theorem dX7_ask_34 : decode cX7_ask 34 = .ok (.invokevirtual 81, 3) := by decide +kernel
theorem dX7_ask_37 : decode cX7_ask 37 = .ok (.aload_n 0, 1) := by decide +kernel
theorem dX7_ask_38 : decode cX7_ask 38 = .ok (.iload_n 1, 1) := by decide +kernel
theorem dX7_ask_39 : decode cX7_ask 39 = .ok (.iload_n 2, 1) := by decide +kernel
theorem dX7_ask_40 : decode cX7_ask 40 = .ok (.iload_n 3, 1) := by decide +kernel
theorem dX7_ask_41 : decode cX7_ask 41 = .ok (.invokevirtual 84, 3) := by decide +kernel
theorem dX7_ask_44 : decode cX7_ask 44 = .ok (.ireturn, 1) := by decide +kernel
theorem dX7_refuses_0 : decode cX7_refuses 0 = .ok (.aload_n 0, 1) := by decide +kernel
theorem dX7_refuses_1 : decode cX7_refuses 1 = .ok (.getfield 7, 3) := by decide +kernel
theorem dX7_refuses_4 : decode cX7_refuses 4 = .ok (.bipush 118, 2) := by decide +kernel
theorem dX7_refuses_6 : decode cX7_refuses 6 = .ok (.dup2, 1) := by decide +kernel
theorem dX7_refuses_7 : decode cX7_refuses 7 = .ok (.iaload, 1) := by decide +kernel
theorem dX7_refuses_8 : decode cX7_refuses 8 = .ok (.iconst 1, 1) := by decide +kernel
theorem dX7_refuses_9 : decode cX7_refuses 9 = .ok (.iadd, 1) := by decide +kernel
theorem dX7_refuses_10 : decode cX7_refuses 10 = .ok (.iastore, 1) := by decide +kernel
theorem dX7_refuses_11 : decode cX7_refuses 11 = .ok (.iconst (-1), 1) := by decide +kernel
theorem dX7_refuses_12 : decode cX7_refuses 12 = .ok (.ireturn, 1) := by decide +kernel
theorem dX7_giveBack_0 : decode cX7_giveBack 0 = .ok (.aload_n 0, 1) := by decide +kernel
theorem dX7_giveBack_1 : decode cX7_giveBack 1 = .ok (.iload_n 1, 1) := by decide +kernel
theorem dX7_giveBack_2 : decode cX7_giveBack 2 = .ok (.invokestatic 70, 3) := by decide +kernel
theorem dX7_giveBack_5 : decode cX7_giveBack 5 = .ok (.ifCond .ne 7, 3) := by decide +kernel
theorem dX7_giveBack_8 : decode cX7_giveBack 8 = .ok (.iconst 1, 1) := by decide +kernel
theorem dX7_giveBack_9 : decode cX7_giveBack 9 = .ok (.goto 18, 3) := by decide +kernel
theorem dX7_giveBack_12 : decode cX7_giveBack 12 = .ok (.iload_n 2, 1) := by decide +kernel
theorem dX7_giveBack_13 : decode cX7_giveBack 13 = .ok (.iconst 0, 1) := by decide +kernel
theorem dX7_giveBack_14 : decode cX7_giveBack 14 = .ok (.bipush 11, 2) := by decide +kernel
theorem dX7_giveBack_16 : decode cX7_giveBack 16 = .ok (.invokestatic 33, 3) := by decide +kernel
theorem dX7_giveBack_19 : decode cX7_giveBack 19 = .ok (.ifCond .eq 7, 3) := by decide +kernel
theorem dX7_giveBack_22 : decode cX7_giveBack 22 = .ok (.iconst 0, 1) := by decide +kernel
theorem dX7_giveBack_23 : decode cX7_giveBack 23 = .ok (.goto 4, 3) := by decide +kernel
theorem dX7_giveBack_26 : decode cX7_giveBack 26 = .ok (.iconst 2, 1) := by decide +kernel
theorem dX7_giveBack_27 : decode cX7_giveBack 27 = .ok (.invokevirtual 78, 3) := by decide +kernel
theorem dX7_giveBack_30 : decode cX7_giveBack 30 = .ok (.ifCond .ne 5, 3) := by decide +kernel
theorem dX7_giveBack_33 : decode cX7_giveBack 33 = .ok (.iconst 0, 1) := by decide +kernel
theorem dX7_giveBack_34 : decode cX7_giveBack 34 = .ok (.ireturn, 1) := by decide +kernel
theorem dX7_giveBack_35 : decode cX7_giveBack 35 = .ok (.aload_n 0, 1) := by decide +kernel
theorem dX7_giveBack_36 : decode cX7_giveBack 36 = .ok (.invokevirtual 81, 3) := by decide +kernel
theorem dX7_giveBack_39 : decode cX7_giveBack 39 = .ok (.iload_n 2, 1) := by decide +kernel
theorem dX7_giveBack_40 : decode cX7_giveBack 40 = .ok (.aload_n 0, 1) := by decide +kernel
theorem dX7_giveBack_41 : decode cX7_giveBack 41 = .ok (.getfield 7, 3) := by decide +kernel
theorem dX7_giveBack_44 : decode cX7_giveBack 44 = .ok (.bipush 108, 2) := by decide +kernel
theorem dX7_giveBack_46 : decode cX7_giveBack 46 = .ok (.iaload, 1) := by decide +kernel
theorem dX7_giveBack_47 : decode cX7_giveBack 47 = .ok (.if_icmp .ge 7, 3) := by decide +kernel
theorem dX7_giveBack_50 : decode cX7_giveBack 50 = .ok (.iconst (-1), 1) := by decide +kernel
theorem dX7_giveBack_51 : decode cX7_giveBack 51 = .ok (.goto 9, 3) := by decide +kernel
theorem dX7_giveBack_54 : decode cX7_giveBack 54 = .ok (.aload_n 0, 1) := by decide +kernel
theorem dX7_giveBack_55 : decode cX7_giveBack 55 = .ok (.iload_n 1, 1) := by decide +kernel
theorem dX7_giveBack_56 : decode cX7_giveBack 56 = .ok (.iload_n 2, 1) := by decide +kernel
theorem dX7_giveBack_57 : decode cX7_giveBack 57 = .ok (.invokevirtual 47, 3) := by decide +kernel
theorem dX7_giveBack_60 : decode cX7_giveBack 60 = .ok (.istore_n 3, 1) := by decide +kernel
theorem dX7_giveBack_61 : decode cX7_giveBack 61 = .ok (.iload_n 3, 1) := by decide +kernel
theorem dX7_giveBack_62 : decode cX7_giveBack 62 = .ok (.iconst (-1), 1) := by decide +kernel
theorem dX7_giveBack_63 : decode cX7_giveBack 63 = .ok (.if_icmp .ne 8, 3) := by decide +kernel
theorem dX7_giveBack_66 : decode cX7_giveBack 66 = .ok (.aload_n 0, 1) := by decide +kernel
theorem dX7_giveBack_67 : decode cX7_giveBack 67 = .ok (.invokevirtual 87, 3) := by decide +kernel
theorem dX7_giveBack_70 : decode cX7_giveBack 70 = .ok (.ireturn, 1) := by decide +kernel
theorem dX7_giveBack_71 : decode cX7_giveBack 71 = .ok (.iconst 0, 1) := by decide +kernel
theorem dX7_giveBack_72 : decode cX7_giveBack 72 = .ok (.istore 4, 2) := by decide +kernel
theorem dX7_giveBack_74 : decode cX7_giveBack 74 = .ok (.iload_n 2, 1) := by decide +kernel
theorem dX7_giveBack_75 : decode cX7_giveBack 75 = .ok (.iload 4, 2) := by decide +kernel
theorem dX7_giveBack_77 : decode cX7_giveBack 77 = .ok (.iadd, 1) := by decide +kernel
theorem dX7_giveBack_78 : decode cX7_giveBack 78 = .ok (.bipush 12, 2) := by decide +kernel
theorem dX7_giveBack_80 : decode cX7_giveBack 80 = .ok (.if_icmp .ge 40, 3) := by decide +kernel
theorem dX7_giveBack_83 : decode cX7_giveBack 83 = .ok (.aload_n 0, 1) := by decide +kernel
theorem dX7_giveBack_84 : decode cX7_giveBack 84 = .ok (.getfield 7, 3) := by decide +kernel
theorem dX7_giveBack_87 : decode cX7_giveBack 87 = .ok (.iload_n 3, 1) := by decide +kernel
theorem dX7_giveBack_88 : decode cX7_giveBack 88 = .ok (.iload_n 2, 1) := by decide +kernel
theorem dX7_giveBack_89 : decode cX7_giveBack 89 = .ok (.iload 4, 2) := by decide +kernel
theorem dX7_giveBack_91 : decode cX7_giveBack 91 = .ok (.iadd, 1) := by decide +kernel
theorem dX7_giveBack_92 : decode cX7_giveBack 92 = .ok (.invokestatic 40, 3) := by decide +kernel
theorem dX7_giveBack_95 : decode cX7_giveBack 95 = .ok (.iaload, 1) := by decide +kernel
theorem dX7_giveBack_96 : decode cX7_giveBack 96 = .ok (.iload_n 1, 1) := by decide +kernel
theorem dX7_giveBack_97 : decode cX7_giveBack 97 = .ok (.if_icmp .ne 23, 3) := by decide +kernel
theorem dX7_giveBack_100 : decode cX7_giveBack 100 = .ok (.aload_n 0, 1) := by decide +kernel
theorem dX7_giveBack_101 : decode cX7_giveBack 101 = .ok (.getfield 7, 3) := by decide +kernel
theorem dX7_giveBack_104 : decode cX7_giveBack 104 = .ok (.iload_n 3, 1) := by decide +kernel
theorem dX7_giveBack_105 : decode cX7_giveBack 105 = .ok (.iload_n 2, 1) := by decide +kernel
theorem dX7_giveBack_106 : decode cX7_giveBack 106 = .ok (.iload 4, 2) := by decide +kernel
theorem dX7_giveBack_108 : decode cX7_giveBack 108 = .ok (.iadd, 1) := by decide +kernel
theorem dX7_giveBack_109 : decode cX7_giveBack 109 = .ok (.invokestatic 40, 3) := by decide +kernel
theorem dX7_giveBack_112 : decode cX7_giveBack 112 = .ok (.iconst (-1), 1) := by decide +kernel
theorem dX7_giveBack_113 : decode cX7_giveBack 113 = .ok (.iastore, 1) := by decide +kernel
theorem dX7_giveBack_114 : decode cX7_giveBack 114 = .ok (.iinc 4 1, 3) := by decide +kernel
theorem dX7_giveBack_117 : decode cX7_giveBack 117 = .ok (.goto (-43), 3) := by decide +kernel
theorem dX7_giveBack_120 : decode cX7_giveBack 120 = .ok (.iload 4, 2) := by decide +kernel
theorem dX7_giveBack_122 : decode cX7_giveBack 122 = .ok (.ireturn, 1) := by decide +kernel
theorem dX7_favour_0 : decode cX7_favour 0 = .ok (.aload_n 0, 1) := by decide +kernel
theorem dX7_favour_1 : decode cX7_favour 1 = .ok (.iload_n 1, 1) := by decide +kernel
theorem dX7_favour_2 : decode cX7_favour 2 = .ok (.invokestatic 70, 3) := by decide +kernel
theorem dX7_favour_5 : decode cX7_favour 5 = .ok (.ifCond .eq 7, 3) := by decide +kernel
theorem dX7_favour_8 : decode cX7_favour 8 = .ok (.iconst 0, 1) := by decide +kernel
theorem dX7_favour_9 : decode cX7_favour 9 = .ok (.goto 4, 3) := by decide +kernel
theorem dX7_favour_12 : decode cX7_favour 12 = .ok (.iconst 1, 1) := by decide +kernel
theorem dX7_favour_13 : decode cX7_favour 13 = .ok (.invokevirtual 78, 3) := by decide +kernel
theorem dX7_favour_16 : decode cX7_favour 16 = .ok (.ifCond .ne 5, 3) := by decide +kernel
theorem dX7_favour_19 : decode cX7_favour 19 = .ok (.iconst 0, 1) := by decide +kernel
theorem dX7_favour_20 : decode cX7_favour 20 = .ok (.ireturn, 1) := by decide +kernel
theorem dX7_favour_21 : decode cX7_favour 21 = .ok (.aload_n 0, 1) := by decide +kernel
theorem dX7_favour_22 : decode cX7_favour 22 = .ok (.invokevirtual 81, 3) := by decide +kernel
theorem dX7_favour_25 : decode cX7_favour 25 = .ok (.aload_n 0, 1) := by decide +kernel
theorem dX7_favour_26 : decode cX7_favour 26 = .ok (.getfield 7, 3) := by decide +kernel
theorem dX7_favour_29 : decode cX7_favour 29 = .ok (.iload_n 1, 1) := by decide +kernel
theorem dX7_favour_30 : decode cX7_favour 30 = .ok (.iconst 2, 1) := by decide +kernel
theorem dX7_favour_31 : decode cX7_favour 31 = .ok (.invokestatic 25, 3) := by decide +kernel
theorem dX7_favour_34 : decode cX7_favour 34 = .ok (.iaload, 1) := by decide +kernel
theorem dX7_favour_35 : decode cX7_favour 35 = .ok (.iconst 3, 1) := by decide +kernel
theorem dX7_favour_36 : decode cX7_favour 36 = .ok (.if_icmp .ne 8, 3) := by decide +kernel
theorem dX7_favour_39 : decode cX7_favour 39 = .ok (.aload_n 0, 1) := by decide +kernel
theorem dX7_favour_40 : decode cX7_favour 40 = .ok (.invokevirtual 87, 3) := by decide +kernel
theorem dX7_favour_43 : decode cX7_favour 43 = .ok (.ireturn, 1) := by decide +kernel
theorem dX7_favour_44 : decode cX7_favour 44 = .ok (.aload_n 0, 1) := by decide +kernel
theorem dX7_favour_45 : decode cX7_favour 45 = .ok (.getfield 7, 3) := by decide +kernel
theorem dX7_favour_48 : decode cX7_favour 48 = .ok (.iload_n 1, 1) := by decide +kernel
theorem dX7_favour_49 : decode cX7_favour 49 = .ok (.iconst 2, 1) := by decide +kernel
theorem dX7_favour_50 : decode cX7_favour 50 = .ok (.invokestatic 25, 3) := by decide +kernel
theorem dX7_favour_53 : decode cX7_favour 53 = .ok (.dup2, 1) := by decide +kernel
theorem dX7_favour_54 : decode cX7_favour 54 = .ok (.iaload, 1) := by decide +kernel
theorem dX7_favour_55 : decode cX7_favour 55 = .ok (.iconst 1, 1) := by decide +kernel
theorem dX7_favour_56 : decode cX7_favour 56 = .ok (.iadd, 1) := by decide +kernel
theorem dX7_favour_57 : decode cX7_favour 57 = .ok (.iastore, 1) := by decide +kernel
theorem dX7_favour_58 : decode cX7_favour 58 = .ok (.aload_n 0, 1) := by decide +kernel
theorem dX7_favour_59 : decode cX7_favour 59 = .ok (.getfield 7, 3) := by decide +kernel
theorem dX7_favour_62 : decode cX7_favour 62 = .ok (.iload_n 1, 1) := by decide +kernel
theorem dX7_favour_63 : decode cX7_favour 63 = .ok (.iconst 2, 1) := by decide +kernel
theorem dX7_favour_64 : decode cX7_favour 64 = .ok (.invokestatic 25, 3) := by decide +kernel
theorem dX7_favour_67 : decode cX7_favour 67 = .ok (.iaload, 1) := by decide +kernel
theorem dX7_favour_68 : decode cX7_favour 68 = .ok (.ireturn, 1) := by decide +kernel
theorem dX7_becomes_0 : decode cX7_becomes 0 = .ok (.aload_n 0, 1) := by decide +kernel
theorem dX7_becomes_1 : decode cX7_becomes 1 = .ok (.invokevirtual 81, 3) := by decide +kernel
theorem dX7_becomes_4 : decode cX7_becomes 4 = .ok (.aload_n 0, 1) := by decide +kernel
theorem dX7_becomes_5 : decode cX7_becomes 5 = .ok (.getfield 7, 3) := by decide +kernel
theorem dX7_becomes_8 : decode cX7_becomes 8 = .ok (.iload_n 1, 1) := by decide +kernel
theorem dX7_becomes_9 : decode cX7_becomes 9 = .ok (.iaload, 1) := by decide +kernel
theorem dX7_becomes_10 : decode cX7_becomes 10 = .ok (.istore_n 3, 1) := by decide +kernel
theorem dX7_becomes_11 : decode cX7_becomes 11 = .ok (.aload_n 0, 1) := by decide +kernel
theorem dX7_becomes_12 : decode cX7_becomes 12 = .ok (.getfield 7, 3) := by decide +kernel
theorem dX7_becomes_15 : decode cX7_becomes 15 = .ok (.iload_n 1, 1) := by decide +kernel
theorem dX7_becomes_16 : decode cX7_becomes 16 = .ok (.iload_n 2, 1) := by decide +kernel
theorem dX7_becomes_17 : decode cX7_becomes 17 = .ok (.iastore, 1) := by decide +kernel
theorem dX7_becomes_18 : decode cX7_becomes 18 = .ok (.iload_n 3, 1) := by decide +kernel
theorem dX7_becomes_19 : decode cX7_becomes 19 = .ok (.ireturn, 1) := by decide +kernel
theorem dX7_need_0 : decode cX7_need 0 = .ok (.aload_n 0, 1) := by decide +kernel
theorem dX7_need_1 : decode cX7_need 1 = .ok (.iload_n 1, 1) := by decide +kernel
theorem dX7_need_2 : decode cX7_need 2 = .ok (.invokestatic 70, 3) := by decide +kernel
theorem dX7_need_5 : decode cX7_need 5 = .ok (.ifCond .ne 7, 3) := by decide +kernel
theorem dX7_need_8 : decode cX7_need 8 = .ok (.iconst 1, 1) := by decide +kernel
theorem dX7_need_9 : decode cX7_need 9 = .ok (.goto 18, 3) := by decide +kernel
theorem dX7_need_12 : decode cX7_need 12 = .ok (.iload_n 2, 1) := by decide +kernel
theorem dX7_need_13 : decode cX7_need 13 = .ok (.iconst 0, 1) := by decide +kernel
theorem dX7_need_14 : decode cX7_need 14 = .ok (.bipush 9, 2) := by decide +kernel
theorem dX7_need_16 : decode cX7_need 16 = .ok (.invokestatic 33, 3) := by decide +kernel
theorem dX7_need_19 : decode cX7_need 19 = .ok (.ifCond .eq 7, 3) := by decide +kernel
theorem dX7_need_22 : decode cX7_need 22 = .ok (.iconst 0, 1) := by decide +kernel
theorem dX7_need_23 : decode cX7_need 23 = .ok (.goto 4, 3) := by decide +kernel
theorem dX7_need_26 : decode cX7_need 26 = .ok (.iconst 2, 1) := by decide +kernel
theorem dX7_need_27 : decode cX7_need 27 = .ok (.invokevirtual 78, 3) := by decide +kernel
theorem dX7_need_30 : decode cX7_need 30 = .ok (.ifCond .eq 16, 3) := by decide +kernel
theorem dX7_need_33 : decode cX7_need 33 = .ok (.aload_n 0, 1) := by decide +kernel
theorem dX7_need_34 : decode cX7_need 34 = .ok (.iload_n 1, 1) := by decide +kernel
theorem dX7_need_35 : decode cX7_need 35 = .ok (.iconst 0, 1) := by decide +kernel
theorem dX7_need_36 : decode cX7_need 36 = .ok (.invokestatic 25, 3) := by decide +kernel
theorem dX7_need_39 : decode cX7_need 39 = .ok (.iload_n 2, 1) := by decide +kernel
theorem dX7_need_40 : decode cX7_need 40 = .ok (.invokevirtual 91, 3) := by decide +kernel
theorem dX7_need_43 : decode cX7_need 43 = .ok (.goto 4, 3) := by decide +kernel
theorem dX7_need_46 : decode cX7_need 46 = .ok (.iconst 0, 1) := by decide +kernel
theorem dX7_need_47 : decode cX7_need 47 = .ok (.ireturn, 1) := by decide +kernel
theorem dX7_passes_0 : decode cX7_passes 0 = .ok (.iconst 0, 1) := by decide +kernel
theorem dX7_passes_1 : decode cX7_passes 1 = .ok (.istore_n 1, 1) := by decide +kernel
theorem dX7_passes_2 : decode cX7_passes 2 = .ok (.iconst 0, 1) := by decide +kernel
theorem dX7_passes_3 : decode cX7_passes 3 = .ok (.istore_n 2, 1) := by decide +kernel
theorem dX7_passes_4 : decode cX7_passes 4 = .ok (.iload_n 2, 1) := by decide +kernel
theorem dX7_passes_5 : decode cX7_passes 5 = .ok (.iconst 4, 1) := by decide +kernel
theorem dX7_passes_6 : decode cX7_passes 6 = .ok (.if_icmp .ge 48, 3) := by decide +kernel
theorem dX7_passes_9 : decode cX7_passes 9 = .ok (.aload_n 0, 1) := by decide +kernel
theorem dX7_passes_10 : decode cX7_passes 10 = .ok (.getfield 7, 3) := by decide +kernel
theorem dX7_passes_13 : decode cX7_passes 13 = .ok (.iload_n 2, 1) := by decide +kernel
theorem dX7_passes_14 : decode cX7_passes 14 = .ok (.aload_n 0, 1) := by decide +kernel
theorem dX7_passes_15 : decode cX7_passes 15 = .ok (.getfield 7, 3) := by decide +kernel
theorem dX7_passes_18 : decode cX7_passes 18 = .ok (.bipush 108, 2) := by decide +kernel
theorem dX7_passes_20 : decode cX7_passes 20 = .ok (.iaload, 1) := by decide +kernel
theorem dX7_passes_21 : decode cX7_passes 21 = .ok (.invokestatic 40, 3) := by decide +kernel
theorem dX7_passes_24 : decode cX7_passes 24 = .ok (.iaload, 1) := by decide +kernel
theorem dX7_passes_25 : decode cX7_passes 25 = .ok (.istore_n 3, 1) := by decide +kernel
theorem dX7_passes_26 : decode cX7_passes 26 = .ok (.iload_n 3, 1) := by decide +kernel
theorem dX7_passes_27 : decode cX7_passes 27 = .ok (.iconst (-1), 1) := by decide +kernel
theorem dX7_passes_28 : decode cX7_passes 28 = .ok (.if_icmp .eq 20, 3) := by decide +kernel
theorem dX7_passes_31 : decode cX7_passes 31 = .ok (.aload_n 0, 1) := by decide +kernel
theorem dX7_passes_32 : decode cX7_passes 32 = .ok (.getfield 7, 3) := by decide +kernel
theorem dX7_passes_35 : decode cX7_passes 35 = .ok (.iload_n 3, 1) := by decide +kernel
theorem dX7_passes_36 : decode cX7_passes 36 = .ok (.iconst 3, 1) := by decide +kernel
theorem dX7_passes_37 : decode cX7_passes 37 = .ok (.invokestatic 25, 3) := by decide +kernel
theorem dX7_passes_40 : decode cX7_passes 40 = .ok (.dup2, 1) := by decide +kernel
theorem dX7_passes_41 : decode cX7_passes 41 = .ok (.iaload, 1) := by decide +kernel
theorem dX7_passes_42 : decode cX7_passes 42 = .ok (.iconst 1, 1) := by decide +kernel
theorem dX7_passes_43 : decode cX7_passes 43 = .ok (.iadd, 1) := by decide +kernel
theorem dX7_passes_44 : decode cX7_passes 44 = .ok (.iastore, 1) := by decide +kernel
theorem dX7_passes_45 : decode cX7_passes 45 = .ok (.iinc 1 1, 3) := by decide +kernel
theorem dX7_passes_48 : decode cX7_passes 48 = .ok (.iinc 2 1, 3) := by decide +kernel
theorem dX7_passes_51 : decode cX7_passes 51 = .ok (.goto (-47), 3) := by decide +kernel
theorem dX7_passes_54 : decode cX7_passes 54 = .ok (.aload_n 0, 1) := by decide +kernel
theorem dX7_passes_55 : decode cX7_passes 55 = .ok (.getfield 7, 3) := by decide +kernel
theorem dX7_passes_58 : decode cX7_passes 58 = .ok (.bipush 108, 2) := by decide +kernel
theorem dX7_passes_60 : decode cX7_passes 60 = .ok (.dup2, 1) := by decide +kernel
theorem dX7_passes_61 : decode cX7_passes 61 = .ok (.iaload, 1) := by decide +kernel
theorem dX7_passes_62 : decode cX7_passes 62 = .ok (.iconst 1, 1) := by decide +kernel
theorem dX7_passes_63 : decode cX7_passes 63 = .ok (.iadd, 1) := by decide +kernel
theorem dX7_passes_64 : decode cX7_passes 64 = .ok (.iastore, 1) := by decide +kernel
theorem dX7_passes_65 : decode cX7_passes 65 = .ok (.aload_n 0, 1) := by decide +kernel
theorem dX7_passes_66 : decode cX7_passes 66 = .ok (.getfield 7, 3) := by decide +kernel
theorem dX7_passes_69 : decode cX7_passes 69 = .ok (.bipush 108, 2) := by decide +kernel
theorem dX7_passes_71 : decode cX7_passes 71 = .ok (.iaload, 1) := by decide +kernel
theorem dX7_passes_72 : decode cX7_passes 72 = .ok (.bipush 12, 2) := by decide +kernel
theorem dX7_passes_74 : decode cX7_passes 74 = .ok (.if_icmp .ne 46, 3) := by decide +kernel
theorem dX7_passes_77 : decode cX7_passes 77 = .ok (.aload_n 0, 1) := by decide +kernel
theorem dX7_passes_78 : decode cX7_passes 78 = .ok (.getfield 7, 3) := by decide +kernel
theorem dX7_passes_81 : decode cX7_passes 81 = .ok (.bipush 108, 2) := by decide +kernel
theorem dX7_passes_83 : decode cX7_passes 83 = .ok (.iconst 0, 1) := by decide +kernel
theorem dX7_passes_84 : decode cX7_passes 84 = .ok (.iastore, 1) := by decide +kernel
theorem dX7_passes_85 : decode cX7_passes 85 = .ok (.aload_n 0, 1) := by decide +kernel
theorem dX7_passes_86 : decode cX7_passes 86 = .ok (.getfield 7, 3) := by decide +kernel
theorem dX7_passes_89 : decode cX7_passes 89 = .ok (.bipush 109, 2) := by decide +kernel
theorem dX7_passes_91 : decode cX7_passes 91 = .ok (.dup2, 1) := by decide +kernel
theorem dX7_passes_92 : decode cX7_passes 92 = .ok (.iaload, 1) := by decide +kernel
theorem dX7_passes_93 : decode cX7_passes 93 = .ok (.iconst 1, 1) := by decide +kernel
theorem dX7_passes_94 : decode cX7_passes 94 = .ok (.iadd, 1) := by decide +kernel
theorem dX7_passes_95 : decode cX7_passes 95 = .ok (.iastore, 1) := by decide +kernel
theorem dX7_passes_96 : decode cX7_passes 96 = .ok (.iconst 0, 1) := by decide +kernel
theorem dX7_passes_97 : decode cX7_passes 97 = .ok (.istore_n 2, 1) := by decide +kernel
theorem dX7_passes_98 : decode cX7_passes 98 = .ok (.iload_n 2, 1) := by decide +kernel
theorem dX7_passes_99 : decode cX7_passes 99 = .ok (.bipush 48, 2) := by decide +kernel
theorem dX7_passes_101 : decode cX7_passes 101 = .ok (.if_icmp .ge 19, 3) := by decide +kernel
theorem dX7_passes_104 : decode cX7_passes 104 = .ok (.aload_n 0, 1) := by decide +kernel
theorem dX7_passes_105 : decode cX7_passes 105 = .ok (.getfield 7, 3) := by decide +kernel
theorem dX7_passes_108 : decode cX7_passes 108 = .ok (.bipush 60, 2) := by decide +kernel
theorem dX7_passes_110 : decode cX7_passes 110 = .ok (.iload_n 2, 1) := by decide +kernel
theorem dX7_passes_111 : decode cX7_passes 111 = .ok (.iadd, 1) := by decide +kernel
theorem dX7_passes_112 : decode cX7_passes 112 = .ok (.iconst (-1), 1) := by decide +kernel
theorem dX7_passes_113 : decode cX7_passes 113 = .ok (.iastore, 1) := by decide +kernel
theorem dX7_passes_114 : decode cX7_passes 114 = .ok (.iinc 2 1, 3) := by decide +kernel
theorem dX7_passes_117 : decode cX7_passes 117 = .ok (.goto (-19), 3) := by decide +kernel
theorem dX7_passes_120 : decode cX7_passes 120 = .ok (.iload_n 1, 1) := by decide +kernel
theorem dX7_passes_121 : decode cX7_passes 121 = .ok (.ireturn, 1) := by decide +kernel
theorem dX7_pass_0 : decode cX7_pass 0 = .ok (.aload_n 0, 1) := by decide +kernel
theorem dX7_pass_1 : decode cX7_pass 1 = .ok (.aload_n 0, 1) := by decide +kernel
theorem dX7_pass_2 : decode cX7_pass 2 = .ok (.getfield 7, 3) := by decide +kernel
theorem dX7_pass_5 : decode cX7_pass 5 = .ok (.bipush 109, 2) := by decide +kernel
theorem dX7_pass_7 : decode cX7_pass 7 = .ok (.iaload, 1) := by decide +kernel
theorem dX7_pass_8 : decode cX7_pass 8 = .ok (.sipush 999, 3) := by decide +kernel
theorem dX7_pass_11 : decode cX7_pass 11 = .ok (.if_icmp .ne 7, 3) := by decide +kernel
theorem dX7_pass_14 : decode cX7_pass 14 = .ok (.iconst 1, 1) := by decide +kernel
theorem dX7_pass_15 : decode cX7_pass 15 = .ok (.goto 4, 3) := by decide +kernel
theorem dX7_pass_18 : decode cX7_pass 18 = .ok (.iconst 0, 1) := by decide +kernel
theorem dX7_pass_19 : decode cX7_pass 19 = .ok (.invokevirtual 78, 3) := by decide +kernel
theorem dX7_pass_22 : decode cX7_pass 22 = .ok (.ifCond .ne 5, 3) := by decide +kernel
theorem dX7_pass_25 : decode cX7_pass 25 = .ok (.iconst 0, 1) := by decide +kernel
theorem dX7_pass_26 : decode cX7_pass 26 = .ok (.ireturn, 1) := by decide +kernel
theorem dX7_pass_27 : decode cX7_pass 27 = .ok (.aload_n 0, 1) := by decide +kernel
theorem dX7_pass_28 : decode cX7_pass 28 = .ok (.invokevirtual 81, 3) := by decide +kernel
theorem dX7_pass_31 : decode cX7_pass 31 = .ok (.aload_n 0, 1) := by decide +kernel
theorem dX7_pass_32 : decode cX7_pass 32 = .ok (.invokevirtual 94, 3) := by decide +kernel
theorem dX7_pass_35 : decode cX7_pass 35 = .ok (.ireturn, 1) := by decide +kernel
theorem dX7_set_0 : decode cX7_set 0 = .ok (.aload_n 0, 1) := by decide +kernel
theorem dX7_set_1 : decode cX7_set 1 = .ok (.iload_n 1, 1) := by decide +kernel
theorem dX7_set_2 : decode cX7_set 2 = .ok (.iconst 0, 1) := by decide +kernel
theorem dX7_set_3 : decode cX7_set 3 = .ok (.bipush 9, 2) := by decide +kernel
theorem dX7_set_5 : decode cX7_set 5 = .ok (.invokestatic 33, 3) := by decide +kernel
theorem dX7_set_8 : decode cX7_set 8 = .ok (.ifCond .eq 7, 3) := by decide +kernel
theorem dX7_set_11 : decode cX7_set 11 = .ok (.iconst 0, 1) := by decide +kernel
theorem dX7_set_12 : decode cX7_set 12 = .ok (.goto 4, 3) := by decide +kernel
theorem dX7_set_15 : decode cX7_set 15 = .ok (.iconst 1, 1) := by decide +kernel
theorem dX7_set_16 : decode cX7_set 16 = .ok (.invokevirtual 78, 3) := by decide +kernel
theorem dX7_set_19 : decode cX7_set 19 = .ok (.ifCond .eq 13, 3) := by decide +kernel
theorem dX7_set_22 : decode cX7_set 22 = .ok (.aload_n 0, 1) := by decide +kernel
theorem dX7_set_23 : decode cX7_set 23 = .ok (.bipush 119, 2) := by decide +kernel
theorem dX7_set_25 : decode cX7_set 25 = .ok (.iload_n 1, 1) := by decide +kernel
theorem dX7_set_26 : decode cX7_set 26 = .ok (.invokevirtual 91, 3) := by decide +kernel
theorem dX7_set_29 : decode cX7_set 29 = .ok (.goto 4, 3) := by decide +kernel
theorem dX7_set_32 : decode cX7_set 32 = .ok (.iconst 0, 1) := by decide +kernel
theorem dX7_set_33 : decode cX7_set 33 = .ok (.ireturn, 1) := by decide +kernel
theorem dX7_append_0 : decode cX7_append 0 = .ok (.aload_n 0, 1) := by decide +kernel
theorem dX7_append_1 : decode cX7_append 1 = .ok (.iload_n 1, 1) := by decide +kernel
theorem dX7_append_2 : decode cX7_append 2 = .ok (.bipush 33, 2) := by decide +kernel
theorem dX7_append_4 : decode cX7_append 4 = .ok (.bipush 126, 2) := by decide +kernel
theorem dX7_append_6 : decode cX7_append 6 = .ok (.invokestatic 33, 3) := by decide +kernel
theorem dX7_append_9 : decode cX7_append 9 = .ok (.ifCond .ne 7, 3) := by decide +kernel
theorem dX7_append_12 : decode cX7_append 12 = .ok (.iconst 1, 1) := by decide +kernel
theorem dX7_append_13 : decode cX7_append 13 = .ok (.goto 17, 3) := by decide +kernel
theorem dX7_append_16 : decode cX7_append 16 = .ok (.aload_n 0, 1) := by decide +kernel
theorem dX7_append_17 : decode cX7_append 17 = .ok (.getfield 97, 3) := by decide +kernel
theorem dX7_append_20 : decode cX7_append 20 = .ok (.bipush 60, 2) := by decide +kernel
theorem dX7_append_22 : decode cX7_append 22 = .ok (.if_icmp .ne 7, 3) := by decide +kernel
theorem dX7_append_25 : decode cX7_append 25 = .ok (.iconst 2, 1) := by decide +kernel
theorem dX7_append_26 : decode cX7_append 26 = .ok (.goto 4, 3) := by decide +kernel
theorem dX7_append_29 : decode cX7_append 29 = .ok (.iconst 0, 1) := by decide +kernel
theorem dX7_append_30 : decode cX7_append 30 = .ok (.invokevirtual 78, 3) := by decide +kernel
theorem dX7_append_33 : decode cX7_append 33 = .ok (.ifCond .ne 5, 3) := by decide +kernel
theorem dX7_append_36 : decode cX7_append 36 = .ok (.iconst 0, 1) := by decide +kernel
theorem dX7_append_37 : decode cX7_append 37 = .ok (.ireturn, 1) := by decide +kernel
theorem dX7_append_38 : decode cX7_append 38 = .ok (.aload_n 0, 1) := by decide +kernel
theorem dX7_append_39 : decode cX7_append 39 = .ok (.getfield 22, 3) := by decide +kernel
theorem dX7_append_42 : decode cX7_append 42 = .ok (.aload_n 0, 1) := by decide +kernel
theorem dX7_append_43 : decode cX7_append 43 = .ok (.getfield 97, 3) := by decide +kernel
theorem dX7_append_46 : decode cX7_append 46 = .ok (.iload_n 1, 1) := by decide +kernel
theorem dX7_append_47 : decode cX7_append 47 = .ok (.iastore, 1) := by decide +kernel
theorem dX7_append_48 : decode cX7_append 48 = .ok (.aload_n 0, 1) := by decide +kernel
theorem dX7_append_49 : decode cX7_append 49 = .ok (.dup, 1) := by decide +kernel
theorem dX7_append_50 : decode cX7_append 50 = .ok (.getfield 97, 3) := by decide +kernel
theorem dX7_append_53 : decode cX7_append 53 = .ok (.iconst 1, 1) := by decide +kernel
theorem dX7_append_54 : decode cX7_append 54 = .ok (.iadd, 1) := by decide +kernel
theorem dX7_append_55 : decode cX7_append 55 = .ok (.putfield 97, 3) := by decide +kernel
theorem dX7_append_58 : decode cX7_append 58 = .ok (.aload_n 0, 1) := by decide +kernel
theorem dX7_append_59 : decode cX7_append 59 = .ok (.getfield 97, 3) := by decide +kernel
theorem dX7_append_62 : decode cX7_append 62 = .ok (.ireturn, 1) := by decide +kernel
theorem dX7_clearBuffer_0 : decode cX7_clearBuffer 0 = .ok (.aload_n 0, 1) := by decide +kernel
theorem dX7_clearBuffer_1 : decode cX7_clearBuffer 1 = .ok (.iconst 0, 1) := by decide +kernel
theorem dX7_clearBuffer_2 : decode cX7_clearBuffer 2 = .ok (.putfield 29, 3) := by decide +kernel
theorem dX7_clearBuffer_5 : decode cX7_clearBuffer 5 = .ok (.aload_n 0, 1) := by decide +kernel
theorem dX7_clearBuffer_6 : decode cX7_clearBuffer 6 = .ok (.getfield 97, 3) := by decide +kernel
theorem dX7_clearBuffer_9 : decode cX7_clearBuffer 9 = .ok (.istore_n 1, 1) := by decide +kernel
theorem dX7_clearBuffer_10 : decode cX7_clearBuffer 10 = .ok (.aload_n 0, 1) := by decide +kernel
theorem dX7_clearBuffer_11 : decode cX7_clearBuffer 11 = .ok (.iconst 0, 1) := by decide +kernel
theorem dX7_clearBuffer_12 : decode cX7_clearBuffer 12 = .ok (.putfield 97, 3) := by decide +kernel
theorem dX7_clearBuffer_15 : decode cX7_clearBuffer 15 = .ok (.iload_n 1, 1) := by decide +kernel
theorem dX7_clearBuffer_16 : decode cX7_clearBuffer 16 = .ok (.ireturn, 1) := by decide +kernel
theorem dX7_isNext_0 : decode cX7_isNext 0 = .ok (.aload_n 0, 1) := by decide +kernel
theorem dX7_isNext_1 : decode cX7_isNext 1 = .ok (.getfield 100, 3) := by decide +kernel
theorem dX7_isNext_4 : decode cX7_isNext 4 = .ok (.ifCond .ne 35, 3) := by decide +kernel
theorem dX7_isNext_7 : decode cX7_isNext 7 = .ok (.aload_n 0, 1) := by decide +kernel
theorem dX7_isNext_8 : decode cX7_isNext 8 = .ok (.getfield 104, 3) := by decide +kernel
theorem dX7_isNext_11 : decode cX7_isNext 11 = .ok (.aload_n 0, 1) := by decide +kernel
theorem dX7_isNext_12 : decode cX7_isNext 12 = .ok (.getfield 97, 3) := by decide +kernel
theorem dX7_isNext_15 : decode cX7_isNext 15 = .ok (.if_icmp .ge 24, 3) := by decide +kernel
theorem dX7_isNext_18 : decode cX7_isNext 18 = .ok (.aload_n 0, 1) := by decide +kernel
theorem dX7_isNext_19 : decode cX7_isNext 19 = .ok (.getfield 22, 3) := by decide +kernel
theorem dX7_isNext_22 : decode cX7_isNext 22 = .ok (.aload_n 0, 1) := by decide +kernel
theorem dX7_isNext_23 : decode cX7_isNext 23 = .ok (.getfield 104, 3) := by decide +kernel
theorem dX7_isNext_26 : decode cX7_isNext 26 = .ok (.iaload, 1) := by decide +kernel
theorem dX7_isNext_27 : decode cX7_isNext 27 = .ok (.iload_n 1, 1) := by decide +kernel
theorem dX7_isNext_28 : decode cX7_isNext 28 = .ok (.iload_n 2, 1) := by decide +kernel
theorem dX7_isNext_29 : decode cX7_isNext 29 = .ok (.invokestatic 33, 3) := by decide +kernel
theorem dX7_isNext_32 : decode cX7_isNext 32 = .ok (.ifCond .eq 7, 3) := by decide +kernel
theorem dX7_isNext_35 : decode cX7_isNext 35 = .ok (.iconst 1, 1) := by decide +kernel
theorem dX7_isNext_36 : decode cX7_isNext 36 = .ok (.goto 4, 3) := by decide +kernel
theorem dX7_isNext_39 : decode cX7_isNext 39 = .ok (.iconst 0, 1) := by decide +kernel
theorem dX7_isNext_40 : decode cX7_isNext 40 = .ok (.ireturn, 1) := by decide +kernel
theorem dX7_takes_0 : decode cX7_takes 0 = .ok (.aload_n 0, 1) := by decide +kernel
theorem dX7_takes_1 : decode cX7_takes 1 = .ok (.iload_n 1, 1) := by decide +kernel
theorem dX7_takes_2 : decode cX7_takes 2 = .ok (.iload_n 2, 1) := by decide +kernel
theorem dX7_takes_3 : decode cX7_takes 3 = .ok (.invokevirtual 107, 3) := by decide +kernel
theorem dX7_takes_6 : decode cX7_takes 6 = .ok (.istore_n 3, 1) := by decide +kernel
theorem dX7_takes_7 : decode cX7_takes 7 = .ok (.iload_n 3, 1) := by decide +kernel
theorem dX7_takes_8 : decode cX7_takes 8 = .ok (.ifCond .eq 17, 3) := by decide +kernel
theorem dX7_takes_11 : decode cX7_takes 11 = .ok (.aload_n 0, 1) := by decide +kernel
theorem dX7_takes_12 : decode cX7_takes 12 = .ok (.getfield 22, 3) := by decide +kernel
theorem dX7_takes_15 : decode cX7_takes 15 = .ok (.aload_n 0, 1) := by decide +kernel
theorem dX7_takes_16 : decode cX7_takes 16 = .ok (.getfield 104, 3) := by decide +kernel
theorem dX7_takes_19 : decode cX7_takes 19 = .ok (.iaload, 1) := by decide +kernel
theorem dX7_takes_20 : decode cX7_takes 20 = .ok (.iload_n 1, 1) := by decide +kernel
theorem dX7_takes_21 : decode cX7_takes 21 = .ok (.isub, 1) := by decide +kernel
theorem dX7_takes_22 : decode cX7_takes 22 = .ok (.goto 4, 3) := by decide +kernel
theorem dX7_takes_25 : decode cX7_takes 25 = .ok (.iconst 0, 1) := by decide +kernel
theorem dX7_takes_26 : decode cX7_takes 26 = .ok (.istore 4, 2) := by decide +kernel
theorem dX7_takes_28 : decode cX7_takes 28 = .ok (.aload_n 0, 1) := by decide +kernel
theorem dX7_takes_29 : decode cX7_takes 29 = .ok (.dup, 1) := by decide +kernel
theorem dX7_takes_30 : decode cX7_takes 30 = .ok (.getfield 104, 3) := by decide +kernel
theorem dX7_takes_33 : decode cX7_takes 33 = .ok (.iload_n 3, 1) := by decide +kernel
theorem dX7_takes_34 : decode cX7_takes 34 = .ok (.ifCond .eq 7, 3) := by decide +kernel
theorem dX7_takes_37 : decode cX7_takes 37 = .ok (.iconst 1, 1) := by decide +kernel
theorem dX7_takes_38 : decode cX7_takes 38 = .ok (.goto 4, 3) := by decide +kernel
theorem dX7_takes_41 : decode cX7_takes 41 = .ok (.iconst 0, 1) := by decide +kernel
theorem dX7_takes_42 : decode cX7_takes 42 = .ok (.iadd, 1) := by decide +kernel
theorem dX7_takes_43 : decode cX7_takes 43 = .ok (.putfield 104, 3) := by decide +kernel
theorem dX7_takes_46 : decode cX7_takes 46 = .ok (.aload_n 0, 1) := by decide +kernel
theorem dX7_takes_47 : decode cX7_takes 47 = .ok (.aload_n 0, 1) := by decide +kernel
theorem dX7_takes_48 : decode cX7_takes 48 = .ok (.getfield 100, 3) := by decide +kernel
theorem dX7_takes_51 : decode cX7_takes 51 = .ok (.ifCond .ne 7, 3) := by decide +kernel
theorem dX7_takes_54 : decode cX7_takes 54 = .ok (.iload_n 3, 1) := by decide +kernel
theorem dX7_takes_55 : decode cX7_takes 55 = .ok (.ifCond .ne 7, 3) := by decide +kernel
theorem dX7_takes_58 : decode cX7_takes 58 = .ok (.iconst 1, 1) := by decide +kernel
theorem dX7_takes_59 : decode cX7_takes 59 = .ok (.goto 4, 3) := by decide +kernel
theorem dX7_takes_62 : decode cX7_takes 62 = .ok (.iconst 0, 1) := by decide +kernel
theorem dX7_takes_63 : decode cX7_takes 63 = .ok (.putfield 100, 3) := by decide +kernel
theorem dX7_takes_66 : decode cX7_takes 66 = .ok (.iload 4, 2) := by decide +kernel
theorem dX7_takes_68 : decode cX7_takes 68 = .ok (.ireturn, 1) := by decide +kernel
theorem dX7_readOne_0 : decode cX7_readOne 0 = .ok (.aload_n 0, 1) := by decide +kernel
theorem dX7_readOne_1 : decode cX7_readOne 1 = .ok (.bipush 104, 2) := by decide +kernel
theorem dX7_readOne_3 : decode cX7_readOne 3 = .ok (.bipush 104, 2) := by decide +kernel
theorem dX7_readOne_5 : decode cX7_readOne 5 = .ok (.invokevirtual 107, 3) := by decide +kernel
theorem dX7_readOne_8 : decode cX7_readOne 8 = .ok (.ifCond .eq 19, 3) := by decide +kernel
theorem dX7_readOne_11 : decode cX7_readOne 11 = .ok (.aload_n 0, 1) := by decide +kernel
theorem dX7_readOne_12 : decode cX7_readOne 12 = .ok (.dup, 1) := by decide +kernel
theorem dX7_readOne_13 : decode cX7_readOne 13 = .ok (.getfield 104, 3) := by decide +kernel
theorem dX7_readOne_16 : decode cX7_readOne 16 = .ok (.iconst 1, 1) := by decide +kernel
theorem dX7_readOne_17 : decode cX7_readOne 17 = .ok (.iadd, 1) := by decide +kernel
theorem dX7_readOne_18 : decode cX7_readOne 18 = .ok (.putfield 104, 3) := by decide +kernel
theorem dX7_readOne_21 : decode cX7_readOne 21 = .ok (.aload_n 0, 1) := by decide +kernel
theorem dX7_readOne_22 : decode cX7_readOne 22 = .ok (.iconst (-1), 1) := by decide +kernel
theorem dX7_readOne_23 : decode cX7_readOne 23 = .ok (.putfield 110, 3) := by decide +kernel
theorem dX7_readOne_26 : decode cX7_readOne 26 = .ok (.return_, 1) := by decide +kernel
theorem dX7_readOne_27 : decode cX7_readOne 27 = .ok (.aload_n 0, 1) := by decide +kernel
theorem dX7_readOne_28 : decode cX7_readOne 28 = .ok (.aload_n 0, 1) := by decide +kernel
theorem dX7_readOne_29 : decode cX7_readOne 29 = .ok (.bipush 48, 2) := by decide +kernel
theorem dX7_readOne_31 : decode cX7_readOne 31 = .ok (.bipush 57, 2) := by decide +kernel
theorem dX7_readOne_33 : decode cX7_readOne 33 = .ok (.invokevirtual 113, 3) := by decide +kernel
theorem dX7_readOne_36 : decode cX7_readOne 36 = .ok (.putfield 110, 3) := by decide +kernel
theorem dX7_readOne_39 : decode cX7_readOne 39 = .ok (.aload_n 0, 1) := by decide +kernel
theorem dX7_readOne_40 : decode cX7_readOne 40 = .ok (.bipush 64, 2) := by decide +kernel
theorem dX7_readOne_42 : decode cX7_readOne 42 = .ok (.bipush 64, 2) := by decide +kernel
theorem dX7_readOne_44 : decode cX7_readOne 44 = .ok (.invokevirtual 113, 3) := by decide +kernel
theorem dX7_readOne_47 : decode cX7_readOne 47 = .ok (.istore_n 1, 1) := by decide +kernel
theorem dX7_readOne_48 : decode cX7_readOne 48 = .ok (.aload_n 0, 1) := by decide +kernel
theorem dX7_readOne_49 : decode cX7_readOne 49 = .ok (.aload_n 0, 1) := by decide +kernel
theorem dX7_readOne_50 : decode cX7_readOne 50 = .ok (.bipush 97, 2) := by decide +kernel
theorem dX7_readOne_52 : decode cX7_readOne 52 = .ok (.bipush 108, 2) := by decide +kernel
theorem dX7_readOne_54 : decode cX7_readOne 54 = .ok (.invokevirtual 113, 3) := by decide +kernel
theorem dX7_readOne_57 : decode cX7_readOne 57 = .ok (.putfield 116, 3) := by decide +kernel
theorem dX7_readOne_60 : decode cX7_readOne 60 = .ok (.aload_n 0, 1) := by decide +kernel
theorem dX7_readOne_61 : decode cX7_readOne 61 = .ok (.iconst 1, 1) := by decide +kernel
theorem dX7_readOne_62 : decode cX7_readOne 62 = .ok (.aload_n 0, 1) := by decide +kernel
theorem dX7_readOne_63 : decode cX7_readOne 63 = .ok (.bipush 49, 2) := by decide +kernel
theorem dX7_readOne_65 : decode cX7_readOne 65 = .ok (.bipush 57, 2) := by decide +kernel
theorem dX7_readOne_67 : decode cX7_readOne 67 = .ok (.invokevirtual 113, 3) := by decide +kernel
theorem dX7_readOne_70 : decode cX7_readOne 70 = .ok (.iadd, 1) := by decide +kernel
theorem dX7_readOne_71 : decode cX7_readOne 71 = .ok (.putfield 119, 3) := by decide +kernel
theorem dX7_readOne_74 : decode cX7_readOne 74 = .ok (.return_, 1) := by decide +kernel
theorem dX7_isPossible_0 : decode cX7_isPossible 0 = .ok (.aload_n 0, 1) := by decide +kernel
theorem dX7_isPossible_1 : decode cX7_isPossible 1 = .ok (.getfield 110, 3) := by decide +kernel
theorem dX7_isPossible_4 : decode cX7_isPossible 4 = .ok (.iconst (-1), 1) := by decide +kernel
theorem dX7_isPossible_5 : decode cX7_isPossible 5 = .ok (.if_icmp .ne 24, 3) := by decide +kernel
theorem dX7_isPossible_8 : decode cX7_isPossible 8 = .ok (.aload_n 0, 1) := by decide +kernel
theorem dX7_isPossible_9 : decode cX7_isPossible 9 = .ok (.getfield 7, 3) := by decide +kernel
theorem dX7_isPossible_12 : decode cX7_isPossible 12 = .ok (.bipush 109, 2) := by decide +kernel
theorem dX7_isPossible_14 : decode cX7_isPossible 14 = .ok (.iaload, 1) := by decide +kernel
theorem dX7_isPossible_15 : decode cX7_isPossible 15 = .ok (.sipush 999, 3) := by decide +kernel
theorem dX7_isPossible_18 : decode cX7_isPossible 18 = .ok (.if_icmp .ge 7, 3) := by decide +kernel
theorem dX7_isPossible_21 : decode cX7_isPossible 21 = .ok (.iconst 1, 1) := by decide +kernel
theorem dX7_isPossible_22 : decode cX7_isPossible 22 = .ok (.goto 18, 3) := by decide +kernel
theorem dX7_isPossible_25 : decode cX7_isPossible 25 = .ok (.iconst 0, 1) := by decide +kernel
theorem dX7_isPossible_26 : decode cX7_isPossible 26 = .ok (.goto 14, 3) := by decide +kernel
theorem dX7_isPossible_29 : decode cX7_isPossible 29 = .ok (.aload_n 0, 1) := by decide +kernel
theorem dX7_isPossible_30 : decode cX7_isPossible 30 = .ok (.getfield 116, 3) := by decide +kernel
theorem dX7_isPossible_33 : decode cX7_isPossible 33 = .ok (.aload_n 0, 1) := by decide +kernel
theorem dX7_isPossible_34 : decode cX7_isPossible 34 = .ok (.getfield 119, 3) := by decide +kernel
theorem dX7_isPossible_37 : decode cX7_isPossible 37 = .ok (.invokestatic 74, 3) := by decide +kernel
theorem dX7_isPossible_40 : decode cX7_isPossible 40 = .ok (.ireturn, 1) := by decide +kernel
theorem dX7_does_0 : decode cX7_does 0 = .ok (.aload_n 0, 1) := by decide +kernel
theorem dX7_does_1 : decode cX7_does 1 = .ok (.getfield 110, 3) := by decide +kernel
theorem dX7_does_4 : decode cX7_does 4 = .ok (.iconst (-1), 1) := by decide +kernel
theorem dX7_does_5 : decode cX7_does 5 = .ok (.if_icmp .ne 13, 3) := by decide +kernel
theorem dX7_does_8 : decode cX7_does 8 = .ok (.bipush 10, 2) := by decide +kernel
theorem dX7_does_10 : decode cX7_does 10 = .ok (.aload_n 0, 1) := by decide +kernel
theorem dX7_does_11 : decode cX7_does 11 = .ok (.invokevirtual 94, 3) := by decide +kernel
theorem dX7_does_14 : decode cX7_does 14 = .ok (.iadd, 1) := by decide +kernel
theorem dX7_does_15 : decode cX7_does 15 = .ok (.goto 19, 3) := by decide +kernel
theorem dX7_does_18 : decode cX7_does 18 = .ok (.aload_n 0, 1) := by decide +kernel
theorem dX7_does_19 : decode cX7_does 19 = .ok (.aload_n 0, 1) := by decide +kernel
theorem dX7_does_20 : decode cX7_does 20 = .ok (.getfield 110, 3) := by decide +kernel
theorem dX7_does_23 : decode cX7_does 23 = .ok (.aload_n 0, 1) := by decide +kernel
theorem dX7_does_24 : decode cX7_does 24 = .ok (.getfield 116, 3) := by decide +kernel
theorem dX7_does_27 : decode cX7_does 27 = .ok (.aload_n 0, 1) := by decide +kernel
theorem dX7_does_28 : decode cX7_does 28 = .ok (.getfield 119, 3) := by decide +kernel
theorem dX7_does_31 : decode cX7_does 31 = .ok (.invokevirtual 84, 3) := by decide +kernel
theorem dX7_does_34 : decode cX7_does 34 = .ok (.bipush 10, 2) := by decide +kernel
theorem dX7_does_36 : decode cX7_does 36 = .ok (.if_icmp .lt 7, 3) := by decide +kernel
theorem dX7_does_39 : decode cX7_does 39 = .ok (.iconst 1, 1) := by decide +kernel
theorem dX7_does_40 : decode cX7_does 40 = .ok (.goto 4, 3) := by decide +kernel
theorem dX7_does_43 : decode cX7_does 43 = .ok (.iconst 0, 1) := by decide +kernel
theorem dX7_does_44 : decode cX7_does 44 = .ok (.ireturn, 1) := by decide +kernel
theorem dX7_goesThrough_0 : decode cX7_goesThrough 0 = .ok (.aload_n 0, 1) := by decide +kernel
theorem dX7_goesThrough_1 : decode cX7_goesThrough 1 = .ok (.iconst 0, 1) := by decide +kernel
theorem dX7_goesThrough_2 : decode cX7_goesThrough 2 = .ok (.putfield 104, 3) := by decide +kernel
theorem dX7_goesThrough_5 : decode cX7_goesThrough 5 = .ok (.aload_n 0, 1) := by decide +kernel
theorem dX7_goesThrough_6 : decode cX7_goesThrough 6 = .ok (.iconst 0, 1) := by decide +kernel
theorem dX7_goesThrough_7 : decode cX7_goesThrough 7 = .ok (.putfield 100, 3) := by decide +kernel
theorem dX7_goesThrough_10 : decode cX7_goesThrough 10 = .ok (.iconst 0, 1) := by decide +kernel
theorem dX7_goesThrough_11 : decode cX7_goesThrough 11 = .ok (.istore_n 2, 1) := by decide +kernel
theorem dX7_goesThrough_12 : decode cX7_goesThrough 12 = .ok (.iconst 1, 1) := by decide +kernel
theorem dX7_goesThrough_13 : decode cX7_goesThrough 13 = .ok (.istore_n 3, 1) := by decide +kernel
theorem dX7_goesThrough_14 : decode cX7_goesThrough 14 = .ok (.iload_n 3, 1) := by decide +kernel
theorem dX7_goesThrough_15 : decode cX7_goesThrough 15 = .ok (.ifCond .eq 101, 3) := by decide +kernel
theorem dX7_goesThrough_18 : decode cX7_goesThrough 18 = .ok (.aload_n 0, 1) := by decide +kernel
theorem dX7_goesThrough_19 : decode cX7_goesThrough 19 = .ok (.invokevirtual 122, 3) := by decide +kernel
theorem dX7_goesThrough_22 : decode cX7_goesThrough 22 = .ok (.aload_n 0, 1) := by decide +kernel
theorem dX7_goesThrough_23 : decode cX7_goesThrough 23 = .ok (.getfield 100, 3) := by decide +kernel
theorem dX7_goesThrough_26 : decode cX7_goesThrough 26 = .ok (.ifCond .ne 18, 3) := by decide +kernel
theorem dX7_goesThrough_29 : decode cX7_goesThrough 29 = .ok (.iload_n 1, 1) := by decide +kernel
theorem dX7_goesThrough_30 : decode cX7_goesThrough 30 = .ok (.ifCond .eq 10, 3) := by decide +kernel
theorem dX7_goesThrough_33 : decode cX7_goesThrough 33 = .ok (.aload_n 0, 1) := by decide +kernel
theorem dX7_goesThrough_34 : decode cX7_goesThrough 34 = .ok (.invokevirtual 125, 3) := by decide +kernel
theorem dX7_goesThrough_37 : decode cX7_goesThrough 37 = .ok (.ifCond .eq 7, 3) := by decide +kernel
theorem dX7_goesThrough_40 : decode cX7_goesThrough 40 = .ok (.iconst 1, 1) := by decide +kernel
theorem dX7_goesThrough_41 : decode cX7_goesThrough 41 = .ok (.goto 4, 3) := by decide +kernel
theorem dX7_goesThrough_44 : decode cX7_goesThrough 44 = .ok (.iconst 0, 1) := by decide +kernel
theorem dX7_goesThrough_45 : decode cX7_goesThrough 45 = .ok (.istore_n 3, 1) := by decide +kernel
theorem dX7_goesThrough_46 : decode cX7_goesThrough 46 = .ok (.iload_n 2, 1) := by decide +kernel
theorem dX7_goesThrough_47 : decode cX7_goesThrough 47 = .ok (.iload_n 3, 1) := by decide +kernel
theorem dX7_goesThrough_48 : decode cX7_goesThrough 48 = .ok (.ifCond .eq 14, 3) := by decide +kernel
theorem dX7_goesThrough_51 : decode cX7_goesThrough 51 = .ok (.iload_n 1, 1) := by decide +kernel
theorem dX7_goesThrough_52 : decode cX7_goesThrough 52 = .ok (.ifCond .eq 10, 3) := by decide +kernel
theorem dX7_goesThrough_55 : decode cX7_goesThrough 55 = .ok (.aload_n 0, 1) := by decide +kernel
theorem dX7_goesThrough_56 : decode cX7_goesThrough 56 = .ok (.invokevirtual 129, 3) := by decide +kernel
theorem dX7_goesThrough_59 : decode cX7_goesThrough 59 = .ok (.goto 4, 3) := by decide +kernel
theorem dX7_goesThrough_62 : decode cX7_goesThrough 62 = .ok (.iconst 0, 1) := by decide +kernel
theorem dX7_goesThrough_63 : decode cX7_goesThrough 63 = .ok (.iadd, 1) := by decide +kernel
theorem dX7_goesThrough_64 : decode cX7_goesThrough 64 = .ok (.istore_n 2, 1) := by decide +kernel
theorem dX7_goesThrough_65 : decode cX7_goesThrough 65 = .ok (.iload_n 3, 1) := by decide +kernel
theorem dX7_goesThrough_66 : decode cX7_goesThrough 66 = .ok (.ifCond .eq 18, 3) := by decide +kernel
theorem dX7_goesThrough_69 : decode cX7_goesThrough 69 = .ok (.aload_n 0, 1) := by decide +kernel
theorem dX7_goesThrough_70 : decode cX7_goesThrough 70 = .ok (.getfield 104, 3) := by decide +kernel
theorem dX7_goesThrough_73 : decode cX7_goesThrough 73 = .ok (.aload_n 0, 1) := by decide +kernel
theorem dX7_goesThrough_74 : decode cX7_goesThrough 74 = .ok (.getfield 97, 3) := by decide +kernel
theorem dX7_goesThrough_77 : decode cX7_goesThrough 77 = .ok (.if_icmp .ge 7, 3) := by decide +kernel
theorem dX7_goesThrough_80 : decode cX7_goesThrough 80 = .ok (.iconst 1, 1) := by decide +kernel
theorem dX7_goesThrough_81 : decode cX7_goesThrough 81 = .ok (.goto 4, 3) := by decide +kernel
theorem dX7_goesThrough_84 : decode cX7_goesThrough 84 = .ok (.iconst 0, 1) := by decide +kernel
theorem dX7_goesThrough_85 : decode cX7_goesThrough 85 = .ok (.istore_n 3, 1) := by decide +kernel
theorem dX7_goesThrough_86 : decode cX7_goesThrough 86 = .ok (.iload_n 3, 1) := by decide +kernel
theorem dX7_goesThrough_87 : decode cX7_goesThrough 87 = .ok (.ifCond .eq (-73), 3) := by decide +kernel
theorem dX7_goesThrough_90 : decode cX7_goesThrough 90 = .ok (.aload_n 0, 1) := by decide +kernel
theorem dX7_goesThrough_91 : decode cX7_goesThrough 91 = .ok (.bipush 59, 2) := by decide +kernel
theorem dX7_goesThrough_93 : decode cX7_goesThrough 93 = .ok (.bipush 59, 2) := by decide +kernel
theorem dX7_goesThrough_95 : decode cX7_goesThrough 95 = .ok (.invokevirtual 113, 3) := by decide +kernel
theorem dX7_goesThrough_98 : decode cX7_goesThrough 98 = .ok (.istore 4, 2) := by decide +kernel
theorem dX7_goesThrough_100 : decode cX7_goesThrough 100 = .ok (.aload_n 0, 1) := by decide +kernel
theorem dX7_goesThrough_101 : decode cX7_goesThrough 101 = .ok (.getfield 100, 3) := by decide +kernel
theorem dX7_goesThrough_104 : decode cX7_goesThrough 104 = .ok (.ifCond .ne 7, 3) := by decide +kernel
theorem dX7_goesThrough_107 : decode cX7_goesThrough 107 = .ok (.iconst 1, 1) := by decide +kernel
theorem dX7_goesThrough_108 : decode cX7_goesThrough 108 = .ok (.goto 4, 3) := by decide +kernel
theorem dX7_goesThrough_111 : decode cX7_goesThrough 111 = .ok (.iconst 0, 1) := by decide +kernel
theorem dX7_goesThrough_112 : decode cX7_goesThrough 112 = .ok (.istore_n 3, 1) := by decide +kernel
theorem dX7_goesThrough_113 : decode cX7_goesThrough 113 = .ok (.goto (-99), 3) := by decide +kernel
theorem dX7_goesThrough_116 : decode cX7_goesThrough 116 = .ok (.iload_n 2, 1) := by decide +kernel
theorem dX7_goesThrough_117 : decode cX7_goesThrough 117 = .ok (.ireturn, 1) := by decide +kernel
theorem dX7_firstError_0 : decode cX7_firstError 0 = .ok (.aload_n 0, 1) := by decide +kernel
theorem dX7_firstError_1 : decode cX7_firstError 1 = .ok (.iconst 0, 1) := by decide +kernel
theorem dX7_firstError_2 : decode cX7_firstError 2 = .ok (.putfield 29, 3) := by decide +kernel
theorem dX7_firstError_5 : decode cX7_firstError 5 = .ok (.aload_n 0, 1) := by decide +kernel
theorem dX7_firstError_6 : decode cX7_firstError 6 = .ok (.iconst 0, 1) := by decide +kernel
theorem dX7_firstError_7 : decode cX7_firstError 7 = .ok (.invokevirtual 132, 3) := by decide +kernel
theorem dX7_firstError_10 : decode cX7_firstError 10 = .ok (.istore_n 1, 1) := by decide +kernel
theorem dX7_firstError_11 : decode cX7_firstError 11 = .ok (.aload_n 0, 1) := by decide +kernel
theorem dX7_firstError_12 : decode cX7_firstError 12 = .ok (.getfield 100, 3) := by decide +kernel
theorem dX7_firstError_15 : decode cX7_firstError 15 = .ok (.ifCond .eq 10, 3) := by decide +kernel
theorem dX7_firstError_18 : decode cX7_firstError 18 = .ok (.aload_n 0, 1) := by decide +kernel
theorem dX7_firstError_19 : decode cX7_firstError 19 = .ok (.getfield 104, 3) := by decide +kernel
theorem dX7_firstError_22 : decode cX7_firstError 22 = .ok (.goto 7, 3) := by decide +kernel
theorem dX7_firstError_25 : decode cX7_firstError 25 = .ok (.aload_n 0, 1) := by decide +kernel
theorem dX7_firstError_26 : decode cX7_firstError 26 = .ok (.getfield 97, 3) := by decide +kernel
theorem dX7_firstError_29 : decode cX7_firstError 29 = .ok (.ireturn, 1) := by decide +kernel
theorem dX7_run_0 : decode cX7_run 0 = .ok (.aload_n 0, 1) := by decide +kernel
theorem dX7_run_1 : decode cX7_run 1 = .ok (.iconst 0, 1) := by decide +kernel
theorem dX7_run_2 : decode cX7_run 2 = .ok (.invokevirtual 132, 3) := by decide +kernel
theorem dX7_run_5 : decode cX7_run 5 = .ok (.istore_n 1, 1) := by decide +kernel
theorem dX7_run_6 : decode cX7_run 6 = .ok (.aload_n 0, 1) := by decide +kernel
theorem dX7_run_7 : decode cX7_run 7 = .ok (.aload_n 0, 1) := by decide +kernel
theorem dX7_run_8 : decode cX7_run 8 = .ok (.getfield 100, 3) := by decide +kernel
theorem dX7_run_11 : decode cX7_run 11 = .ok (.ifCond .eq 7, 3) := by decide +kernel
theorem dX7_run_14 : decode cX7_run 14 = .ok (.iconst 1, 1) := by decide +kernel
theorem dX7_run_15 : decode cX7_run 15 = .ok (.goto 4, 3) := by decide +kernel
theorem dX7_run_18 : decode cX7_run 18 = .ok (.iconst 0, 1) := by decide +kernel
theorem dX7_run_19 : decode cX7_run 19 = .ok (.invokevirtual 78, 3) := by decide +kernel
theorem dX7_run_22 : decode cX7_run 22 = .ok (.ifCond .ne 5, 3) := by decide +kernel
theorem dX7_run_25 : decode cX7_run 25 = .ok (.iconst 0, 1) := by decide +kernel
theorem dX7_run_26 : decode cX7_run 26 = .ok (.ireturn, 1) := by decide +kernel
theorem dX7_run_27 : decode cX7_run 27 = .ok (.aload_n 0, 1) := by decide +kernel
theorem dX7_run_28 : decode cX7_run 28 = .ok (.invokevirtual 81, 3) := by decide +kernel
theorem dX7_run_31 : decode cX7_run 31 = .ok (.aload_n 0, 1) := by decide +kernel
theorem dX7_run_32 : decode cX7_run 32 = .ok (.iconst 1, 1) := by decide +kernel
theorem dX7_run_33 : decode cX7_run 33 = .ok (.invokevirtual 132, 3) := by decide +kernel
theorem dX7_run_36 : decode cX7_run 36 = .ok (.istore_n 1, 1) := by decide +kernel
theorem dX7_run_37 : decode cX7_run 37 = .ok (.aload_n 0, 1) := by decide +kernel
theorem dX7_run_38 : decode cX7_run 38 = .ok (.iconst 0, 1) := by decide +kernel
theorem dX7_run_39 : decode cX7_run 39 = .ok (.putfield 97, 3) := by decide +kernel
theorem dX7_run_42 : decode cX7_run 42 = .ok (.iload_n 1, 1) := by decide +kernel
theorem dX7_run_43 : decode cX7_run 43 = .ok (.ireturn, 1) := by decide +kernel
theorem dX7_lent_0 : decode cX7_lent 0 = .ok (.iconst 0, 1) := by decide +kernel
theorem dX7_lent_1 : decode cX7_lent 1 = .ok (.istore_n 1, 1) := by decide +kernel
theorem dX7_lent_2 : decode cX7_lent 2 = .ok (.iconst 0, 1) := by decide +kernel
theorem dX7_lent_3 : decode cX7_lent 3 = .ok (.istore_n 2, 1) := by decide +kernel
theorem dX7_lent_4 : decode cX7_lent 4 = .ok (.iload_n 2, 1) := by decide +kernel
theorem dX7_lent_5 : decode cX7_lent 5 = .ok (.bipush 48, 2) := by decide +kernel
theorem dX7_lent_7 : decode cX7_lent 7 = .ok (.if_icmp .ge 30, 3) := by decide +kernel
theorem dX7_lent_10 : decode cX7_lent 10 = .ok (.iload_n 1, 1) := by decide +kernel
theorem dX7_lent_11 : decode cX7_lent 11 = .ok (.aload_n 0, 1) := by decide +kernel
theorem dX7_lent_12 : decode cX7_lent 12 = .ok (.getfield 7, 3) := by decide +kernel
theorem dX7_lent_15 : decode cX7_lent 15 = .ok (.bipush 60, 2) := by decide +kernel
theorem dX7_lent_17 : decode cX7_lent 17 = .ok (.iload_n 2, 1) := by decide +kernel
theorem dX7_lent_18 : decode cX7_lent 18 = .ok (.iadd, 1) := by decide +kernel
theorem dX7_lent_19 : decode cX7_lent 19 = .ok (.iaload, 1) := by decide +kernel
theorem dX7_lent_20 : decode cX7_lent 20 = .ok (.iconst (-1), 1) := by decide +kernel
theorem dX7_lent_21 : decode cX7_lent 21 = .ok (.if_icmp .ne 7, 3) := by decide +kernel
theorem dX7_lent_24 : decode cX7_lent 24 = .ok (.iconst 0, 1) := by decide +kernel
theorem dX7_lent_25 : decode cX7_lent 25 = .ok (.goto 4, 3) := by decide +kernel
theorem dX7_lent_28 : decode cX7_lent 28 = .ok (.iconst 1, 1) := by decide +kernel
theorem dX7_lent_29 : decode cX7_lent 29 = .ok (.iadd, 1) := by decide +kernel
theorem dX7_lent_30 : decode cX7_lent 30 = .ok (.istore_n 1, 1) := by decide +kernel
theorem dX7_lent_31 : decode cX7_lent 31 = .ok (.iinc 2 1, 3) := by decide +kernel
theorem dX7_lent_34 : decode cX7_lent 34 = .ok (.goto (-30), 3) := by decide +kernel
theorem dX7_lent_37 : decode cX7_lent 37 = .ok (.iload_n 1, 1) := by decide +kernel
theorem dX7_lent_38 : decode cX7_lent 38 = .ok (.ireturn, 1) := by decide +kernel
theorem dX7_keep_0 : decode cX7_keep 0 = .ok (.aload_n 0, 1) := by decide +kernel
theorem dX7_keep_1 : decode cX7_keep 1 = .ok (.iload_n 1, 1) := by decide +kernel
theorem dX7_keep_2 : decode cX7_keep 2 = .ok (.iconst 0, 1) := by decide +kernel
theorem dX7_keep_3 : decode cX7_keep 3 = .ok (.iconst 1, 1) := by decide +kernel
theorem dX7_keep_4 : decode cX7_keep 4 = .ok (.invokestatic 33, 3) := by decide +kernel
theorem dX7_keep_7 : decode cX7_keep 7 = .ok (.ifCond .eq 7, 3) := by decide +kernel
theorem dX7_keep_10 : decode cX7_keep 10 = .ok (.iconst 0, 1) := by decide +kernel
theorem dX7_keep_11 : decode cX7_keep 11 = .ok (.goto 4, 3) := by decide +kernel
theorem dX7_keep_14 : decode cX7_keep 14 = .ok (.iconst 1, 1) := by decide +kernel
theorem dX7_keep_15 : decode cX7_keep 15 = .ok (.invokevirtual 78, 3) := by decide +kernel
theorem dX7_keep_18 : decode cX7_keep 18 = .ok (.ifCond .ne 5, 3) := by decide +kernel
theorem dX7_keep_21 : decode cX7_keep 21 = .ok (.iconst 0, 1) := by decide +kernel
theorem dX7_keep_22 : decode cX7_keep 22 = .ok (.ireturn, 1) := by decide +kernel
theorem dX7_keep_23 : decode cX7_keep 23 = .ok (.iconst 0, 1) := by decide +kernel
theorem dX7_keep_24 : decode cX7_keep 24 = .ok (.istore_n 2, 1) := by decide +kernel
theorem dX7_keep_25 : decode cX7_keep 25 = .ok (.iload_n 2, 1) := by decide +kernel
theorem dX7_keep_26 : decode cX7_keep 26 = .ok (.bipush 120, 2) := by decide +kernel
theorem dX7_keep_28 : decode cX7_keep 28 = .ok (.if_icmp .ge 26, 3) := by decide +kernel
theorem dX7_keep_31 : decode cX7_keep 31 = .ok (.aload_n 0, 1) := by decide +kernel
theorem dX7_keep_32 : decode cX7_keep 32 = .ok (.getfield 19, 3) := by decide +kernel
theorem dX7_keep_35 : decode cX7_keep 35 = .ok (.bipush 120, 2) := by decide +kernel
theorem dX7_keep_37 : decode cX7_keep 37 = .ok (.iload_n 1, 1) := by decide +kernel
theorem dX7_keep_38 : decode cX7_keep 38 = .ok (.imul, 1) := by decide +kernel
theorem dX7_keep_39 : decode cX7_keep 39 = .ok (.iload_n 2, 1) := by decide +kernel
theorem dX7_keep_40 : decode cX7_keep 40 = .ok (.iadd, 1) := by decide +kernel
theorem dX7_keep_41 : decode cX7_keep 41 = .ok (.aload_n 0, 1) := by decide +kernel
theorem dX7_keep_42 : decode cX7_keep 42 = .ok (.getfield 7, 3) := by decide +kernel
theorem dX7_keep_45 : decode cX7_keep 45 = .ok (.iload_n 2, 1) := by decide +kernel
theorem dX7_keep_46 : decode cX7_keep 46 = .ok (.iaload, 1) := by decide +kernel
theorem dX7_keep_47 : decode cX7_keep 47 = .ok (.iastore, 1) := by decide +kernel
theorem dX7_keep_48 : decode cX7_keep 48 = .ok (.iinc 2 1, 3) := by decide +kernel
theorem dX7_keep_51 : decode cX7_keep 51 = .ok (.goto (-26), 3) := by decide +kernel
theorem dX7_keep_54 : decode cX7_keep 54 = .ok (.aload_n 0, 1) := by decide +kernel
theorem dX7_keep_55 : decode cX7_keep 55 = .ok (.dup, 1) := by decide +kernel
theorem dX7_keep_56 : decode cX7_keep 56 = .ok (.getfield 136, 3) := by decide +kernel
theorem dX7_keep_59 : decode cX7_keep 59 = .ok (.iconst 1, 1) := by decide +kernel
theorem dX7_keep_60 : decode cX7_keep 60 = .ok (.iload_n 1, 1) := by decide +kernel
theorem dX7_keep_61 : decode cX7_keep 61 = .ok (.ishl, 1) := by decide +kernel
theorem dX7_keep_62 : decode cX7_keep 62 = .ok (.ior, 1) := by decide +kernel
theorem dX7_keep_63 : decode cX7_keep 63 = .ok (.putfield 136, 3) := by decide +kernel
theorem dX7_keep_66 : decode cX7_keep 66 = .ok (.aload_n 0, 1) := by decide +kernel
theorem dX7_keep_67 : decode cX7_keep 67 = .ok (.invokevirtual 139, 3) := by decide +kernel
theorem dX7_keep_70 : decode cX7_keep 70 = .ok (.ireturn, 1) := by decide +kernel
theorem dX7_goBack_0 : decode cX7_goBack 0 = .ok (.aload_n 0, 1) := by decide +kernel
theorem dX7_goBack_1 : decode cX7_goBack 1 = .ok (.iload_n 1, 1) := by decide +kernel
theorem dX7_goBack_2 : decode cX7_goBack 2 = .ok (.iconst 0, 1) := by decide +kernel
theorem dX7_goBack_3 : decode cX7_goBack 3 = .ok (.iconst 1, 1) := by decide +kernel
theorem dX7_goBack_4 : decode cX7_goBack 4 = .ok (.invokestatic 33, 3) := by decide +kernel
theorem dX7_goBack_7 : decode cX7_goBack 7 = .ok (.ifCond .ne 7, 3) := by decide +kernel
theorem dX7_goBack_10 : decode cX7_goBack 10 = .ok (.iconst 1, 1) := by decide +kernel
theorem dX7_goBack_11 : decode cX7_goBack 11 = .ok (.goto 19, 3) := by decide +kernel
theorem dX7_goBack_14 : decode cX7_goBack 14 = .ok (.aload_n 0, 1) := by decide +kernel
theorem dX7_goBack_15 : decode cX7_goBack 15 = .ok (.getfield 136, 3) := by decide +kernel
theorem dX7_goBack_18 : decode cX7_goBack 18 = .ok (.iload_n 1, 1) := by decide +kernel
theorem dX7_goBack_19 : decode cX7_goBack 19 = .ok (.ishr, 1) := by decide +kernel
theorem dX7_goBack_20 : decode cX7_goBack 20 = .ok (.iconst 1, 1) := by decide +kernel
theorem dX7_goBack_21 : decode cX7_goBack 21 = .ok (.iand, 1) := by decide +kernel
theorem dX7_goBack_22 : decode cX7_goBack 22 = .ok (.ifCond .ne 7, 3) := by decide +kernel
theorem dX7_goBack_25 : decode cX7_goBack 25 = .ok (.iconst 2, 1) := by decide +kernel
theorem dX7_goBack_26 : decode cX7_goBack 26 = .ok (.goto 4, 3) := by decide +kernel
theorem dX7_goBack_29 : decode cX7_goBack 29 = .ok (.iconst 0, 1) := by decide +kernel
theorem dX7_goBack_30 : decode cX7_goBack 30 = .ok (.invokevirtual 78, 3) := by decide +kernel
theorem dX7_goBack_33 : decode cX7_goBack 33 = .ok (.ifCond .ne 5, 3) := by decide +kernel
theorem dX7_goBack_36 : decode cX7_goBack 36 = .ok (.iconst 0, 1) := by decide +kernel
theorem dX7_goBack_37 : decode cX7_goBack 37 = .ok (.ireturn, 1) := by decide +kernel
theorem dX7_goBack_38 : decode cX7_goBack 38 = .ok (.aload_n 0, 1) := by decide +kernel
theorem dX7_goBack_39 : decode cX7_goBack 39 = .ok (.invokevirtual 81, 3) := by decide +kernel
theorem dX7_goBack_42 : decode cX7_goBack 42 = .ok (.iconst 0, 1) := by decide +kernel
theorem dX7_goBack_43 : decode cX7_goBack 43 = .ok (.istore_n 2, 1) := by decide +kernel
theorem dX7_goBack_44 : decode cX7_goBack 44 = .ok (.iload_n 2, 1) := by decide +kernel
theorem dX7_goBack_45 : decode cX7_goBack 45 = .ok (.bipush 120, 2) := by decide +kernel
theorem dX7_goBack_47 : decode cX7_goBack 47 = .ok (.if_icmp .ge 26, 3) := by decide +kernel
theorem dX7_goBack_50 : decode cX7_goBack 50 = .ok (.aload_n 0, 1) := by decide +kernel
theorem dX7_goBack_51 : decode cX7_goBack 51 = .ok (.getfield 7, 3) := by decide +kernel
theorem dX7_goBack_54 : decode cX7_goBack 54 = .ok (.iload_n 2, 1) := by decide +kernel
theorem dX7_goBack_55 : decode cX7_goBack 55 = .ok (.aload_n 0, 1) := by decide +kernel
theorem dX7_goBack_56 : decode cX7_goBack 56 = .ok (.getfield 19, 3) := by decide +kernel
theorem dX7_goBack_59 : decode cX7_goBack 59 = .ok (.bipush 120, 2) := by decide +kernel
theorem dX7_goBack_61 : decode cX7_goBack 61 = .ok (.iload_n 1, 1) := by decide +kernel
theorem dX7_goBack_62 : decode cX7_goBack 62 = .ok (.imul, 1) := by decide +kernel
theorem dX7_goBack_63 : decode cX7_goBack 63 = .ok (.iload_n 2, 1) := by decide +kernel
theorem dX7_goBack_64 : decode cX7_goBack 64 = .ok (.iadd, 1) := by decide +kernel
theorem dX7_goBack_65 : decode cX7_goBack 65 = .ok (.iaload, 1) := by decide +kernel
theorem dX7_goBack_66 : decode cX7_goBack 66 = .ok (.iastore, 1) := by decide +kernel
theorem dX7_goBack_67 : decode cX7_goBack 67 = .ok (.iinc 2 1, 3) := by decide +kernel
theorem dX7_goBack_70 : decode cX7_goBack 70 = .ok (.goto (-26), 3) := by decide +kernel
theorem dX7_goBack_73 : decode cX7_goBack 73 = .ok (.aload_n 0, 1) := by decide +kernel
theorem dX7_goBack_74 : decode cX7_goBack 74 = .ok (.invokevirtual 139, 3) := by decide +kernel
theorem dX7_goBack_77 : decode cX7_goBack 77 = .ok (.ireturn, 1) := by decide +kernel
theorem dX7_undo_0 : decode cX7_undo 0 = .ok (.aload_n 0, 1) := by decide +kernel
theorem dX7_undo_1 : decode cX7_undo 1 = .ok (.aload_n 0, 1) := by decide +kernel
theorem dX7_undo_2 : decode cX7_undo 2 = .ok (.getfield 37, 3) := by decide +kernel
theorem dX7_undo_5 : decode cX7_undo 5 = .ok (.ifCond .le 7, 3) := by decide +kernel
theorem dX7_undo_8 : decode cX7_undo 8 = .ok (.iconst 0, 1) := by decide +kernel
theorem dX7_undo_9 : decode cX7_undo 9 = .ok (.goto 4, 3) := by decide +kernel
theorem dX7_undo_12 : decode cX7_undo 12 = .ok (.iconst 1, 1) := by decide +kernel
theorem dX7_undo_13 : decode cX7_undo 13 = .ok (.invokevirtual 78, 3) := by decide +kernel
theorem dX7_undo_16 : decode cX7_undo 16 = .ok (.ifCond .ne 5, 3) := by decide +kernel
theorem dX7_undo_19 : decode cX7_undo 19 = .ok (.iconst 0, 1) := by decide +kernel
theorem dX7_undo_20 : decode cX7_undo 20 = .ok (.ireturn, 1) := by decide +kernel
theorem dX7_undo_21 : decode cX7_undo 21 = .ok (.aload_n 0, 1) := by decide +kernel
theorem dX7_undo_22 : decode cX7_undo 22 = .ok (.dup, 1) := by decide +kernel
theorem dX7_undo_23 : decode cX7_undo 23 = .ok (.getfield 37, 3) := by decide +kernel
theorem dX7_undo_26 : decode cX7_undo 26 = .ok (.iconst 1, 1) := by decide +kernel
theorem dX7_undo_27 : decode cX7_undo 27 = .ok (.isub, 1) := by decide +kernel
theorem dX7_undo_28 : decode cX7_undo 28 = .ok (.putfield 37, 3) := by decide +kernel
theorem dX7_undo_31 : decode cX7_undo 31 = .ok (.iconst 0, 1) := by decide +kernel
theorem dX7_undo_32 : decode cX7_undo 32 = .ok (.istore_n 1, 1) := by decide +kernel
theorem dX7_undo_33 : decode cX7_undo 33 = .ok (.iload_n 1, 1) := by decide +kernel
theorem dX7_undo_34 : decode cX7_undo 34 = .ok (.bipush 120, 2) := by decide +kernel
theorem dX7_undo_36 : decode cX7_undo 36 = .ok (.if_icmp .ge 29, 3) := by decide +kernel
theorem dX7_undo_39 : decode cX7_undo 39 = .ok (.aload_n 0, 1) := by decide +kernel
theorem dX7_undo_40 : decode cX7_undo 40 = .ok (.getfield 7, 3) := by decide +kernel
theorem dX7_undo_43 : decode cX7_undo 43 = .ok (.iload_n 1, 1) := by decide +kernel
theorem dX7_undo_44 : decode cX7_undo 44 = .ok (.aload_n 0, 1) := by decide +kernel
theorem dX7_undo_45 : decode cX7_undo 45 = .ok (.getfield 16, 3) := by decide +kernel
theorem dX7_undo_48 : decode cX7_undo 48 = .ok (.bipush 120, 2) := by decide +kernel
theorem dX7_undo_50 : decode cX7_undo 50 = .ok (.aload_n 0, 1) := by decide +kernel
theorem dX7_undo_51 : decode cX7_undo 51 = .ok (.getfield 37, 3) := by decide +kernel
theorem dX7_undo_54 : decode cX7_undo 54 = .ok (.imul, 1) := by decide +kernel
theorem dX7_undo_55 : decode cX7_undo 55 = .ok (.iload_n 1, 1) := by decide +kernel
theorem dX7_undo_56 : decode cX7_undo 56 = .ok (.iadd, 1) := by decide +kernel
theorem dX7_undo_57 : decode cX7_undo 57 = .ok (.iaload, 1) := by decide +kernel
theorem dX7_undo_58 : decode cX7_undo 58 = .ok (.iastore, 1) := by decide +kernel
theorem dX7_undo_59 : decode cX7_undo 59 = .ok (.iinc 1 1, 3) := by decide +kernel
theorem dX7_undo_62 : decode cX7_undo 62 = .ok (.goto (-29), 3) := by decide +kernel
theorem dX7_undo_65 : decode cX7_undo 65 = .ok (.aload_n 0, 1) := by decide +kernel
theorem dX7_undo_66 : decode cX7_undo 66 = .ok (.getfield 37, 3) := by decide +kernel
theorem dX7_undo_69 : decode cX7_undo 69 = .ok (.ireturn, 1) := by decide +kernel
theorem dX7_at_0 : decode cX7_at 0 = .ok (.aload_n 0, 1) := by decide +kernel
theorem dX7_at_1 : decode cX7_at 1 = .ok (.iload_n 1, 1) := by decide +kernel
theorem dX7_at_2 : decode cX7_at 2 = .ok (.iconst 0, 1) := by decide +kernel
theorem dX7_at_3 : decode cX7_at 3 = .ok (.iconst 3, 1) := by decide +kernel
theorem dX7_at_4 : decode cX7_at 4 = .ok (.invokestatic 33, 3) := by decide +kernel
theorem dX7_at_7 : decode cX7_at 7 = .ok (.ifCond .ne 7, 3) := by decide +kernel
theorem dX7_at_10 : decode cX7_at 10 = .ok (.iconst 1, 1) := by decide +kernel
theorem dX7_at_11 : decode cX7_at 11 = .ok (.goto 18, 3) := by decide +kernel
theorem dX7_at_14 : decode cX7_at 14 = .ok (.iload_n 2, 1) := by decide +kernel
theorem dX7_at_15 : decode cX7_at 15 = .ok (.iconst 0, 1) := by decide +kernel
theorem dX7_at_16 : decode cX7_at 16 = .ok (.bipush 11, 2) := by decide +kernel
theorem dX7_at_18 : decode cX7_at 18 = .ok (.invokestatic 33, 3) := by decide +kernel
theorem dX7_at_21 : decode cX7_at 21 = .ok (.ifCond .eq 7, 3) := by decide +kernel
theorem dX7_at_24 : decode cX7_at 24 = .ok (.iconst 0, 1) := by decide +kernel
theorem dX7_at_25 : decode cX7_at 25 = .ok (.goto 4, 3) := by decide +kernel
theorem dX7_at_28 : decode cX7_at 28 = .ok (.iconst 2, 1) := by decide +kernel
theorem dX7_at_29 : decode cX7_at 29 = .ok (.invokevirtual 78, 3) := by decide +kernel
theorem dX7_at_32 : decode cX7_at 32 = .ok (.ifCond .eq 16, 3) := by decide +kernel
theorem dX7_at_35 : decode cX7_at 35 = .ok (.aload_n 0, 1) := by decide +kernel
theorem dX7_at_36 : decode cX7_at 36 = .ok (.getfield 7, 3) := by decide +kernel
theorem dX7_at_39 : decode cX7_at 39 = .ok (.iload_n 1, 1) := by decide +kernel
theorem dX7_at_40 : decode cX7_at 40 = .ok (.iload_n 2, 1) := by decide +kernel
theorem dX7_at_41 : decode cX7_at 41 = .ok (.invokestatic 40, 3) := by decide +kernel
theorem dX7_at_44 : decode cX7_at 44 = .ok (.iaload, 1) := by decide +kernel
theorem dX7_at_45 : decode cX7_at 45 = .ok (.goto 4, 3) := by decide +kernel
theorem dX7_at_48 : decode cX7_at 48 = .ok (.iconst 0, 1) := by decide +kernel
theorem dX7_at_49 : decode cX7_at 49 = .ok (.ireturn, 1) := by decide +kernel
theorem dX7_lentTo_0 : decode cX7_lentTo 0 = .ok (.iconst 0, 1) := by decide +kernel
theorem dX7_lentTo_1 : decode cX7_lentTo 1 = .ok (.istore_n 2, 1) := by decide +kernel
theorem dX7_lentTo_2 : decode cX7_lentTo 2 = .ok (.iconst 0, 1) := by decide +kernel
theorem dX7_lentTo_3 : decode cX7_lentTo 3 = .ok (.istore_n 3, 1) := by decide +kernel
theorem dX7_lentTo_4 : decode cX7_lentTo 4 = .ok (.iload_n 3, 1) := by decide +kernel
theorem dX7_lentTo_5 : decode cX7_lentTo 5 = .ok (.bipush 48, 2) := by decide +kernel
theorem dX7_lentTo_7 : decode cX7_lentTo 7 = .ok (.if_icmp .ge 30, 3) := by decide +kernel
theorem dX7_lentTo_10 : decode cX7_lentTo 10 = .ok (.iload_n 2, 1) := by decide +kernel
theorem dX7_lentTo_11 : decode cX7_lentTo 11 = .ok (.aload_n 0, 1) := by decide +kernel
theorem dX7_lentTo_12 : decode cX7_lentTo 12 = .ok (.getfield 7, 3) := by decide +kernel
theorem dX7_lentTo_15 : decode cX7_lentTo 15 = .ok (.bipush 60, 2) := by decide +kernel
theorem dX7_lentTo_17 : decode cX7_lentTo 17 = .ok (.iload_n 3, 1) := by decide +kernel
theorem dX7_lentTo_18 : decode cX7_lentTo 18 = .ok (.iadd, 1) := by decide +kernel
theorem dX7_lentTo_19 : decode cX7_lentTo 19 = .ok (.iaload, 1) := by decide +kernel
theorem dX7_lentTo_20 : decode cX7_lentTo 20 = .ok (.iload_n 1, 1) := by decide +kernel
theorem dX7_lentTo_21 : decode cX7_lentTo 21 = .ok (.if_icmp .ne 7, 3) := by decide +kernel
theorem dX7_lentTo_24 : decode cX7_lentTo 24 = .ok (.iconst 1, 1) := by decide +kernel
theorem dX7_lentTo_25 : decode cX7_lentTo 25 = .ok (.goto 4, 3) := by decide +kernel
theorem dX7_lentTo_28 : decode cX7_lentTo 28 = .ok (.iconst 0, 1) := by decide +kernel
theorem dX7_lentTo_29 : decode cX7_lentTo 29 = .ok (.iadd, 1) := by decide +kernel
theorem dX7_lentTo_30 : decode cX7_lentTo 30 = .ok (.istore_n 2, 1) := by decide +kernel
theorem dX7_lentTo_31 : decode cX7_lentTo 31 = .ok (.iinc 3 1, 3) := by decide +kernel
theorem dX7_lentTo_34 : decode cX7_lentTo 34 = .ok (.goto (-30), 3) := by decide +kernel
