theorem dX4_leastLentBed_29 : decode cX4_leastLentBed 29 = .ok (.iload 4, 2) := by decide +kernel
theorem dX4_leastLentBed_31 : decode cX4_leastLentBed 31 = .ok (.istore_n 3, 1) := by decide +kernel
theorem dX4_leastLentBed_32 : decode cX4_leastLentBed 32 = .ok (.iinc 4 1, 3) := by decide +kernel
theorem dX4_leastLentBed_35 : decode cX4_leastLentBed 35 = .ok (.goto (-30), 3) := by decide +kernel
theorem dX4_leastLentBed_38 : decode cX4_leastLentBed 38 = .ok (.iload_n 3, 1) := by decide +kernel
theorem dX4_leastLentBed_39 : decode cX4_leastLentBed 39 = .ok (.ireturn, 1) := by decide +kernel
theorem dX4_holdersMask_0 : decode cX4_holdersMask 0 = .ok (.iconst 0, 1) := by decide +kernel
theorem dX4_holdersMask_1 : decode cX4_holdersMask 1 = .ok (.istore 4, 2) := by decide +kernel
theorem dX4_holdersMask_3 : decode cX4_holdersMask 3 = .ok (.iload_n 2, 1) := by decide +kernel
theorem dX4_holdersMask_4 : decode cX4_holdersMask 4 = .ok (.istore 5, 2) := by decide +kernel
theorem dX4_holdersMask_6 : decode cX4_holdersMask 6 = .ok (.iload 5, 2) := by decide +kernel
theorem dX4_holdersMask_8 : decode cX4_holdersMask 8 = .ok (.iload_n 2, 1) := by decide +kernel
theorem dX4_holdersMask_9 : decode cX4_holdersMask 9 = .ok (.iload_n 3, 1) := by decide +kernel
theorem dX4_holdersMask_10 : decode cX4_holdersMask 10 = .ok (.iadd, 1) := by decide +kernel
theorem dX4_holdersMask_11 : decode cX4_holdersMask 11 = .ok (.if_icmp .ge 40, 3) := by decide +kernel
theorem dX4_holdersMask_14 : decode cX4_holdersMask 14 = .ok (.aload_n 0, 1) := by decide +kernel
theorem dX4_holdersMask_15 : decode cX4_holdersMask 15 = .ok (.getfield 14, 3) := by decide +kernel
theorem dX4_holdersMask_18 : decode cX4_holdersMask 18 = .ok (.iload_n 1, 1) := by decide +kernel
theorem dX4_holdersMask_19 : decode cX4_holdersMask 19 = .ok (.iload 5, 2) := by decide +kernel
theorem dX4_holdersMask_21 : decode cX4_holdersMask 21 = .ok (.invokevirtual 32, 3) := by decide +kernel
theorem dX4_holdersMask_24 : decode cX4_holdersMask 24 = .ok (.istore 6, 2) := by decide +kernel
theorem dX4_holdersMask_26 : decode cX4_holdersMask 26 = .ok (.iload 4, 2) := by decide +kernel
theorem dX4_holdersMask_28 : decode cX4_holdersMask 28 = .ok (.iload 6, 2) := by decide +kernel
theorem dX4_holdersMask_30 : decode cX4_holdersMask 30 = .ok (.iconst (-1), 1) := by decide +kernel
theorem dX4_holdersMask_31 : decode cX4_holdersMask 31 = .ok (.if_icmp .ne 7, 3) := by decide +kernel
theorem dX4_holdersMask_34 : decode cX4_holdersMask 34 = .ok (.iconst 0, 1) := by decide +kernel
theorem dX4_holdersMask_35 : decode cX4_holdersMask 35 = .ok (.goto 7, 3) := by decide +kernel
theorem dX4_holdersMask_38 : decode cX4_holdersMask 38 = .ok (.iconst 1, 1) := by decide +kernel
theorem dX4_holdersMask_39 : decode cX4_holdersMask 39 = .ok (.iload 6, 2) := by decide +kernel
theorem dX4_holdersMask_41 : decode cX4_holdersMask 41 = .ok (.ishl, 1) := by decide +kernel
theorem dX4_holdersMask_42 : decode cX4_holdersMask 42 = .ok (.ior, 1) := by decide +kernel
theorem dX4_holdersMask_43 : decode cX4_holdersMask 43 = .ok (.istore 4, 2) := by decide +kernel
theorem dX4_holdersMask_45 : decode cX4_holdersMask 45 = .ok (.iinc 5 1, 3) := by decide +kernel
theorem dX4_holdersMask_48 : decode cX4_holdersMask 48 = .ok (.goto (-42), 3) := by decide +kernel
theorem dX4_holdersMask_51 : decode cX4_holdersMask 51 = .ok (.iload 4, 2) := by decide +kernel
theorem dX4_holdersMask_53 : decode cX4_holdersMask 53 = .ok (.ireturn, 1) := by decide +kernel
theorem dX4_startsPiece_0 : decode cX4_startsPiece 0 = .ok (.aload_n 0, 1) := by decide +kernel
theorem dX4_startsPiece_1 : decode cX4_startsPiece 1 = .ok (.getfield 14, 3) := by decide +kernel
theorem dX4_startsPiece_4 : decode cX4_startsPiece 4 = .ok (.iload_n 1, 1) := by decide +kernel
theorem dX4_startsPiece_5 : decode cX4_startsPiece 5 = .ok (.iload_n 2, 1) := by decide +kernel
theorem dX4_startsPiece_6 : decode cX4_startsPiece 6 = .ok (.invokevirtual 32, 3) := by decide +kernel
theorem dX4_startsPiece_9 : decode cX4_startsPiece 9 = .ok (.istore_n 3, 1) := by decide +kernel
theorem dX4_startsPiece_10 : decode cX4_startsPiece 10 = .ok (.iload_n 3, 1) := by decide +kernel
theorem dX4_startsPiece_11 : decode cX4_startsPiece 11 = .ok (.iconst (-1), 1) := by decide +kernel
theorem dX4_startsPiece_12 : decode cX4_startsPiece 12 = .ok (.if_icmp .eq 22, 3) := by decide +kernel
theorem dX4_startsPiece_15 : decode cX4_startsPiece 15 = .ok (.iload_n 3, 1) := by decide +kernel
theorem dX4_startsPiece_16 : decode cX4_startsPiece 16 = .ok (.aload_n 0, 1) := by decide +kernel
theorem dX4_startsPiece_17 : decode cX4_startsPiece 17 = .ok (.getfield 14, 3) := by decide +kernel
theorem dX4_startsPiece_20 : decode cX4_startsPiece 20 = .ok (.iload_n 1, 1) := by decide +kernel
theorem dX4_startsPiece_21 : decode cX4_startsPiece 21 = .ok (.iload_n 2, 1) := by decide +kernel
theorem dX4_startsPiece_22 : decode cX4_startsPiece 22 = .ok (.iconst 1, 1) := by decide +kernel
theorem dX4_startsPiece_23 : decode cX4_startsPiece 23 = .ok (.isub, 1) := by decide +kernel
theorem dX4_startsPiece_24 : decode cX4_startsPiece 24 = .ok (.invokevirtual 32, 3) := by decide +kernel
theorem dX4_startsPiece_27 : decode cX4_startsPiece 27 = .ok (.if_icmp .eq 7, 3) := by decide +kernel
theorem dX4_startsPiece_30 : decode cX4_startsPiece 30 = .ok (.iconst 1, 1) := by decide +kernel
theorem dX4_startsPiece_31 : decode cX4_startsPiece 31 = .ok (.goto 4, 3) := by decide +kernel
theorem dX4_startsPiece_34 : decode cX4_startsPiece 34 = .ok (.iconst 0, 1) := by decide +kernel
theorem dX4_startsPiece_35 : decode cX4_startsPiece 35 = .ok (.ireturn, 1) := by decide +kernel
theorem dX4_pieceEnd_0 : decode cX4_pieceEnd 0 = .ok (.iload_n 2, 1) := by decide +kernel
theorem dX4_pieceEnd_1 : decode cX4_pieceEnd 1 = .ok (.iconst 1, 1) := by decide +kernel
theorem dX4_pieceEnd_2 : decode cX4_pieceEnd 2 = .ok (.iadd, 1) := by decide +kernel
theorem dX4_pieceEnd_3 : decode cX4_pieceEnd 3 = .ok (.istore_n 3, 1) := by decide +kernel
theorem dX4_pieceEnd_4 : decode cX4_pieceEnd 4 = .ok (.iload_n 3, 1) := by decide +kernel
theorem dX4_pieceEnd_5 : decode cX4_pieceEnd 5 = .ok (.bipush 12, 2) := by decide +kernel
theorem dX4_pieceEnd_7 : decode cX4_pieceEnd 7 = .ok (.if_icmp .ge 30, 3) := by decide +kernel
theorem dX4_pieceEnd_10 : decode cX4_pieceEnd 10 = .ok (.aload_n 0, 1) := by decide +kernel
theorem dX4_pieceEnd_11 : decode cX4_pieceEnd 11 = .ok (.getfield 14, 3) := by decide +kernel
theorem dX4_pieceEnd_14 : decode cX4_pieceEnd 14 = .ok (.iload_n 1, 1) := by decide +kernel
theorem dX4_pieceEnd_15 : decode cX4_pieceEnd 15 = .ok (.iload_n 3, 1) := by decide +kernel
theorem dX4_pieceEnd_16 : decode cX4_pieceEnd 16 = .ok (.invokevirtual 32, 3) := by decide +kernel
theorem dX4_pieceEnd_19 : decode cX4_pieceEnd 19 = .ok (.aload_n 0, 1) := by decide +kernel
theorem dX4_pieceEnd_20 : decode cX4_pieceEnd 20 = .ok (.getfield 14, 3) := by decide +kernel
theorem dX4_pieceEnd_23 : decode cX4_pieceEnd 23 = .ok (.iload_n 1, 1) := by decide +kernel
theorem dX4_pieceEnd_24 : decode cX4_pieceEnd 24 = .ok (.iload_n 2, 1) := by decide +kernel
theorem dX4_pieceEnd_25 : decode cX4_pieceEnd 25 = .ok (.invokevirtual 32, 3) := by decide +kernel
theorem dX4_pieceEnd_28 : decode cX4_pieceEnd 28 = .ok (.if_icmp .ne 9, 3) := by decide +kernel
theorem dX4_pieceEnd_31 : decode cX4_pieceEnd 31 = .ok (.iinc 3 1, 3) := by decide +kernel
theorem dX4_pieceEnd_34 : decode cX4_pieceEnd 34 = .ok (.goto (-30), 3) := by decide +kernel
theorem dX4_pieceEnd_37 : decode cX4_pieceEnd 37 = .ok (.iload_n 3, 1) := by decide +kernel
theorem dX4_pieceEnd_38 : decode cX4_pieceEnd 38 = .ok (.ireturn, 1) := by decide +kernel
theorem dX4_freePieceFrom_0 : decode cX4_freePieceFrom 0 = .ok (.aload_n 0, 1) := by decide +kernel
theorem dX4_freePieceFrom_1 : decode cX4_freePieceFrom 1 = .ok (.iload_n 1, 1) := by decide +kernel
theorem dX4_freePieceFrom_2 : decode cX4_freePieceFrom 2 = .ok (.iload_n 2, 1) := by decide +kernel
theorem dX4_freePieceFrom_3 : decode cX4_freePieceFrom 3 = .ok (.invokevirtual 56, 3) := by decide +kernel
theorem dX4_freePieceFrom_6 : decode cX4_freePieceFrom 6 = .ok (.iload_n 2, 1) := by decide +kernel
theorem dX4_freePieceFrom_7 : decode cX4_freePieceFrom 7 = .ok (.isub, 1) := by decide +kernel
theorem dX4_freePieceFrom_8 : decode cX4_freePieceFrom 8 = .ok (.istore_n 3, 1) := by decide +kernel
theorem dX4_freePieceFrom_9 : decode cX4_freePieceFrom 9 = .ok (.aload_n 0, 1) := by decide +kernel
theorem dX4_freePieceFrom_10 : decode cX4_freePieceFrom 10 = .ok (.iconst (-1), 1) := by decide +kernel
theorem dX4_freePieceFrom_11 : decode cX4_freePieceFrom 11 = .ok (.iload_n 1, 1) := by decide +kernel
theorem dX4_freePieceFrom_12 : decode cX4_freePieceFrom 12 = .ok (.iload_n 2, 1) := by decide +kernel
theorem dX4_freePieceFrom_13 : decode cX4_freePieceFrom 13 = .ok (.iload_n 3, 1) := by decide +kernel
theorem dX4_freePieceFrom_14 : decode cX4_freePieceFrom 14 = .ok (.invokevirtual 59, 3) := by decide +kernel
theorem dX4_freePieceFrom_17 : decode cX4_freePieceFrom 17 = .ok (.iload_n 3, 1) := by decide +kernel
theorem dX4_freePieceFrom_18 : decode cX4_freePieceFrom 18 = .ok (.ireturn, 1) := by decide +kernel
theorem dX4_freePiecesIn_0 : decode cX4_freePiecesIn 0 = .ok (.iload_n 2, 1) := by decide +kernel
theorem dX4_freePiecesIn_1 : decode cX4_freePiecesIn 1 = .ok (.istore 4, 2) := by decide +kernel
theorem dX4_freePiecesIn_3 : decode cX4_freePiecesIn 3 = .ok (.iload 4, 2) := by decide +kernel
theorem dX4_freePiecesIn_5 : decode cX4_freePiecesIn 5 = .ok (.aload_n 0, 1) := by decide +kernel
theorem dX4_freePiecesIn_6 : decode cX4_freePiecesIn 6 = .ok (.getfield 28, 3) := by decide +kernel
theorem dX4_freePiecesIn_9 : decode cX4_freePiecesIn 9 = .ok (.if_icmp .le 33, 3) := by decide +kernel
theorem dX4_freePiecesIn_12 : decode cX4_freePiecesIn 12 = .ok (.aload_n 0, 1) := by decide +kernel
theorem dX4_freePiecesIn_13 : decode cX4_freePiecesIn 13 = .ok (.getfield 14, 3) := by decide +kernel
theorem dX4_freePiecesIn_16 : decode cX4_freePiecesIn 16 = .ok (.iload_n 1, 1) := by decide +kernel
theorem dX4_freePiecesIn_17 : decode cX4_freePiecesIn 17 = .ok (.iload 4, 2) := by decide +kernel
theorem dX4_freePiecesIn_19 : decode cX4_freePiecesIn 19 = .ok (.iconst 1, 1) := by decide +kernel
theorem dX4_freePiecesIn_20 : decode cX4_freePiecesIn 20 = .ok (.isub, 1) := by decide +kernel
theorem dX4_freePiecesIn_21 : decode cX4_freePiecesIn 21 = .ok (.invokevirtual 32, 3) := by decide +kernel
theorem dX4_freePiecesIn_24 : decode cX4_freePiecesIn 24 = .ok (.aload_n 0, 1) := by decide +kernel
theorem dX4_freePiecesIn_25 : decode cX4_freePiecesIn 25 = .ok (.getfield 14, 3) := by decide +kernel
theorem dX4_freePiecesIn_28 : decode cX4_freePiecesIn 28 = .ok (.iload_n 1, 1) := by decide +kernel
theorem dX4_freePiecesIn_29 : decode cX4_freePiecesIn 29 = .ok (.iload_n 2, 1) := by decide +kernel
theorem dX4_freePiecesIn_30 : decode cX4_freePiecesIn 30 = .ok (.invokevirtual 32, 3) := by decide +kernel
theorem dX4_freePiecesIn_33 : decode cX4_freePiecesIn 33 = .ok (.if_icmp .ne 9, 3) := by decide +kernel
theorem dX4_freePiecesIn_36 : decode cX4_freePiecesIn 36 = .ok (.iinc 4 (-1), 3) := by decide +kernel
theorem dX4_freePiecesIn_39 : decode cX4_freePiecesIn 39 = .ok (.goto (-36), 3) := by decide +kernel
theorem dX4_freePiecesIn_42 : decode cX4_freePiecesIn 42 = .ok (.aload_n 0, 1) := by decide +kernel
theorem dX4_freePiecesIn_43 : decode cX4_freePiecesIn 43 = .ok (.iload_n 1, 1) := by decide +kernel
theorem dX4_freePiecesIn_44 : decode cX4_freePiecesIn 44 = .ok (.iload_n 2, 1) := by decide +kernel
theorem dX4_freePiecesIn_45 : decode cX4_freePiecesIn 45 = .ok (.iload_n 3, 1) := by decide +kernel
theorem dX4_freePiecesIn_46 : decode cX4_freePiecesIn 46 = .ok (.iadd, 1) := by decide +kernel
theorem dX4_freePiecesIn_47 : decode cX4_freePiecesIn 47 = .ok (.iconst 1, 1) := by decide +kernel
theorem dX4_freePiecesIn_48 : decode cX4_freePiecesIn 48 = .ok (.isub, 1) := by decide +kernel
theorem dX4_freePiecesIn_49 : decode cX4_freePiecesIn 49 = .ok (.invokevirtual 56, 3) := by decide +kernel
theorem dX4_freePiecesIn_52 : decode cX4_freePiecesIn 52 = .ok (.istore 5, 2) := by decide +kernel
theorem dX4_freePiecesIn_54 : decode cX4_freePiecesIn 54 = .ok (.aload_n 0, 1) := by decide +kernel
theorem dX4_freePiecesIn_55 : decode cX4_freePiecesIn 55 = .ok (.iload_n 1, 1) := by decide +kernel
theorem dX4_freePiecesIn_56 : decode cX4_freePiecesIn 56 = .ok (.iload 4, 2) := by decide +kernel
theorem dX4_freePiecesIn_58 : decode cX4_freePiecesIn 58 = .ok (.iload 5, 2) := by decide +kernel
theorem dX4_freePiecesIn_60 : decode cX4_freePiecesIn 60 = .ok (.iload 4, 2) := by decide +kernel
theorem dX4_freePiecesIn_62 : decode cX4_freePiecesIn 62 = .ok (.isub, 1) := by decide +kernel
theorem dX4_freePiecesIn_63 : decode cX4_freePiecesIn 63 = .ok (.invokevirtual 52, 3) := by decide +kernel
theorem dX4_freePiecesIn_66 : decode cX4_freePiecesIn 66 = .ok (.istore 6, 2) := by decide +kernel
theorem dX4_freePiecesIn_68 : decode cX4_freePiecesIn 68 = .ok (.aload_n 0, 1) := by decide +kernel
theorem dX4_freePiecesIn_69 : decode cX4_freePiecesIn 69 = .ok (.iconst (-1), 1) := by decide +kernel
theorem dX4_freePiecesIn_70 : decode cX4_freePiecesIn 70 = .ok (.iload_n 1, 1) := by decide +kernel
theorem dX4_freePiecesIn_71 : decode cX4_freePiecesIn 71 = .ok (.iload 4, 2) := by decide +kernel
theorem dX4_freePiecesIn_73 : decode cX4_freePiecesIn 73 = .ok (.iload 5, 2) := by decide +kernel
theorem dX4_freePiecesIn_75 : decode cX4_freePiecesIn 75 = .ok (.iload 4, 2) := by decide +kernel
theorem dX4_freePiecesIn_77 : decode cX4_freePiecesIn 77 = .ok (.isub, 1) := by decide +kernel
theorem dX4_freePiecesIn_78 : decode cX4_freePiecesIn 78 = .ok (.invokevirtual 59, 3) := by decide +kernel
theorem dX4_freePiecesIn_81 : decode cX4_freePiecesIn 81 = .ok (.iload 6, 2) := by decide +kernel
theorem dX4_freePiecesIn_83 : decode cX4_freePiecesIn 83 = .ok (.ireturn, 1) := by decide +kernel
theorem dX4_longestFor_0 : decode cX4_longestFor 0 = .ok (.iconst 0, 1) := by decide +kernel
theorem dX4_longestFor_1 : decode cX4_longestFor 1 = .ok (.istore_n 3, 1) := by decide +kernel
theorem dX4_longestFor_2 : decode cX4_longestFor 2 = .ok (.iload_n 3, 1) := by decide +kernel
theorem dX4_longestFor_3 : decode cX4_longestFor 3 = .ok (.bipush 9, 2) := by decide +kernel
theorem dX4_longestFor_5 : decode cX4_longestFor 5 = .ok (.if_icmp .ge 21, 3) := by decide +kernel
theorem dX4_longestFor_8 : decode cX4_longestFor 8 = .ok (.aload_n 0, 1) := by decide +kernel
theorem dX4_longestFor_9 : decode cX4_longestFor 9 = .ok (.iload_n 1, 1) := by decide +kernel
theorem dX4_longestFor_10 : decode cX4_longestFor 10 = .ok (.iload_n 2, 1) := by decide +kernel
theorem dX4_longestFor_11 : decode cX4_longestFor 11 = .ok (.iload_n 3, 1) := by decide +kernel
theorem dX4_longestFor_12 : decode cX4_longestFor 12 = .ok (.iconst 1, 1) := by decide +kernel
theorem dX4_longestFor_13 : decode cX4_longestFor 13 = .ok (.iadd, 1) := by decide +kernel
theorem dX4_longestFor_14 : decode cX4_longestFor 14 = .ok (.invokevirtual 63, 3) := by decide +kernel
theorem dX4_longestFor_17 : decode cX4_longestFor 17 = .ok (.ifCond .eq 9, 3) := by decide +kernel
theorem dX4_longestFor_20 : decode cX4_longestFor 20 = .ok (.iinc 3 1, 3) := by decide +kernel
theorem dX4_longestFor_23 : decode cX4_longestFor 23 = .ok (.goto (-21), 3) := by decide +kernel
theorem dX4_longestFor_26 : decode cX4_longestFor 26 = .ok (.iload_n 3, 1) := by decide +kernel
theorem dX4_longestFor_27 : decode cX4_longestFor 27 = .ok (.ireturn, 1) := by decide +kernel
theorem dX4_isOpenTo_0 : decode cX4_isOpenTo 0 = .ok (.iload_n 2, 1) := by decide +kernel
theorem dX4_isOpenTo_1 : decode cX4_isOpenTo 1 = .ok (.iload_n 3, 1) := by decide +kernel
theorem dX4_isOpenTo_2 : decode cX4_isOpenTo 2 = .ok (.invokestatic 67, 3) := by decide +kernel
theorem dX4_isOpenTo_5 : decode cX4_isOpenTo 5 = .ok (.ifCond .eq 11, 3) := by decide +kernel
theorem dX4_isOpenTo_8 : decode cX4_isOpenTo 8 = .ok (.aload_n 0, 1) := by decide +kernel
theorem dX4_isOpenTo_9 : decode cX4_isOpenTo 9 = .ok (.iload_n 2, 1) := by decide +kernel
theorem dX4_isOpenTo_10 : decode cX4_isOpenTo 10 = .ok (.invokevirtual 71, 3) := by decide +kernel
theorem dX4_isOpenTo_13 : decode cX4_isOpenTo 13 = .ok (.ifCond .eq 5, 3) := by decide +kernel
theorem dX4_isOpenTo_16 : decode cX4_isOpenTo 16 = .ok (.iconst 0, 1) := by decide +kernel
theorem dX4_isOpenTo_17 : decode cX4_isOpenTo 17 = .ok (.ireturn, 1) := by decide +kernel
theorem dX4_isOpenTo_18 : decode cX4_isOpenTo 18 = .ok (.aload_n 0, 1) := by decide +kernel
theorem dX4_isOpenTo_19 : decode cX4_isOpenTo 19 = .ok (.iload_n 1, 1) := by decide +kernel
theorem dX4_isOpenTo_20 : decode cX4_isOpenTo 20 = .ok (.iload_n 2, 1) := by decide +kernel
theorem dX4_isOpenTo_21 : decode cX4_isOpenTo 21 = .ok (.iload_n 3, 1) := by decide +kernel
theorem dX4_isOpenTo_22 : decode cX4_isOpenTo 22 = .ok (.invokevirtual 75, 3) := by decide +kernel
theorem dX4_isOpenTo_25 : decode cX4_isOpenTo 25 = .ok (.ifCond .ne 22, 3) := by decide +kernel
theorem dX4_isOpenTo_28 : decode cX4_isOpenTo 28 = .ok (.aload_n 0, 1) := by decide +kernel
theorem dX4_isOpenTo_29 : decode cX4_isOpenTo 29 = .ok (.aload_n 0, 1) := by decide +kernel
theorem dX4_isOpenTo_30 : decode cX4_isOpenTo 30 = .ok (.iload_n 2, 1) := by decide +kernel
theorem dX4_isOpenTo_31 : decode cX4_isOpenTo 31 = .ok (.iload_n 3, 1) := by decide +kernel
theorem dX4_isOpenTo_32 : decode cX4_isOpenTo 32 = .ok (.invokevirtual 78, 3) := by decide +kernel
theorem dX4_isOpenTo_35 : decode cX4_isOpenTo 35 = .ok (.iload_n 2, 1) := by decide +kernel
theorem dX4_isOpenTo_36 : decode cX4_isOpenTo 36 = .ok (.iload_n 3, 1) := by decide +kernel
theorem dX4_isOpenTo_37 : decode cX4_isOpenTo 37 = .ok (.invokevirtual 52, 3) := by decide +kernel
theorem dX4_isOpenTo_40 : decode cX4_isOpenTo 40 = .ok (.ifCond .ne 7, 3) := by decide +kernel
theorem dX4_isOpenTo_43 : decode cX4_isOpenTo 43 = .ok (.iconst 1, 1) := by decide +kernel
theorem dX4_isOpenTo_44 : decode cX4_isOpenTo 44 = .ok (.goto 4, 3) := by decide +kernel
theorem dX4_isOpenTo_47 : decode cX4_isOpenTo 47 = .ok (.iconst 0, 1) := by decide +kernel
theorem dX4_isOpenTo_48 : decode cX4_isOpenTo 48 = .ok (.ireturn, 1) := by decide +kernel
theorem dX5_init_0 : decode cX5_init 0 = .ok (.aload_n 0, 1) := by decide +kernel
theorem dX5_init_1 : decode cX5_init 1 = .ok (.invokespecial 1, 3) := by decide +kernel
theorem dX5_init_4 : decode cX5_init 4 = .ok (.aload_n 0, 1) := by decide +kernel
theorem dX5_init_5 : decode cX5_init 5 = .ok (.iconst 0, 1) := by decide +kernel
theorem dX5_init_6 : decode cX5_init 6 = .ok (.iload_n 1, 1) := by decide +kernel
theorem dX5_init_7 : decode cX5_init 7 = .ok (.invokestatic 7, 3) := by decide +kernel
theorem dX5_init_10 : decode cX5_init 10 = .ok (.anewarray 13, 3) := by decide +kernel
theorem dX5_init_13 : decode cX5_init 13 = .ok (.putfield 15, 3) := by decide +kernel
theorem dX5_init_16 : decode cX5_init 16 = .ok (.aload_n 0, 1) := by decide +kernel
theorem dX5_init_17 : decode cX5_init 17 = .ok (.aload_n 0, 1) := by decide +kernel
theorem dX5_init_18 : decode cX5_init 18 = .ok (.getfield 15, 3) := by decide +kernel
theorem dX5_init_21 : decode cX5_init 21 = .ok (.arraylength, 1) := by decide +kernel
theorem dX5_init_22 : decode cX5_init 22 = .ok (.newarray .boolean, 2) := by decide +kernel
theorem dX5_init_24 : decode cX5_init 24 = .ok (.putfield 21, 3) := by decide +kernel
theorem dX5_init_27 : decode cX5_init 27 = .ok (.iconst 0, 1) := by decide +kernel
theorem dX5_init_28 : decode cX5_init 28 = .ok (.istore_n 2, 1) := by decide +kernel
theorem dX5_init_29 : decode cX5_init 29 = .ok (.iload_n 2, 1) := by decide +kernel
theorem dX5_init_30 : decode cX5_init 30 = .ok (.aload_n 0, 1) := by decide +kernel
theorem dX5_init_31 : decode cX5_init 31 = .ok (.getfield 15, 3) := by decide +kernel
theorem dX5_init_34 : decode cX5_init 34 = .ok (.arraylength, 1) := by decide +kernel
theorem dX5_init_35 : decode cX5_init 35 = .ok (.if_icmp .ge 22, 3) := by decide +kernel
theorem dX5_init_38 : decode cX5_init 38 = .ok (.aload_n 0, 1) := by decide +kernel
theorem dX5_init_39 : decode cX5_init 39 = .ok (.getfield 15, 3) := by decide +kernel
theorem dX5_init_42 : decode cX5_init 42 = .ok (.iload_n 2, 1) := by decide +kernel
theorem dX5_init_43 : decode cX5_init 43 = .ok (.new 13, 3) := by decide +kernel
theorem dX5_init_46 : decode cX5_init 46 = .ok (.dup, 1) := by decide +kernel
theorem dX5_init_47 : decode cX5_init 47 = .ok (.invokespecial 25, 3) := by decide +kernel
theorem dX5_init_50 : decode cX5_init 50 = .ok (.aastore, 1) := by decide +kernel
theorem dX5_init_51 : decode cX5_init 51 = .ok (.iinc 2 1, 3) := by decide +kernel
theorem dX5_init_54 : decode cX5_init 54 = .ok (.goto (-25), 3) := by decide +kernel
theorem dX5_init_57 : decode cX5_init 57 = .ok (.return_, 1) := by decide +kernel
theorem dX5_houseIn_0 : decode cX5_houseIn 0 = .ok (.iload_n 1, 1) := by decide +kernel
theorem dX5_houseIn_1 : decode cX5_houseIn 1 = .ok (.ifCond .lt 21, 3) := by decide +kernel
theorem dX5_houseIn_4 : decode cX5_houseIn 4 = .ok (.iload_n 1, 1) := by decide +kernel
theorem dX5_houseIn_5 : decode cX5_houseIn 5 = .ok (.aload_n 0, 1) := by decide +kernel
theorem dX5_houseIn_6 : decode cX5_houseIn 6 = .ok (.getfield 15, 3) := by decide +kernel
theorem dX5_houseIn_9 : decode cX5_houseIn 9 = .ok (.arraylength, 1) := by decide +kernel
theorem dX5_houseIn_10 : decode cX5_houseIn 10 = .ok (.if_icmp .ge 12, 3) := by decide +kernel
theorem dX5_houseIn_13 : decode cX5_houseIn 13 = .ok (.aload_n 0, 1) := by decide +kernel
theorem dX5_houseIn_14 : decode cX5_houseIn 14 = .ok (.getfield 15, 3) := by decide +kernel
theorem dX5_houseIn_17 : decode cX5_houseIn 17 = .ok (.iload_n 1, 1) := by decide +kernel
theorem dX5_houseIn_18 : decode cX5_houseIn 18 = .ok (.aaload, 1) := by decide +kernel
theorem dX5_houseIn_19 : decode cX5_houseIn 19 = .ok (.goto 4, 3) := by decide +kernel
theorem dX5_houseIn_22 : decode cX5_houseIn 22 = .ok (.aconst_null, 1) := by decide +kernel
theorem dX5_houseIn_23 : decode cX5_houseIn 23 = .ok (.areturn, 1) := by decide +kernel
theorem dX5_store_0 : decode cX5_store 0 = .ok (.aload_n 0, 1) := by decide +kernel
theorem dX5_store_1 : decode cX5_store 1 = .ok (.iload_n 1, 1) := by decide +kernel
theorem dX5_store_2 : decode cX5_store 2 = .ok (.invokevirtual 26, 3) := by decide +kernel
theorem dX5_store_5 : decode cX5_store 5 = .ok (.astore_n 3, 1) := by decide +kernel
theorem dX5_store_6 : decode cX5_store 6 = .ok (.aload_n 3, 1) := by decide +kernel
theorem dX5_store_7 : decode cX5_store 7 = .ok (.ifnull 28, 3) := by decide +kernel
theorem dX5_store_10 : decode cX5_store 10 = .ok (.iload_n 1, 1) := by decide +kernel
theorem dX5_store_11 : decode cX5_store 11 = .ok (.ifCond .lt 24, 3) := by decide +kernel
theorem dX5_store_14 : decode cX5_store 14 = .ok (.iload_n 1, 1) := by decide +kernel
theorem dX5_store_15 : decode cX5_store 15 = .ok (.aload_n 0, 1) := by decide +kernel
theorem dX5_store_16 : decode cX5_store 16 = .ok (.getfield 21, 3) := by decide +kernel
theorem dX5_store_19 : decode cX5_store 19 = .ok (.arraylength, 1) := by decide +kernel
theorem dX5_store_20 : decode cX5_store 20 = .ok (.if_icmp .ge 15, 3) := by decide +kernel
theorem dX5_store_23 : decode cX5_store 23 = .ok (.aload_n 3, 1) := by decide +kernel
theorem dX5_store_24 : decode cX5_store 24 = .ok (.aload_n 2, 1) := by decide +kernel
theorem dX5_store_25 : decode cX5_store 25 = .ok (.invokevirtual 30, 3) := by decide +kernel
theorem dX5_store_28 : decode cX5_store 28 = .ok (.aload_n 0, 1) := by decide +kernel
theorem dX5_store_29 : decode cX5_store 29 = .ok (.getfield 21, 3) := by decide +kernel
theorem dX5_store_32 : decode cX5_store 32 = .ok (.iload_n 1, 1) := by decide +kernel
theorem dX5_store_33 : decode cX5_store 33 = .ok (.iconst 1, 1) := by decide +kernel
theorem dX5_store_34 : decode cX5_store 34 = .ok (.bastore, 1) := by decide +kernel
theorem dX5_store_35 : decode cX5_store 35 = .ok (.return_, 1) := by decide +kernel
theorem dX5_restore_0 : decode cX5_restore 0 = .ok (.aload_n 0, 1) := by decide +kernel
theorem dX5_restore_1 : decode cX5_restore 1 = .ok (.iload_n 1, 1) := by decide +kernel
theorem dX5_restore_2 : decode cX5_restore 2 = .ok (.invokevirtual 26, 3) := by decide +kernel
theorem dX5_restore_5 : decode cX5_restore 5 = .ok (.astore_n 3, 1) := by decide +kernel
theorem dX5_restore_6 : decode cX5_restore 6 = .ok (.aload_n 3, 1) := by decide +kernel
theorem dX5_restore_7 : decode cX5_restore 7 = .ok (.ifnull 8, 3) := by decide +kernel
theorem dX5_restore_10 : decode cX5_restore 10 = .ok (.aload_n 2, 1) := by decide +kernel
theorem dX5_restore_11 : decode cX5_restore 11 = .ok (.aload_n 3, 1) := by decide +kernel
theorem dX5_restore_12 : decode cX5_restore 12 = .ok (.invokevirtual 30, 3) := by decide +kernel
theorem dX5_restore_15 : decode cX5_restore 15 = .ok (.return_, 1) := by decide +kernel
theorem dX6_init_0 : decode cX6_init 0 = .ok (.aload_n 0, 1) := by decide +kernel
theorem dX6_init_1 : decode cX6_init 1 = .ok (.invokespecial 1, 3) := by decide +kernel
theorem dX6_init_4 : decode cX6_init 4 = .ok (.aload_n 0, 1) := by decide +kernel
theorem dX6_init_5 : decode cX6_init 5 = .ok (.new 7, 3) := by decide +kernel
theorem dX6_init_8 : decode cX6_init 8 = .ok (.dup, 1) := by decide +kernel
theorem dX6_init_9 : decode cX6_init 9 = .ok (.invokespecial 9, 3) := by decide +kernel
theorem dX6_init_12 : decode cX6_init 12 = .ok (.putfield 10, 3) := by decide +kernel
theorem dX6_init_15 : decode cX6_init 15 = .ok (.aload_n 0, 1) := by decide +kernel
theorem dX6_init_16 : decode cX6_init 16 = .ok (.new 16, 3) := by decide +kernel
theorem dX6_init_19 : decode cX6_init 19 = .ok (.dup, 1) := by decide +kernel
theorem dX6_init_20 : decode cX6_init 20 = .ok (.iconst 2, 1) := by decide +kernel
theorem dX6_init_21 : decode cX6_init 21 = .ok (.invokespecial 18, 3) := by decide +kernel
theorem dX6_init_24 : decode cX6_init 24 = .ok (.putfield 21, 3) := by decide +kernel
theorem dX6_init_27 : decode cX6_init 27 = .ok (.aload_n 0, 1) := by decide +kernel
theorem dX6_init_28 : decode cX6_init 28 = .ok (.new 16, 3) := by decide +kernel
theorem dX6_init_31 : decode cX6_init 31 = .ok (.dup, 1) := by decide +kernel
theorem dX6_init_32 : decode cX6_init 32 = .ok (.bipush 6, 2) := by decide +kernel
theorem dX6_init_34 : decode cX6_init 34 = .ok (.invokespecial 18, 3) := by decide +kernel
theorem dX6_init_37 : decode cX6_init 37 = .ok (.putfield 25, 3) := by decide +kernel
theorem dX6_init_40 : decode cX6_init 40 = .ok (.aload_n 0, 1) := by decide +kernel
theorem dX6_init_41 : decode cX6_init 41 = .ok (.new 28, 3) := by decide +kernel
theorem dX6_init_44 : decode cX6_init 44 = .ok (.dup, 1) := by decide +kernel
theorem dX6_init_45 : decode cX6_init 45 = .ok (.invokespecial 30, 3) := by decide +kernel
theorem dX6_init_48 : decode cX6_init 48 = .ok (.putfield 31, 3) := by decide +kernel
theorem dX6_init_51 : decode cX6_init 51 = .ok (.aload_n 0, 1) := by decide +kernel
theorem dX6_init_52 : decode cX6_init 52 = .ok (.new 35, 3) := by decide +kernel
theorem dX6_init_55 : decode cX6_init 55 = .ok (.dup, 1) := by decide +kernel
theorem dX6_init_56 : decode cX6_init 56 = .ok (.invokespecial 37, 3) := by decide +kernel
theorem dX6_init_59 : decode cX6_init 59 = .ok (.putfield 38, 3) := by decide +kernel
theorem dX6_init_62 : decode cX6_init 62 = .ok (.return_, 1) := by decide +kernel
theorem dX6_ask_0 : decode cX6_ask 0 = .ok (.iload_n 1, 1) := by decide +kernel
theorem dX6_ask_1 : decode cX6_ask 1 = .ok (.iload_n 2, 1) := by decide +kernel
theorem dX6_ask_2 : decode cX6_ask 2 = .ok (.iload_n 3, 1) := by decide +kernel
theorem dX6_ask_3 : decode cX6_ask 3 = .ok (.invokestatic 42, 3) := by decide +kernel
theorem dX6_ask_6 : decode cX6_ask 6 = .ok (.aload_n 0, 1) := by decide +kernel
theorem dX6_ask_7 : decode cX6_ask 7 = .ok (.invokevirtual 46, 3) := by decide +kernel
theorem dX6_ask_10 : decode cX6_ask 10 = .ok (.aload_n 0, 1) := by decide +kernel
theorem dX6_ask_11 : decode cX6_ask 11 = .ok (.getfield 10, 3) := by decide +kernel
theorem dX6_ask_14 : decode cX6_ask 14 = .ok (.iload_n 1, 1) := by decide +kernel
theorem dX6_ask_15 : decode cX6_ask 15 = .ok (.iload_n 2, 1) := by decide +kernel
theorem dX6_ask_16 : decode cX6_ask 16 = .ok (.iload_n 3, 1) := by decide +kernel
theorem dX6_ask_17 : decode cX6_ask 17 = .ok (.invokevirtual 49, 3) := by decide +kernel
theorem dX6_ask_20 : decode cX6_ask 20 = .ok (.ireturn, 1) := by decide +kernel
theorem dX6_giveBack_0 : decode cX6_giveBack 0 = .ok (.iload_n 1, 1) := by decide +kernel
theorem dX6_giveBack_1 : decode cX6_giveBack 1 = .ok (.invokestatic 53, 3) := by decide +kernel
theorem dX6_giveBack_4 : decode cX6_giveBack 4 = .ok (.iload_n 2, 1) := by decide +kernel
theorem dX6_giveBack_5 : decode cX6_giveBack 5 = .ok (.invokestatic 56, 3) := by decide +kernel
theorem dX6_giveBack_8 : decode cX6_giveBack 8 = .ok (.aload_n 0, 1) := by decide +kernel
theorem dX6_giveBack_9 : decode cX6_giveBack 9 = .ok (.invokevirtual 46, 3) := by decide +kernel
theorem dX6_giveBack_12 : decode cX6_giveBack 12 = .ok (.aload_n 0, 1) := by decide +kernel
theorem dX6_giveBack_13 : decode cX6_giveBack 13 = .ok (.getfield 10, 3) := by decide +kernel
theorem dX6_giveBack_16 : decode cX6_giveBack 16 = .ok (.iload_n 1, 1) := by decide +kernel
theorem dX6_giveBack_17 : decode cX6_giveBack 17 = .ok (.iload_n 2, 1) := by decide +kernel
theorem dX6_giveBack_18 : decode cX6_giveBack 18 = .ok (.invokevirtual 59, 3) := by decide +kernel
theorem dX6_giveBack_21 : decode cX6_giveBack 21 = .ok (.ireturn, 1) := by decide +kernel
theorem dX6_favour_0 : decode cX6_favour 0 = .ok (.iload_n 1, 1) := by decide +kernel
theorem dX6_favour_1 : decode cX6_favour 1 = .ok (.invokestatic 53, 3) := by decide +kernel
theorem dX6_favour_4 : decode cX6_favour 4 = .ok (.aload_n 0, 1) := by decide +kernel
theorem dX6_favour_5 : decode cX6_favour 5 = .ok (.invokevirtual 46, 3) := by decide +kernel
theorem dX6_favour_8 : decode cX6_favour 8 = .ok (.aload_n 0, 1) := by decide +kernel
theorem dX6_favour_9 : decode cX6_favour 9 = .ok (.getfield 10, 3) := by decide +kernel
theorem dX6_favour_12 : decode cX6_favour 12 = .ok (.iload_n 1, 1) := by decide +kernel
theorem dX6_favour_13 : decode cX6_favour 13 = .ok (.invokevirtual 63, 3) := by decide +kernel
theorem dX6_favour_16 : decode cX6_favour 16 = .ok (.ireturn, 1) := by decide +kernel
theorem dX6_need_0 : decode cX6_need 0 = .ok (.iload_n 1, 1) := by decide +kernel
theorem dX6_need_1 : decode cX6_need 1 = .ok (.invokestatic 53, 3) := by decide +kernel
theorem dX6_need_4 : decode cX6_need 4 = .ok (.iload_n 2, 1) := by decide +kernel
theorem dX6_need_5 : decode cX6_need 5 = .ok (.invokestatic 67, 3) := by decide +kernel
theorem dX6_need_8 : decode cX6_need 8 = .ok (.aload_n 0, 1) := by decide +kernel
theorem dX6_need_9 : decode cX6_need 9 = .ok (.invokevirtual 46, 3) := by decide +kernel
theorem dX6_need_12 : decode cX6_need 12 = .ok (.aload_n 0, 1) := by decide +kernel
theorem dX6_need_13 : decode cX6_need 13 = .ok (.getfield 10, 3) := by decide +kernel
theorem dX6_need_16 : decode cX6_need 16 = .ok (.iload_n 1, 1) := by decide +kernel
theorem dX6_need_17 : decode cX6_need 17 = .ok (.iload_n 2, 1) := by decide +kernel
theorem dX6_need_18 : decode cX6_need 18 = .ok (.invokevirtual 70, 3) := by decide +kernel
theorem dX6_need_21 : decode cX6_need 21 = .ok (.ireturn, 1) := by decide +kernel
theorem dX6_pass_0 : decode cX6_pass 0 = .ok (.aload_n 0, 1) := by decide +kernel
theorem dX6_pass_1 : decode cX6_pass 1 = .ok (.getfield 10, 3) := by decide +kernel
theorem dX6_pass_4 : decode cX6_pass 4 = .ok (.invokevirtual 73, 3) := by decide +kernel
theorem dX6_pass_7 : decode cX6_pass 7 = .ok (.ifCond .ne 13, 3) := by decide +kernel
theorem dX6_pass_10 : decode cX6_pass 10 = .ok (.new 77, 3) := by decide +kernel
theorem dX6_pass_13 : decode cX6_pass 13 = .ok (.dup, 1) := by decide +kernel
theorem dX6_pass_14 : decode cX6_pass 14 = .ok (.ldc 79, 2) := by decide +kernel
theorem dX6_pass_16 : decode cX6_pass 16 = .ok (.invokespecial 81, 3) := by decide +kernel
theorem dX6_pass_19 : decode cX6_pass 19 = .ok (.athrow, 1) := by decide +kernel
theorem dX6_pass_20 : decode cX6_pass 20 = .ok (.aload_n 0, 1) := by decide +kernel
theorem dX6_pass_21 : decode cX6_pass 21 = .ok (.invokevirtual 46, 3) := by decide +kernel
theorem dX6_pass_24 : decode cX6_pass 24 = .ok (.aload_n 0, 1) := by decide +kernel
theorem dX6_pass_25 : decode cX6_pass 25 = .ok (.getfield 10, 3) := by decide +kernel
theorem dX6_pass_28 : decode cX6_pass 28 = .ok (.invokevirtual 84, 3) := by decide +kernel
theorem dX6_pass_31 : decode cX6_pass 31 = .ok (.ireturn, 1) := by decide +kernel
theorem dX6_set_0 : decode cX6_set 0 = .ok (.iload_n 1, 1) := by decide +kernel
theorem dX6_set_1 : decode cX6_set 1 = .ok (.invokestatic 67, 3) := by decide +kernel
theorem dX6_set_4 : decode cX6_set 4 = .ok (.aload_n 0, 1) := by decide +kernel
theorem dX6_set_5 : decode cX6_set 5 = .ok (.invokevirtual 46, 3) := by decide +kernel
theorem dX6_set_8 : decode cX6_set 8 = .ok (.aload_n 0, 1) := by decide +kernel
theorem dX6_set_9 : decode cX6_set 9 = .ok (.getfield 10, 3) := by decide +kernel
theorem dX6_set_12 : decode cX6_set 12 = .ok (.iload_n 1, 1) := by decide +kernel
theorem dX6_set_13 : decode cX6_set 13 = .ok (.invokevirtual 88, 3) := by decide +kernel
theorem dX6_set_16 : decode cX6_set 16 = .ok (.ireturn, 1) := by decide +kernel
theorem dX6_undo_0 : decode cX6_undo 0 = .ok (.aload_n 0, 1) := by decide +kernel
theorem dX6_undo_1 : decode cX6_undo 1 = .ok (.getfield 137, 3) := by decide +kernel
theorem dX6_undo_4 : decode cX6_undo 4 = .ok (.ifCond .ne 13, 3) := by decide +kernel
theorem dX6_undo_7 : decode cX6_undo 7 = .ok (.new 77, 3) := by decide +kernel
theorem dX6_undo_10 : decode cX6_undo 10 = .ok (.dup, 1) := by decide +kernel
theorem dX6_undo_11 : decode cX6_undo 11 = .ok (.ldc 141, 2) := by decide +kernel
theorem dX6_undo_13 : decode cX6_undo 13 = .ok (.invokespecial 81, 3) := by decide +kernel
theorem dX6_undo_16 : decode cX6_undo 16 = .ok (.athrow, 1) := by decide +kernel
theorem dX6_undo_17 : decode cX6_undo 17 = .ok (.aload_n 0, 1) := by decide +kernel
theorem dX6_undo_18 : decode cX6_undo 18 = .ok (.aload_n 0, 1) := by decide +kernel
theorem dX6_undo_19 : decode cX6_undo 19 = .ok (.getfield 143, 3) := by decide +kernel
theorem dX6_undo_22 : decode cX6_undo 22 = .ok (.ifCond .ne 7, 3) := by decide +kernel
theorem dX6_undo_25 : decode cX6_undo 25 = .ok (.iconst 5, 1) := by decide +kernel
theorem dX6_undo_26 : decode cX6_undo 26 = .ok (.goto 9, 3) := by decide +kernel
theorem dX6_undo_29 : decode cX6_undo 29 = .ok (.aload_n 0, 1) := by decide +kernel
theorem dX6_undo_30 : decode cX6_undo 30 = .ok (.getfield 143, 3) := by decide +kernel
theorem dX6_undo_33 : decode cX6_undo 33 = .ok (.iconst 1, 1) := by decide +kernel
theorem dX6_undo_34 : decode cX6_undo 34 = .ok (.isub, 1) := by decide +kernel
theorem dX6_undo_35 : decode cX6_undo 35 = .ok (.putfield 143, 3) := by decide +kernel
theorem dX6_undo_38 : decode cX6_undo 38 = .ok (.aload_n 0, 1) := by decide +kernel
theorem dX6_undo_39 : decode cX6_undo 39 = .ok (.dup, 1) := by decide +kernel
theorem dX6_undo_40 : decode cX6_undo 40 = .ok (.getfield 137, 3) := by decide +kernel
theorem dX6_undo_43 : decode cX6_undo 43 = .ok (.iconst 1, 1) := by decide +kernel
theorem dX6_undo_44 : decode cX6_undo 44 = .ok (.isub, 1) := by decide +kernel
theorem dX6_undo_45 : decode cX6_undo 45 = .ok (.putfield 137, 3) := by decide +kernel
theorem dX6_undo_48 : decode cX6_undo 48 = .ok (.aload_n 0, 1) := by decide +kernel
theorem dX6_undo_49 : decode cX6_undo 49 = .ok (.getfield 25, 3) := by decide +kernel
theorem dX6_undo_52 : decode cX6_undo 52 = .ok (.aload_n 0, 1) := by decide +kernel
theorem dX6_undo_53 : decode cX6_undo 53 = .ok (.getfield 143, 3) := by decide +kernel
theorem dX6_undo_56 : decode cX6_undo 56 = .ok (.aload_n 0, 1) := by decide +kernel
theorem dX6_undo_57 : decode cX6_undo 57 = .ok (.getfield 10, 3) := by decide +kernel
theorem dX6_undo_60 : decode cX6_undo 60 = .ok (.invokevirtual 134, 3) := by decide +kernel
theorem dX6_undo_63 : decode cX6_undo 63 = .ok (.aload_n 0, 1) := by decide +kernel
theorem dX6_undo_64 : decode cX6_undo 64 = .ok (.getfield 137, 3) := by decide +kernel
theorem dX6_undo_67 : decode cX6_undo 67 = .ok (.ireturn, 1) := by decide +kernel
theorem dX6_at_0 : decode cX6_at 0 = .ok (.iload_n 1, 1) := by decide +kernel
theorem dX6_at_1 : decode cX6_at 1 = .ok (.ifCond .lt 8, 3) := by decide +kernel
theorem dX6_at_4 : decode cX6_at 4 = .ok (.iload_n 1, 1) := by decide +kernel
theorem dX6_at_5 : decode cX6_at 5 = .ok (.iconst 4, 1) := by decide +kernel
theorem dX6_at_6 : decode cX6_at 6 = .ok (.if_icmp .lt 13, 3) := by decide +kernel
theorem dX6_at_9 : decode cX6_at 9 = .ok (.new 146, 3) := by decide +kernel
theorem dX6_at_12 : decode cX6_at 12 = .ok (.dup, 1) := by decide +kernel
theorem dX6_at_13 : decode cX6_at 13 = .ok (.ldc 148, 2) := by decide +kernel
theorem dX6_at_15 : decode cX6_at 15 = .ok (.invokespecial 150, 3) := by decide +kernel
theorem dX6_at_18 : decode cX6_at 18 = .ok (.athrow, 1) := by decide +kernel
theorem dX6_at_19 : decode cX6_at 19 = .ok (.iload_n 2, 1) := by decide +kernel
theorem dX6_at_20 : decode cX6_at 20 = .ok (.invokestatic 56, 3) := by decide +kernel
theorem dX6_at_23 : decode cX6_at 23 = .ok (.aload_n 0, 1) := by decide +kernel
theorem dX6_at_24 : decode cX6_at 24 = .ok (.getfield 10, 3) := by decide +kernel
theorem dX6_at_27 : decode cX6_at 27 = .ok (.getfield 151, 3) := by decide +kernel
theorem dX6_at_30 : decode cX6_at 30 = .ok (.iload_n 1, 1) := by decide +kernel
theorem dX6_at_31 : decode cX6_at 31 = .ok (.iload_n 2, 1) := by decide +kernel
theorem dX6_at_32 : decode cX6_at 32 = .ok (.invokevirtual 155, 3) := by decide +kernel
theorem dX6_at_35 : decode cX6_at 35 = .ok (.ireturn, 1) := by decide +kernel
theorem dX6_lodgerOf_0 : decode cX6_lodgerOf 0 = .ok (.iload_n 1, 1) := by decide +kernel
theorem dX6_lodgerOf_1 : decode cX6_lodgerOf 1 = .ok (.invokestatic 53, 3) := by decide +kernel
theorem dX6_lodgerOf_4 : decode cX6_lodgerOf 4 = .ok (.iload_n 2, 1) := by decide +kernel
theorem dX6_lodgerOf_5 : decode cX6_lodgerOf 5 = .ok (.iconst 0, 1) := by decide +kernel
theorem dX6_lodgerOf_6 : decode cX6_lodgerOf 6 = .ok (.bipush 6, 2) := by decide +kernel
theorem dX6_lodgerOf_8 : decode cX6_lodgerOf 8 = .ok (.invokestatic 160, 3) := by decide +kernel
theorem dX6_lodgerOf_11 : decode cX6_lodgerOf 11 = .ok (.aload_n 0, 1) := by decide +kernel
theorem dX6_lodgerOf_12 : decode cX6_lodgerOf 12 = .ok (.getfield 10, 3) := by decide +kernel
theorem dX6_lodgerOf_15 : decode cX6_lodgerOf 15 = .ok (.iload_n 1, 1) := by decide +kernel
theorem dX6_lodgerOf_16 : decode cX6_lodgerOf 16 = .ok (.iload_n 2, 1) := by decide +kernel
theorem dX6_lodgerOf_17 : decode cX6_lodgerOf 17 = .ok (.invokevirtual 163, 3) := by decide +kernel
theorem dX6_lodgerOf_20 : decode cX6_lodgerOf 20 = .ok (.ireturn, 1) := by decide +kernel
theorem dX6_count_0 : decode cX6_count 0 = .ok (.iload_n 1, 1) := by decide +kernel
theorem dX6_count_1 : decode cX6_count 1 = .ok (.iconst 0, 1) := by decide +kernel
theorem dX6_count_2 : decode cX6_count 2 = .ok (.bipush 11, 2) := by decide +kernel
theorem dX6_count_4 : decode cX6_count 4 = .ok (.invokestatic 160, 3) := by decide +kernel
theorem dX6_count_7 : decode cX6_count 7 = .ok (.aload_n 0, 1) := by decide +kernel
theorem dX6_count_8 : decode cX6_count 8 = .ok (.iload_n 1, 1) := by decide +kernel
theorem dX6_count_9 : decode cX6_count 9 = .ok (.invokevirtual 166, 3) := by decide +kernel
theorem dX6_count_12 : decode cX6_count 12 = .ok (.ireturn, 1) := by decide +kernel
theorem dX6_refused_0 : decode cX6_refused 0 = .ok (.iload_n 1, 1) := by decide +kernel
theorem dX6_refused_1 : decode cX6_refused 1 = .ok (.iconst 1, 1) := by decide +kernel
theorem dX6_refused_2 : decode cX6_refused 2 = .ok (.iconst 4, 1) := by decide +kernel
theorem dX6_refused_3 : decode cX6_refused 3 = .ok (.invokestatic 160, 3) := by decide +kernel
theorem dX6_refused_6 : decode cX6_refused 6 = .ok (.aload_n 0, 1) := by decide +kernel
theorem dX6_refused_7 : decode cX6_refused 7 = .ok (.getfield 10, 3) := by decide +kernel
theorem dX6_refused_10 : decode cX6_refused 10 = .ok (.iload_n 1, 1) := by decide +kernel
theorem dX6_refused_11 : decode cX6_refused 11 = .ok (.invokevirtual 169, 3) := by decide +kernel
theorem dX6_refused_14 : decode cX6_refused 14 = .ok (.ireturn, 1) := by decide +kernel
theorem dX6_ifAsked_0 : decode cX6_ifAsked 0 = .ok (.iload_n 1, 1) := by decide +kernel
theorem dX6_ifAsked_1 : decode cX6_ifAsked 1 = .ok (.iload_n 2, 1) := by decide +kernel
theorem dX6_ifAsked_2 : decode cX6_ifAsked 2 = .ok (.iload_n 3, 1) := by decide +kernel
theorem dX6_ifAsked_3 : decode cX6_ifAsked 3 = .ok (.invokestatic 42, 3) := by decide +kernel
theorem dX6_ifAsked_6 : decode cX6_ifAsked 6 = .ok (.aload_n 0, 1) := by decide +kernel
theorem dX6_ifAsked_7 : decode cX6_ifAsked 7 = .ok (.getfield 10, 3) := by decide +kernel
theorem dX6_ifAsked_10 : decode cX6_ifAsked 10 = .ok (.iload_n 1, 1) := by decide +kernel
theorem dX6_ifAsked_11 : decode cX6_ifAsked 11 = .ok (.iload_n 2, 1) := by decide +kernel
theorem dX6_ifAsked_12 : decode cX6_ifAsked 12 = .ok (.iload_n 3, 1) := by decide +kernel
theorem dX6_ifAsked_13 : decode cX6_ifAsked 13 = .ok (.invokevirtual 172, 3) := by decide +kernel
theorem dX6_ifAsked_16 : decode cX6_ifAsked 16 = .ok (.ireturn, 1) := by decide +kernel
theorem dX6_ifPutOut_0 : decode cX6_ifPutOut 0 = .ok (.iload_n 1, 1) := by decide +kernel
theorem dX6_ifPutOut_1 : decode cX6_ifPutOut 1 = .ok (.iload_n 2, 1) := by decide +kernel
theorem dX6_ifPutOut_2 : decode cX6_ifPutOut 2 = .ok (.iload_n 3, 1) := by decide +kernel
theorem dX6_ifPutOut_3 : decode cX6_ifPutOut 3 = .ok (.invokestatic 42, 3) := by decide +kernel
theorem dX6_ifPutOut_6 : decode cX6_ifPutOut 6 = .ok (.aload_n 0, 1) := by decide +kernel
theorem dX6_ifPutOut_7 : decode cX6_ifPutOut 7 = .ok (.getfield 10, 3) := by decide +kernel
theorem dX6_ifPutOut_10 : decode cX6_ifPutOut 10 = .ok (.iload_n 1, 1) := by decide +kernel
theorem dX6_ifPutOut_11 : decode cX6_ifPutOut 11 = .ok (.iload_n 2, 1) := by decide +kernel
theorem dX6_ifPutOut_12 : decode cX6_ifPutOut 12 = .ok (.iload_n 3, 1) := by decide +kernel
theorem dX6_ifPutOut_13 : decode cX6_ifPutOut 13 = .ok (.invokevirtual 175, 3) := by decide +kernel
theorem dX6_ifPutOut_16 : decode cX6_ifPutOut 16 = .ok (.ireturn, 1) := by decide +kernel
theorem dX6_fewestBeds_0 : decode cX6_fewestBeds 0 = .ok (.iload_n 1, 1) := by decide +kernel
theorem dX6_fewestBeds_1 : decode cX6_fewestBeds 1 = .ok (.iconst 0, 1) := by decide +kernel
theorem dX6_fewestBeds_2 : decode cX6_fewestBeds 2 = .ok (.iconst 1, 1) := by decide +kernel
theorem dX6_fewestBeds_3 : decode cX6_fewestBeds 3 = .ok (.invokestatic 160, 3) := by decide +kernel
theorem dX6_fewestBeds_6 : decode cX6_fewestBeds 6 = .ok (.iload_n 1, 1) := by decide +kernel
theorem dX6_fewestBeds_7 : decode cX6_fewestBeds 7 = .ok (.ifCond .ne 20, 3) := by decide +kernel
theorem dX6_fewestBeds_10 : decode cX6_fewestBeds 10 = .ok (.aload_n 0, 1) := by decide +kernel
theorem dX6_fewestBeds_11 : decode cX6_fewestBeds 11 = .ok (.getfield 31, 3) := by decide +kernel
theorem dX6_fewestBeds_14 : decode cX6_fewestBeds 14 = .ok (.aload_n 0, 1) := by decide +kernel
theorem dX6_fewestBeds_15 : decode cX6_fewestBeds 15 = .ok (.getfield 10, 3) := by decide +kernel
theorem dX6_fewestBeds_18 : decode cX6_fewestBeds 18 = .ok (.getfield 151, 3) := by decide +kernel
theorem dX6_fewestBeds_21 : decode cX6_fewestBeds 21 = .ok (.invokevirtual 178, 3) := by decide +kernel
theorem dX6_fewestBeds_24 : decode cX6_fewestBeds 24 = .ok (.goto 13, 3) := by decide +kernel
theorem dX6_fewestBeds_27 : decode cX6_fewestBeds 27 = .ok (.aload_n 0, 1) := by decide +kernel
theorem dX6_fewestBeds_28 : decode cX6_fewestBeds 28 = .ok (.getfield 10, 3) := by decide +kernel
theorem dX6_fewestBeds_31 : decode cX6_fewestBeds 31 = .ok (.getfield 151, 3) := by decide +kernel
theorem dX6_fewestBeds_34 : decode cX6_fewestBeds 34 = .ok (.invokevirtual 182, 3) := by decide +kernel
theorem dX6_fewestBeds_37 : decode cX6_fewestBeds 37 = .ok (.ireturn, 1) := by decide +kernel
theorem dX6_longest_0 : decode cX6_longest 0 = .ok (.iload_n 1, 1) := by decide +kernel
theorem dX6_longest_1 : decode cX6_longest 1 = .ok (.invokestatic 53, 3) := by decide +kernel
theorem dX6_longest_4 : decode cX6_longest 4 = .ok (.iload_n 2, 1) := by decide +kernel
theorem dX6_longest_5 : decode cX6_longest 5 = .ok (.invokestatic 56, 3) := by decide +kernel
theorem dX6_longest_8 : decode cX6_longest 8 = .ok (.aload_n 0, 1) := by decide +kernel
theorem dX6_longest_9 : decode cX6_longest 9 = .ok (.getfield 10, 3) := by decide +kernel
theorem dX6_longest_12 : decode cX6_longest 12 = .ok (.getfield 151, 3) := by decide +kernel
theorem dX6_longest_15 : decode cX6_longest 15 = .ok (.iload_n 1, 1) := by decide +kernel
theorem dX6_longest_16 : decode cX6_longest 16 = .ok (.iload_n 2, 1) := by decide +kernel
theorem dX6_longest_17 : decode cX6_longest 17 = .ok (.invokevirtual 185, 3) := by decide +kernel
theorem dX6_longest_20 : decode cX6_longest 20 = .ok (.ireturn, 1) := by decide +kernel
theorem dX6_poorest_0 : decode cX6_poorest 0 = .ok (.aload_n 0, 1) := by decide +kernel
theorem dX6_poorest_1 : decode cX6_poorest 1 = .ok (.getfield 10, 3) := by decide +kernel
theorem dX6_poorest_4 : decode cX6_poorest 4 = .ok (.invokevirtual 188, 3) := by decide +kernel
theorem dX6_poorest_7 : decode cX6_poorest 7 = .ok (.ireturn, 1) := by decide +kernel
theorem dX6_fullness_0 : decode cX6_fullness 0 = .ok (.aload_n 0, 1) := by decide +kernel
theorem dX6_fullness_1 : decode cX6_fullness 1 = .ok (.getfield 10, 3) := by decide +kernel
theorem dX6_fullness_4 : decode cX6_fullness 4 = .ok (.invokevirtual 191, 3) := by decide +kernel
theorem dX6_fullness_7 : decode cX6_fullness 7 = .ok (.dreturn, 1) := by decide +kernel
theorem dX6_checkLodger_0 : decode cX6_checkLodger 0 = .ok (.iload_n 0, 1) := by decide +kernel
theorem dX6_checkLodger_1 : decode cX6_checkLodger 1 = .ok (.ifCond .lt 9, 3) := by decide +kernel
theorem dX6_checkLodger_4 : decode cX6_checkLodger 4 = .ok (.iload_n 0, 1) := by decide +kernel
theorem dX6_checkLodger_5 : decode cX6_checkLodger 5 = .ok (.bipush 10, 2) := by decide +kernel
theorem dX6_checkLodger_7 : decode cX6_checkLodger 7 = .ok (.if_icmp .lt 13, 3) := by decide +kernel
theorem dX6_checkLodger_10 : decode cX6_checkLodger 10 = .ok (.new 146, 3) := by decide +kernel
theorem dX6_checkLodger_13 : decode cX6_checkLodger 13 = .ok (.dup, 1) := by decide +kernel
theorem dX6_checkLodger_14 : decode cX6_checkLodger 14 = .ok (.ldc 232, 2) := by decide +kernel
theorem dX6_checkLodger_16 : decode cX6_checkLodger 16 = .ok (.invokespecial 150, 3) := by decide +kernel
theorem dX6_checkLodger_19 : decode cX6_checkLodger 19 = .ok (.athrow, 1) := by decide +kernel
theorem dX6_checkLodger_20 : decode cX6_checkLodger 20 = .ok (.return_, 1) := by decide +kernel
theorem dX6_checkHour_0 : decode cX6_checkHour 0 = .ok (.iload_n 0, 1) := by decide +kernel
theorem dX6_checkHour_1 : decode cX6_checkHour 1 = .ok (.iconst 0, 1) := by decide +kernel
theorem dX6_checkHour_2 : decode cX6_checkHour 2 = .ok (.bipush 11, 2) := by decide +kernel
theorem dX6_checkHour_4 : decode cX6_checkHour 4 = .ok (.invokestatic 160, 3) := by decide +kernel
theorem dX6_checkHour_7 : decode cX6_checkHour 7 = .ok (.return_, 1) := by decide +kernel
theorem dX6_checkNeed_0 : decode cX6_checkNeed 0 = .ok (.iload_n 0, 1) := by decide +kernel
theorem dX6_checkNeed_1 : decode cX6_checkNeed 1 = .ok (.iconst 0, 1) := by decide +kernel
theorem dX6_checkNeed_2 : decode cX6_checkNeed 2 = .ok (.bipush 9, 2) := by decide +kernel
theorem dX6_checkNeed_4 : decode cX6_checkNeed 4 = .ok (.invokestatic 160, 3) := by decide +kernel
theorem dX6_checkNeed_7 : decode cX6_checkNeed 7 = .ok (.return_, 1) := by decide +kernel
theorem dX6_checkRange_0 : decode cX6_checkRange 0 = .ok (.iload_n 0, 1) := by decide +kernel
theorem dX6_checkRange_1 : decode cX6_checkRange 1 = .ok (.iload_n 1, 1) := by decide +kernel
theorem dX6_checkRange_2 : decode cX6_checkRange 2 = .ok (.if_icmp .lt 8, 3) := by decide +kernel
theorem dX6_checkRange_5 : decode cX6_checkRange 5 = .ok (.iload_n 0, 1) := by decide +kernel
theorem dX6_checkRange_6 : decode cX6_checkRange 6 = .ok (.iload_n 2, 1) := by decide +kernel
theorem dX6_checkRange_7 : decode cX6_checkRange 7 = .ok (.if_icmp .le 13, 3) := by decide +kernel
theorem dX6_checkRange_10 : decode cX6_checkRange 10 = .ok (.new 91, 3) := by decide +kernel
theorem dX6_checkRange_13 : decode cX6_checkRange 13 = .ok (.dup, 1) := by decide +kernel
theorem dX6_checkRange_14 : decode cX6_checkRange 14 = .ok (.ldc 234, 2) := by decide +kernel
theorem dX6_checkRange_16 : decode cX6_checkRange 16 = .ok (.invokespecial 95, 3) := by decide +kernel
theorem dX6_checkRange_19 : decode cX6_checkRange 19 = .ok (.athrow, 1) := by decide +kernel
theorem dX6_checkRange_20 : decode cX6_checkRange 20 = .ok (.return_, 1) := by decide +kernel
theorem dX6_checkAsking_0 : decode cX6_checkAsking 0 = .ok (.iload_n 0, 1) := by decide +kernel
theorem dX6_checkAsking_1 : decode cX6_checkAsking 1 = .ok (.invokestatic 53, 3) := by decide +kernel
theorem dX6_checkAsking_4 : decode cX6_checkAsking 4 = .ok (.iload_n 1, 1) := by decide +kernel
theorem dX6_checkAsking_5 : decode cX6_checkAsking 5 = .ok (.iload_n 2, 1) := by decide +kernel
theorem dX6_checkAsking_6 : decode cX6_checkAsking 6 = .ok (.invokestatic 236, 3) := by decide +kernel
theorem dX6_checkAsking_9 : decode cX6_checkAsking 9 = .ok (.ifCond .ne 13, 3) := by decide +kernel
theorem dX6_checkAsking_12 : decode cX6_checkAsking 12 = .ok (.new 91, 3) := by decide +kernel
theorem dX6_checkAsking_15 : decode cX6_checkAsking 15 = .ok (.dup, 1) := by decide +kernel
theorem dX6_checkAsking_16 : decode cX6_checkAsking 16 = .ok (.ldc 240, 2) := by decide +kernel
theorem dX6_checkAsking_18 : decode cX6_checkAsking 18 = .ok (.invokespecial 95, 3) := by decide +kernel
theorem dX6_checkAsking_21 : decode cX6_checkAsking 21 = .ok (.athrow, 1) := by decide +kernel
theorem dX6_checkAsking_22 : decode cX6_checkAsking 22 = .ok (.return_, 1) := by decide +kernel
theorem dX6_isWithinNight_0 : decode cX6_isWithinNight 0 = .ok (.iload_n 0, 1) := by decide +kernel
theorem dX6_isWithinNight_1 : decode cX6_isWithinNight 1 = .ok (.ifCond .lt 32, 3) := by decide +kernel
theorem dX6_isWithinNight_4 : decode cX6_isWithinNight 4 = .ok (.iload_n 0, 1) := by decide +kernel
theorem dX6_isWithinNight_5 : decode cX6_isWithinNight 5 = .ok (.bipush 12, 2) := by decide +kernel
theorem dX6_isWithinNight_7 : decode cX6_isWithinNight 7 = .ok (.if_icmp .ge 26, 3) := by decide +kernel
theorem dX6_isWithinNight_10 : decode cX6_isWithinNight 10 = .ok (.iload_n 1, 1) := by decide +kernel
theorem dX6_isWithinNight_11 : decode cX6_isWithinNight 11 = .ok (.iconst 1, 1) := by decide +kernel
theorem dX6_isWithinNight_12 : decode cX6_isWithinNight 12 = .ok (.if_icmp .lt 21, 3) := by decide +kernel
theorem dX6_isWithinNight_15 : decode cX6_isWithinNight 15 = .ok (.iload_n 1, 1) := by decide +kernel
theorem dX6_isWithinNight_16 : decode cX6_isWithinNight 16 = .ok (.bipush 9, 2) := by decide +kernel
theorem dX6_isWithinNight_18 : decode cX6_isWithinNight 18 = .ok (.if_icmp .gt 15, 3) := by decide +kernel
theorem dX6_isWithinNight_21 : decode cX6_isWithinNight 21 = .ok (.iload_n 0, 1) := by decide +kernel
theorem dX6_isWithinNight_22 : decode cX6_isWithinNight 22 = .ok (.iload_n 1, 1) := by decide +kernel
theorem dX6_isWithinNight_23 : decode cX6_isWithinNight 23 = .ok (.iadd, 1) := by decide +kernel
theorem dX6_isWithinNight_24 : decode cX6_isWithinNight 24 = .ok (.bipush 12, 2) := by decide +kernel
theorem dX6_isWithinNight_26 : decode cX6_isWithinNight 26 = .ok (.if_icmp .gt 7, 3) := by decide +kernel
theorem dX6_isWithinNight_29 : decode cX6_isWithinNight 29 = .ok (.iconst 1, 1) := by decide +kernel
theorem dX6_isWithinNight_30 : decode cX6_isWithinNight 30 = .ok (.goto 4, 3) := by decide +kernel
theorem dX6_isWithinNight_33 : decode cX6_isWithinNight 33 = .ok (.iconst 0, 1) := by decide +kernel
theorem dX6_isWithinNight_34 : decode cX6_isWithinNight 34 = .ok (.ireturn, 1) := by decide +kernel
theorem dX6_accountOf_0 : decode cX6_accountOf 0 = .ok (.iload_n 1, 1) := by decide +kernel
theorem dX6_accountOf_1 : decode cX6_accountOf 1 = .ok (.bipush 11, 2) := by decide +kernel
theorem dX6_accountOf_3 : decode cX6_accountOf 3 = .ok (.if_icmp .ne 10, 3) := by decide +kernel
theorem dX6_accountOf_6 : decode cX6_accountOf 6 = .ok (.aload_n 0, 1) := by decide +kernel
theorem dX6_accountOf_7 : decode cX6_accountOf 7 = .ok (.getfield 137, 3) := by decide +kernel
theorem dX6_accountOf_10 : decode cX6_accountOf 10 = .ok (.goto 11, 3) := by decide +kernel
theorem dX6_accountOf_13 : decode cX6_accountOf 13 = .ok (.aload_n 0, 1) := by decide +kernel
theorem dX6_accountOf_14 : decode cX6_accountOf 14 = .ok (.getfield 10, 3) := by decide +kernel
theorem dX6_accountOf_17 : decode cX6_accountOf 17 = .ok (.iload_n 1, 1) := by decide +kernel
theorem dX6_accountOf_18 : decode cX6_accountOf 18 = .ok (.invokevirtual 125, 3) := by decide +kernel
theorem dX6_accountOf_21 : decode cX6_accountOf 21 = .ok (.ireturn, 1) := by decide +kernel
theorem dX6_saveState_0 : decode cX6_saveState 0 = .ok (.aload_n 0, 1) := by decide +kernel
theorem dX6_saveState_1 : decode cX6_saveState 1 = .ok (.getfield 25, 3) := by decide +kernel
theorem dX6_saveState_4 : decode cX6_saveState 4 = .ok (.aload_n 0, 1) := by decide +kernel
theorem dX6_saveState_5 : decode cX6_saveState 5 = .ok (.getfield 143, 3) := by decide +kernel
theorem dX6_saveState_8 : decode cX6_saveState 8 = .ok (.aload_n 0, 1) := by decide +kernel
theorem dX6_saveState_9 : decode cX6_saveState 9 = .ok (.getfield 10, 3) := by decide +kernel
theorem dX6_saveState_12 : decode cX6_saveState 12 = .ok (.invokevirtual 121, 3) := by decide +kernel
theorem dX6_saveState_15 : decode cX6_saveState 15 = .ok (.aload_n 0, 1) := by decide +kernel
theorem dX6_saveState_16 : decode cX6_saveState 16 = .ok (.aload_n 0, 1) := by decide +kernel
theorem dX6_saveState_17 : decode cX6_saveState 17 = .ok (.getfield 143, 3) := by decide +kernel
theorem dX6_saveState_20 : decode cX6_saveState 20 = .ok (.iconst 1, 1) := by decide +kernel
theorem dX6_saveState_21 : decode cX6_saveState 21 = .ok (.iadd, 1) := by decide +kernel
theorem dX6_saveState_22 : decode cX6_saveState 22 = .ok (.bipush 6, 2) := by decide +kernel
theorem dX6_saveState_24 : decode cX6_saveState 24 = .ok (.if_icmp .ge 12, 3) := by decide +kernel
theorem dX6_saveState_27 : decode cX6_saveState 27 = .ok (.aload_n 0, 1) := by decide +kernel
theorem dX6_saveState_28 : decode cX6_saveState 28 = .ok (.getfield 143, 3) := by decide +kernel
theorem dX6_saveState_31 : decode cX6_saveState 31 = .ok (.iconst 1, 1) := by decide +kernel
theorem dX6_saveState_32 : decode cX6_saveState 32 = .ok (.iadd, 1) := by decide +kernel
theorem dX6_saveState_33 : decode cX6_saveState 33 = .ok (.goto 4, 3) := by decide +kernel
theorem dX6_saveState_36 : decode cX6_saveState 36 = .ok (.iconst 0, 1) := by decide +kernel
theorem dX6_saveState_37 : decode cX6_saveState 37 = .ok (.putfield 143, 3) := by decide +kernel
theorem dX6_saveState_40 : decode cX6_saveState 40 = .ok (.aload_n 0, 1) := by decide +kernel
theorem dX6_saveState_41 : decode cX6_saveState 41 = .ok (.getfield 137, 3) := by decide +kernel
theorem dX6_saveState_44 : decode cX6_saveState 44 = .ok (.bipush 6, 2) := by decide +kernel
theorem dX6_saveState_46 : decode cX6_saveState 46 = .ok (.if_icmp .ge 13, 3) := by decide +kernel
theorem dX6_saveState_49 : decode cX6_saveState 49 = .ok (.aload_n 0, 1) := by decide +kernel
theorem dX6_saveState_50 : decode cX6_saveState 50 = .ok (.dup, 1) := by decide +kernel
theorem dX6_saveState_51 : decode cX6_saveState 51 = .ok (.getfield 137, 3) := by decide +kernel
theorem dX6_saveState_54 : decode cX6_saveState 54 = .ok (.iconst 1, 1) := by decide +kernel
theorem dX6_saveState_55 : decode cX6_saveState 55 = .ok (.iadd, 1) := by decide +kernel
theorem dX6_saveState_56 : decode cX6_saveState 56 = .ok (.putfield 137, 3) := by decide +kernel
theorem dX6_saveState_59 : decode cX6_saveState 59 = .ok (.return_, 1) := by decide +kernel
theorem dJ6_bitCount_0f7a4_0 : decode cJ6_bitCount_0f7a4 0 = .ok (.iload_n 0, 1) := by decide +kernel
theorem dJ6_bitCount_0f7a4_1 : decode cJ6_bitCount_0f7a4 1 = .ok (.iload_n 0, 1) := by decide +kernel
theorem dJ6_bitCount_0f7a4_2 : decode cJ6_bitCount_0f7a4 2 = .ok (.iconst 1, 1) := by decide +kernel
theorem dJ6_bitCount_0f7a4_3 : decode cJ6_bitCount_0f7a4 3 = .ok (.iushr, 1) := by decide +kernel
theorem dJ6_bitCount_0f7a4_4 : decode cJ6_bitCount_0f7a4 4 = .ok (.ldc_w 265, 3) := by decide +kernel
theorem dJ6_bitCount_0f7a4_7 : decode cJ6_bitCount_0f7a4 7 = .ok (.iand, 1) := by decide +kernel
theorem dJ6_bitCount_0f7a4_8 : decode cJ6_bitCount_0f7a4 8 = .ok (.isub, 1) := by decide +kernel
theorem dJ6_bitCount_0f7a4_9 : decode cJ6_bitCount_0f7a4 9 = .ok (.istore_n 0, 1) := by decide +kernel
theorem dJ6_bitCount_0f7a4_10 : decode cJ6_bitCount_0f7a4 10 = .ok (.iload_n 0, 1) := by decide +kernel
theorem dJ6_bitCount_0f7a4_11 : decode cJ6_bitCount_0f7a4 11 = .ok (.ldc_w 266, 3) := by decide +kernel
theorem dJ6_bitCount_0f7a4_14 : decode cJ6_bitCount_0f7a4 14 = .ok (.iand, 1) := by decide +kernel
theorem dJ6_bitCount_0f7a4_15 : decode cJ6_bitCount_0f7a4 15 = .ok (.iload_n 0, 1) := by decide +kernel
theorem dJ6_bitCount_0f7a4_16 : decode cJ6_bitCount_0f7a4 16 = .ok (.iconst 2, 1) := by decide +kernel
theorem dJ6_bitCount_0f7a4_17 : decode cJ6_bitCount_0f7a4 17 = .ok (.iushr, 1) := by decide +kernel
theorem dJ6_bitCount_0f7a4_18 : decode cJ6_bitCount_0f7a4 18 = .ok (.ldc_w 266, 3) := by decide +kernel
theorem dJ6_bitCount_0f7a4_21 : decode cJ6_bitCount_0f7a4 21 = .ok (.iand, 1) := by decide +kernel
theorem dJ6_bitCount_0f7a4_22 : decode cJ6_bitCount_0f7a4 22 = .ok (.iadd, 1) := by decide +kernel
theorem dJ6_bitCount_0f7a4_23 : decode cJ6_bitCount_0f7a4 23 = .ok (.istore_n 0, 1) := by decide +kernel
theorem dJ6_bitCount_0f7a4_24 : decode cJ6_bitCount_0f7a4 24 = .ok (.iload_n 0, 1) := by decide +kernel
theorem dJ6_bitCount_0f7a4_25 : decode cJ6_bitCount_0f7a4 25 = .ok (.iload_n 0, 1) := by decide +kernel
theorem dJ6_bitCount_0f7a4_26 : decode cJ6_bitCount_0f7a4 26 = .ok (.iconst 4, 1) := by decide +kernel
theorem dJ6_bitCount_0f7a4_27 : decode cJ6_bitCount_0f7a4 27 = .ok (.iushr, 1) := by decide +kernel
theorem dJ6_bitCount_0f7a4_28 : decode cJ6_bitCount_0f7a4 28 = .ok (.iadd, 1) := by decide +kernel
theorem dJ6_bitCount_0f7a4_29 : decode cJ6_bitCount_0f7a4 29 = .ok (.ldc_w 267, 3) := by decide +kernel
theorem dJ6_bitCount_0f7a4_32 : decode cJ6_bitCount_0f7a4 32 = .ok (.iand, 1) := by decide +kernel
theorem dJ6_bitCount_0f7a4_33 : decode cJ6_bitCount_0f7a4 33 = .ok (.istore_n 0, 1) := by decide +kernel
theorem dJ6_bitCount_0f7a4_34 : decode cJ6_bitCount_0f7a4 34 = .ok (.iload_n 0, 1) := by decide +kernel
theorem dJ6_bitCount_0f7a4_35 : decode cJ6_bitCount_0f7a4 35 = .ok (.iload_n 0, 1) := by decide +kernel
theorem dJ6_bitCount_0f7a4_36 : decode cJ6_bitCount_0f7a4 36 = .ok (.bipush 8, 2) := by decide +kernel
theorem dJ6_bitCount_0f7a4_38 : decode cJ6_bitCount_0f7a4 38 = .ok (.iushr, 1) := by decide +kernel
theorem dJ6_bitCount_0f7a4_39 : decode cJ6_bitCount_0f7a4 39 = .ok (.iadd, 1) := by decide +kernel
theorem dJ6_bitCount_0f7a4_40 : decode cJ6_bitCount_0f7a4 40 = .ok (.istore_n 0, 1) := by decide +kernel
theorem dJ6_bitCount_0f7a4_41 : decode cJ6_bitCount_0f7a4 41 = .ok (.iload_n 0, 1) := by decide +kernel
theorem dJ6_bitCount_0f7a4_42 : decode cJ6_bitCount_0f7a4 42 = .ok (.iload_n 0, 1) := by decide +kernel
theorem dJ6_bitCount_0f7a4_43 : decode cJ6_bitCount_0f7a4 43 = .ok (.bipush 16, 2) := by decide +kernel
theorem dJ6_bitCount_0f7a4_45 : decode cJ6_bitCount_0f7a4 45 = .ok (.iushr, 1) := by decide +kernel
theorem dJ6_bitCount_0f7a4_46 : decode cJ6_bitCount_0f7a4 46 = .ok (.iadd, 1) := by decide +kernel
theorem dJ6_bitCount_0f7a4_47 : decode cJ6_bitCount_0f7a4 47 = .ok (.istore_n 0, 1) := by decide +kernel
theorem dJ6_bitCount_0f7a4_48 : decode cJ6_bitCount_0f7a4 48 = .ok (.iload_n 0, 1) := by decide +kernel
theorem dJ6_bitCount_0f7a4_49 : decode cJ6_bitCount_0f7a4 49 = .ok (.bipush 63, 2) := by decide +kernel
theorem dJ6_bitCount_0f7a4_51 : decode cJ6_bitCount_0f7a4 51 = .ok (.iand, 1) := by decide +kernel
theorem dJ6_bitCount_0f7a4_52 : decode cJ6_bitCount_0f7a4 52 = .ok (.ireturn, 1) := by decide +kernel
theorem dJ9_max_7cf53_0 : decode cJ9_max_7cf53 0 = .ok (.iload_n 0, 1) := by decide +kernel
theorem dJ9_max_7cf53_1 : decode cJ9_max_7cf53 1 = .ok (.iload_n 1, 1) := by decide +kernel
theorem dJ9_max_7cf53_2 : decode cJ9_max_7cf53 2 = .ok (.if_icmp .lt 7, 3) := by decide +kernel
theorem dJ9_max_7cf53_5 : decode cJ9_max_7cf53 5 = .ok (.iload_n 0, 1) := by decide +kernel
theorem dJ9_max_7cf53_6 : decode cJ9_max_7cf53 6 = .ok (.goto 4, 3) := by decide +kernel
theorem dJ9_max_7cf53_9 : decode cJ9_max_7cf53 9 = .ok (.iload_n 1, 1) := by decide +kernel
theorem dJ9_max_7cf53_10 : decode cJ9_max_7cf53 10 = .ok (.ireturn, 1) := by decide +kernel
theorem dJ9_min_7cf53_0 : decode cJ9_min_7cf53 0 = .ok (.iload_n 0, 1) := by decide +kernel
theorem dJ9_min_7cf53_1 : decode cJ9_min_7cf53 1 = .ok (.iload_n 1, 1) := by decide +kernel
theorem dJ9_min_7cf53_2 : decode cJ9_min_7cf53 2 = .ok (.if_icmp .gt 7, 3) := by decide +kernel
theorem dJ9_min_7cf53_5 : decode cJ9_min_7cf53 5 = .ok (.iload_n 0, 1) := by decide +kernel
theorem dJ9_min_7cf53_6 : decode cJ9_min_7cf53 6 = .ok (.goto 4, 3) := by decide +kernel
theorem dJ9_min_7cf53_9 : decode cJ9_min_7cf53 9 = .ok (.iload_n 1, 1) := by decide +kernel
theorem dJ9_min_7cf53_10 : decode cJ9_min_7cf53 10 = .ok (.ireturn, 1) := by decide +kernel
theorem dJ7_fill_53178_0 : decode cJ7_fill_53178 0 = .ok (.iconst 0, 1) := by decide +kernel
theorem dJ7_fill_53178_1 : decode cJ7_fill_53178 1 = .ok (.istore_n 2, 1) := by decide +kernel
theorem dJ7_fill_53178_2 : decode cJ7_fill_53178 2 = .ok (.aload_n 0, 1) := by decide +kernel
theorem dJ7_fill_53178_3 : decode cJ7_fill_53178 3 = .ok (.arraylength, 1) := by decide +kernel
theorem dJ7_fill_53178_4 : decode cJ7_fill_53178 4 = .ok (.istore_n 3, 1) := by decide +kernel
theorem dJ7_fill_53178_5 : decode cJ7_fill_53178 5 = .ok (.iload_n 2, 1) := by decide +kernel
theorem dJ7_fill_53178_6 : decode cJ7_fill_53178 6 = .ok (.iload_n 3, 1) := by decide +kernel
theorem dJ7_fill_53178_7 : decode cJ7_fill_53178 7 = .ok (.if_icmp .ge 13, 3) := by decide +kernel
theorem dJ7_fill_53178_10 : decode cJ7_fill_53178 10 = .ok (.aload_n 0, 1) := by decide +kernel
theorem dJ7_fill_53178_11 : decode cJ7_fill_53178 11 = .ok (.iload_n 2, 1) := by decide +kernel
theorem dJ7_fill_53178_12 : decode cJ7_fill_53178 12 = .ok (.iload_n 1, 1) := by decide +kernel
theorem dJ7_fill_53178_13 : decode cJ7_fill_53178 13 = .ok (.iastore, 1) := by decide +kernel
theorem dJ7_fill_53178_14 : decode cJ7_fill_53178 14 = .ok (.iinc 2 1, 3) := by decide +kernel
theorem dJ7_fill_53178_17 : decode cJ7_fill_53178 17 = .ok (.goto (-12), 3) := by decide +kernel
theorem dJ7_fill_53178_20 : decode cJ7_fill_53178 20 = .ok (.return_, 1) := by decide +kernel
theorem dL_cell_0 : decode cL_cell 0 = .ok (.iload_n 1, 1) := by decide +kernel
theorem dL_cell_1 : decode cL_cell 1 = .ok (.aload_n 0, 1) := by decide +kernel
theorem dL_cell_2 : decode cL_cell 2 = .ok (.arraylength, 1) := by decide +kernel
theorem dL_cell_3 : decode cL_cell 3 = .ok (.if_icmp .ge 9, 3) := by decide +kernel
theorem dL_cell_6 : decode cL_cell 6 = .ok (.aload_n 0, 1) := by decide +kernel
theorem dL_cell_7 : decode cL_cell 7 = .ok (.iload_n 1, 1) := by decide +kernel
theorem dL_cell_8 : decode cL_cell 8 = .ok (.iaload, 1) := by decide +kernel
theorem dL_cell_9 : decode cL_cell 9 = .ok (.goto 17, 3) := by decide +kernel
theorem dL_cell_12 : decode cL_cell 12 = .ok (.sipush 7919, 3) := by decide +kernel
theorem dL_cell_15 : decode cL_cell 15 = .ok (.iload_n 1, 1) := by decide +kernel
theorem dL_cell_16 : decode cL_cell 16 = .ok (.bipush 7, 2) := by decide +kernel
theorem dL_cell_18 : decode cL_cell 18 = .ok (.iadd, 1) := by decide +kernel
theorem dL_cell_19 : decode cL_cell 19 = .ok (.imul, 1) := by decide +kernel
theorem dL_cell_20 : decode cL_cell 20 = .ok (.iload_n 1, 1) := by decide +kernel
theorem dL_cell_21 : decode cL_cell 21 = .ok (.sipush 421, 3) := by decide +kernel
theorem dL_cell_24 : decode cL_cell 24 = .ok (.iadd, 1) := by decide +kernel
theorem dL_cell_25 : decode cL_cell 25 = .ok (.imul, 1) := by decide +kernel
theorem dL_cell_26 : decode cL_cell 26 = .ok (.ireturn, 1) := by decide +kernel
theorem dL_low_0 : decode cL_low 0 = .ok (.iload_n 0, 1) := by decide +kernel
theorem dL_low_1 : decode cL_low 1 = .ok (.ldc 7, 2) := by decide +kernel
theorem dL_low_3 : decode cL_low 3 = .ok (.iand, 1) := by decide +kernel
theorem dL_low_4 : decode cL_low 4 = .ok (.iload_n 1, 1) := by decide +kernel
theorem dL_low_5 : decode cL_low 5 = .ok (.irem, 1) := by decide +kernel
theorem dL_low_6 : decode cL_low 6 = .ok (.ireturn, 1) := by decide +kernel
theorem dL_asks_0 : decode cL_asks 0 = .ok (.aload 4, 2) := by decide +kernel
theorem dL_asks_2 : decode cL_asks 2 = .ok (.iconst 0, 1) := by decide +kernel
theorem dL_asks_3 : decode cL_asks 3 = .ok (.aload_n 0, 1) := by decide +kernel
theorem dL_asks_4 : decode cL_asks 4 = .ok (.iload_n 1, 1) := by decide +kernel
theorem dL_asks_5 : decode cL_asks 5 = .ok (.iload_n 2, 1) := by decide +kernel
theorem dL_asks_6 : decode cL_asks 6 = .ok (.iload_n 3, 1) := by decide +kernel
theorem dL_asks_7 : decode cL_asks 7 = .ok (.invokevirtual 8, 3) := by decide +kernel
theorem dL_asks_10 : decode cL_asks 10 = .ok (.iastore, 1) := by decide +kernel
theorem dL_asks_11 : decode cL_asks 11 = .ok (.goto 11, 3) := by decide +kernel
theorem dL_asks_14 : decode cL_asks 14 = .ok (.astore 5, 2) := by decide +kernel
theorem dL_asks_16 : decode cL_asks 16 = .ok (.iconst 1, 1) := by decide +kernel
theorem dL_asks_17 : decode cL_asks 17 = .ok (.ireturn, 1) := by decide +kernel
theorem dL_asks_18 : decode cL_asks 18 = .ok (.astore 5, 2) := by decide +kernel
theorem dL_asks_20 : decode cL_asks 20 = .ok (.iconst 2, 1) := by decide +kernel
theorem dL_asks_21 : decode cL_asks 21 = .ok (.ireturn, 1) := by decide +kernel
theorem dL_asks_22 : decode cL_asks 22 = .ok (.iconst 0, 1) := by decide +kernel
theorem dL_asks_23 : decode cL_asks 23 = .ok (.ireturn, 1) := by decide +kernel
theorem dL_changes_0 : decode cL_changes 0 = .ok (.aload 4, 2) := by decide +kernel
theorem dL_changes_2 : decode cL_changes 2 = .ok (.iconst 0, 1) := by decide +kernel
theorem dL_changes_3 : decode cL_changes 3 = .ok (.iload_n 1, 1) := by decide +kernel
theorem dL_changes_4 : decode cL_changes 4 = .ok (.ifCond .ne 12, 3) := by decide +kernel
theorem dL_changes_7 : decode cL_changes 7 = .ok (.aload_n 0, 1) := by decide +kernel
theorem dL_changes_8 : decode cL_changes 8 = .ok (.iload_n 2, 1) := by decide +kernel
theorem dL_changes_9 : decode cL_changes 9 = .ok (.iload_n 3, 1) := by decide +kernel
theorem dL_changes_10 : decode cL_changes 10 = .ok (.invokevirtual 18, 3) := by decide +kernel
theorem dL_changes_13 : decode cL_changes 13 = .ok (.goto 47, 3) := by decide +kernel
theorem dL_changes_16 : decode cL_changes 16 = .ok (.iload_n 1, 1) := by decide +kernel
theorem dL_changes_17 : decode cL_changes 17 = .ok (.iconst 1, 1) := by decide +kernel
theorem dL_changes_18 : decode cL_changes 18 = .ok (.if_icmp .ne 11, 3) := by decide +kernel
theorem dL_changes_21 : decode cL_changes 21 = .ok (.aload_n 0, 1) := by decide +kernel
theorem dL_changes_22 : decode cL_changes 22 = .ok (.iload_n 2, 1) := by decide +kernel
theorem dL_changes_23 : decode cL_changes 23 = .ok (.invokevirtual 22, 3) := by decide +kernel
theorem dL_changes_26 : decode cL_changes 26 = .ok (.goto 34, 3) := by decide +kernel
theorem dL_changes_29 : decode cL_changes 29 = .ok (.iload_n 1, 1) := by decide +kernel
theorem dL_changes_30 : decode cL_changes 30 = .ok (.iconst 2, 1) := by decide +kernel
theorem dL_changes_31 : decode cL_changes 31 = .ok (.if_icmp .ne 12, 3) := by decide +kernel
theorem dL_changes_34 : decode cL_changes 34 = .ok (.aload_n 0, 1) := by decide +kernel
theorem dL_changes_35 : decode cL_changes 35 = .ok (.iload_n 2, 1) := by decide +kernel
theorem dL_changes_36 : decode cL_changes 36 = .ok (.iload_n 3, 1) := by decide +kernel
theorem dL_changes_37 : decode cL_changes 37 = .ok (.invokevirtual 26, 3) := by decide +kernel
theorem dL_changes_40 : decode cL_changes 40 = .ok (.goto 20, 3) := by decide +kernel
theorem dL_changes_43 : decode cL_changes 43 = .ok (.iload_n 1, 1) := by decide +kernel
theorem dL_changes_44 : decode cL_changes 44 = .ok (.iconst 3, 1) := by decide +kernel
theorem dL_changes_45 : decode cL_changes 45 = .ok (.if_icmp .ne 11, 3) := by decide +kernel
theorem dL_changes_48 : decode cL_changes 48 = .ok (.aload_n 0, 1) := by decide +kernel
theorem dL_changes_49 : decode cL_changes 49 = .ok (.iload_n 2, 1) := by decide +kernel
theorem dL_changes_50 : decode cL_changes 50 = .ok (.invokevirtual 29, 3) := by decide +kernel
theorem dL_changes_53 : decode cL_changes 53 = .ok (.goto 7, 3) := by decide +kernel
theorem dL_changes_56 : decode cL_changes 56 = .ok (.aload_n 0, 1) := by decide +kernel
theorem dL_changes_57 : decode cL_changes 57 = .ok (.invokevirtual 32, 3) := by decide +kernel
theorem dL_changes_60 : decode cL_changes 60 = .ok (.iastore, 1) := by decide +kernel
theorem dL_changes_61 : decode cL_changes 61 = .ok (.goto 15, 3) := by decide +kernel
theorem dL_changes_64 : decode cL_changes 64 = .ok (.astore 5, 2) := by decide +kernel
theorem dL_changes_66 : decode cL_changes 66 = .ok (.iconst 1, 1) := by decide +kernel
theorem dL_changes_67 : decode cL_changes 67 = .ok (.ireturn, 1) := by decide +kernel
theorem dL_changes_68 : decode cL_changes 68 = .ok (.astore 5, 2) := by decide +kernel
theorem dL_changes_70 : decode cL_changes 70 = .ok (.iconst 2, 1) := by decide +kernel
theorem dL_changes_71 : decode cL_changes 71 = .ok (.ireturn, 1) := by decide +kernel
theorem dL_changes_72 : decode cL_changes 72 = .ok (.astore 5, 2) := by decide +kernel
theorem dL_changes_74 : decode cL_changes 74 = .ok (.iconst 3, 1) := by decide +kernel
theorem dL_changes_75 : decode cL_changes 75 = .ok (.ireturn, 1) := by decide +kernel
theorem dL_changes_76 : decode cL_changes 76 = .ok (.iconst 0, 1) := by decide +kernel
theorem dL_changes_77 : decode cL_changes 77 = .ok (.ireturn, 1) := by decide +kernel
theorem dL_act_0 : decode cL_act 0 = .ok (.iload_n 1, 1) := by decide +kernel
theorem dL_act_1 : decode cL_act 1 = .ok (.bipush 32, 2) := by decide +kernel
theorem dL_act_3 : decode cL_act 3 = .ok (.invokestatic 38, 3) := by decide +kernel
theorem dL_act_6 : decode cL_act 6 = .ok (.istore_n 3, 1) := by decide +kernel
theorem dL_act_7 : decode cL_act 7 = .ok (.iload_n 1, 1) := by decide +kernel
theorem dL_act_8 : decode cL_act 8 = .ok (.iconst 5, 1) := by decide +kernel
theorem dL_act_9 : decode cL_act 9 = .ok (.ishr, 1) := by decide +kernel
theorem dL_act_10 : decode cL_act 10 = .ok (.istore 4, 2) := by decide +kernel
theorem dL_act_12 : decode cL_act 12 = .ok (.iload_n 1, 1) := by decide +kernel
theorem dL_act_13 : decode cL_act 13 = .ok (.bipush 22, 2) := by decide +kernel
theorem dL_act_15 : decode cL_act 15 = .ok (.ishr, 1) := by decide +kernel
theorem dL_act_16 : decode cL_act 16 = .ok (.bipush 7, 2) := by decide +kernel
theorem dL_act_18 : decode cL_act 18 = .ok (.invokestatic 38, 3) := by decide +kernel
theorem dL_act_21 : decode cL_act 21 = .ok (.ifCond .le 7, 3) := by decide +kernel
theorem dL_act_24 : decode cL_act 24 = .ok (.iconst 1, 1) := by decide +kernel
theorem dL_act_25 : decode cL_act 25 = .ok (.goto 4, 3) := by decide +kernel
theorem dL_act_28 : decode cL_act 28 = .ok (.iconst 0, 1) := by decide +kernel
theorem dL_act_29 : decode cL_act 29 = .ok (.istore 5, 2) := by decide +kernel
theorem dL_act_31 : decode cL_act 31 = .ok (.iload 4, 2) := by decide +kernel
theorem dL_act_33 : decode cL_act 33 = .ok (.iload 5, 2) := by decide +kernel
theorem dL_act_35 : decode cL_act 35 = .ok (.ifCond .eq 22, 3) := by decide +kernel
theorem dL_act_38 : decode cL_act 38 = .ok (.iload 4, 2) := by decide +kernel
theorem dL_act_40 : decode cL_act 40 = .ok (.bipush 12, 2) := by decide +kernel
theorem dL_act_42 : decode cL_act 42 = .ok (.ishr, 1) := by decide +kernel
theorem dL_act_43 : decode cL_act 43 = .ok (.iconst 1, 1) := by decide +kernel
theorem dL_act_44 : decode cL_act 44 = .ok (.iand, 1) := by decide +kernel
theorem dL_act_45 : decode cL_act 45 = .ok (.ifCond .ne 8, 3) := by decide +kernel
theorem dL_act_48 : decode cL_act 48 = .ok (.bipush 10, 2) := by decide +kernel
theorem dL_act_50 : decode cL_act 50 = .ok (.goto 9, 3) := by decide +kernel
theorem dL_act_53 : decode cL_act 53 = .ok (.iconst 3, 1) := by decide +kernel
theorem dL_act_54 : decode cL_act 54 = .ok (.goto 5, 3) := by decide +kernel
theorem dL_act_57 : decode cL_act 57 = .ok (.bipush 11, 2) := by decide +kernel
theorem dL_act_59 : decode cL_act 59 = .ok (.invokestatic 38, 3) := by decide +kernel
theorem dL_act_62 : decode cL_act 62 = .ok (.istore 6, 2) := by decide +kernel
theorem dL_act_64 : decode cL_act 64 = .ok (.iload_n 3, 1) := by decide +kernel
theorem dL_act_65 : decode cL_act 65 = .ok (.bipush 22, 2) := by decide +kernel
theorem dL_act_67 : decode cL_act 67 = .ok (.if_icmp .ge 96, 3) := by decide +kernel
theorem dL_act_70 : decode cL_act 70 = .ok (.iload 4, 2) := by decide +kernel
theorem dL_act_72 : decode cL_act 72 = .ok (.iconst 3, 1) := by decide +kernel
theorem dL_act_73 : decode cL_act 73 = .ok (.ishr, 1) := by decide +kernel
theorem dL_act_74 : decode cL_act 74 = .ok (.iload 5, 2) := by decide +kernel
theorem dL_act_76 : decode cL_act 76 = .ok (.ifCond .eq 22, 3) := by decide +kernel
theorem dL_act_79 : decode cL_act 79 = .ok (.iload 4, 2) := by decide +kernel
theorem dL_act_81 : decode cL_act 81 = .ok (.bipush 13, 2) := by decide +kernel
theorem dL_act_83 : decode cL_act 83 = .ok (.ishr, 1) := by decide +kernel
theorem dL_act_84 : decode cL_act 84 = .ok (.iconst 1, 1) := by decide +kernel
theorem dL_act_85 : decode cL_act 85 = .ok (.iand, 1) := by decide +kernel
theorem dL_act_86 : decode cL_act 86 = .ok (.ifCond .ne 8, 3) := by decide +kernel
theorem dL_act_89 : decode cL_act 89 = .ok (.bipush 12, 2) := by decide +kernel
theorem dL_act_91 : decode cL_act 91 = .ok (.goto 9, 3) := by decide +kernel
theorem dL_act_94 : decode cL_act 94 = .ok (.iconst 4, 1) := by decide +kernel
theorem dL_act_95 : decode cL_act 95 = .ok (.goto 5, 3) := by decide +kernel
theorem dL_act_98 : decode cL_act 98 = .ok (.bipush 13, 2) := by decide +kernel
theorem dL_act_100 : decode cL_act 100 = .ok (.invokestatic 38, 3) := by decide +kernel
theorem dL_act_103 : decode cL_act 103 = .ok (.istore 7, 2) := by decide +kernel
theorem dL_act_105 : decode cL_act 105 = .ok (.aload_n 0, 1) := by decide +kernel
theorem dL_act_106 : decode cL_act 106 = .ok (.iload 6, 2) := by decide +kernel
theorem dL_act_108 : decode cL_act 108 = .ok (.iload 7, 2) := by decide +kernel
theorem dL_act_110 : decode cL_act 110 = .ok (.iload 5, 2) := by decide +kernel
theorem dL_act_112 : decode cL_act 112 = .ok (.ifCond .eq 36, 3) := by decide +kernel
theorem dL_act_115 : decode cL_act 115 = .ok (.iconst 1, 1) := by decide +kernel
theorem dL_act_116 : decode cL_act 116 = .ok (.iload 4, 2) := by decide +kernel
theorem dL_act_118 : decode cL_act 118 = .ok (.bipush 6, 2) := by decide +kernel
theorem dL_act_120 : decode cL_act 120 = .ok (.ishr, 1) := by decide +kernel
theorem dL_act_121 : decode cL_act 121 = .ok (.bipush 12, 2) := by decide +kernel
theorem dL_act_123 : decode cL_act 123 = .ok (.iload 7, 2) := by decide +kernel
theorem dL_act_125 : decode cL_act 125 = .ok (.isub, 1) := by decide +kernel
theorem dL_act_126 : decode cL_act 126 = .ok (.bipush 9, 2) := by decide +kernel
theorem dL_act_128 : decode cL_act 128 = .ok (.if_icmp .ge 11, 3) := by decide +kernel
theorem dL_act_131 : decode cL_act 131 = .ok (.bipush 12, 2) := by decide +kernel
theorem dL_act_133 : decode cL_act 133 = .ok (.iload 7, 2) := by decide +kernel
theorem dL_act_135 : decode cL_act 135 = .ok (.isub, 1) := by decide +kernel
theorem dL_act_136 : decode cL_act 136 = .ok (.goto 5, 3) := by decide +kernel
theorem dL_act_139 : decode cL_act 139 = .ok (.bipush 9, 2) := by decide +kernel
theorem dL_act_141 : decode cL_act 141 = .ok (.invokestatic 38, 3) := by decide +kernel
theorem dL_act_144 : decode cL_act 144 = .ok (.iadd, 1) := by decide +kernel
theorem dL_act_145 : decode cL_act 145 = .ok (.goto 13, 3) := by decide +kernel
theorem dL_act_148 : decode cL_act 148 = .ok (.iload 4, 2) := by decide +kernel
theorem dL_act_150 : decode cL_act 150 = .ok (.bipush 6, 2) := by decide +kernel
theorem dL_act_152 : decode cL_act 152 = .ok (.ishr, 1) := by decide +kernel
theorem dL_act_153 : decode cL_act 153 = .ok (.bipush 11, 2) := by decide +kernel
theorem dL_act_155 : decode cL_act 155 = .ok (.invokestatic 38, 3) := by decide +kernel
theorem dL_act_158 : decode cL_act 158 = .ok (.aload_n 2, 1) := by decide +kernel
theorem dL_act_159 : decode cL_act 159 = .ok (.invokestatic 43, 3) := by decide +kernel
theorem dL_act_162 : decode cL_act 162 = .ok (.ireturn, 1) := by decide +kernel
theorem dL_act_163 : decode cL_act 163 = .ok (.iload_n 3, 1) := by decide +kernel
theorem dL_act_164 : decode cL_act 164 = .ok (.bipush 28, 2) := by decide +kernel
theorem dL_act_166 : decode cL_act 166 = .ok (.if_icmp .ge 86, 3) := by decide +kernel
theorem dL_act_169 : decode cL_act 169 = .ok (.iload_n 3, 1) := by decide +kernel
theorem dL_act_170 : decode cL_act 170 = .ok (.bipush 24, 2) := by decide +kernel
theorem dL_act_172 : decode cL_act 172 = .ok (.if_icmp .ge 7, 3) := by decide +kernel
theorem dL_act_175 : decode cL_act 175 = .ok (.iconst 0, 1) := by decide +kernel
theorem dL_act_176 : decode cL_act 176 = .ok (.goto 19, 3) := by decide +kernel
theorem dL_act_179 : decode cL_act 179 = .ok (.iload_n 3, 1) := by decide +kernel
theorem dL_act_180 : decode cL_act 180 = .ok (.bipush 23, 2) := by decide +kernel
theorem dL_act_182 : decode cL_act 182 = .ok (.isub, 1) := by decide +kernel
theorem dL_act_183 : decode cL_act 183 = .ok (.iconst 4, 1) := by decide +kernel
theorem dL_act_184 : decode cL_act 184 = .ok (.if_icmp .ge 10, 3) := by decide +kernel
theorem dL_act_187 : decode cL_act 187 = .ok (.iload_n 3, 1) := by decide +kernel
theorem dL_act_188 : decode cL_act 188 = .ok (.bipush 23, 2) := by decide +kernel
theorem dL_act_190 : decode cL_act 190 = .ok (.isub, 1) := by decide +kernel
theorem dL_act_191 : decode cL_act 191 = .ok (.goto 4, 3) := by decide +kernel
theorem dL_act_194 : decode cL_act 194 = .ok (.iconst 4, 1) := by decide +kernel
theorem dL_act_195 : decode cL_act 195 = .ok (.istore 7, 2) := by decide +kernel
theorem dL_act_197 : decode cL_act 197 = .ok (.aload_n 0, 1) := by decide +kernel
theorem dL_act_198 : decode cL_act 198 = .ok (.iload 7, 2) := by decide +kernel
theorem dL_act_200 : decode cL_act 200 = .ok (.iload 7, 2) := by decide +kernel
theorem dL_act_202 : decode cL_act 202 = .ok (.iconst 3, 1) := by decide +kernel
theorem dL_act_203 : decode cL_act 203 = .ok (.if_icmp .ne 23, 3) := by decide +kernel
theorem dL_act_206 : decode cL_act 206 = .ok (.iload 4, 2) := by decide +kernel
theorem dL_act_208 : decode cL_act 208 = .ok (.iload 5, 2) := by decide +kernel
theorem dL_act_210 : decode cL_act 210 = .ok (.ifCond .eq 8, 3) := by decide +kernel
theorem dL_act_213 : decode cL_act 213 = .ok (.bipush 10, 2) := by decide +kernel
theorem dL_act_215 : decode cL_act 215 = .ok (.goto 5, 3) := by decide +kernel
theorem dL_act_218 : decode cL_act 218 = .ok (.bipush 12, 2) := by decide +kernel
theorem dL_act_220 : decode cL_act 220 = .ok (.invokestatic 38, 3) := by decide +kernel
theorem dL_act_223 : decode cL_act 223 = .ok (.goto 5, 3) := by decide +kernel
theorem dL_act_226 : decode cL_act 226 = .ok (.iload 6, 2) := by decide +kernel
theorem dL_act_228 : decode cL_act 228 = .ok (.iload 4, 2) := by decide +kernel
theorem dL_act_230 : decode cL_act 230 = .ok (.iconst 4, 1) := by decide +kernel
theorem dL_act_231 : decode cL_act 231 = .ok (.ishr, 1) := by decide +kernel
theorem dL_act_232 : decode cL_act 232 = .ok (.iload 5, 2) := by decide +kernel
theorem dL_act_234 : decode cL_act 234 = .ok (.ifCond .eq 8, 3) := by decide +kernel
theorem dL_act_237 : decode cL_act 237 = .ok (.bipush 10, 2) := by decide +kernel
theorem dL_act_239 : decode cL_act 239 = .ok (.goto 5, 3) := by decide +kernel
theorem dL_act_242 : decode cL_act 242 = .ok (.bipush 14, 2) := by decide +kernel
theorem dL_act_244 : decode cL_act 244 = .ok (.invokestatic 38, 3) := by decide +kernel
theorem dL_act_247 : decode cL_act 247 = .ok (.aload_n 2, 1) := by decide +kernel
theorem dL_act_248 : decode cL_act 248 = .ok (.invokestatic 47, 3) := by decide +kernel
theorem dL_act_251 : decode cL_act 251 = .ok (.ireturn, 1) := by decide +kernel
theorem dL_act_252 : decode cL_act 252 = .ok (.aload_n 0, 1) := by decide +kernel
theorem dL_act_253 : decode cL_act 253 = .ok (.iconst 4, 1) := by decide +kernel
theorem dL_act_254 : decode cL_act 254 = .ok (.iconst 0, 1) := by decide +kernel
theorem dL_act_255 : decode cL_act 255 = .ok (.iconst 0, 1) := by decide +kernel
theorem dL_act_256 : decode cL_act 256 = .ok (.aload_n 2, 1) := by decide +kernel
theorem dL_act_257 : decode cL_act 257 = .ok (.invokestatic 47, 3) := by decide +kernel
theorem dL_act_260 : decode cL_act 260 = .ok (.ireturn, 1) := by decide +kernel
theorem dL_areAlike_0 : decode cL_areAlike 0 = .ok (.aload_n 0, 1) := by decide +kernel
theorem dL_areAlike_1 : decode cL_areAlike 1 = .ok (.invokevirtual 50, 3) := by decide +kernel
theorem dL_areAlike_4 : decode cL_areAlike 4 = .ok (.aload_n 1, 1) := by decide +kernel
theorem dL_areAlike_5 : decode cL_areAlike 5 = .ok (.invokevirtual 50, 3) := by decide +kernel
theorem dL_areAlike_8 : decode cL_areAlike 8 = .ok (.if_icmp .ne 7, 3) := by decide +kernel
theorem dL_areAlike_11 : decode cL_areAlike 11 = .ok (.iconst 1, 1) := by decide +kernel
theorem dL_areAlike_12 : decode cL_areAlike 12 = .ok (.goto 4, 3) := by decide +kernel
theorem dL_areAlike_15 : decode cL_areAlike 15 = .ok (.iconst 0, 1) := by decide +kernel
theorem dL_areAlike_16 : decode cL_areAlike 16 = .ok (.istore_n 2, 1) := by decide +kernel
theorem dL_areAlike_17 : decode cL_areAlike 17 = .ok (.iconst 0, 1) := by decide +kernel
theorem dL_areAlike_18 : decode cL_areAlike 18 = .ok (.istore_n 3, 1) := by decide +kernel
theorem dL_areAlike_19 : decode cL_areAlike 19 = .ok (.iload_n 3, 1) := by decide +kernel
theorem dL_areAlike_20 : decode cL_areAlike 20 = .ok (.bipush 11, 2) := by decide +kernel
theorem dL_areAlike_22 : decode cL_areAlike 22 = .ok (.if_icmp .ge 32, 3) := by decide +kernel
theorem dL_areAlike_25 : decode cL_areAlike 25 = .ok (.iload_n 2, 1) := by decide +kernel
theorem dL_areAlike_26 : decode cL_areAlike 26 = .ok (.ifCond .eq 20, 3) := by decide +kernel
theorem dL_areAlike_29 : decode cL_areAlike 29 = .ok (.aload_n 0, 1) := by decide +kernel
theorem dL_areAlike_30 : decode cL_areAlike 30 = .ok (.iload_n 3, 1) := by decide +kernel
theorem dL_areAlike_31 : decode cL_areAlike 31 = .ok (.invokevirtual 53, 3) := by decide +kernel
theorem dL_areAlike_34 : decode cL_areAlike 34 = .ok (.aload_n 1, 1) := by decide +kernel
theorem dL_areAlike_35 : decode cL_areAlike 35 = .ok (.iload_n 3, 1) := by decide +kernel
theorem dL_areAlike_36 : decode cL_areAlike 36 = .ok (.invokevirtual 53, 3) := by decide +kernel
theorem dL_areAlike_39 : decode cL_areAlike 39 = .ok (.if_icmp .ne 7, 3) := by decide +kernel
theorem dL_areAlike_42 : decode cL_areAlike 42 = .ok (.iconst 1, 1) := by decide +kernel
theorem dL_areAlike_43 : decode cL_areAlike 43 = .ok (.goto 4, 3) := by decide +kernel
theorem dL_areAlike_46 : decode cL_areAlike 46 = .ok (.iconst 0, 1) := by decide +kernel
theorem dL_areAlike_47 : decode cL_areAlike 47 = .ok (.istore_n 2, 1) := by decide +kernel
theorem dL_areAlike_48 : decode cL_areAlike 48 = .ok (.iinc 3 1, 3) := by decide +kernel
theorem dL_areAlike_51 : decode cL_areAlike 51 = .ok (.goto (-32), 3) := by decide +kernel
theorem dL_areAlike_54 : decode cL_areAlike 54 = .ok (.iconst 0, 1) := by decide +kernel
theorem dL_areAlike_55 : decode cL_areAlike 55 = .ok (.istore_n 3, 1) := by decide +kernel
theorem dL_areAlike_56 : decode cL_areAlike 56 = .ok (.iload_n 3, 1) := by decide +kernel
theorem dL_areAlike_57 : decode cL_areAlike 57 = .ok (.bipush 70, 2) := by decide +kernel
theorem dL_areAlike_59 : decode cL_areAlike 59 = .ok (.if_icmp .ge 46, 3) := by decide +kernel
theorem dL_areAlike_62 : decode cL_areAlike 62 = .ok (.iload_n 2, 1) := by decide +kernel
theorem dL_areAlike_63 : decode cL_areAlike 63 = .ok (.ifCond .eq 34, 3) := by decide +kernel
theorem dL_areAlike_66 : decode cL_areAlike 66 = .ok (.aload_n 0, 1) := by decide +kernel
theorem dL_areAlike_67 : decode cL_areAlike 67 = .ok (.iload_n 3, 1) := by decide +kernel
theorem dL_areAlike_68 : decode cL_areAlike 68 = .ok (.bipush 7, 2) := by decide +kernel
theorem dL_areAlike_70 : decode cL_areAlike 70 = .ok (.idiv, 1) := by decide +kernel
theorem dL_areAlike_71 : decode cL_areAlike 71 = .ok (.iload_n 3, 1) := by decide +kernel
theorem dL_areAlike_72 : decode cL_areAlike 72 = .ok (.bipush 7, 2) := by decide +kernel
theorem dL_areAlike_74 : decode cL_areAlike 74 = .ok (.irem, 1) := by decide +kernel
theorem dL_areAlike_75 : decode cL_areAlike 75 = .ok (.invokevirtual 56, 3) := by decide +kernel
theorem dL_areAlike_78 : decode cL_areAlike 78 = .ok (.aload_n 1, 1) := by decide +kernel
theorem dL_areAlike_79 : decode cL_areAlike 79 = .ok (.iload_n 3, 1) := by decide +kernel
theorem dL_areAlike_80 : decode cL_areAlike 80 = .ok (.bipush 7, 2) := by decide +kernel
theorem dL_areAlike_82 : decode cL_areAlike 82 = .ok (.idiv, 1) := by decide +kernel
theorem dL_areAlike_83 : decode cL_areAlike 83 = .ok (.iload_n 3, 1) := by decide +kernel
theorem dL_areAlike_84 : decode cL_areAlike 84 = .ok (.bipush 7, 2) := by decide +kernel
theorem dL_areAlike_86 : decode cL_areAlike 86 = .ok (.irem, 1) := by decide +kernel
theorem dL_areAlike_87 : decode cL_areAlike 87 = .ok (.invokevirtual 56, 3) := by decide +kernel
theorem dL_areAlike_90 : decode cL_areAlike 90 = .ok (.if_icmp .ne 7, 3) := by decide +kernel
theorem dL_areAlike_93 : decode cL_areAlike 93 = .ok (.iconst 1, 1) := by decide +kernel
theorem dL_areAlike_94 : decode cL_areAlike 94 = .ok (.goto 4, 3) := by decide +kernel
theorem dL_areAlike_97 : decode cL_areAlike 97 = .ok (.iconst 0, 1) := by decide +kernel
theorem dL_areAlike_98 : decode cL_areAlike 98 = .ok (.istore_n 2, 1) := by decide +kernel
theorem dL_areAlike_99 : decode cL_areAlike 99 = .ok (.iinc 3 1, 3) := by decide +kernel
