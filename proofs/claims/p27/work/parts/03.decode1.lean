theorem dX0_init_0 : decode cX0_init 0 = .ok (.aload_n 0, 1) := by decide +kernel
theorem dX0_init_1 : decode cX0_init 1 = .ok (.invokespecial 3, 3) := by decide +kernel
theorem dX0_init_4 : decode cX0_init 4 = .ok (.aload_n 0, 1) := by decide +kernel
theorem dX0_init_5 : decode cX0_init 5 = .ok (.bipush 60, 2) := by decide +kernel
theorem dX0_init_7 : decode cX0_init 7 = .ok (.newarray .int, 2) := by decide +kernel
theorem dX0_init_9 : decode cX0_init 9 = .ok (.putfield 9, 3) := by decide +kernel
theorem dX0_init_12 : decode cX0_init 12 = .ok (.return_, 1) := by decide +kernel
theorem dX1_init_0 : decode cX1_init 0 = .ok (.aload_n 0, 1) := by decide +kernel
theorem dX1_init_1 : decode cX1_init 1 = .ok (.invokespecial 3, 3) := by decide +kernel
theorem dX1_init_4 : decode cX1_init 4 = .ok (.aload_n 0, 1) := by decide +kernel
theorem dX1_init_5 : decode cX1_init 5 = .ok (.iconst 4, 1) := by decide +kernel
theorem dX1_init_6 : decode cX1_init 6 = .ok (.newarray .int, 2) := by decide +kernel
theorem dX1_init_8 : decode cX1_init 8 = .ok (.putfield 9, 3) := by decide +kernel
theorem dX1_init_11 : decode cX1_init 11 = .ok (.return_, 1) := by decide +kernel
theorem dX1_bedsFor_0 : decode cX1_bedsFor 0 = .ok (.aload_n 0, 1) := by decide +kernel
theorem dX1_bedsFor_1 : decode cX1_bedsFor 1 = .ok (.getfield 9, 3) := by decide +kernel
theorem dX1_bedsFor_4 : decode cX1_bedsFor 4 = .ok (.iconst 0, 1) := by decide +kernel
theorem dX1_bedsFor_5 : decode cX1_bedsFor 5 = .ok (.invokestatic 15, 3) := by decide +kernel
theorem dX1_bedsFor_8 : decode cX1_bedsFor 8 = .ok (.iconst 0, 1) := by decide +kernel
theorem dX1_bedsFor_9 : decode cX1_bedsFor 9 = .ok (.istore_n 2, 1) := by decide +kernel
theorem dX1_bedsFor_10 : decode cX1_bedsFor 10 = .ok (.iconst 0, 1) := by decide +kernel
theorem dX1_bedsFor_11 : decode cX1_bedsFor 11 = .ok (.istore_n 3, 1) := by decide +kernel
theorem dX1_bedsFor_12 : decode cX1_bedsFor 12 = .ok (.iload_n 3, 1) := by decide +kernel
theorem dX1_bedsFor_13 : decode cX1_bedsFor 13 = .ok (.bipush 12, 2) := by decide +kernel
theorem dX1_bedsFor_15 : decode cX1_bedsFor 15 = .ok (.if_icmp .ge 53, 3) := by decide +kernel
theorem dX1_bedsFor_18 : decode cX1_bedsFor 18 = .ok (.iconst 0, 1) := by decide +kernel
theorem dX1_bedsFor_19 : decode cX1_bedsFor 19 = .ok (.istore 4, 2) := by decide +kernel
theorem dX1_bedsFor_21 : decode cX1_bedsFor 21 = .ok (.iload 4, 2) := by decide +kernel
theorem dX1_bedsFor_23 : decode cX1_bedsFor 23 = .ok (.iconst 4, 1) := by decide +kernel
theorem dX1_bedsFor_24 : decode cX1_bedsFor 24 = .ok (.if_icmp .ge 38, 3) := by decide +kernel
theorem dX1_bedsFor_27 : decode cX1_bedsFor 27 = .ok (.aload_n 1, 1) := by decide +kernel
theorem dX1_bedsFor_28 : decode cX1_bedsFor 28 = .ok (.iload 4, 2) := by decide +kernel
theorem dX1_bedsFor_30 : decode cX1_bedsFor 30 = .ok (.iload_n 3, 1) := by decide +kernel
theorem dX1_bedsFor_31 : decode cX1_bedsFor 31 = .ok (.invokevirtual 21, 3) := by decide +kernel
theorem dX1_bedsFor_34 : decode cX1_bedsFor 34 = .ok (.ifCond .eq 22, 3) := by decide +kernel
theorem dX1_bedsFor_37 : decode cX1_bedsFor 37 = .ok (.iload_n 2, 1) := by decide +kernel
theorem dX1_bedsFor_38 : decode cX1_bedsFor 38 = .ok (.aload_n 0, 1) := by decide +kernel
theorem dX1_bedsFor_39 : decode cX1_bedsFor 39 = .ok (.iload_n 3, 1) := by decide +kernel
theorem dX1_bedsFor_40 : decode cX1_bedsFor 40 = .ok (.aload_n 1, 1) := by decide +kernel
theorem dX1_bedsFor_41 : decode cX1_bedsFor 41 = .ok (.iload 4, 2) := by decide +kernel
theorem dX1_bedsFor_43 : decode cX1_bedsFor 43 = .ok (.iload_n 3, 1) := by decide +kernel
theorem dX1_bedsFor_44 : decode cX1_bedsFor 44 = .ok (.invokevirtual 27, 3) := by decide +kernel
theorem dX1_bedsFor_47 : decode cX1_bedsFor 47 = .ok (.invokevirtual 31, 3) := by decide +kernel
theorem dX1_bedsFor_50 : decode cX1_bedsFor 50 = .ok (.iconst 1, 1) := by decide +kernel
theorem dX1_bedsFor_51 : decode cX1_bedsFor 51 = .ok (.iadd, 1) := by decide +kernel
theorem dX1_bedsFor_52 : decode cX1_bedsFor 52 = .ok (.invokestatic 34, 3) := by decide +kernel
theorem dX1_bedsFor_55 : decode cX1_bedsFor 55 = .ok (.istore_n 2, 1) := by decide +kernel
theorem dX1_bedsFor_56 : decode cX1_bedsFor 56 = .ok (.iinc 4 1, 3) := by decide +kernel
theorem dX1_bedsFor_59 : decode cX1_bedsFor 59 = .ok (.goto (-38), 3) := by decide +kernel
theorem dX1_bedsFor_62 : decode cX1_bedsFor 62 = .ok (.iinc 3 1, 3) := by decide +kernel
theorem dX1_bedsFor_65 : decode cX1_bedsFor 65 = .ok (.goto (-53), 3) := by decide +kernel
theorem dX1_bedsFor_68 : decode cX1_bedsFor 68 = .ok (.iload_n 2, 1) := by decide +kernel
theorem dX1_bedsFor_69 : decode cX1_bedsFor 69 = .ok (.ireturn, 1) := by decide +kernel
theorem dX1_lay_0 : decode cX1_lay 0 = .ok (.iconst 0, 1) := by decide +kernel
theorem dX1_lay_1 : decode cX1_lay 1 = .ok (.istore_n 3, 1) := by decide +kernel
theorem dX1_lay_2 : decode cX1_lay 2 = .ok (.iload_n 3, 1) := by decide +kernel
theorem dX1_lay_3 : decode cX1_lay 3 = .ok (.aload_n 0, 1) := by decide +kernel
theorem dX1_lay_4 : decode cX1_lay 4 = .ok (.getfield 9, 3) := by decide +kernel
theorem dX1_lay_7 : decode cX1_lay 7 = .ok (.arraylength, 1) := by decide +kernel
theorem dX1_lay_8 : decode cX1_lay 8 = .ok (.if_icmp .ge 28, 3) := by decide +kernel
theorem dX1_lay_11 : decode cX1_lay 11 = .ok (.aload_n 0, 1) := by decide +kernel
theorem dX1_lay_12 : decode cX1_lay 12 = .ok (.getfield 9, 3) := by decide +kernel
theorem dX1_lay_15 : decode cX1_lay 15 = .ok (.iload_n 3, 1) := by decide +kernel
theorem dX1_lay_16 : decode cX1_lay 16 = .ok (.iaload, 1) := by decide +kernel
theorem dX1_lay_17 : decode cX1_lay 17 = .ok (.iload_n 1, 1) := by decide +kernel
theorem dX1_lay_18 : decode cX1_lay 18 = .ok (.if_icmp .gt 12, 3) := by decide +kernel
theorem dX1_lay_21 : decode cX1_lay 21 = .ok (.aload_n 0, 1) := by decide +kernel
theorem dX1_lay_22 : decode cX1_lay 22 = .ok (.getfield 9, 3) := by decide +kernel
theorem dX1_lay_25 : decode cX1_lay 25 = .ok (.iload_n 3, 1) := by decide +kernel
theorem dX1_lay_26 : decode cX1_lay 26 = .ok (.iload_n 2, 1) := by decide +kernel
theorem dX1_lay_27 : decode cX1_lay 27 = .ok (.iastore, 1) := by decide +kernel
theorem dX1_lay_28 : decode cX1_lay 28 = .ok (.iload_n 3, 1) := by decide +kernel
theorem dX1_lay_29 : decode cX1_lay 29 = .ok (.ireturn, 1) := by decide +kernel
theorem dX1_lay_30 : decode cX1_lay 30 = .ok (.iinc 3 1, 3) := by decide +kernel
theorem dX1_lay_33 : decode cX1_lay 33 = .ok (.goto (-31), 3) := by decide +kernel
theorem dX1_lay_36 : decode cX1_lay 36 = .ok (.iconst (-1), 1) := by decide +kernel
theorem dX1_lay_37 : decode cX1_lay 37 = .ok (.ireturn, 1) := by decide +kernel
theorem dX2_init_0 : decode cX2_init 0 = .ok (.aload_n 0, 1) := by decide +kernel
theorem dX2_init_1 : decode cX2_init 1 = .ok (.invokespecial 3, 3) := by decide +kernel
theorem dX2_init_4 : decode cX2_init 4 = .ok (.aload_n 0, 1) := by decide +kernel
theorem dX2_init_5 : decode cX2_init 5 = .ok (.iconst 0, 1) := by decide +kernel
theorem dX2_init_6 : decode cX2_init 6 = .ok (.iload_n 1, 1) := by decide +kernel
theorem dX2_init_7 : decode cX2_init 7 = .ok (.invokestatic 9, 3) := by decide +kernel
theorem dX2_init_10 : decode cX2_init 10 = .ok (.putfield 15, 3) := by decide +kernel
theorem dX2_init_13 : decode cX2_init 13 = .ok (.aload_n 0, 1) := by decide +kernel
theorem dX2_init_14 : decode cX2_init 14 = .ok (.iconst 0, 1) := by decide +kernel
theorem dX2_init_15 : decode cX2_init 15 = .ok (.iload_n 2, 1) := by decide +kernel
theorem dX2_init_16 : decode cX2_init 16 = .ok (.invokestatic 9, 3) := by decide +kernel
theorem dX2_init_19 : decode cX2_init 19 = .ok (.putfield 21, 3) := by decide +kernel
theorem dX2_init_22 : decode cX2_init 22 = .ok (.aload_n 0, 1) := by decide +kernel
theorem dX2_init_23 : decode cX2_init 23 = .ok (.aload_n 0, 1) := by decide +kernel
theorem dX2_init_24 : decode cX2_init 24 = .ok (.getfield 15, 3) := by decide +kernel
theorem dX2_init_27 : decode cX2_init 27 = .ok (.aload_n 0, 1) := by decide +kernel
theorem dX2_init_28 : decode cX2_init 28 = .ok (.getfield 21, 3) := by decide +kernel
theorem dX2_init_31 : decode cX2_init 31 = .ok (.imul, 1) := by decide +kernel
theorem dX2_init_32 : decode cX2_init 32 = .ok (.newarray .int, 2) := by decide +kernel
theorem dX2_init_34 : decode cX2_init 34 = .ok (.putfield 24, 3) := by decide +kernel
theorem dX2_init_37 : decode cX2_init 37 = .ok (.return_, 1) := by decide +kernel
theorem dX2_get_0 : decode cX2_get 0 = .ok (.iload_n 1, 1) := by decide +kernel
theorem dX2_get_1 : decode cX2_get 1 = .ok (.ifCond .lt 23, 3) := by decide +kernel
theorem dX2_get_4 : decode cX2_get 4 = .ok (.iload_n 1, 1) := by decide +kernel
theorem dX2_get_5 : decode cX2_get 5 = .ok (.aload_n 0, 1) := by decide +kernel
theorem dX2_get_6 : decode cX2_get 6 = .ok (.getfield 15, 3) := by decide +kernel
theorem dX2_get_9 : decode cX2_get 9 = .ok (.if_icmp .ge 15, 3) := by decide +kernel
theorem dX2_get_12 : decode cX2_get 12 = .ok (.iload_n 2, 1) := by decide +kernel
theorem dX2_get_13 : decode cX2_get 13 = .ok (.ifCond .lt 11, 3) := by decide +kernel
theorem dX2_get_16 : decode cX2_get 16 = .ok (.iload_n 2, 1) := by decide +kernel
theorem dX2_get_17 : decode cX2_get 17 = .ok (.aload_n 0, 1) := by decide +kernel
theorem dX2_get_18 : decode cX2_get 18 = .ok (.getfield 21, 3) := by decide +kernel
theorem dX2_get_21 : decode cX2_get 21 = .ok (.if_icmp .lt 5, 3) := by decide +kernel
theorem dX2_get_24 : decode cX2_get 24 = .ok (.iconst (-1), 1) := by decide +kernel
theorem dX2_get_25 : decode cX2_get 25 = .ok (.ireturn, 1) := by decide +kernel
theorem dX2_get_26 : decode cX2_get 26 = .ok (.aload_n 0, 1) := by decide +kernel
theorem dX2_get_27 : decode cX2_get 27 = .ok (.getfield 24, 3) := by decide +kernel
theorem dX2_get_30 : decode cX2_get 30 = .ok (.iload_n 1, 1) := by decide +kernel
theorem dX2_get_31 : decode cX2_get 31 = .ok (.aload_n 0, 1) := by decide +kernel
theorem dX2_get_32 : decode cX2_get 32 = .ok (.getfield 21, 3) := by decide +kernel
theorem dX2_get_35 : decode cX2_get 35 = .ok (.imul, 1) := by decide +kernel
theorem dX2_get_36 : decode cX2_get 36 = .ok (.iload_n 2, 1) := by decide +kernel
theorem dX2_get_37 : decode cX2_get 37 = .ok (.iadd, 1) := by decide +kernel
theorem dX2_get_38 : decode cX2_get 38 = .ok (.iaload, 1) := by decide +kernel
theorem dX2_get_39 : decode cX2_get 39 = .ok (.ireturn, 1) := by decide +kernel
theorem dX2_put_0 : decode cX2_put 0 = .ok (.iload_n 1, 1) := by decide +kernel
theorem dX2_put_1 : decode cX2_put 1 = .ok (.ifCond .lt 23, 3) := by decide +kernel
theorem dX2_put_4 : decode cX2_put 4 = .ok (.iload_n 1, 1) := by decide +kernel
theorem dX2_put_5 : decode cX2_put 5 = .ok (.aload_n 0, 1) := by decide +kernel
theorem dX2_put_6 : decode cX2_put 6 = .ok (.getfield 15, 3) := by decide +kernel
theorem dX2_put_9 : decode cX2_put 9 = .ok (.if_icmp .ge 15, 3) := by decide +kernel
theorem dX2_put_12 : decode cX2_put 12 = .ok (.iload_n 2, 1) := by decide +kernel
theorem dX2_put_13 : decode cX2_put 13 = .ok (.ifCond .lt 11, 3) := by decide +kernel
theorem dX2_put_16 : decode cX2_put 16 = .ok (.iload_n 2, 1) := by decide +kernel
theorem dX2_put_17 : decode cX2_put 17 = .ok (.aload_n 0, 1) := by decide +kernel
theorem dX2_put_18 : decode cX2_put 18 = .ok (.getfield 21, 3) := by decide +kernel
theorem dX2_put_21 : decode cX2_put 21 = .ok (.if_icmp .lt 4, 3) := by decide +kernel
theorem dX2_put_24 : decode cX2_put 24 = .ok (.return_, 1) := by decide +kernel
theorem dX2_put_25 : decode cX2_put 25 = .ok (.aload_n 0, 1) := by decide +kernel
theorem dX2_put_26 : decode cX2_put 26 = .ok (.getfield 24, 3) := by decide +kernel
theorem dX2_put_29 : decode cX2_put 29 = .ok (.iload_n 1, 1) := by decide +kernel
theorem dX2_put_30 : decode cX2_put 30 = .ok (.aload_n 0, 1) := by decide +kernel
theorem dX2_put_31 : decode cX2_put 31 = .ok (.getfield 21, 3) := by decide +kernel
theorem dX2_put_34 : decode cX2_put 34 = .ok (.imul, 1) := by decide +kernel
theorem dX2_put_35 : decode cX2_put 35 = .ok (.iload_n 2, 1) := by decide +kernel
theorem dX2_put_36 : decode cX2_put 36 = .ok (.iadd, 1) := by decide +kernel
theorem dX2_put_37 : decode cX2_put 37 = .ok (.iload_n 3, 1) := by decide +kernel
theorem dX2_put_38 : decode cX2_put 38 = .ok (.iastore, 1) := by decide +kernel
theorem dX2_put_39 : decode cX2_put 39 = .ok (.return_, 1) := by decide +kernel
theorem dX2_raise_0 : decode cX2_raise 0 = .ok (.aload_n 0, 1) := by decide +kernel
theorem dX2_raise_1 : decode cX2_raise 1 = .ok (.iload_n 1, 1) := by decide +kernel
theorem dX2_raise_2 : decode cX2_raise 2 = .ok (.iload_n 2, 1) := by decide +kernel
theorem dX2_raise_3 : decode cX2_raise 3 = .ok (.aload_n 0, 1) := by decide +kernel
theorem dX2_raise_4 : decode cX2_raise 4 = .ok (.iload_n 1, 1) := by decide +kernel
theorem dX2_raise_5 : decode cX2_raise 5 = .ok (.iload_n 2, 1) := by decide +kernel
theorem dX2_raise_6 : decode cX2_raise 6 = .ok (.invokevirtual 28, 3) := by decide +kernel
theorem dX2_raise_9 : decode cX2_raise 9 = .ok (.iload_n 3, 1) := by decide +kernel
theorem dX2_raise_10 : decode cX2_raise 10 = .ok (.iadd, 1) := by decide +kernel
theorem dX2_raise_11 : decode cX2_raise 11 = .ok (.invokevirtual 31, 3) := by decide +kernel
theorem dX2_raise_14 : decode cX2_raise 14 = .ok (.return_, 1) := by decide +kernel
theorem dX2_fill_0 : decode cX2_fill 0 = .ok (.aload_n 0, 1) := by decide +kernel
theorem dX2_fill_1 : decode cX2_fill 1 = .ok (.getfield 24, 3) := by decide +kernel
theorem dX2_fill_4 : decode cX2_fill 4 = .ok (.iload_n 1, 1) := by decide +kernel
theorem dX2_fill_5 : decode cX2_fill 5 = .ok (.invokestatic 35, 3) := by decide +kernel
theorem dX2_fill_8 : decode cX2_fill 8 = .ok (.return_, 1) := by decide +kernel
theorem dX2_copyFrom_0 : decode cX2_copyFrom 0 = .ok (.aload_n 1, 1) := by decide +kernel
theorem dX2_copyFrom_1 : decode cX2_copyFrom 1 = .ok (.getfield 24, 3) := by decide +kernel
theorem dX2_copyFrom_4 : decode cX2_copyFrom 4 = .ok (.arraylength, 1) := by decide +kernel
theorem dX2_copyFrom_5 : decode cX2_copyFrom 5 = .ok (.aload_n 0, 1) := by decide +kernel
theorem dX2_copyFrom_6 : decode cX2_copyFrom 6 = .ok (.getfield 24, 3) := by decide +kernel
theorem dX2_copyFrom_9 : decode cX2_copyFrom 9 = .ok (.arraylength, 1) := by decide +kernel
theorem dX2_copyFrom_10 : decode cX2_copyFrom 10 = .ok (.if_icmp .ne 21, 3) := by decide +kernel
theorem dX2_copyFrom_13 : decode cX2_copyFrom 13 = .ok (.aload_n 1, 1) := by decide +kernel
theorem dX2_copyFrom_14 : decode cX2_copyFrom 14 = .ok (.getfield 24, 3) := by decide +kernel
theorem dX2_copyFrom_17 : decode cX2_copyFrom 17 = .ok (.iconst 0, 1) := by decide +kernel
theorem dX2_copyFrom_18 : decode cX2_copyFrom 18 = .ok (.aload_n 0, 1) := by decide +kernel
theorem dX2_copyFrom_19 : decode cX2_copyFrom 19 = .ok (.getfield 24, 3) := by decide +kernel
theorem dX2_copyFrom_22 : decode cX2_copyFrom 22 = .ok (.iconst 0, 1) := by decide +kernel
theorem dX2_copyFrom_23 : decode cX2_copyFrom 23 = .ok (.aload_n 0, 1) := by decide +kernel
theorem dX2_copyFrom_24 : decode cX2_copyFrom 24 = .ok (.getfield 24, 3) := by decide +kernel
theorem dX2_copyFrom_27 : decode cX2_copyFrom 27 = .ok (.arraylength, 1) := by decide +kernel
theorem dX2_copyFrom_28 : decode cX2_copyFrom 28 = .ok (.invokestatic 41, 3) := by decide +kernel
theorem dX2_copyFrom_31 : decode cX2_copyFrom 31 = .ok (.return_, 1) := by decide +kernel
theorem dX3_init_0 : decode cX3_init 0 = .ok (.aload_n 0, 1) := by decide +kernel
theorem dX3_init_1 : decode cX3_init 1 = .ok (.invokespecial 3, 3) := by decide +kernel
theorem dX3_init_4 : decode cX3_init 4 = .ok (.aload_n 0, 1) := by decide +kernel
theorem dX3_init_5 : decode cX3_init 5 = .ok (.new 9, 3) := by decide +kernel
theorem dX3_init_8 : decode cX3_init 8 = .ok (.dup, 1) := by decide +kernel
theorem dX3_init_9 : decode cX3_init 9 = .ok (.invokespecial 11, 3) := by decide +kernel
theorem dX3_init_12 : decode cX3_init 12 = .ok (.putfield 12, 3) := by decide +kernel
theorem dX3_init_15 : decode cX3_init 15 = .ok (.aload_n 0, 1) := by decide +kernel
theorem dX3_init_16 : decode cX3_init 16 = .ok (.new 18, 3) := by decide +kernel
theorem dX3_init_19 : decode cX3_init 19 = .ok (.dup, 1) := by decide +kernel
theorem dX3_init_20 : decode cX3_init 20 = .ok (.bipush 10, 2) := by decide +kernel
theorem dX3_init_22 : decode cX3_init 22 = .ok (.bipush 7, 2) := by decide +kernel
theorem dX3_init_24 : decode cX3_init 24 = .ok (.invokespecial 20, 3) := by decide +kernel
theorem dX3_init_27 : decode cX3_init 27 = .ok (.putfield 23, 3) := by decide +kernel
theorem dX3_init_30 : decode cX3_init 30 = .ok (.aload_n 0, 1) := by decide +kernel
theorem dX3_init_31 : decode cX3_init 31 = .ok (.new 18, 3) := by decide +kernel
theorem dX3_init_34 : decode cX3_init 34 = .ok (.dup, 1) := by decide +kernel
theorem dX3_init_35 : decode cX3_init 35 = .ok (.iconst 1, 1) := by decide +kernel
theorem dX3_init_36 : decode cX3_init 36 = .ok (.bipush 12, 2) := by decide +kernel
theorem dX3_init_38 : decode cX3_init 38 = .ok (.invokespecial 20, 3) := by decide +kernel
theorem dX3_init_41 : decode cX3_init 41 = .ok (.putfield 27, 3) := by decide +kernel
theorem dX3_init_44 : decode cX3_init 44 = .ok (.aload_n 0, 1) := by decide +kernel
theorem dX3_init_45 : decode cX3_init 45 = .ok (.new 18, 3) := by decide +kernel
theorem dX3_init_48 : decode cX3_init 48 = .ok (.dup, 1) := by decide +kernel
theorem dX3_init_49 : decode cX3_init 49 = .ok (.iconst 1, 1) := by decide +kernel
theorem dX3_init_50 : decode cX3_init 50 = .ok (.iconst 5, 1) := by decide +kernel
theorem dX3_init_51 : decode cX3_init 51 = .ok (.invokespecial 20, 3) := by decide +kernel
theorem dX3_init_54 : decode cX3_init 54 = .ok (.putfield 30, 3) := by decide +kernel
theorem dX3_init_57 : decode cX3_init 57 = .ok (.iconst 0, 1) := by decide +kernel
theorem dX3_init_58 : decode cX3_init 58 = .ok (.istore_n 1, 1) := by decide +kernel
theorem dX3_init_59 : decode cX3_init 59 = .ok (.iload_n 1, 1) := by decide +kernel
theorem dX3_init_60 : decode cX3_init 60 = .ok (.bipush 10, 2) := by decide +kernel
theorem dX3_init_62 : decode cX3_init 62 = .ok (.if_icmp .ge 19, 3) := by decide +kernel
theorem dX3_init_65 : decode cX3_init 65 = .ok (.aload_n 0, 1) := by decide +kernel
theorem dX3_init_66 : decode cX3_init 66 = .ok (.getfield 23, 3) := by decide +kernel
theorem dX3_init_69 : decode cX3_init 69 = .ok (.iload_n 1, 1) := by decide +kernel
theorem dX3_init_70 : decode cX3_init 70 = .ok (.iconst 0, 1) := by decide +kernel
theorem dX3_init_71 : decode cX3_init 71 = .ok (.iload_n 1, 1) := by decide +kernel
theorem dX3_init_72 : decode cX3_init 72 = .ok (.invokevirtual 33, 3) := by decide +kernel
theorem dX3_init_75 : decode cX3_init 75 = .ok (.iinc 1 1, 3) := by decide +kernel
theorem dX3_init_78 : decode cX3_init 78 = .ok (.goto (-19), 3) := by decide +kernel
theorem dX3_init_81 : decode cX3_init 81 = .ok (.aload_n 0, 1) := by decide +kernel
theorem dX3_init_82 : decode cX3_init 82 = .ok (.getfield 27, 3) := by decide +kernel
theorem dX3_init_85 : decode cX3_init 85 = .ok (.iconst 0, 1) := by decide +kernel
theorem dX3_init_86 : decode cX3_init 86 = .ok (.bipush 9, 2) := by decide +kernel
theorem dX3_init_88 : decode cX3_init 88 = .ok (.iconst 3, 1) := by decide +kernel
theorem dX3_init_89 : decode cX3_init 89 = .ok (.invokevirtual 33, 3) := by decide +kernel
theorem dX3_init_92 : decode cX3_init 92 = .ok (.return_, 1) := by decide +kernel
theorem dX3_copyFrom_0 : decode cX3_copyFrom 0 = .ok (.aload_n 0, 1) := by decide +kernel
theorem dX3_copyFrom_1 : decode cX3_copyFrom 1 = .ok (.getfield 12, 3) := by decide +kernel
theorem dX3_copyFrom_4 : decode cX3_copyFrom 4 = .ok (.aload_n 1, 1) := by decide +kernel
theorem dX3_copyFrom_5 : decode cX3_copyFrom 5 = .ok (.getfield 12, 3) := by decide +kernel
theorem dX3_copyFrom_8 : decode cX3_copyFrom 8 = .ok (.invokevirtual 37, 3) := by decide +kernel
theorem dX3_copyFrom_11 : decode cX3_copyFrom 11 = .ok (.aload_n 0, 1) := by decide +kernel
theorem dX3_copyFrom_12 : decode cX3_copyFrom 12 = .ok (.getfield 23, 3) := by decide +kernel
theorem dX3_copyFrom_15 : decode cX3_copyFrom 15 = .ok (.aload_n 1, 1) := by decide +kernel
theorem dX3_copyFrom_16 : decode cX3_copyFrom 16 = .ok (.getfield 23, 3) := by decide +kernel
theorem dX3_copyFrom_19 : decode cX3_copyFrom 19 = .ok (.invokevirtual 41, 3) := by decide +kernel
theorem dX3_copyFrom_22 : decode cX3_copyFrom 22 = .ok (.aload_n 0, 1) := by decide +kernel
theorem dX3_copyFrom_23 : decode cX3_copyFrom 23 = .ok (.getfield 27, 3) := by decide +kernel
theorem dX3_copyFrom_26 : decode cX3_copyFrom 26 = .ok (.aload_n 1, 1) := by decide +kernel
theorem dX3_copyFrom_27 : decode cX3_copyFrom 27 = .ok (.getfield 27, 3) := by decide +kernel
theorem dX3_copyFrom_30 : decode cX3_copyFrom 30 = .ok (.invokevirtual 41, 3) := by decide +kernel
theorem dX3_copyFrom_33 : decode cX3_copyFrom 33 = .ok (.aload_n 0, 1) := by decide +kernel
theorem dX3_copyFrom_34 : decode cX3_copyFrom 34 = .ok (.getfield 30, 3) := by decide +kernel
theorem dX3_copyFrom_37 : decode cX3_copyFrom 37 = .ok (.aload_n 1, 1) := by decide +kernel
theorem dX3_copyFrom_38 : decode cX3_copyFrom 38 = .ok (.getfield 30, 3) := by decide +kernel
theorem dX3_copyFrom_41 : decode cX3_copyFrom 41 = .ok (.invokevirtual 41, 3) := by decide +kernel
theorem dX3_copyFrom_44 : decode cX3_copyFrom 44 = .ok (.return_, 1) := by decide +kernel
theorem dX3_account_0 : decode cX3_account 0 = .ok (.iload_n 1, 1) := by decide +kernel
theorem dX3_account_1 : decode cX3_account 1 = .ok (.ifCond .ne 11, 3) := by decide +kernel
theorem dX3_account_4 : decode cX3_account 4 = .ok (.aload_n 0, 1) := by decide +kernel
theorem dX3_account_5 : decode cX3_account 5 = .ok (.getfield 12, 3) := by decide +kernel
theorem dX3_account_8 : decode cX3_account 8 = .ok (.invokevirtual 44, 3) := by decide +kernel
theorem dX3_account_11 : decode cX3_account 11 = .ok (.ireturn, 1) := by decide +kernel
theorem dX3_account_12 : decode cX3_account 12 = .ok (.iload_n 1, 1) := by decide +kernel
theorem dX3_account_13 : decode cX3_account 13 = .ok (.iconst 2, 1) := by decide +kernel
theorem dX3_account_14 : decode cX3_account 14 = .ok (.if_icmp .ne 13, 3) := by decide +kernel
theorem dX3_account_17 : decode cX3_account 17 = .ok (.aload_n 0, 1) := by decide +kernel
theorem dX3_account_18 : decode cX3_account 18 = .ok (.getfield 12, 3) := by decide +kernel
theorem dX3_account_21 : decode cX3_account 21 = .ok (.invokevirtual 48, 3) := by decide +kernel
theorem dX3_account_24 : decode cX3_account 24 = .ok (.goto 12, 3) := by decide +kernel
theorem dX3_account_27 : decode cX3_account 27 = .ok (.aload_n 0, 1) := by decide +kernel
theorem dX3_account_28 : decode cX3_account 28 = .ok (.getfield 27, 3) := by decide +kernel
theorem dX3_account_31 : decode cX3_account 31 = .ok (.iconst 0, 1) := by decide +kernel
theorem dX3_account_32 : decode cX3_account 32 = .ok (.iload_n 1, 1) := by decide +kernel
theorem dX3_account_33 : decode cX3_account 33 = .ok (.invokevirtual 51, 3) := by decide +kernel
theorem dX3_account_36 : decode cX3_account 36 = .ok (.ireturn, 1) := by decide +kernel
theorem dX3_refusedFor_0 : decode cX3_refusedFor 0 = .ok (.aload_n 0, 1) := by decide +kernel
theorem dX3_refusedFor_1 : decode cX3_refusedFor 1 = .ok (.getfield 30, 3) := by decide +kernel
theorem dX3_refusedFor_4 : decode cX3_refusedFor 4 = .ok (.iconst 0, 1) := by decide +kernel
theorem dX3_refusedFor_5 : decode cX3_refusedFor 5 = .ok (.iload_n 1, 1) := by decide +kernel
theorem dX3_refusedFor_6 : decode cX3_refusedFor 6 = .ok (.invokevirtual 51, 3) := by decide +kernel
theorem dX3_refusedFor_9 : decode cX3_refusedFor 9 = .ok (.ireturn, 1) := by decide +kernel
theorem dX3_lodgerNumber_0 : decode cX3_lodgerNumber 0 = .ok (.iload_n 2, 1) := by decide +kernel
theorem dX3_lodgerNumber_1 : decode cX3_lodgerNumber 1 = .ok (.iconst 3, 1) := by decide +kernel
theorem dX3_lodgerNumber_2 : decode cX3_lodgerNumber 2 = .ok (.if_icmp .ne 15, 3) := by decide +kernel
theorem dX3_lodgerNumber_5 : decode cX3_lodgerNumber 5 = .ok (.aload_n 0, 1) := by decide +kernel
theorem dX3_lodgerNumber_6 : decode cX3_lodgerNumber 6 = .ok (.getfield 12, 3) := by decide +kernel
theorem dX3_lodgerNumber_9 : decode cX3_lodgerNumber 9 = .ok (.iload_n 1, 1) := by decide +kernel
theorem dX3_lodgerNumber_10 : decode cX3_lodgerNumber 10 = .ok (.iconst 0, 1) := by decide +kernel
theorem dX3_lodgerNumber_11 : decode cX3_lodgerNumber 11 = .ok (.bipush 12, 2) := by decide +kernel
theorem dX3_lodgerNumber_13 : decode cX3_lodgerNumber 13 = .ok (.invokevirtual 55, 3) := by decide +kernel
theorem dX3_lodgerNumber_16 : decode cX3_lodgerNumber 16 = .ok (.ireturn, 1) := by decide +kernel
theorem dX3_lodgerNumber_17 : decode cX3_lodgerNumber 17 = .ok (.aload_n 0, 1) := by decide +kernel
theorem dX3_lodgerNumber_18 : decode cX3_lodgerNumber 18 = .ok (.getfield 23, 3) := by decide +kernel
theorem dX3_lodgerNumber_21 : decode cX3_lodgerNumber 21 = .ok (.iload_n 1, 1) := by decide +kernel
theorem dX3_lodgerNumber_22 : decode cX3_lodgerNumber 22 = .ok (.iload_n 2, 1) := by decide +kernel
theorem dX3_lodgerNumber_23 : decode cX3_lodgerNumber 23 = .ok (.invokevirtual 51, 3) := by decide +kernel
theorem dX3_lodgerNumber_26 : decode cX3_lodgerNumber 26 = .ok (.ireturn, 1) := by decide +kernel
theorem dX3_shareLent_0 : decode cX3_shareLent 0 = .ok (.aload_n 0, 1) := by decide +kernel
theorem dX3_shareLent_1 : decode cX3_shareLent 1 = .ok (.getfield 12, 3) := by decide +kernel
theorem dX3_shareLent_4 : decode cX3_shareLent 4 = .ok (.invokevirtual 48, 3) := by decide +kernel
theorem dX3_shareLent_7 : decode cX3_shareLent 7 = .ok (.i2d, 1) := by decide +kernel
theorem dX3_shareLent_8 : decode cX3_shareLent 8 = .ok (.ldc2_w 59, 3) := by decide +kernel
theorem dX3_shareLent_11 : decode cX3_shareLent 11 = .ok (.ddiv, 1) := by decide +kernel
theorem dX3_shareLent_12 : decode cX3_shareLent 12 = .ok (.dreturn, 1) := by decide +kernel
theorem dX3_poorestLodger_0 : decode cX3_poorestLodger 0 = .ok (.iconst 0, 1) := by decide +kernel
theorem dX3_poorestLodger_1 : decode cX3_poorestLodger 1 = .ok (.istore_n 1, 1) := by decide +kernel
theorem dX3_poorestLodger_2 : decode cX3_poorestLodger 2 = .ok (.iconst 1, 1) := by decide +kernel
theorem dX3_poorestLodger_3 : decode cX3_poorestLodger 3 = .ok (.istore_n 2, 1) := by decide +kernel
theorem dX3_poorestLodger_4 : decode cX3_poorestLodger 4 = .ok (.iload_n 2, 1) := by decide +kernel
theorem dX3_poorestLodger_5 : decode cX3_poorestLodger 5 = .ok (.bipush 10, 2) := by decide +kernel
theorem dX3_poorestLodger_7 : decode cX3_poorestLodger 7 = .ok (.if_icmp .ge 20, 3) := by decide +kernel
theorem dX3_poorestLodger_10 : decode cX3_poorestLodger 10 = .ok (.aload_n 0, 1) := by decide +kernel
theorem dX3_poorestLodger_11 : decode cX3_poorestLodger 11 = .ok (.iload_n 2, 1) := by decide +kernel
theorem dX3_poorestLodger_12 : decode cX3_poorestLodger 12 = .ok (.iload_n 1, 1) := by decide +kernel
theorem dX3_poorestLodger_13 : decode cX3_poorestLodger 13 = .ok (.invokevirtual 61, 3) := by decide +kernel
theorem dX3_poorestLodger_16 : decode cX3_poorestLodger 16 = .ok (.ifCond .eq 5, 3) := by decide +kernel
theorem dX3_poorestLodger_19 : decode cX3_poorestLodger 19 = .ok (.iload_n 2, 1) := by decide +kernel
theorem dX3_poorestLodger_20 : decode cX3_poorestLodger 20 = .ok (.istore_n 1, 1) := by decide +kernel
theorem dX3_poorestLodger_21 : decode cX3_poorestLodger 21 = .ok (.iinc 2 1, 3) := by decide +kernel
theorem dX3_poorestLodger_24 : decode cX3_poorestLodger 24 = .ok (.goto (-20), 3) := by decide +kernel
theorem dX3_poorestLodger_27 : decode cX3_poorestLodger 27 = .ok (.iload_n 1, 1) := by decide +kernel
theorem dX3_poorestLodger_28 : decode cX3_poorestLodger 28 = .ok (.ireturn, 1) := by decide +kernel
theorem dX3_isPoorer_0 : decode cX3_isPoorer 0 = .ok (.aload_n 0, 1) := by decide +kernel
theorem dX3_isPoorer_1 : decode cX3_isPoorer 1 = .ok (.getfield 23, 3) := by decide +kernel
theorem dX3_isPoorer_4 : decode cX3_isPoorer 4 = .ok (.iload_n 1, 1) := by decide +kernel
theorem dX3_isPoorer_5 : decode cX3_isPoorer 5 = .ok (.iconst 1, 1) := by decide +kernel
theorem dX3_isPoorer_6 : decode cX3_isPoorer 6 = .ok (.invokevirtual 51, 3) := by decide +kernel
theorem dX3_isPoorer_9 : decode cX3_isPoorer 9 = .ok (.aload_n 0, 1) := by decide +kernel
theorem dX3_isPoorer_10 : decode cX3_isPoorer 10 = .ok (.getfield 23, 3) := by decide +kernel
theorem dX3_isPoorer_13 : decode cX3_isPoorer 13 = .ok (.iload_n 2, 1) := by decide +kernel
theorem dX3_isPoorer_14 : decode cX3_isPoorer 14 = .ok (.iconst 1, 1) := by decide +kernel
theorem dX3_isPoorer_15 : decode cX3_isPoorer 15 = .ok (.invokevirtual 51, 3) := by decide +kernel
theorem dX3_isPoorer_18 : decode cX3_isPoorer 18 = .ok (.isub, 1) := by decide +kernel
theorem dX3_isPoorer_19 : decode cX3_isPoorer 19 = .ok (.istore_n 3, 1) := by decide +kernel
theorem dX3_isPoorer_20 : decode cX3_isPoorer 20 = .ok (.iload_n 3, 1) := by decide +kernel
theorem dX3_isPoorer_21 : decode cX3_isPoorer 21 = .ok (.ifCond .gt 28, 3) := by decide +kernel
theorem dX3_isPoorer_24 : decode cX3_isPoorer 24 = .ok (.iload_n 3, 1) := by decide +kernel
theorem dX3_isPoorer_25 : decode cX3_isPoorer 25 = .ok (.ifCond .ne 28, 3) := by decide +kernel
theorem dX3_isPoorer_28 : decode cX3_isPoorer 28 = .ok (.aload_n 0, 1) := by decide +kernel
theorem dX3_isPoorer_29 : decode cX3_isPoorer 29 = .ok (.getfield 23, 3) := by decide +kernel
theorem dX3_isPoorer_32 : decode cX3_isPoorer 32 = .ok (.iload_n 1, 1) := by decide +kernel
theorem dX3_isPoorer_33 : decode cX3_isPoorer 33 = .ok (.iconst 0, 1) := by decide +kernel
theorem dX3_isPoorer_34 : decode cX3_isPoorer 34 = .ok (.invokevirtual 51, 3) := by decide +kernel
theorem dX3_isPoorer_37 : decode cX3_isPoorer 37 = .ok (.aload_n 0, 1) := by decide +kernel
theorem dX3_isPoorer_38 : decode cX3_isPoorer 38 = .ok (.getfield 23, 3) := by decide +kernel
theorem dX3_isPoorer_41 : decode cX3_isPoorer 41 = .ok (.iload_n 2, 1) := by decide +kernel
theorem dX3_isPoorer_42 : decode cX3_isPoorer 42 = .ok (.iconst 0, 1) := by decide +kernel
theorem dX3_isPoorer_43 : decode cX3_isPoorer 43 = .ok (.invokevirtual 51, 3) := by decide +kernel
theorem dX3_isPoorer_46 : decode cX3_isPoorer 46 = .ok (.if_icmp .le 7, 3) := by decide +kernel
theorem dX3_isPoorer_49 : decode cX3_isPoorer 49 = .ok (.iconst 1, 1) := by decide +kernel
theorem dX3_isPoorer_50 : decode cX3_isPoorer 50 = .ok (.goto 4, 3) := by decide +kernel
theorem dX3_isPoorer_53 : decode cX3_isPoorer 53 = .ok (.iconst 0, 1) := by decide +kernel
theorem dX3_isPoorer_54 : decode cX3_isPoorer 54 = .ok (.ireturn, 1) := by decide +kernel
theorem dX3_answerTo_0 : decode cX3_answerTo 0 = .ok (.aload_n 0, 1) := by decide +kernel
theorem dX3_answerTo_1 : decode cX3_answerTo 1 = .ok (.getfield 12, 3) := by decide +kernel
theorem dX3_answerTo_4 : decode cX3_answerTo 4 = .ok (.iload_n 2, 1) := by decide +kernel
theorem dX3_answerTo_5 : decode cX3_answerTo 5 = .ok (.invokevirtual 65, 3) := by decide +kernel
theorem dX3_answerTo_8 : decode cX3_answerTo 8 = .ok (.ifCond .eq 5, 3) := by decide +kernel
theorem dX3_answerTo_11 : decode cX3_answerTo 11 = .ok (.iconst 1, 1) := by decide +kernel
theorem dX3_answerTo_12 : decode cX3_answerTo 12 = .ok (.ireturn, 1) := by decide +kernel
theorem dX3_answerTo_13 : decode cX3_answerTo 13 = .ok (.aload_n 0, 1) := by decide +kernel
theorem dX3_answerTo_14 : decode cX3_answerTo 14 = .ok (.getfield 12, 3) := by decide +kernel
theorem dX3_answerTo_17 : decode cX3_answerTo 17 = .ok (.iload_n 1, 1) := by decide +kernel
theorem dX3_answerTo_18 : decode cX3_answerTo 18 = .ok (.iload_n 2, 1) := by decide +kernel
theorem dX3_answerTo_19 : decode cX3_answerTo 19 = .ok (.iload_n 3, 1) := by decide +kernel
theorem dX3_answerTo_20 : decode cX3_answerTo 20 = .ok (.invokevirtual 55, 3) := by decide +kernel
theorem dX3_answerTo_23 : decode cX3_answerTo 23 = .ok (.ifCond .le 5, 3) := by decide +kernel
theorem dX3_answerTo_26 : decode cX3_answerTo 26 = .ok (.iconst 2, 1) := by decide +kernel
theorem dX3_answerTo_27 : decode cX3_answerTo 27 = .ok (.ireturn, 1) := by decide +kernel
theorem dX3_answerTo_28 : decode cX3_answerTo 28 = .ok (.aload_n 0, 1) := by decide +kernel
theorem dX3_answerTo_29 : decode cX3_answerTo 29 = .ok (.iload_n 1, 1) := by decide +kernel
theorem dX3_answerTo_30 : decode cX3_answerTo 30 = .ok (.invokevirtual 69, 3) := by decide +kernel
theorem dX3_answerTo_33 : decode cX3_answerTo 33 = .ok (.istore 4, 2) := by decide +kernel
theorem dX3_answerTo_35 : decode cX3_answerTo 35 = .ok (.iload 4, 2) := by decide +kernel
theorem dX3_answerTo_37 : decode cX3_answerTo 37 = .ok (.ifCond .ne 25, 3) := by decide +kernel
theorem dX3_answerTo_40 : decode cX3_answerTo 40 = .ok (.aload_n 0, 1) := by decide +kernel
theorem dX3_answerTo_41 : decode cX3_answerTo 41 = .ok (.iload_n 1, 1) := by decide +kernel
theorem dX3_answerTo_42 : decode cX3_answerTo 42 = .ok (.invokevirtual 72, 3) := by decide +kernel
theorem dX3_answerTo_45 : decode cX3_answerTo 45 = .ok (.ifCond .eq 17, 3) := by decide +kernel
theorem dX3_answerTo_48 : decode cX3_answerTo 48 = .ok (.aload_n 0, 1) := by decide +kernel
theorem dX3_answerTo_49 : decode cX3_answerTo 49 = .ok (.getfield 23, 3) := by decide +kernel
theorem dX3_answerTo_52 : decode cX3_answerTo 52 = .ok (.iload_n 1, 1) := by decide +kernel
theorem dX3_answerTo_53 : decode cX3_answerTo 53 = .ok (.iconst 2, 1) := by decide +kernel
theorem dX3_answerTo_54 : decode cX3_answerTo 54 = .ok (.invokevirtual 51, 3) := by decide +kernel
theorem dX3_answerTo_57 : decode cX3_answerTo 57 = .ok (.ifCond .ne 5, 3) := by decide +kernel
theorem dX3_answerTo_60 : decode cX3_answerTo 60 = .ok (.iconst 3, 1) := by decide +kernel
theorem dX3_answerTo_61 : decode cX3_answerTo 61 = .ok (.ireturn, 1) := by decide +kernel
theorem dX3_answerTo_62 : decode cX3_answerTo 62 = .ok (.aload_n 0, 1) := by decide +kernel
theorem dX3_answerTo_63 : decode cX3_answerTo 63 = .ok (.getfield 12, 3) := by decide +kernel
theorem dX3_answerTo_66 : decode cX3_answerTo 66 = .ok (.iload_n 2, 1) := by decide +kernel
theorem dX3_answerTo_67 : decode cX3_answerTo 67 = .ok (.iload_n 3, 1) := by decide +kernel
theorem dX3_answerTo_68 : decode cX3_answerTo 68 = .ok (.invokevirtual 75, 3) := by decide +kernel
theorem dX3_answerTo_71 : decode cX3_answerTo 71 = .ok (.istore 5, 2) := by decide +kernel
theorem dX3_answerTo_73 : decode cX3_answerTo 73 = .ok (.iload 4, 2) := by decide +kernel
theorem dX3_answerTo_75 : decode cX3_answerTo 75 = .ok (.ifCond .ne 19, 3) := by decide +kernel
theorem dX3_answerTo_78 : decode cX3_answerTo 78 = .ok (.aload_n 0, 1) := by decide +kernel
theorem dX3_answerTo_79 : decode cX3_answerTo 79 = .ok (.getfield 12, 3) := by decide +kernel
theorem dX3_answerTo_82 : decode cX3_answerTo 82 = .ok (.iload 5, 2) := by decide +kernel
theorem dX3_answerTo_84 : decode cX3_answerTo 84 = .ok (.iload_n 2, 1) := by decide +kernel
theorem dX3_answerTo_85 : decode cX3_answerTo 85 = .ok (.iload_n 3, 1) := by decide +kernel
theorem dX3_answerTo_86 : decode cX3_answerTo 86 = .ok (.invokevirtual 78, 3) := by decide +kernel
theorem dX3_answerTo_89 : decode cX3_answerTo 89 = .ok (.ifCond .le 5, 3) := by decide +kernel
theorem dX3_answerTo_92 : decode cX3_answerTo 92 = .ok (.iconst 4, 1) := by decide +kernel
theorem dX3_answerTo_93 : decode cX3_answerTo 93 = .ok (.ireturn, 1) := by decide +kernel
theorem dX3_answerTo_94 : decode cX3_answerTo 94 = .ok (.bipush 10, 2) := by decide +kernel
theorem dX3_answerTo_96 : decode cX3_answerTo 96 = .ok (.iload 5, 2) := by decide +kernel
theorem dX3_answerTo_98 : decode cX3_answerTo 98 = .ok (.iadd, 1) := by decide +kernel
theorem dX3_answerTo_99 : decode cX3_answerTo 99 = .ok (.ireturn, 1) := by decide +kernel
theorem dX3_isEighth_0 : decode cX3_isEighth 0 = .ok (.aload_n 0, 1) := by decide +kernel
theorem dX3_isEighth_1 : decode cX3_isEighth 1 = .ok (.getfield 23, 3) := by decide +kernel
theorem dX3_isEighth_4 : decode cX3_isEighth 4 = .ok (.iload_n 1, 1) := by decide +kernel
theorem dX3_isEighth_5 : decode cX3_isEighth 5 = .ok (.iconst 1, 1) := by decide +kernel
theorem dX3_isEighth_6 : decode cX3_isEighth 6 = .ok (.invokevirtual 51, 3) := by decide +kernel
theorem dX3_isEighth_9 : decode cX3_isEighth 9 = .ok (.bipush 7, 2) := by decide +kernel
theorem dX3_isEighth_11 : decode cX3_isEighth 11 = .ok (.if_icmp .lt 7, 3) := by decide +kernel
theorem dX3_isEighth_14 : decode cX3_isEighth 14 = .ok (.iconst 1, 1) := by decide +kernel
theorem dX3_isEighth_15 : decode cX3_isEighth 15 = .ok (.goto 4, 3) := by decide +kernel
theorem dX3_isEighth_18 : decode cX3_isEighth 18 = .ok (.iconst 0, 1) := by decide +kernel
theorem dX3_isEighth_19 : decode cX3_isEighth 19 = .ok (.ireturn, 1) := by decide +kernel
theorem dX3_hasTooLittleNeed_0 : decode cX3_hasTooLittleNeed 0 = .ok (.aload_n 0, 1) := by decide +kernel
theorem dX3_hasTooLittleNeed_1 : decode cX3_hasTooLittleNeed 1 = .ok (.getfield 23, 3) := by decide +kernel
theorem dX3_hasTooLittleNeed_4 : decode cX3_hasTooLittleNeed 4 = .ok (.iload_n 1, 1) := by decide +kernel
theorem dX3_hasTooLittleNeed_5 : decode cX3_hasTooLittleNeed 5 = .ok (.iconst 0, 1) := by decide +kernel
theorem dX3_hasTooLittleNeed_6 : decode cX3_hasTooLittleNeed 6 = .ok (.invokevirtual 51, 3) := by decide +kernel
theorem dX3_hasTooLittleNeed_9 : decode cX3_hasTooLittleNeed 9 = .ok (.aload_n 0, 1) := by decide +kernel
theorem dX3_hasTooLittleNeed_10 : decode cX3_hasTooLittleNeed 10 = .ok (.getfield 27, 3) := by decide +kernel
theorem dX3_hasTooLittleNeed_13 : decode cX3_hasTooLittleNeed 13 = .ok (.iconst 0, 1) := by decide +kernel
theorem dX3_hasTooLittleNeed_14 : decode cX3_hasTooLittleNeed 14 = .ok (.bipush 9, 2) := by decide +kernel
theorem dX3_hasTooLittleNeed_16 : decode cX3_hasTooLittleNeed 16 = .ok (.invokevirtual 51, 3) := by decide +kernel
theorem dX3_hasTooLittleNeed_19 : decode cX3_hasTooLittleNeed 19 = .ok (.if_icmp .ge 7, 3) := by decide +kernel
theorem dX3_hasTooLittleNeed_22 : decode cX3_hasTooLittleNeed 22 = .ok (.iconst 1, 1) := by decide +kernel
theorem dX3_hasTooLittleNeed_23 : decode cX3_hasTooLittleNeed 23 = .ok (.goto 4, 3) := by decide +kernel
theorem dX3_hasTooLittleNeed_26 : decode cX3_hasTooLittleNeed 26 = .ok (.iconst 0, 1) := by decide +kernel
theorem dX3_hasTooLittleNeed_27 : decode cX3_hasTooLittleNeed 27 = .ok (.ireturn, 1) := by decide +kernel
theorem dX3_wouldBePutOut_0 : decode cX3_wouldBePutOut 0 = .ok (.aload_n 0, 1) := by decide +kernel
theorem dX3_wouldBePutOut_1 : decode cX3_wouldBePutOut 1 = .ok (.iload_n 1, 1) := by decide +kernel
theorem dX3_wouldBePutOut_2 : decode cX3_wouldBePutOut 2 = .ok (.iload_n 2, 1) := by decide +kernel
theorem dX3_wouldBePutOut_3 : decode cX3_wouldBePutOut 3 = .ok (.iload_n 3, 1) := by decide +kernel
theorem dX3_wouldBePutOut_4 : decode cX3_wouldBePutOut 4 = .ok (.invokevirtual 81, 3) := by decide +kernel
theorem dX3_wouldBePutOut_7 : decode cX3_wouldBePutOut 7 = .ok (.istore 4, 2) := by decide +kernel
theorem dX3_wouldBePutOut_9 : decode cX3_wouldBePutOut 9 = .ok (.iload 4, 2) := by decide +kernel
theorem dX3_wouldBePutOut_11 : decode cX3_wouldBePutOut 11 = .ok (.bipush 10, 2) := by decide +kernel
theorem dX3_wouldBePutOut_13 : decode cX3_wouldBePutOut 13 = .ok (.if_icmp .ge 7, 3) := by decide +kernel
theorem dX3_wouldBePutOut_16 : decode cX3_wouldBePutOut 16 = .ok (.iconst 0, 1) := by decide +kernel
theorem dX3_wouldBePutOut_17 : decode cX3_wouldBePutOut 17 = .ok (.goto 17, 3) := by decide +kernel
theorem dX3_wouldBePutOut_20 : decode cX3_wouldBePutOut 20 = .ok (.aload_n 0, 1) := by decide +kernel
theorem dX3_wouldBePutOut_21 : decode cX3_wouldBePutOut 21 = .ok (.getfield 12, 3) := by decide +kernel
theorem dX3_wouldBePutOut_24 : decode cX3_wouldBePutOut 24 = .ok (.iload 4, 2) := by decide +kernel
theorem dX3_wouldBePutOut_26 : decode cX3_wouldBePutOut 26 = .ok (.bipush 10, 2) := by decide +kernel
theorem dX3_wouldBePutOut_28 : decode cX3_wouldBePutOut 28 = .ok (.isub, 1) := by decide +kernel
theorem dX3_wouldBePutOut_29 : decode cX3_wouldBePutOut 29 = .ok (.iload_n 2, 1) := by decide +kernel
theorem dX3_wouldBePutOut_30 : decode cX3_wouldBePutOut 30 = .ok (.iload_n 3, 1) := by decide +kernel
theorem dX3_wouldBePutOut_31 : decode cX3_wouldBePutOut 31 = .ok (.invokevirtual 84, 3) := by decide +kernel
theorem dX3_wouldBePutOut_34 : decode cX3_wouldBePutOut 34 = .ok (.ireturn, 1) := by decide +kernel
theorem dX3_takeAsking_0 : decode cX3_takeAsking 0 = .ok (.aload_n 0, 1) := by decide +kernel
theorem dX3_takeAsking_1 : decode cX3_takeAsking 1 = .ok (.iload_n 1, 1) := by decide +kernel
theorem dX3_takeAsking_2 : decode cX3_takeAsking 2 = .ok (.iload_n 2, 1) := by decide +kernel
theorem dX3_takeAsking_3 : decode cX3_takeAsking 3 = .ok (.iload_n 3, 1) := by decide +kernel
theorem dX3_takeAsking_4 : decode cX3_takeAsking 4 = .ok (.invokevirtual 81, 3) := by decide +kernel
theorem dX3_takeAsking_7 : decode cX3_takeAsking 7 = .ok (.istore 4, 2) := by decide +kernel
theorem dX3_takeAsking_9 : decode cX3_takeAsking 9 = .ok (.iload 4, 2) := by decide +kernel
theorem dX3_takeAsking_11 : decode cX3_takeAsking 11 = .ok (.bipush 10, 2) := by decide +kernel
theorem dX3_takeAsking_13 : decode cX3_takeAsking 13 = .ok (.if_icmp .ge 13, 3) := by decide +kernel
theorem dX3_takeAsking_16 : decode cX3_takeAsking 16 = .ok (.aload_n 0, 1) := by decide +kernel
theorem dX3_takeAsking_17 : decode cX3_takeAsking 17 = .ok (.iload_n 1, 1) := by decide +kernel
theorem dX3_takeAsking_18 : decode cX3_takeAsking 18 = .ok (.iload 4, 2) := by decide +kernel
theorem dX3_takeAsking_20 : decode cX3_takeAsking 20 = .ok (.invokevirtual 87, 3) := by decide +kernel
theorem dX3_takeAsking_23 : decode cX3_takeAsking 23 = .ok (.goto 15, 3) := by decide +kernel
theorem dX3_takeAsking_26 : decode cX3_takeAsking 26 = .ok (.aload_n 0, 1) := by decide +kernel
theorem dX3_takeAsking_27 : decode cX3_takeAsking 27 = .ok (.iload_n 1, 1) := by decide +kernel
theorem dX3_takeAsking_28 : decode cX3_takeAsking 28 = .ok (.iload 4, 2) := by decide +kernel
theorem dX3_takeAsking_30 : decode cX3_takeAsking 30 = .ok (.bipush 10, 2) := by decide +kernel
theorem dX3_takeAsking_32 : decode cX3_takeAsking 32 = .ok (.isub, 1) := by decide +kernel
theorem dX3_takeAsking_33 : decode cX3_takeAsking 33 = .ok (.iload_n 2, 1) := by decide +kernel
theorem dX3_takeAsking_34 : decode cX3_takeAsking 34 = .ok (.iload_n 3, 1) := by decide +kernel
theorem dX3_takeAsking_35 : decode cX3_takeAsking 35 = .ok (.invokevirtual 90, 3) := by decide +kernel
theorem dX3_takeAsking_38 : decode cX3_takeAsking 38 = .ok (.iload 4, 2) := by decide +kernel
theorem dX3_takeAsking_40 : decode cX3_takeAsking 40 = .ok (.ireturn, 1) := by decide +kernel
theorem dX3_refuse_0 : decode cX3_refuse 0 = .ok (.aload_n 0, 1) := by decide +kernel
theorem dX3_refuse_1 : decode cX3_refuse 1 = .ok (.getfield 30, 3) := by decide +kernel
theorem dX3_refuse_4 : decode cX3_refuse 4 = .ok (.iconst 0, 1) := by decide +kernel
theorem dX3_refuse_5 : decode cX3_refuse 5 = .ok (.iload_n 2, 1) := by decide +kernel
theorem dX3_refuse_6 : decode cX3_refuse 6 = .ok (.iconst 1, 1) := by decide +kernel
theorem dX3_refuse_7 : decode cX3_refuse 7 = .ok (.invokevirtual 94, 3) := by decide +kernel
theorem dX3_refuse_10 : decode cX3_refuse 10 = .ok (.aload_n 0, 1) := by decide +kernel
theorem dX3_refuse_11 : decode cX3_refuse 11 = .ok (.getfield 27, 3) := by decide +kernel
theorem dX3_refuse_14 : decode cX3_refuse 14 = .ok (.iconst 0, 1) := by decide +kernel
theorem dX3_refuse_15 : decode cX3_refuse 15 = .ok (.iconst 5, 1) := by decide +kernel
theorem dX3_refuse_16 : decode cX3_refuse 16 = .ok (.iconst 1, 1) := by decide +kernel
theorem dX3_refuse_17 : decode cX3_refuse 17 = .ok (.invokevirtual 94, 3) := by decide +kernel
theorem dX3_refuse_20 : decode cX3_refuse 20 = .ok (.iload_n 2, 1) := by decide +kernel
theorem dX3_refuse_21 : decode cX3_refuse 21 = .ok (.iconst 3, 1) := by decide +kernel
theorem dX3_refuse_22 : decode cX3_refuse 22 = .ok (.if_icmp .eq 8, 3) := by decide +kernel
theorem dX3_refuse_25 : decode cX3_refuse 25 = .ok (.iload_n 2, 1) := by decide +kernel
theorem dX3_refuse_26 : decode cX3_refuse 26 = .ok (.iconst 4, 1) := by decide +kernel
theorem dX3_refuse_27 : decode cX3_refuse 27 = .ok (.if_icmp .ne 8, 3) := by decide +kernel
theorem dX3_refuse_30 : decode cX3_refuse 30 = .ok (.aload_n 0, 1) := by decide +kernel
theorem dX3_refuse_31 : decode cX3_refuse 31 = .ok (.iload_n 1, 1) := by decide +kernel
theorem dX3_refuse_32 : decode cX3_refuse 32 = .ok (.invokevirtual 97, 3) := by decide +kernel
theorem dX3_refuse_35 : decode cX3_refuse 35 = .ok (.return_, 1) := by decide +kernel
theorem dX3_countRefusal_0 : decode cX3_countRefusal 0 = .ok (.aload_n 0, 1) := by decide +kernel
theorem dX3_countRefusal_1 : decode cX3_countRefusal 1 = .ok (.getfield 23, 3) := by decide +kernel
theorem dX3_countRefusal_4 : decode cX3_countRefusal 4 = .ok (.iload_n 1, 1) := by decide +kernel
theorem dX3_countRefusal_5 : decode cX3_countRefusal 5 = .ok (.iconst 1, 1) := by decide +kernel
theorem dX3_countRefusal_6 : decode cX3_countRefusal 6 = .ok (.invokevirtual 51, 3) := by decide +kernel
theorem dX3_countRefusal_9 : decode cX3_countRefusal 9 = .ok (.iconst 1, 1) := by decide +kernel
theorem dX3_countRefusal_10 : decode cX3_countRefusal 10 = .ok (.iadd, 1) := by decide +kernel
theorem dX3_countRefusal_11 : decode cX3_countRefusal 11 = .ok (.istore_n 2, 1) := by decide +kernel
theorem dX3_countRefusal_12 : decode cX3_countRefusal 12 = .ok (.aload_n 0, 1) := by decide +kernel
theorem dX3_countRefusal_13 : decode cX3_countRefusal 13 = .ok (.getfield 23, 3) := by decide +kernel
theorem dX3_countRefusal_16 : decode cX3_countRefusal 16 = .ok (.iload_n 1, 1) := by decide +kernel
theorem dX3_countRefusal_17 : decode cX3_countRefusal 17 = .ok (.iconst 1, 1) := by decide +kernel
theorem dX3_countRefusal_18 : decode cX3_countRefusal 18 = .ok (.bipush 7, 2) := by decide +kernel
theorem dX3_countRefusal_20 : decode cX3_countRefusal 20 = .ok (.iload_n 2, 1) := by decide +kernel
theorem dX3_countRefusal_21 : decode cX3_countRefusal 21 = .ok (.invokestatic 101, 3) := by decide +kernel
theorem dX3_countRefusal_24 : decode cX3_countRefusal 24 = .ok (.invokevirtual 33, 3) := by decide +kernel
theorem dX3_countRefusal_27 : decode cX3_countRefusal 27 = .ok (.return_, 1) := by decide +kernel
theorem dX3_grant_0 : decode cX3_grant 0 = .ok (.aload_n 0, 1) := by decide +kernel
theorem dX3_grant_1 : decode cX3_grant 1 = .ok (.iload_n 1, 1) := by decide +kernel
theorem dX3_grant_2 : decode cX3_grant 2 = .ok (.invokevirtual 69, 3) := by decide +kernel
theorem dX3_grant_5 : decode cX3_grant 5 = .ok (.ifCond .eq 53, 3) := by decide +kernel
theorem dX3_grant_8 : decode cX3_grant 8 = .ok (.aload_n 0, 1) := by decide +kernel
theorem dX3_grant_9 : decode cX3_grant 9 = .ok (.getfield 23, 3) := by decide +kernel
theorem dX3_grant_12 : decode cX3_grant 12 = .ok (.iload_n 1, 1) := by decide +kernel
theorem dX3_grant_13 : decode cX3_grant 13 = .ok (.bipush 6, 2) := by decide +kernel
theorem dX3_grant_15 : decode cX3_grant 15 = .ok (.iconst 1, 1) := by decide +kernel
theorem dX3_grant_16 : decode cX3_grant 16 = .ok (.invokevirtual 94, 3) := by decide +kernel
theorem dX3_grant_19 : decode cX3_grant 19 = .ok (.aload_n 0, 1) := by decide +kernel
theorem dX3_grant_20 : decode cX3_grant 20 = .ok (.aload_n 0, 1) := by decide +kernel
theorem dX3_grant_21 : decode cX3_grant 21 = .ok (.getfield 12, 3) := by decide +kernel
theorem dX3_grant_24 : decode cX3_grant 24 = .ok (.iload_n 2, 1) := by decide +kernel
theorem dX3_grant_25 : decode cX3_grant 25 = .ok (.iload_n 3, 1) := by decide +kernel
theorem dX3_grant_26 : decode cX3_grant 26 = .ok (.iload 4, 2) := by decide +kernel
theorem dX3_grant_28 : decode cX3_grant 28 = .ok (.invokevirtual 84, 3) := by decide +kernel
theorem dX3_grant_31 : decode cX3_grant 31 = .ok (.invokevirtual 106, 3) := by decide +kernel
theorem dX3_grant_34 : decode cX3_grant 34 = .ok (.aload_n 0, 1) := by decide +kernel
theorem dX3_grant_35 : decode cX3_grant 35 = .ok (.getfield 27, 3) := by decide +kernel
theorem dX3_grant_38 : decode cX3_grant 38 = .ok (.iconst 0, 1) := by decide +kernel
theorem dX3_grant_39 : decode cX3_grant 39 = .ok (.bipush 7, 2) := by decide +kernel
theorem dX3_grant_41 : decode cX3_grant 41 = .ok (.aload_n 0, 1) := by decide +kernel
theorem dX3_grant_42 : decode cX3_grant 42 = .ok (.getfield 12, 3) := by decide +kernel
theorem dX3_grant_45 : decode cX3_grant 45 = .ok (.iload_n 2, 1) := by decide +kernel
theorem dX3_grant_46 : decode cX3_grant 46 = .ok (.iload_n 3, 1) := by decide +kernel
theorem dX3_grant_47 : decode cX3_grant 47 = .ok (.iload 4, 2) := by decide +kernel
theorem dX3_grant_49 : decode cX3_grant 49 = .ok (.invokevirtual 109, 3) := by decide +kernel
theorem dX3_grant_52 : decode cX3_grant 52 = .ok (.invokevirtual 94, 3) := by decide +kernel
theorem dX3_grant_55 : decode cX3_grant 55 = .ok (.goto 32, 3) := by decide +kernel
theorem dX3_grant_58 : decode cX3_grant 58 = .ok (.aload_n 0, 1) := by decide +kernel
theorem dX3_grant_59 : decode cX3_grant 59 = .ok (.iload_n 1, 1) := by decide +kernel
theorem dX3_grant_60 : decode cX3_grant 60 = .ok (.invokevirtual 72, 3) := by decide +kernel
theorem dX3_grant_63 : decode cX3_grant 63 = .ok (.ifCond .eq 24, 3) := by decide +kernel
theorem dX3_grant_66 : decode cX3_grant 66 = .ok (.aload_n 0, 1) := by decide +kernel
theorem dX3_grant_67 : decode cX3_grant 67 = .ok (.getfield 23, 3) := by decide +kernel
theorem dX3_grant_70 : decode cX3_grant 70 = .ok (.iload_n 1, 1) := by decide +kernel
theorem dX3_grant_71 : decode cX3_grant 71 = .ok (.iconst 2, 1) := by decide +kernel
theorem dX3_grant_72 : decode cX3_grant 72 = .ok (.iconst (-1), 1) := by decide +kernel
theorem dX3_grant_73 : decode cX3_grant 73 = .ok (.invokevirtual 94, 3) := by decide +kernel
theorem dX3_grant_76 : decode cX3_grant 76 = .ok (.aload_n 0, 1) := by decide +kernel
theorem dX3_grant_77 : decode cX3_grant 77 = .ok (.getfield 27, 3) := by decide +kernel
theorem dX3_grant_80 : decode cX3_grant 80 = .ok (.iconst 0, 1) := by decide +kernel
theorem dX3_grant_81 : decode cX3_grant 81 = .ok (.bipush 8, 2) := by decide +kernel
theorem dX3_grant_83 : decode cX3_grant 83 = .ok (.iconst 1, 1) := by decide +kernel
theorem dX3_grant_84 : decode cX3_grant 84 = .ok (.invokevirtual 94, 3) := by decide +kernel
theorem dX3_grant_87 : decode cX3_grant 87 = .ok (.aload_n 0, 1) := by decide +kernel
theorem dX3_grant_88 : decode cX3_grant 88 = .ok (.getfield 23, 3) := by decide +kernel
theorem dX3_grant_91 : decode cX3_grant 91 = .ok (.iload_n 1, 1) := by decide +kernel
theorem dX3_grant_92 : decode cX3_grant 92 = .ok (.iconst 1, 1) := by decide +kernel
theorem dX3_grant_93 : decode cX3_grant 93 = .ok (.iconst 0, 1) := by decide +kernel
theorem dX3_grant_94 : decode cX3_grant 94 = .ok (.invokevirtual 33, 3) := by decide +kernel
theorem dX3_grant_97 : decode cX3_grant 97 = .ok (.aload_n 0, 1) := by decide +kernel
theorem dX3_grant_98 : decode cX3_grant 98 = .ok (.getfield 12, 3) := by decide +kernel
theorem dX3_grant_101 : decode cX3_grant 101 = .ok (.iload_n 1, 1) := by decide +kernel
theorem dX3_grant_102 : decode cX3_grant 102 = .ok (.iload_n 2, 1) := by decide +kernel
theorem dX3_grant_103 : decode cX3_grant 103 = .ok (.iload_n 3, 1) := by decide +kernel
theorem dX3_grant_104 : decode cX3_grant 104 = .ok (.iload 4, 2) := by decide +kernel
theorem dX3_grant_106 : decode cX3_grant 106 = .ok (.invokevirtual 112, 3) := by decide +kernel
theorem dX3_grant_109 : decode cX3_grant 109 = .ok (.aload_n 0, 1) := by decide +kernel
theorem dX3_grant_110 : decode cX3_grant 110 = .ok (.getfield 27, 3) := by decide +kernel
theorem dX3_grant_113 : decode cX3_grant 113 = .ok (.iconst 0, 1) := by decide +kernel
theorem dX3_grant_114 : decode cX3_grant 114 = .ok (.iconst 4, 1) := by decide +kernel
theorem dX3_grant_115 : decode cX3_grant 115 = .ok (.iconst 1, 1) := by decide +kernel
theorem dX3_grant_116 : decode cX3_grant 116 = .ok (.invokevirtual 94, 3) := by decide +kernel
theorem dX3_grant_119 : decode cX3_grant 119 = .ok (.return_, 1) := by decide +kernel
theorem dX3_countPutOut_0 : decode cX3_countPutOut 0 = .ok (.aload_n 0, 1) := by decide +kernel
theorem dX3_countPutOut_1 : decode cX3_countPutOut 1 = .ok (.getfield 27, 3) := by decide +kernel
theorem dX3_countPutOut_4 : decode cX3_countPutOut 4 = .ok (.iconst 0, 1) := by decide +kernel
theorem dX3_countPutOut_5 : decode cX3_countPutOut 5 = .ok (.bipush 6, 2) := by decide +kernel
theorem dX3_countPutOut_7 : decode cX3_countPutOut 7 = .ok (.iload_n 1, 1) := by decide +kernel
theorem dX3_countPutOut_8 : decode cX3_countPutOut 8 = .ok (.invokestatic 115, 3) := by decide +kernel
theorem dX3_countPutOut_11 : decode cX3_countPutOut 11 = .ok (.invokevirtual 94, 3) := by decide +kernel
theorem dX3_countPutOut_14 : decode cX3_countPutOut 14 = .ok (.iconst 0, 1) := by decide +kernel
theorem dX3_countPutOut_15 : decode cX3_countPutOut 15 = .ok (.istore_n 2, 1) := by decide +kernel
theorem dX3_countPutOut_16 : decode cX3_countPutOut 16 = .ok (.iload_n 2, 1) := by decide +kernel
theorem dX3_countPutOut_17 : decode cX3_countPutOut 17 = .ok (.bipush 10, 2) := by decide +kernel
theorem dX3_countPutOut_19 : decode cX3_countPutOut 19 = .ok (.if_icmp .ge 33, 3) := by decide +kernel
theorem dX3_countPutOut_22 : decode cX3_countPutOut 22 = .ok (.iload_n 1, 1) := by decide +kernel
theorem dX3_countPutOut_23 : decode cX3_countPutOut 23 = .ok (.iload_n 2, 1) := by decide +kernel
theorem dX3_countPutOut_24 : decode cX3_countPutOut 24 = .ok (.ishr, 1) := by decide +kernel
theorem dX3_countPutOut_25 : decode cX3_countPutOut 25 = .ok (.iconst 1, 1) := by decide +kernel
theorem dX3_countPutOut_26 : decode cX3_countPutOut 26 = .ok (.iand, 1) := by decide +kernel
theorem dX3_countPutOut_27 : decode cX3_countPutOut 27 = .ok (.iconst 1, 1) := by decide +kernel
theorem dX3_countPutOut_28 : decode cX3_countPutOut 28 = .ok (.if_icmp .ne 18, 3) := by decide +kernel
theorem dX3_countPutOut_31 : decode cX3_countPutOut 31 = .ok (.aload_n 0, 1) := by decide +kernel
theorem dX3_countPutOut_32 : decode cX3_countPutOut 32 = .ok (.getfield 23, 3) := by decide +kernel
theorem dX3_countPutOut_35 : decode cX3_countPutOut 35 = .ok (.iload_n 2, 1) := by decide +kernel
theorem dX3_countPutOut_36 : decode cX3_countPutOut 36 = .ok (.iconst 5, 1) := by decide +kernel
theorem dX3_countPutOut_37 : decode cX3_countPutOut 37 = .ok (.iconst 1, 1) := by decide +kernel
theorem dX3_countPutOut_38 : decode cX3_countPutOut 38 = .ok (.invokevirtual 94, 3) := by decide +kernel
theorem dX3_countPutOut_41 : decode cX3_countPutOut 41 = .ok (.aload_n 0, 1) := by decide +kernel
theorem dX3_countPutOut_42 : decode cX3_countPutOut 42 = .ok (.iload_n 2, 1) := by decide +kernel
theorem dX3_countPutOut_43 : decode cX3_countPutOut 43 = .ok (.invokevirtual 97, 3) := by decide +kernel
theorem dX3_countPutOut_46 : decode cX3_countPutOut 46 = .ok (.iinc 2 1, 3) := by decide +kernel
theorem dX3_countPutOut_49 : decode cX3_countPutOut 49 = .ok (.goto (-33), 3) := by decide +kernel
theorem dX3_countPutOut_52 : decode cX3_countPutOut 52 = .ok (.return_, 1) := by decide +kernel
theorem dX3_takeBack_0 : decode cX3_takeBack 0 = .ok (.aload_n 0, 1) := by decide +kernel
theorem dX3_takeBack_1 : decode cX3_takeBack 1 = .ok (.getfield 12, 3) := by decide +kernel
theorem dX3_takeBack_4 : decode cX3_takeBack 4 = .ok (.iload_n 1, 1) := by decide +kernel
theorem dX3_takeBack_5 : decode cX3_takeBack 5 = .ok (.iload_n 2, 1) := by decide +kernel
theorem dX3_takeBack_6 : decode cX3_takeBack 6 = .ok (.invokevirtual 121, 3) := by decide +kernel
theorem dX3_takeBack_9 : decode cX3_takeBack 9 = .ok (.istore_n 3, 1) := by decide +kernel
theorem dX3_takeBack_10 : decode cX3_takeBack 10 = .ok (.iload_n 3, 1) := by decide +kernel
theorem dX3_takeBack_11 : decode cX3_takeBack 11 = .ok (.iconst (-1), 1) := by decide +kernel
theorem dX3_takeBack_12 : decode cX3_takeBack 12 = .ok (.if_icmp .eq 14, 3) := by decide +kernel
theorem dX3_takeBack_15 : decode cX3_takeBack 15 = .ok (.aload_n 0, 1) := by decide +kernel
theorem dX3_takeBack_16 : decode cX3_takeBack 16 = .ok (.getfield 12, 3) := by decide +kernel
theorem dX3_takeBack_19 : decode cX3_takeBack 19 = .ok (.iload_n 2, 1) := by decide +kernel
theorem dX3_takeBack_20 : decode cX3_takeBack 20 = .ok (.invokevirtual 65, 3) := by decide +kernel
theorem dX3_takeBack_23 : decode cX3_takeBack 23 = .ok (.ifCond .eq 16, 3) := by decide +kernel
theorem dX3_takeBack_26 : decode cX3_takeBack 26 = .ok (.aload_n 0, 1) := by decide +kernel
theorem dX3_takeBack_27 : decode cX3_takeBack 27 = .ok (.getfield 27, 3) := by decide +kernel
theorem dX3_takeBack_30 : decode cX3_takeBack 30 = .ok (.iconst 0, 1) := by decide +kernel
theorem dX3_takeBack_31 : decode cX3_takeBack 31 = .ok (.bipush 10, 2) := by decide +kernel
theorem dX3_takeBack_33 : decode cX3_takeBack 33 = .ok (.iconst 1, 1) := by decide +kernel
theorem dX3_takeBack_34 : decode cX3_takeBack 34 = .ok (.invokevirtual 94, 3) := by decide +kernel
theorem dX3_takeBack_37 : decode cX3_takeBack 37 = .ok (.iconst (-1), 1) := by decide +kernel
theorem dX3_takeBack_38 : decode cX3_takeBack 38 = .ok (.ireturn, 1) := by decide +kernel
theorem dX3_takeBack_39 : decode cX3_takeBack 39 = .ok (.aload_n 0, 1) := by decide +kernel
theorem dX3_takeBack_40 : decode cX3_takeBack 40 = .ok (.getfield 12, 3) := by decide +kernel
theorem dX3_takeBack_43 : decode cX3_takeBack 43 = .ok (.iload_n 3, 1) := by decide +kernel
theorem dX3_takeBack_44 : decode cX3_takeBack 44 = .ok (.iload_n 2, 1) := by decide +kernel
theorem dX3_takeBack_45 : decode cX3_takeBack 45 = .ok (.invokevirtual 124, 3) := by decide +kernel
theorem dX3_takeBack_48 : decode cX3_takeBack 48 = .ok (.ireturn, 1) := by decide +kernel
theorem dX3_giveFavour_0 : decode cX3_giveFavour 0 = .ok (.aload_n 0, 1) := by decide +kernel
theorem dX3_giveFavour_1 : decode cX3_giveFavour 1 = .ok (.getfield 23, 3) := by decide +kernel
theorem dX3_giveFavour_4 : decode cX3_giveFavour 4 = .ok (.iload_n 1, 1) := by decide +kernel
theorem dX3_giveFavour_5 : decode cX3_giveFavour 5 = .ok (.iconst 2, 1) := by decide +kernel
theorem dX3_giveFavour_6 : decode cX3_giveFavour 6 = .ok (.invokevirtual 51, 3) := by decide +kernel
theorem dX3_giveFavour_9 : decode cX3_giveFavour 9 = .ok (.iconst 3, 1) := by decide +kernel
theorem dX3_giveFavour_10 : decode cX3_giveFavour 10 = .ok (.if_icmp .lt 16, 3) := by decide +kernel
theorem dX3_giveFavour_13 : decode cX3_giveFavour 13 = .ok (.aload_n 0, 1) := by decide +kernel
theorem dX3_giveFavour_14 : decode cX3_giveFavour 14 = .ok (.getfield 27, 3) := by decide +kernel
theorem dX3_giveFavour_17 : decode cX3_giveFavour 17 = .ok (.iconst 0, 1) := by decide +kernel
theorem dX3_giveFavour_18 : decode cX3_giveFavour 18 = .ok (.bipush 10, 2) := by decide +kernel
theorem dX3_giveFavour_20 : decode cX3_giveFavour 20 = .ok (.iconst 1, 1) := by decide +kernel
theorem dX3_giveFavour_21 : decode cX3_giveFavour 21 = .ok (.invokevirtual 94, 3) := by decide +kernel
theorem dX3_giveFavour_24 : decode cX3_giveFavour 24 = .ok (.iconst (-1), 1) := by decide +kernel
theorem dX3_giveFavour_25 : decode cX3_giveFavour 25 = .ok (.ireturn, 1) := by decide +kernel
theorem dX3_giveFavour_26 : decode cX3_giveFavour 26 = .ok (.aload_n 0, 1) := by decide +kernel
theorem dX3_giveFavour_27 : decode cX3_giveFavour 27 = .ok (.getfield 23, 3) := by decide +kernel
theorem dX3_giveFavour_30 : decode cX3_giveFavour 30 = .ok (.iload_n 1, 1) := by decide +kernel
theorem dX3_giveFavour_31 : decode cX3_giveFavour 31 = .ok (.iconst 2, 1) := by decide +kernel
theorem dX3_giveFavour_32 : decode cX3_giveFavour 32 = .ok (.iconst 1, 1) := by decide +kernel
theorem dX3_giveFavour_33 : decode cX3_giveFavour 33 = .ok (.invokevirtual 94, 3) := by decide +kernel
theorem dX3_giveFavour_36 : decode cX3_giveFavour 36 = .ok (.aload_n 0, 1) := by decide +kernel
theorem dX3_giveFavour_37 : decode cX3_giveFavour 37 = .ok (.getfield 23, 3) := by decide +kernel
theorem dX3_giveFavour_40 : decode cX3_giveFavour 40 = .ok (.iload_n 1, 1) := by decide +kernel
theorem dX3_giveFavour_41 : decode cX3_giveFavour 41 = .ok (.iconst 2, 1) := by decide +kernel
theorem dX3_giveFavour_42 : decode cX3_giveFavour 42 = .ok (.invokevirtual 51, 3) := by decide +kernel
theorem dX3_giveFavour_45 : decode cX3_giveFavour 45 = .ok (.ireturn, 1) := by decide +kernel
theorem dX3_changeNeed_0 : decode cX3_changeNeed 0 = .ok (.aload_n 0, 1) := by decide +kernel
theorem dX3_changeNeed_1 : decode cX3_changeNeed 1 = .ok (.getfield 23, 3) := by decide +kernel
theorem dX3_changeNeed_4 : decode cX3_changeNeed 4 = .ok (.iload_n 1, 1) := by decide +kernel
theorem dX3_changeNeed_5 : decode cX3_changeNeed 5 = .ok (.iconst 0, 1) := by decide +kernel
theorem dX3_changeNeed_6 : decode cX3_changeNeed 6 = .ok (.invokevirtual 51, 3) := by decide +kernel
theorem dX3_changeNeed_9 : decode cX3_changeNeed 9 = .ok (.istore_n 3, 1) := by decide +kernel
theorem dX3_changeNeed_10 : decode cX3_changeNeed 10 = .ok (.aload_n 0, 1) := by decide +kernel
theorem dX3_changeNeed_11 : decode cX3_changeNeed 11 = .ok (.getfield 23, 3) := by decide +kernel
theorem dX3_changeNeed_14 : decode cX3_changeNeed 14 = .ok (.iload_n 1, 1) := by decide +kernel
theorem dX3_changeNeed_15 : decode cX3_changeNeed 15 = .ok (.iconst 0, 1) := by decide +kernel
theorem dX3_changeNeed_16 : decode cX3_changeNeed 16 = .ok (.iload_n 2, 1) := by decide +kernel
theorem dX3_changeNeed_17 : decode cX3_changeNeed 17 = .ok (.invokevirtual 33, 3) := by decide +kernel
theorem dX3_changeNeed_20 : decode cX3_changeNeed 20 = .ok (.iload_n 3, 1) := by decide +kernel
theorem dX3_changeNeed_21 : decode cX3_changeNeed 21 = .ok (.ireturn, 1) := by decide +kernel
theorem dX3_changeSetting_0 : decode cX3_changeSetting 0 = .ok (.aload_n 0, 1) := by decide +kernel
theorem dX3_changeSetting_1 : decode cX3_changeSetting 1 = .ok (.getfield 27, 3) := by decide +kernel
theorem dX3_changeSetting_4 : decode cX3_changeSetting 4 = .ok (.iconst 0, 1) := by decide +kernel
theorem dX3_changeSetting_5 : decode cX3_changeSetting 5 = .ok (.bipush 9, 2) := by decide +kernel
theorem dX3_changeSetting_7 : decode cX3_changeSetting 7 = .ok (.invokevirtual 51, 3) := by decide +kernel
theorem dX3_changeSetting_10 : decode cX3_changeSetting 10 = .ok (.istore_n 2, 1) := by decide +kernel
theorem dX3_changeSetting_11 : decode cX3_changeSetting 11 = .ok (.aload_n 0, 1) := by decide +kernel
theorem dX3_changeSetting_12 : decode cX3_changeSetting 12 = .ok (.getfield 27, 3) := by decide +kernel
theorem dX3_changeSetting_15 : decode cX3_changeSetting 15 = .ok (.iconst 0, 1) := by decide +kernel
theorem dX3_changeSetting_16 : decode cX3_changeSetting 16 = .ok (.bipush 9, 2) := by decide +kernel
theorem dX3_changeSetting_18 : decode cX3_changeSetting 18 = .ok (.iload_n 1, 1) := by decide +kernel
theorem dX3_changeSetting_19 : decode cX3_changeSetting 19 = .ok (.invokevirtual 33, 3) := by decide +kernel
theorem dX3_changeSetting_22 : decode cX3_changeSetting 22 = .ok (.iload_n 2, 1) := by decide +kernel
theorem dX3_changeSetting_23 : decode cX3_changeSetting 23 = .ok (.ireturn, 1) := by decide +kernel
theorem dX3_canLetHourGo_0 : decode cX3_canLetHourGo 0 = .ok (.aload_n 0, 1) := by decide +kernel
theorem dX3_canLetHourGo_1 : decode cX3_canLetHourGo 1 = .ok (.getfield 27, 3) := by decide +kernel
theorem dX3_canLetHourGo_4 : decode cX3_canLetHourGo 4 = .ok (.iconst 0, 1) := by decide +kernel
theorem dX3_canLetHourGo_5 : decode cX3_canLetHourGo 5 = .ok (.iconst 1, 1) := by decide +kernel
theorem dX3_canLetHourGo_6 : decode cX3_canLetHourGo 6 = .ok (.invokevirtual 51, 3) := by decide +kernel
theorem dX3_canLetHourGo_9 : decode cX3_canLetHourGo 9 = .ok (.sipush 999, 3) := by decide +kernel
theorem dX3_canLetHourGo_12 : decode cX3_canLetHourGo 12 = .ok (.if_icmp .ge 7, 3) := by decide +kernel
theorem dX3_canLetHourGo_15 : decode cX3_canLetHourGo 15 = .ok (.iconst 1, 1) := by decide +kernel
theorem dX3_canLetHourGo_16 : decode cX3_canLetHourGo 16 = .ok (.goto 4, 3) := by decide +kernel
theorem dX3_canLetHourGo_19 : decode cX3_canLetHourGo 19 = .ok (.iconst 0, 1) := by decide +kernel
theorem dX3_canLetHourGo_20 : decode cX3_canLetHourGo 20 = .ok (.ireturn, 1) := by decide +kernel
theorem dX3_letHourGo_0 : decode cX3_letHourGo 0 = .ok (.aload_n 0, 1) := by decide +kernel
theorem dX3_letHourGo_1 : decode cX3_letHourGo 1 = .ok (.getfield 12, 3) := by decide +kernel
theorem dX3_letHourGo_4 : decode cX3_letHourGo 4 = .ok (.invokevirtual 44, 3) := by decide +kernel
theorem dX3_letHourGo_7 : decode cX3_letHourGo 7 = .ok (.istore_n 1, 1) := by decide +kernel
theorem dX3_letHourGo_8 : decode cX3_letHourGo 8 = .ok (.aload_n 0, 1) := by decide +kernel
theorem dX3_letHourGo_9 : decode cX3_letHourGo 9 = .ok (.getfield 12, 3) := by decide +kernel
theorem dX3_letHourGo_12 : decode cX3_letHourGo 12 = .ok (.iload_n 1, 1) := by decide +kernel
theorem dX3_letHourGo_13 : decode cX3_letHourGo 13 = .ok (.invokevirtual 127, 3) := by decide +kernel
theorem dX3_letHourGo_16 : decode cX3_letHourGo 16 = .ok (.istore_n 2, 1) := by decide +kernel
theorem dX3_letHourGo_17 : decode cX3_letHourGo 17 = .ok (.iconst 0, 1) := by decide +kernel
theorem dX3_letHourGo_18 : decode cX3_letHourGo 18 = .ok (.istore_n 3, 1) := by decide +kernel
theorem dX3_letHourGo_19 : decode cX3_letHourGo 19 = .ok (.iload_n 3, 1) := by decide +kernel
theorem dX3_letHourGo_20 : decode cX3_letHourGo 20 = .ok (.bipush 10, 2) := by decide +kernel
theorem dX3_letHourGo_22 : decode cX3_letHourGo 22 = .ok (.if_icmp .ge 28, 3) := by decide +kernel
theorem dX3_letHourGo_25 : decode cX3_letHourGo 25 = .ok (.aload_n 0, 1) := by decide +kernel
theorem dX3_letHourGo_26 : decode cX3_letHourGo 26 = .ok (.getfield 23, 3) := by decide +kernel
theorem dX3_letHourGo_29 : decode cX3_letHourGo 29 = .ok (.iload_n 3, 1) := by decide +kernel
theorem dX3_letHourGo_30 : decode cX3_letHourGo 30 = .ok (.iconst 4, 1) := by decide +kernel
theorem dX3_letHourGo_31 : decode cX3_letHourGo 31 = .ok (.aload_n 0, 1) := by decide +kernel
theorem dX3_letHourGo_32 : decode cX3_letHourGo 32 = .ok (.getfield 12, 3) := by decide +kernel
theorem dX3_letHourGo_35 : decode cX3_letHourGo 35 = .ok (.iload_n 3, 1) := by decide +kernel
theorem dX3_letHourGo_36 : decode cX3_letHourGo 36 = .ok (.iload_n 1, 1) := by decide +kernel
theorem dX3_letHourGo_37 : decode cX3_letHourGo 37 = .ok (.iconst 1, 1) := by decide +kernel
theorem dX3_letHourGo_38 : decode cX3_letHourGo 38 = .ok (.invokevirtual 55, 3) := by decide +kernel
theorem dX3_letHourGo_41 : decode cX3_letHourGo 41 = .ok (.invokevirtual 94, 3) := by decide +kernel
theorem dX3_letHourGo_44 : decode cX3_letHourGo 44 = .ok (.iinc 3 1, 3) := by decide +kernel
theorem dX3_letHourGo_47 : decode cX3_letHourGo 47 = .ok (.goto (-28), 3) := by decide +kernel
theorem dX3_letHourGo_50 : decode cX3_letHourGo 50 = .ok (.aload_n 0, 1) := by decide +kernel
theorem dX3_letHourGo_51 : decode cX3_letHourGo 51 = .ok (.getfield 27, 3) := by decide +kernel
theorem dX3_letHourGo_54 : decode cX3_letHourGo 54 = .ok (.iconst 0, 1) := by decide +kernel
theorem dX3_letHourGo_55 : decode cX3_letHourGo 55 = .ok (.iconst 3, 1) := by decide +kernel
theorem dX3_letHourGo_56 : decode cX3_letHourGo 56 = .ok (.iload_n 2, 1) := by decide +kernel
theorem dX3_letHourGo_57 : decode cX3_letHourGo 57 = .ok (.invokevirtual 94, 3) := by decide +kernel
theorem dX3_letHourGo_60 : decode cX3_letHourGo 60 = .ok (.aload_n 0, 1) := by decide +kernel
theorem dX3_letHourGo_61 : decode cX3_letHourGo 61 = .ok (.getfield 12, 3) := by decide +kernel
theorem dX3_letHourGo_64 : decode cX3_letHourGo 64 = .ok (.invokevirtual 130, 3) := by decide +kernel
theorem dX3_letHourGo_67 : decode cX3_letHourGo 67 = .ok (.aload_n 0, 1) := by decide +kernel
theorem dX3_letHourGo_68 : decode cX3_letHourGo 68 = .ok (.getfield 12, 3) := by decide +kernel
theorem dX3_letHourGo_71 : decode cX3_letHourGo 71 = .ok (.invokevirtual 44, 3) := by decide +kernel
theorem dX3_letHourGo_74 : decode cX3_letHourGo 74 = .ok (.ifCond .ne 13, 3) := by decide +kernel
theorem dX3_letHourGo_77 : decode cX3_letHourGo 77 = .ok (.aload_n 0, 1) := by decide +kernel
theorem dX3_letHourGo_78 : decode cX3_letHourGo 78 = .ok (.getfield 27, 3) := by decide +kernel
theorem dX3_letHourGo_81 : decode cX3_letHourGo 81 = .ok (.iconst 0, 1) := by decide +kernel
theorem dX3_letHourGo_82 : decode cX3_letHourGo 82 = .ok (.iconst 1, 1) := by decide +kernel
theorem dX3_letHourGo_83 : decode cX3_letHourGo 83 = .ok (.iconst 1, 1) := by decide +kernel
theorem dX3_letHourGo_84 : decode cX3_letHourGo 84 = .ok (.invokevirtual 94, 3) := by decide +kernel
theorem dX3_letHourGo_87 : decode cX3_letHourGo 87 = .ok (.iload_n 2, 1) := by decide +kernel
theorem dX3_letHourGo_88 : decode cX3_letHourGo 88 = .ok (.ireturn, 1) := by decide +kernel
theorem dX4_init_0 : decode cX4_init 0 = .ok (.aload_n 0, 1) := by decide +kernel
theorem dX4_init_1 : decode cX4_init 1 = .ok (.invokespecial 3, 3) := by decide +kernel
theorem dX4_init_4 : decode cX4_init 4 = .ok (.aload_n 0, 1) := by decide +kernel
theorem dX4_init_5 : decode cX4_init 5 = .ok (.new 9, 3) := by decide +kernel
theorem dX4_init_8 : decode cX4_init 8 = .ok (.dup, 1) := by decide +kernel
theorem dX4_init_9 : decode cX4_init 9 = .ok (.iconst 4, 1) := by decide +kernel
theorem dX4_init_10 : decode cX4_init 10 = .ok (.bipush 12, 2) := by decide +kernel
theorem dX4_init_12 : decode cX4_init 12 = .ok (.invokespecial 11, 3) := by decide +kernel
theorem dX4_init_15 : decode cX4_init 15 = .ok (.putfield 14, 3) := by decide +kernel
theorem dX4_init_18 : decode cX4_init 18 = .ok (.aload_n 0, 1) := by decide +kernel
theorem dX4_init_19 : decode cX4_init 19 = .ok (.getfield 14, 3) := by decide +kernel
theorem dX4_init_22 : decode cX4_init 22 = .ok (.iconst (-1), 1) := by decide +kernel
theorem dX4_init_23 : decode cX4_init 23 = .ok (.invokevirtual 20, 3) := by decide +kernel
theorem dX4_init_26 : decode cX4_init 26 = .ok (.return_, 1) := by decide +kernel
theorem dX4_copyFrom_0 : decode cX4_copyFrom 0 = .ok (.aload_n 0, 1) := by decide +kernel
theorem dX4_copyFrom_1 : decode cX4_copyFrom 1 = .ok (.getfield 14, 3) := by decide +kernel
theorem dX4_copyFrom_4 : decode cX4_copyFrom 4 = .ok (.aload_n 1, 1) := by decide +kernel
theorem dX4_copyFrom_5 : decode cX4_copyFrom 5 = .ok (.getfield 14, 3) := by decide +kernel
theorem dX4_copyFrom_8 : decode cX4_copyFrom 8 = .ok (.invokevirtual 24, 3) := by decide +kernel
theorem dX4_copyFrom_11 : decode cX4_copyFrom 11 = .ok (.aload_n 0, 1) := by decide +kernel
theorem dX4_copyFrom_12 : decode cX4_copyFrom 12 = .ok (.aload_n 1, 1) := by decide +kernel
theorem dX4_copyFrom_13 : decode cX4_copyFrom 13 = .ok (.getfield 28, 3) := by decide +kernel
theorem dX4_copyFrom_16 : decode cX4_copyFrom 16 = .ok (.putfield 28, 3) := by decide +kernel
theorem dX4_copyFrom_19 : decode cX4_copyFrom 19 = .ok (.return_, 1) := by decide +kernel
theorem dX4_goneHours_0 : decode cX4_goneHours 0 = .ok (.aload_n 0, 1) := by decide +kernel
theorem dX4_goneHours_1 : decode cX4_goneHours 1 = .ok (.getfield 28, 3) := by decide +kernel
theorem dX4_goneHours_4 : decode cX4_goneHours 4 = .ok (.ireturn, 1) := by decide +kernel
theorem dX4_wentBy_0 : decode cX4_wentBy 0 = .ok (.iload_n 1, 1) := by decide +kernel
theorem dX4_wentBy_1 : decode cX4_wentBy 1 = .ok (.aload_n 0, 1) := by decide +kernel
theorem dX4_wentBy_2 : decode cX4_wentBy 2 = .ok (.getfield 28, 3) := by decide +kernel
theorem dX4_wentBy_5 : decode cX4_wentBy 5 = .ok (.if_icmp .ge 7, 3) := by decide +kernel
theorem dX4_wentBy_8 : decode cX4_wentBy 8 = .ok (.iconst 1, 1) := by decide +kernel
theorem dX4_wentBy_9 : decode cX4_wentBy 9 = .ok (.goto 4, 3) := by decide +kernel
theorem dX4_wentBy_12 : decode cX4_wentBy 12 = .ok (.iconst 0, 1) := by decide +kernel
theorem dX4_wentBy_13 : decode cX4_wentBy 13 = .ok (.ireturn, 1) := by decide +kernel
theorem dX4_advance_0 : decode cX4_advance 0 = .ok (.aload_n 0, 1) := by decide +kernel
theorem dX4_advance_1 : decode cX4_advance 1 = .ok (.dup, 1) := by decide +kernel
theorem dX4_advance_2 : decode cX4_advance 2 = .ok (.getfield 28, 3) := by decide +kernel
theorem dX4_advance_5 : decode cX4_advance 5 = .ok (.iconst 1, 1) := by decide +kernel
theorem dX4_advance_6 : decode cX4_advance 6 = .ok (.iadd, 1) := by decide +kernel
theorem dX4_advance_7 : decode cX4_advance 7 = .ok (.putfield 28, 3) := by decide +kernel
theorem dX4_advance_10 : decode cX4_advance 10 = .ok (.aload_n 0, 1) := by decide +kernel
theorem dX4_advance_11 : decode cX4_advance 11 = .ok (.getfield 28, 3) := by decide +kernel
theorem dX4_advance_14 : decode cX4_advance 14 = .ok (.bipush 12, 2) := by decide +kernel
theorem dX4_advance_16 : decode cX4_advance 16 = .ok (.if_icmp .lt 16, 3) := by decide +kernel
theorem dX4_advance_19 : decode cX4_advance 19 = .ok (.aload_n 0, 1) := by decide +kernel
theorem dX4_advance_20 : decode cX4_advance 20 = .ok (.getfield 14, 3) := by decide +kernel
theorem dX4_advance_23 : decode cX4_advance 23 = .ok (.iconst (-1), 1) := by decide +kernel
theorem dX4_advance_24 : decode cX4_advance 24 = .ok (.invokevirtual 20, 3) := by decide +kernel
theorem dX4_advance_27 : decode cX4_advance 27 = .ok (.aload_n 0, 1) := by decide +kernel
theorem dX4_advance_28 : decode cX4_advance 28 = .ok (.iconst 0, 1) := by decide +kernel
theorem dX4_advance_29 : decode cX4_advance 29 = .ok (.putfield 28, 3) := by decide +kernel
theorem dX4_advance_32 : decode cX4_advance 32 = .ok (.return_, 1) := by decide +kernel
theorem dX4_holder_0 : decode cX4_holder 0 = .ok (.aload_n 0, 1) := by decide +kernel
theorem dX4_holder_1 : decode cX4_holder 1 = .ok (.getfield 14, 3) := by decide +kernel
theorem dX4_holder_4 : decode cX4_holder 4 = .ok (.iload_n 1, 1) := by decide +kernel
theorem dX4_holder_5 : decode cX4_holder 5 = .ok (.iload_n 2, 1) := by decide +kernel
theorem dX4_holder_6 : decode cX4_holder 6 = .ok (.invokevirtual 32, 3) := by decide +kernel
theorem dX4_holder_9 : decode cX4_holder 9 = .ok (.ireturn, 1) := by decide +kernel
theorem dX4_lend_0 : decode cX4_lend 0 = .ok (.iload_n 3, 1) := by decide +kernel
theorem dX4_lend_1 : decode cX4_lend 1 = .ok (.istore 5, 2) := by decide +kernel
theorem dX4_lend_3 : decode cX4_lend 3 = .ok (.iload 5, 2) := by decide +kernel
theorem dX4_lend_5 : decode cX4_lend 5 = .ok (.iload_n 3, 1) := by decide +kernel
theorem dX4_lend_6 : decode cX4_lend 6 = .ok (.iload 4, 2) := by decide +kernel
theorem dX4_lend_8 : decode cX4_lend 8 = .ok (.iadd, 1) := by decide +kernel
theorem dX4_lend_9 : decode cX4_lend 9 = .ok (.if_icmp .ge 20, 3) := by decide +kernel
theorem dX4_lend_12 : decode cX4_lend 12 = .ok (.aload_n 0, 1) := by decide +kernel
theorem dX4_lend_13 : decode cX4_lend 13 = .ok (.getfield 14, 3) := by decide +kernel
theorem dX4_lend_16 : decode cX4_lend 16 = .ok (.iload_n 2, 1) := by decide +kernel
theorem dX4_lend_17 : decode cX4_lend 17 = .ok (.iload 5, 2) := by decide +kernel
theorem dX4_lend_19 : decode cX4_lend 19 = .ok (.iload_n 1, 1) := by decide +kernel
theorem dX4_lend_20 : decode cX4_lend 20 = .ok (.invokevirtual 36, 3) := by decide +kernel
theorem dX4_lend_23 : decode cX4_lend 23 = .ok (.iinc 5 1, 3) := by decide +kernel
theorem dX4_lend_26 : decode cX4_lend 26 = .ok (.goto (-23), 3) := by decide +kernel
theorem dX4_lend_29 : decode cX4_lend 29 = .ok (.return_, 1) := by decide +kernel
theorem dX4_lentBeds_0 : decode cX4_lentBeds 0 = .ok (.iconst 0, 1) := by decide +kernel
theorem dX4_lentBeds_1 : decode cX4_lentBeds 1 = .ok (.istore_n 2, 1) := by decide +kernel
theorem dX4_lentBeds_2 : decode cX4_lentBeds 2 = .ok (.iconst 0, 1) := by decide +kernel
theorem dX4_lentBeds_3 : decode cX4_lentBeds 3 = .ok (.istore_n 3, 1) := by decide +kernel
theorem dX4_lentBeds_4 : decode cX4_lentBeds 4 = .ok (.iload_n 3, 1) := by decide +kernel
theorem dX4_lentBeds_5 : decode cX4_lentBeds 5 = .ok (.iconst 4, 1) := by decide +kernel
theorem dX4_lentBeds_6 : decode cX4_lentBeds 6 = .ok (.if_icmp .ge 30, 3) := by decide +kernel
theorem dX4_lentBeds_9 : decode cX4_lentBeds 9 = .ok (.iload_n 2, 1) := by decide +kernel
theorem dX4_lentBeds_10 : decode cX4_lentBeds 10 = .ok (.aload_n 0, 1) := by decide +kernel
theorem dX4_lentBeds_11 : decode cX4_lentBeds 11 = .ok (.getfield 14, 3) := by decide +kernel
theorem dX4_lentBeds_14 : decode cX4_lentBeds 14 = .ok (.iload_n 3, 1) := by decide +kernel
theorem dX4_lentBeds_15 : decode cX4_lentBeds 15 = .ok (.iload_n 1, 1) := by decide +kernel
theorem dX4_lentBeds_16 : decode cX4_lentBeds 16 = .ok (.invokevirtual 32, 3) := by decide +kernel
theorem dX4_lentBeds_19 : decode cX4_lentBeds 19 = .ok (.iconst (-1), 1) := by decide +kernel
theorem dX4_lentBeds_20 : decode cX4_lentBeds 20 = .ok (.if_icmp .eq 7, 3) := by decide +kernel
theorem dX4_lentBeds_23 : decode cX4_lentBeds 23 = .ok (.iconst 1, 1) := by decide +kernel
theorem dX4_lentBeds_24 : decode cX4_lentBeds 24 = .ok (.goto 4, 3) := by decide +kernel
theorem dX4_lentBeds_27 : decode cX4_lentBeds 27 = .ok (.iconst 0, 1) := by decide +kernel
theorem dX4_lentBeds_28 : decode cX4_lentBeds 28 = .ok (.iadd, 1) := by decide +kernel
theorem dX4_lentBeds_29 : decode cX4_lentBeds 29 = .ok (.istore_n 2, 1) := by decide +kernel
theorem dX4_lentBeds_30 : decode cX4_lentBeds 30 = .ok (.iinc 3 1, 3) := by decide +kernel
theorem dX4_lentBeds_33 : decode cX4_lentBeds 33 = .ok (.goto (-29), 3) := by decide +kernel
theorem dX4_lentBeds_36 : decode cX4_lentBeds 36 = .ok (.iload_n 2, 1) := by decide +kernel
theorem dX4_lentBeds_37 : decode cX4_lentBeds 37 = .ok (.ireturn, 1) := by decide +kernel
theorem dX4_mostLentBeds_0 : decode cX4_mostLentBeds 0 = .ok (.iconst 0, 1) := by decide +kernel
theorem dX4_mostLentBeds_1 : decode cX4_mostLentBeds 1 = .ok (.istore_n 1, 1) := by decide +kernel
theorem dX4_mostLentBeds_2 : decode cX4_mostLentBeds 2 = .ok (.iconst 0, 1) := by decide +kernel
theorem dX4_mostLentBeds_3 : decode cX4_mostLentBeds 3 = .ok (.istore_n 2, 1) := by decide +kernel
theorem dX4_mostLentBeds_4 : decode cX4_mostLentBeds 4 = .ok (.iload_n 2, 1) := by decide +kernel
theorem dX4_mostLentBeds_5 : decode cX4_mostLentBeds 5 = .ok (.bipush 12, 2) := by decide +kernel
theorem dX4_mostLentBeds_7 : decode cX4_mostLentBeds 7 = .ok (.if_icmp .ge 19, 3) := by decide +kernel
theorem dX4_mostLentBeds_10 : decode cX4_mostLentBeds 10 = .ok (.iload_n 1, 1) := by decide +kernel
theorem dX4_mostLentBeds_11 : decode cX4_mostLentBeds 11 = .ok (.aload_n 0, 1) := by decide +kernel
theorem dX4_mostLentBeds_12 : decode cX4_mostLentBeds 12 = .ok (.iload_n 2, 1) := by decide +kernel
theorem dX4_mostLentBeds_13 : decode cX4_mostLentBeds 13 = .ok (.invokevirtual 40, 3) := by decide +kernel
theorem dX4_mostLentBeds_16 : decode cX4_mostLentBeds 16 = .ok (.invokestatic 44, 3) := by decide +kernel
theorem dX4_mostLentBeds_19 : decode cX4_mostLentBeds 19 = .ok (.istore_n 1, 1) := by decide +kernel
theorem dX4_mostLentBeds_20 : decode cX4_mostLentBeds 20 = .ok (.iinc 2 1, 3) := by decide +kernel
theorem dX4_mostLentBeds_23 : decode cX4_mostLentBeds 23 = .ok (.goto (-19), 3) := by decide +kernel
theorem dX4_mostLentBeds_26 : decode cX4_mostLentBeds 26 = .ok (.iload_n 1, 1) := by decide +kernel
theorem dX4_mostLentBeds_27 : decode cX4_mostLentBeds 27 = .ok (.ireturn, 1) := by decide +kernel
theorem dX4_lentHours_0 : decode cX4_lentHours 0 = .ok (.iconst 0, 1) := by decide +kernel
theorem dX4_lentHours_1 : decode cX4_lentHours 1 = .ok (.istore_n 1, 1) := by decide +kernel
theorem dX4_lentHours_2 : decode cX4_lentHours 2 = .ok (.iconst 0, 1) := by decide +kernel
theorem dX4_lentHours_3 : decode cX4_lentHours 3 = .ok (.istore_n 2, 1) := by decide +kernel
theorem dX4_lentHours_4 : decode cX4_lentHours 4 = .ok (.iload_n 2, 1) := by decide +kernel
theorem dX4_lentHours_5 : decode cX4_lentHours 5 = .ok (.bipush 12, 2) := by decide +kernel
theorem dX4_lentHours_7 : decode cX4_lentHours 7 = .ok (.if_icmp .ge 17, 3) := by decide +kernel
theorem dX4_lentHours_10 : decode cX4_lentHours 10 = .ok (.iload_n 1, 1) := by decide +kernel
theorem dX4_lentHours_11 : decode cX4_lentHours 11 = .ok (.aload_n 0, 1) := by decide +kernel
theorem dX4_lentHours_12 : decode cX4_lentHours 12 = .ok (.iload_n 2, 1) := by decide +kernel
theorem dX4_lentHours_13 : decode cX4_lentHours 13 = .ok (.invokevirtual 40, 3) := by decide +kernel
theorem dX4_lentHours_16 : decode cX4_lentHours 16 = .ok (.iadd, 1) := by decide +kernel
theorem dX4_lentHours_17 : decode cX4_lentHours 17 = .ok (.istore_n 1, 1) := by decide +kernel
theorem dX4_lentHours_18 : decode cX4_lentHours 18 = .ok (.iinc 2 1, 3) := by decide +kernel
theorem dX4_lentHours_21 : decode cX4_lentHours 21 = .ok (.goto (-17), 3) := by decide +kernel
theorem dX4_lentHours_24 : decode cX4_lentHours 24 = .ok (.iload_n 1, 1) := by decide +kernel
theorem dX4_lentHours_25 : decode cX4_lentHours 25 = .ok (.ireturn, 1) := by decide +kernel
theorem dX4_bedOf_0 : decode cX4_bedOf 0 = .ok (.iconst 0, 1) := by decide +kernel
theorem dX4_bedOf_1 : decode cX4_bedOf 1 = .ok (.istore_n 3, 1) := by decide +kernel
theorem dX4_bedOf_2 : decode cX4_bedOf 2 = .ok (.iload_n 3, 1) := by decide +kernel
theorem dX4_bedOf_3 : decode cX4_bedOf 3 = .ok (.iconst 4, 1) := by decide +kernel
theorem dX4_bedOf_4 : decode cX4_bedOf 4 = .ok (.if_icmp .ge 24, 3) := by decide +kernel
theorem dX4_bedOf_7 : decode cX4_bedOf 7 = .ok (.aload_n 0, 1) := by decide +kernel
theorem dX4_bedOf_8 : decode cX4_bedOf 8 = .ok (.getfield 14, 3) := by decide +kernel
theorem dX4_bedOf_11 : decode cX4_bedOf 11 = .ok (.iload_n 3, 1) := by decide +kernel
theorem dX4_bedOf_12 : decode cX4_bedOf 12 = .ok (.iload_n 2, 1) := by decide +kernel
theorem dX4_bedOf_13 : decode cX4_bedOf 13 = .ok (.invokevirtual 32, 3) := by decide +kernel
theorem dX4_bedOf_16 : decode cX4_bedOf 16 = .ok (.iload_n 1, 1) := by decide +kernel
theorem dX4_bedOf_17 : decode cX4_bedOf 17 = .ok (.if_icmp .ne 5, 3) := by decide +kernel
theorem dX4_bedOf_20 : decode cX4_bedOf 20 = .ok (.iload_n 3, 1) := by decide +kernel
theorem dX4_bedOf_21 : decode cX4_bedOf 21 = .ok (.ireturn, 1) := by decide +kernel
theorem dX4_bedOf_22 : decode cX4_bedOf 22 = .ok (.iinc 3 1, 3) := by decide +kernel
theorem dX4_bedOf_25 : decode cX4_bedOf 25 = .ok (.goto (-23), 3) := by decide +kernel
theorem dX4_bedOf_28 : decode cX4_bedOf 28 = .ok (.iconst (-1), 1) := by decide +kernel
theorem dX4_bedOf_29 : decode cX4_bedOf 29 = .ok (.ireturn, 1) := by decide +kernel
theorem dX4_hoursWithBed_0 : decode cX4_hoursWithBed 0 = .ok (.iconst 0, 1) := by decide +kernel
theorem dX4_hoursWithBed_1 : decode cX4_hoursWithBed 1 = .ok (.istore 4, 2) := by decide +kernel
theorem dX4_hoursWithBed_3 : decode cX4_hoursWithBed 3 = .ok (.iload_n 2, 1) := by decide +kernel
theorem dX4_hoursWithBed_4 : decode cX4_hoursWithBed 4 = .ok (.istore 5, 2) := by decide +kernel
theorem dX4_hoursWithBed_6 : decode cX4_hoursWithBed 6 = .ok (.iload 5, 2) := by decide +kernel
theorem dX4_hoursWithBed_8 : decode cX4_hoursWithBed 8 = .ok (.iload_n 2, 1) := by decide +kernel
theorem dX4_hoursWithBed_9 : decode cX4_hoursWithBed 9 = .ok (.iload_n 3, 1) := by decide +kernel
theorem dX4_hoursWithBed_10 : decode cX4_hoursWithBed 10 = .ok (.iadd, 1) := by decide +kernel
theorem dX4_hoursWithBed_11 : decode cX4_hoursWithBed 11 = .ok (.if_icmp .ge 30, 3) := by decide +kernel
theorem dX4_hoursWithBed_14 : decode cX4_hoursWithBed 14 = .ok (.iload 4, 2) := by decide +kernel
theorem dX4_hoursWithBed_16 : decode cX4_hoursWithBed 16 = .ok (.aload_n 0, 1) := by decide +kernel
theorem dX4_hoursWithBed_17 : decode cX4_hoursWithBed 17 = .ok (.iload_n 1, 1) := by decide +kernel
theorem dX4_hoursWithBed_18 : decode cX4_hoursWithBed 18 = .ok (.iload 5, 2) := by decide +kernel
theorem dX4_hoursWithBed_20 : decode cX4_hoursWithBed 20 = .ok (.invokevirtual 49, 3) := by decide +kernel
theorem dX4_hoursWithBed_23 : decode cX4_hoursWithBed 23 = .ok (.iconst (-1), 1) := by decide +kernel
theorem dX4_hoursWithBed_24 : decode cX4_hoursWithBed 24 = .ok (.if_icmp .eq 7, 3) := by decide +kernel
theorem dX4_hoursWithBed_27 : decode cX4_hoursWithBed 27 = .ok (.iconst 1, 1) := by decide +kernel
theorem dX4_hoursWithBed_28 : decode cX4_hoursWithBed 28 = .ok (.goto 4, 3) := by decide +kernel
theorem dX4_hoursWithBed_31 : decode cX4_hoursWithBed 31 = .ok (.iconst 0, 1) := by decide +kernel
theorem dX4_hoursWithBed_32 : decode cX4_hoursWithBed 32 = .ok (.iadd, 1) := by decide +kernel
theorem dX4_hoursWithBed_33 : decode cX4_hoursWithBed 33 = .ok (.istore 4, 2) := by decide +kernel
theorem dX4_hoursWithBed_35 : decode cX4_hoursWithBed 35 = .ok (.iinc 5 1, 3) := by decide +kernel
theorem dX4_hoursWithBed_38 : decode cX4_hoursWithBed 38 = .ok (.goto (-32), 3) := by decide +kernel
theorem dX4_hoursWithBed_41 : decode cX4_hoursWithBed 41 = .ok (.iload 4, 2) := by decide +kernel
theorem dX4_hoursWithBed_43 : decode cX4_hoursWithBed 43 = .ok (.ireturn, 1) := by decide +kernel
theorem dX4_lentHoursIn_0 : decode cX4_lentHoursIn 0 = .ok (.iconst 0, 1) := by decide +kernel
theorem dX4_lentHoursIn_1 : decode cX4_lentHoursIn 1 = .ok (.istore 4, 2) := by decide +kernel
theorem dX4_lentHoursIn_3 : decode cX4_lentHoursIn 3 = .ok (.iload_n 2, 1) := by decide +kernel
theorem dX4_lentHoursIn_4 : decode cX4_lentHoursIn 4 = .ok (.istore 5, 2) := by decide +kernel
theorem dX4_lentHoursIn_6 : decode cX4_lentHoursIn 6 = .ok (.iload 5, 2) := by decide +kernel
theorem dX4_lentHoursIn_8 : decode cX4_lentHoursIn 8 = .ok (.iload_n 2, 1) := by decide +kernel
theorem dX4_lentHoursIn_9 : decode cX4_lentHoursIn 9 = .ok (.iload_n 3, 1) := by decide +kernel
theorem dX4_lentHoursIn_10 : decode cX4_lentHoursIn 10 = .ok (.iadd, 1) := by decide +kernel
theorem dX4_lentHoursIn_11 : decode cX4_lentHoursIn 11 = .ok (.if_icmp .ge 33, 3) := by decide +kernel
theorem dX4_lentHoursIn_14 : decode cX4_lentHoursIn 14 = .ok (.iload 4, 2) := by decide +kernel
theorem dX4_lentHoursIn_16 : decode cX4_lentHoursIn 16 = .ok (.aload_n 0, 1) := by decide +kernel
theorem dX4_lentHoursIn_17 : decode cX4_lentHoursIn 17 = .ok (.getfield 14, 3) := by decide +kernel
theorem dX4_lentHoursIn_20 : decode cX4_lentHoursIn 20 = .ok (.iload_n 1, 1) := by decide +kernel
theorem dX4_lentHoursIn_21 : decode cX4_lentHoursIn 21 = .ok (.iload 5, 2) := by decide +kernel
theorem dX4_lentHoursIn_23 : decode cX4_lentHoursIn 23 = .ok (.invokevirtual 32, 3) := by decide +kernel
theorem dX4_lentHoursIn_26 : decode cX4_lentHoursIn 26 = .ok (.iconst (-1), 1) := by decide +kernel
theorem dX4_lentHoursIn_27 : decode cX4_lentHoursIn 27 = .ok (.if_icmp .eq 7, 3) := by decide +kernel
theorem dX4_lentHoursIn_30 : decode cX4_lentHoursIn 30 = .ok (.iconst 1, 1) := by decide +kernel
theorem dX4_lentHoursIn_31 : decode cX4_lentHoursIn 31 = .ok (.goto 4, 3) := by decide +kernel
theorem dX4_lentHoursIn_34 : decode cX4_lentHoursIn 34 = .ok (.iconst 0, 1) := by decide +kernel
theorem dX4_lentHoursIn_35 : decode cX4_lentHoursIn 35 = .ok (.iadd, 1) := by decide +kernel
theorem dX4_lentHoursIn_36 : decode cX4_lentHoursIn 36 = .ok (.istore 4, 2) := by decide +kernel
theorem dX4_lentHoursIn_38 : decode cX4_lentHoursIn 38 = .ok (.iinc 5 1, 3) := by decide +kernel
theorem dX4_lentHoursIn_41 : decode cX4_lentHoursIn 41 = .ok (.goto (-35), 3) := by decide +kernel
theorem dX4_lentHoursIn_44 : decode cX4_lentHoursIn 44 = .ok (.iload 4, 2) := by decide +kernel
theorem dX4_lentHoursIn_46 : decode cX4_lentHoursIn 46 = .ok (.ireturn, 1) := by decide +kernel
theorem dX4_leastLentBed_0 : decode cX4_leastLentBed 0 = .ok (.iconst 0, 1) := by decide +kernel
theorem dX4_leastLentBed_1 : decode cX4_leastLentBed 1 = .ok (.istore_n 3, 1) := by decide +kernel
theorem dX4_leastLentBed_2 : decode cX4_leastLentBed 2 = .ok (.iconst 1, 1) := by decide +kernel
theorem dX4_leastLentBed_3 : decode cX4_leastLentBed 3 = .ok (.istore 4, 2) := by decide +kernel
theorem dX4_leastLentBed_5 : decode cX4_leastLentBed 5 = .ok (.iload 4, 2) := by decide +kernel
theorem dX4_leastLentBed_7 : decode cX4_leastLentBed 7 = .ok (.iconst 4, 1) := by decide +kernel
theorem dX4_leastLentBed_8 : decode cX4_leastLentBed 8 = .ok (.if_icmp .ge 30, 3) := by decide +kernel
theorem dX4_leastLentBed_11 : decode cX4_leastLentBed 11 = .ok (.aload_n 0, 1) := by decide +kernel
theorem dX4_leastLentBed_12 : decode cX4_leastLentBed 12 = .ok (.iload 4, 2) := by decide +kernel
theorem dX4_leastLentBed_14 : decode cX4_leastLentBed 14 = .ok (.iload_n 1, 1) := by decide +kernel
theorem dX4_leastLentBed_15 : decode cX4_leastLentBed 15 = .ok (.iload_n 2, 1) := by decide +kernel
theorem dX4_leastLentBed_16 : decode cX4_leastLentBed 16 = .ok (.invokevirtual 52, 3) := by decide +kernel
theorem dX4_leastLentBed_19 : decode cX4_leastLentBed 19 = .ok (.aload_n 0, 1) := by decide +kernel
theorem dX4_leastLentBed_20 : decode cX4_leastLentBed 20 = .ok (.iload_n 3, 1) := by decide +kernel
theorem dX4_leastLentBed_21 : decode cX4_leastLentBed 21 = .ok (.iload_n 1, 1) := by decide +kernel
theorem dX4_leastLentBed_22 : decode cX4_leastLentBed 22 = .ok (.iload_n 2, 1) := by decide +kernel
theorem dX4_leastLentBed_23 : decode cX4_leastLentBed 23 = .ok (.invokevirtual 52, 3) := by decide +kernel
theorem dX4_leastLentBed_26 : decode cX4_leastLentBed 26 = .ok (.if_icmp .ge 6, 3) := by decide +kernel
