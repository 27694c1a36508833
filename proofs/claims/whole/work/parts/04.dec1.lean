theorem dX0_init_0 : decode cX0_init 0 = .ok (.aload_n 0, 1) := by decide +kernel
theorem dX0_init_1 : decode cX0_init 1 = .ok (.invokespecial 3, 3) := by decide +kernel
theorem dX0_init_4 : decode cX0_init 4 = .ok (.aload_n 0, 1) := by decide +kernel
theorem dX0_init_5 : decode cX0_init 5 = .ok (.bipush 8, 2) := by decide +kernel
theorem dX0_init_7 : decode cX0_init 7 = .ok (.newarray .int, 2) := by decide +kernel
theorem dX0_init_9 : decode cX0_init 9 = .ok (.putfield 9, 3) := by decide +kernel
theorem dX0_init_12 : decode cX0_init 12 = .ok (.return_, 1) := by decide +kernel
theorem dX0_copyFrom_0 : decode cX0_copyFrom 0 = .ok (.aload_n 0, 1) := by decide +kernel
theorem dX0_copyFrom_1 : decode cX0_copyFrom 1 = .ok (.aload_n 1, 1) := by decide +kernel
theorem dX0_copyFrom_2 : decode cX0_copyFrom 2 = .ok (.getfield 15, 3) := by decide +kernel
theorem dX0_copyFrom_5 : decode cX0_copyFrom 5 = .ok (.putfield 15, 3) := by decide +kernel
theorem dX0_copyFrom_8 : decode cX0_copyFrom 8 = .ok (.aload_n 0, 1) := by decide +kernel
theorem dX0_copyFrom_9 : decode cX0_copyFrom 9 = .ok (.aload_n 1, 1) := by decide +kernel
theorem dX0_copyFrom_10 : decode cX0_copyFrom 10 = .ok (.getfield 19, 3) := by decide +kernel
theorem dX0_copyFrom_13 : decode cX0_copyFrom 13 = .ok (.putfield 19, 3) := by decide +kernel
theorem dX0_copyFrom_16 : decode cX0_copyFrom 16 = .ok (.aload_n 1, 1) := by decide +kernel
theorem dX0_copyFrom_17 : decode cX0_copyFrom 17 = .ok (.getfield 9, 3) := by decide +kernel
theorem dX0_copyFrom_20 : decode cX0_copyFrom 20 = .ok (.aload_n 0, 1) := by decide +kernel
theorem dX0_copyFrom_21 : decode cX0_copyFrom 21 = .ok (.getfield 9, 3) := by decide +kernel
theorem dX0_copyFrom_24 : decode cX0_copyFrom 24 = .ok (.invokestatic 23, 3) := by decide +kernel
theorem dX0_copyFrom_27 : decode cX0_copyFrom 27 = .ok (.return_, 1) := by decide +kernel
theorem dX0_holds_0 : decode cX0_holds 0 = .ok (.iconst 0, 1) := by decide +kernel
theorem dX0_holds_1 : decode cX0_holds 1 = .ok (.istore_n 2, 1) := by decide +kernel
theorem dX0_holds_2 : decode cX0_holds 2 = .ok (.iload_n 2, 1) := by decide +kernel
theorem dX0_holds_3 : decode cX0_holds 3 = .ok (.aload_n 0, 1) := by decide +kernel
theorem dX0_holds_4 : decode cX0_holds 4 = .ok (.getfield 19, 3) := by decide +kernel
theorem dX0_holds_7 : decode cX0_holds 7 = .ok (.if_icmp .ge 27, 3) := by decide +kernel
theorem dX0_holds_10 : decode cX0_holds 10 = .ok (.iload_n 2, 1) := by decide +kernel
theorem dX0_holds_11 : decode cX0_holds 11 = .ok (.bipush 8, 2) := by decide +kernel
theorem dX0_holds_13 : decode cX0_holds 13 = .ok (.if_icmp .ge 21, 3) := by decide +kernel
theorem dX0_holds_16 : decode cX0_holds 16 = .ok (.aload_n 0, 1) := by decide +kernel
theorem dX0_holds_17 : decode cX0_holds 17 = .ok (.getfield 9, 3) := by decide +kernel
theorem dX0_holds_20 : decode cX0_holds 20 = .ok (.iload_n 2, 1) := by decide +kernel
theorem dX0_holds_21 : decode cX0_holds 21 = .ok (.iaload, 1) := by decide +kernel
theorem dX0_holds_22 : decode cX0_holds 22 = .ok (.iload_n 1, 1) := by decide +kernel
theorem dX0_holds_23 : decode cX0_holds 23 = .ok (.if_icmp .ne 5, 3) := by decide +kernel
theorem dX0_holds_26 : decode cX0_holds 26 = .ok (.iconst 1, 1) := by decide +kernel
theorem dX0_holds_27 : decode cX0_holds 27 = .ok (.ireturn, 1) := by decide +kernel
theorem dX0_holds_28 : decode cX0_holds 28 = .ok (.iinc 2 1, 3) := by decide +kernel
theorem dX0_holds_31 : decode cX0_holds 31 = .ok (.goto (-29), 3) := by decide +kernel
theorem dX0_holds_34 : decode cX0_holds 34 = .ok (.iconst 0, 1) := by decide +kernel
theorem dX0_holds_35 : decode cX0_holds 35 = .ok (.ireturn, 1) := by decide +kernel
theorem dX0_makeDirty_0 : decode cX0_makeDirty 0 = .ok (.aload_n 0, 1) := by decide +kernel
theorem dX0_makeDirty_1 : decode cX0_makeDirty 1 = .ok (.iload_n 1, 1) := by decide +kernel
theorem dX0_makeDirty_2 : decode cX0_makeDirty 2 = .ok (.invokevirtual 27, 3) := by decide +kernel
theorem dX0_makeDirty_5 : decode cX0_makeDirty 5 = .ok (.ifCond .ne 36, 3) := by decide +kernel
theorem dX0_makeDirty_8 : decode cX0_makeDirty 8 = .ok (.aload_n 0, 1) := by decide +kernel
theorem dX0_makeDirty_9 : decode cX0_makeDirty 9 = .ok (.getfield 19, 3) := by decide +kernel
theorem dX0_makeDirty_12 : decode cX0_makeDirty 12 = .ok (.iconst 0, 1) := by decide +kernel
theorem dX0_makeDirty_13 : decode cX0_makeDirty 13 = .ok (.bipush 7, 2) := by decide +kernel
theorem dX0_makeDirty_15 : decode cX0_makeDirty 15 = .ok (.invokestatic 31, 3) := by decide +kernel
theorem dX0_makeDirty_18 : decode cX0_makeDirty 18 = .ok (.ifCond .eq 23, 3) := by decide +kernel
theorem dX0_makeDirty_21 : decode cX0_makeDirty 21 = .ok (.aload_n 0, 1) := by decide +kernel
theorem dX0_makeDirty_22 : decode cX0_makeDirty 22 = .ok (.getfield 9, 3) := by decide +kernel
theorem dX0_makeDirty_25 : decode cX0_makeDirty 25 = .ok (.aload_n 0, 1) := by decide +kernel
theorem dX0_makeDirty_26 : decode cX0_makeDirty 26 = .ok (.getfield 19, 3) := by decide +kernel
theorem dX0_makeDirty_29 : decode cX0_makeDirty 29 = .ok (.iload_n 1, 1) := by decide +kernel
theorem dX0_makeDirty_30 : decode cX0_makeDirty 30 = .ok (.iastore, 1) := by decide +kernel
theorem dX0_makeDirty_31 : decode cX0_makeDirty 31 = .ok (.aload_n 0, 1) := by decide +kernel
theorem dX0_makeDirty_32 : decode cX0_makeDirty 32 = .ok (.dup, 1) := by decide +kernel
theorem dX0_makeDirty_33 : decode cX0_makeDirty 33 = .ok (.getfield 19, 3) := by decide +kernel
theorem dX0_makeDirty_36 : decode cX0_makeDirty 36 = .ok (.iconst 1, 1) := by decide +kernel
theorem dX0_makeDirty_37 : decode cX0_makeDirty 37 = .ok (.iadd, 1) := by decide +kernel
theorem dX0_makeDirty_38 : decode cX0_makeDirty 38 = .ok (.putfield 19, 3) := by decide +kernel
theorem dX0_makeDirty_41 : decode cX0_makeDirty 41 = .ok (.return_, 1) := by decide +kernel
theorem dX0_finishesAtOnce_0 : decode cX0_finishesAtOnce 0 = .ok (.aload_n 0, 1) := by decide +kernel
theorem dX0_finishesAtOnce_1 : decode cX0_finishesAtOnce 1 = .ok (.getfield 15, 3) := by decide +kernel
theorem dX0_finishesAtOnce_4 : decode cX0_finishesAtOnce 4 = .ok (.ifCond .eq 20, 3) := by decide +kernel
theorem dX0_finishesAtOnce_7 : decode cX0_finishesAtOnce 7 = .ok (.iload_n 1, 1) := by decide +kernel
theorem dX0_finishesAtOnce_8 : decode cX0_finishesAtOnce 8 = .ok (.iconst 1, 1) := by decide +kernel
theorem dX0_finishesAtOnce_9 : decode cX0_finishesAtOnce 9 = .ok (.if_icmp .eq 11, 3) := by decide +kernel
theorem dX0_finishesAtOnce_12 : decode cX0_finishesAtOnce 12 = .ok (.aload_n 0, 1) := by decide +kernel
theorem dX0_finishesAtOnce_13 : decode cX0_finishesAtOnce 13 = .ok (.iload_n 2, 1) := by decide +kernel
theorem dX0_finishesAtOnce_14 : decode cX0_finishesAtOnce 14 = .ok (.invokevirtual 27, 3) := by decide +kernel
theorem dX0_finishesAtOnce_17 : decode cX0_finishesAtOnce 17 = .ok (.ifCond .eq 7, 3) := by decide +kernel
theorem dX0_finishesAtOnce_20 : decode cX0_finishesAtOnce 20 = .ok (.iconst 1, 1) := by decide +kernel
theorem dX0_finishesAtOnce_21 : decode cX0_finishesAtOnce 21 = .ok (.goto 4, 3) := by decide +kernel
theorem dX0_finishesAtOnce_24 : decode cX0_finishesAtOnce 24 = .ok (.iconst 0, 1) := by decide +kernel
theorem dX0_finishesAtOnce_25 : decode cX0_finishesAtOnce 25 = .ok (.ireturn, 1) := by decide +kernel
theorem dX0_writeAll_0 : decode cX0_writeAll 0 = .ok (.aload_n 1, 1) := by decide +kernel
theorem dX0_writeAll_1 : decode cX0_writeAll 1 = .ok (.getfield 35, 3) := by decide +kernel
theorem dX0_writeAll_4 : decode cX0_writeAll 4 = .ok (.istore_n 2, 1) := by decide +kernel
theorem dX0_writeAll_5 : decode cX0_writeAll 5 = .ok (.iconst (-1), 1) := by decide +kernel
theorem dX0_writeAll_6 : decode cX0_writeAll 6 = .ok (.istore_n 3, 1) := by decide +kernel
theorem dX0_writeAll_7 : decode cX0_writeAll 7 = .ok (.iconst 0, 1) := by decide +kernel
theorem dX0_writeAll_8 : decode cX0_writeAll 8 = .ok (.istore 4, 2) := by decide +kernel
theorem dX0_writeAll_10 : decode cX0_writeAll 10 = .ok (.iload 4, 2) := by decide +kernel
theorem dX0_writeAll_12 : decode cX0_writeAll 12 = .ok (.aload_n 0, 1) := by decide +kernel
theorem dX0_writeAll_13 : decode cX0_writeAll 13 = .ok (.getfield 19, 3) := by decide +kernel
theorem dX0_writeAll_16 : decode cX0_writeAll 16 = .ok (.if_icmp .ge 44, 3) := by decide +kernel
theorem dX0_writeAll_19 : decode cX0_writeAll 19 = .ok (.iload 4, 2) := by decide +kernel
theorem dX0_writeAll_21 : decode cX0_writeAll 21 = .ok (.bipush 8, 2) := by decide +kernel
theorem dX0_writeAll_23 : decode cX0_writeAll 23 = .ok (.if_icmp .ge 37, 3) := by decide +kernel
theorem dX0_writeAll_26 : decode cX0_writeAll 26 = .ok (.aload_n 0, 1) := by decide +kernel
theorem dX0_writeAll_27 : decode cX0_writeAll 27 = .ok (.iload_n 3, 1) := by decide +kernel
theorem dX0_writeAll_28 : decode cX0_writeAll 28 = .ok (.iload_n 2, 1) := by decide +kernel
theorem dX0_writeAll_29 : decode cX0_writeAll 29 = .ok (.aload_n 1, 1) := by decide +kernel
theorem dX0_writeAll_30 : decode cX0_writeAll 30 = .ok (.invokevirtual 40, 3) := by decide +kernel
theorem dX0_writeAll_33 : decode cX0_writeAll 33 = .ok (.istore_n 3, 1) := by decide +kernel
theorem dX0_writeAll_34 : decode cX0_writeAll 34 = .ok (.aload_n 1, 1) := by decide +kernel
theorem dX0_writeAll_35 : decode cX0_writeAll 35 = .ok (.iload_n 3, 1) := by decide +kernel
theorem dX0_writeAll_36 : decode cX0_writeAll 36 = .ok (.sipush 576, 3) := by decide +kernel
theorem dX0_writeAll_39 : decode cX0_writeAll 39 = .ok (.if_icmp .lt 11, 3) := by decide +kernel
theorem dX0_writeAll_42 : decode cX0_writeAll 42 = .ok (.iload_n 3, 1) := by decide +kernel
theorem dX0_writeAll_43 : decode cX0_writeAll 43 = .ok (.sipush 576, 3) := by decide +kernel
theorem dX0_writeAll_46 : decode cX0_writeAll 46 = .ok (.isub, 1) := by decide +kernel
theorem dX0_writeAll_47 : decode cX0_writeAll 47 = .ok (.goto 4, 3) := by decide +kernel
theorem dX0_writeAll_50 : decode cX0_writeAll 50 = .ok (.iload_n 3, 1) := by decide +kernel
theorem dX0_writeAll_51 : decode cX0_writeAll 51 = .ok (.invokevirtual 44, 3) := by decide +kernel
theorem dX0_writeAll_54 : decode cX0_writeAll 54 = .ok (.iinc 4 1, 3) := by decide +kernel
theorem dX0_writeAll_57 : decode cX0_writeAll 57 = .ok (.goto (-47), 3) := by decide +kernel
theorem dX0_writeAll_60 : decode cX0_writeAll 60 = .ok (.aload_n 0, 1) := by decide +kernel
theorem dX0_writeAll_61 : decode cX0_writeAll 61 = .ok (.iconst 0, 1) := by decide +kernel
theorem dX0_writeAll_62 : decode cX0_writeAll 62 = .ok (.putfield 19, 3) := by decide +kernel
theorem dX0_writeAll_65 : decode cX0_writeAll 65 = .ok (.return_, 1) := by decide +kernel
theorem dX0_leastKeyAbove_0 : decode cX0_leastKeyAbove 0 = .ok (.ldc 48, 2) := by decide +kernel
theorem dX0_leastKeyAbove_2 : decode cX0_leastKeyAbove 2 = .ok (.istore 4, 2) := by decide +kernel
theorem dX0_leastKeyAbove_4 : decode cX0_leastKeyAbove 4 = .ok (.iconst 0, 1) := by decide +kernel
theorem dX0_leastKeyAbove_5 : decode cX0_leastKeyAbove 5 = .ok (.istore 5, 2) := by decide +kernel
theorem dX0_leastKeyAbove_7 : decode cX0_leastKeyAbove 7 = .ok (.iload 5, 2) := by decide +kernel
theorem dX0_leastKeyAbove_9 : decode cX0_leastKeyAbove 9 = .ok (.aload_n 0, 1) := by decide +kernel
theorem dX0_leastKeyAbove_10 : decode cX0_leastKeyAbove 10 = .ok (.getfield 19, 3) := by decide +kernel
theorem dX0_leastKeyAbove_13 : decode cX0_leastKeyAbove 13 = .ok (.if_icmp .ge 68, 3) := by decide +kernel
theorem dX0_leastKeyAbove_16 : decode cX0_leastKeyAbove 16 = .ok (.iload 5, 2) := by decide +kernel
theorem dX0_leastKeyAbove_18 : decode cX0_leastKeyAbove 18 = .ok (.bipush 8, 2) := by decide +kernel
theorem dX0_leastKeyAbove_20 : decode cX0_leastKeyAbove 20 = .ok (.if_icmp .ge 61, 3) := by decide +kernel
theorem dX0_leastKeyAbove_23 : decode cX0_leastKeyAbove 23 = .ok (.aload_n 3, 1) := by decide +kernel
theorem dX0_leastKeyAbove_24 : decode cX0_leastKeyAbove 24 = .ok (.aload_n 0, 1) := by decide +kernel
theorem dX0_leastKeyAbove_25 : decode cX0_leastKeyAbove 25 = .ok (.getfield 9, 3) := by decide +kernel
theorem dX0_leastKeyAbove_28 : decode cX0_leastKeyAbove 28 = .ok (.iload 5, 2) := by decide +kernel
theorem dX0_leastKeyAbove_30 : decode cX0_leastKeyAbove 30 = .ok (.iaload, 1) := by decide +kernel
theorem dX0_leastKeyAbove_31 : decode cX0_leastKeyAbove 31 = .ok (.invokevirtual 49, 3) := by decide +kernel
theorem dX0_leastKeyAbove_34 : decode cX0_leastKeyAbove 34 = .ok (.istore 6, 2) := by decide +kernel
theorem dX0_leastKeyAbove_36 : decode cX0_leastKeyAbove 36 = .ok (.iload 6, 2) := by decide +kernel
theorem dX0_leastKeyAbove_38 : decode cX0_leastKeyAbove 38 = .ok (.invokestatic 53, 3) := by decide +kernel
theorem dX0_leastKeyAbove_41 : decode cX0_leastKeyAbove 41 = .ok (.iload_n 2, 1) := by decide +kernel
theorem dX0_leastKeyAbove_42 : decode cX0_leastKeyAbove 42 = .ok (.if_icmp .lt 8, 3) := by decide +kernel
theorem dX0_leastKeyAbove_45 : decode cX0_leastKeyAbove 45 = .ok (.iload 6, 2) := by decide +kernel
theorem dX0_leastKeyAbove_47 : decode cX0_leastKeyAbove 47 = .ok (.goto 9, 3) := by decide +kernel
theorem dX0_leastKeyAbove_50 : decode cX0_leastKeyAbove 50 = .ok (.iload 6, 2) := by decide +kernel
theorem dX0_leastKeyAbove_52 : decode cX0_leastKeyAbove 52 = .ok (.sipush 576, 3) := by decide +kernel
theorem dX0_leastKeyAbove_55 : decode cX0_leastKeyAbove 55 = .ok (.iadd, 1) := by decide +kernel
theorem dX0_leastKeyAbove_56 : decode cX0_leastKeyAbove 56 = .ok (.istore 7, 2) := by decide +kernel
theorem dX0_leastKeyAbove_58 : decode cX0_leastKeyAbove 58 = .ok (.iload 7, 2) := by decide +kernel
theorem dX0_leastKeyAbove_60 : decode cX0_leastKeyAbove 60 = .ok (.iload_n 1, 1) := by decide +kernel
theorem dX0_leastKeyAbove_61 : decode cX0_leastKeyAbove 61 = .ok (.if_icmp .le 14, 3) := by decide +kernel
theorem dX0_leastKeyAbove_64 : decode cX0_leastKeyAbove 64 = .ok (.iload 7, 2) := by decide +kernel
theorem dX0_leastKeyAbove_66 : decode cX0_leastKeyAbove 66 = .ok (.iload 4, 2) := by decide +kernel
theorem dX0_leastKeyAbove_68 : decode cX0_leastKeyAbove 68 = .ok (.if_icmp .ge 7, 3) := by decide +kernel
theorem dX0_leastKeyAbove_71 : decode cX0_leastKeyAbove 71 = .ok (.iload 7, 2) := by decide +kernel
theorem dX0_leastKeyAbove_73 : decode cX0_leastKeyAbove 73 = .ok (.istore 4, 2) := by decide +kernel
theorem dX0_leastKeyAbove_75 : decode cX0_leastKeyAbove 75 = .ok (.iinc 5 1, 3) := by decide +kernel
theorem dX0_leastKeyAbove_78 : decode cX0_leastKeyAbove 78 = .ok (.goto (-71), 3) := by decide +kernel
theorem dX0_leastKeyAbove_81 : decode cX0_leastKeyAbove 81 = .ok (.iload 4, 2) := by decide +kernel
theorem dX0_leastKeyAbove_83 : decode cX0_leastKeyAbove 83 = .ok (.ireturn, 1) := by decide +kernel
theorem dX1_init_0 : decode cX1_init 0 = .ok (.aload_n 0, 1) := by decide +kernel
theorem dX1_init_1 : decode cX1_init 1 = .ok (.invokespecial 3, 3) := by decide +kernel
theorem dX1_init_4 : decode cX1_init 4 = .ok (.aload_n 0, 1) := by decide +kernel
theorem dX1_init_5 : decode cX1_init 5 = .ok (.bipush 10, 2) := by decide +kernel
theorem dX1_init_7 : decode cX1_init 7 = .ok (.putfield 9, 3) := by decide +kernel
theorem dX1_init_10 : decode cX1_init 10 = .ok (.aload_n 0, 1) := by decide +kernel
theorem dX1_init_11 : decode cX1_init 11 = .ok (.iconst 4, 1) := by decide +kernel
theorem dX1_init_12 : decode cX1_init 12 = .ok (.putfield 15, 3) := by decide +kernel
theorem dX1_init_15 : decode cX1_init 15 = .ok (.aload_n 0, 1) := by decide +kernel
theorem dX1_init_16 : decode cX1_init 16 = .ok (.iconst 1, 1) := by decide +kernel
theorem dX1_init_17 : decode cX1_init 17 = .ok (.putfield 18, 3) := by decide +kernel
theorem dX1_init_20 : decode cX1_init 20 = .ok (.aload_n 0, 1) := by decide +kernel
theorem dX1_init_21 : decode cX1_init 21 = .ok (.iconst 4, 1) := by decide +kernel
theorem dX1_init_22 : decode cX1_init 22 = .ok (.newarray .int, 2) := by decide +kernel
theorem dX1_init_24 : decode cX1_init 24 = .ok (.putfield 21, 3) := by decide +kernel
theorem dX1_init_27 : decode cX1_init 27 = .ok (.aload_n 0, 1) := by decide +kernel
theorem dX1_init_28 : decode cX1_init 28 = .ok (.sipush 576, 3) := by decide +kernel
theorem dX1_init_31 : decode cX1_init 31 = .ok (.newarray .int, 2) := by decide +kernel
theorem dX1_init_33 : decode cX1_init 33 = .ok (.putfield 25, 3) := by decide +kernel
theorem dX1_init_36 : decode cX1_init 36 = .ok (.return_, 1) := by decide +kernel
theorem dX1_copyFrom_0 : decode cX1_copyFrom 0 = .ok (.aload_n 0, 1) := by decide +kernel
theorem dX1_copyFrom_1 : decode cX1_copyFrom 1 = .ok (.aload_n 1, 1) := by decide +kernel
theorem dX1_copyFrom_2 : decode cX1_copyFrom 2 = .ok (.getfield 9, 3) := by decide +kernel
theorem dX1_copyFrom_5 : decode cX1_copyFrom 5 = .ok (.putfield 9, 3) := by decide +kernel
theorem dX1_copyFrom_8 : decode cX1_copyFrom 8 = .ok (.aload_n 0, 1) := by decide +kernel
theorem dX1_copyFrom_9 : decode cX1_copyFrom 9 = .ok (.aload_n 1, 1) := by decide +kernel
theorem dX1_copyFrom_10 : decode cX1_copyFrom 10 = .ok (.getfield 15, 3) := by decide +kernel
theorem dX1_copyFrom_13 : decode cX1_copyFrom 13 = .ok (.putfield 15, 3) := by decide +kernel
theorem dX1_copyFrom_16 : decode cX1_copyFrom 16 = .ok (.aload_n 0, 1) := by decide +kernel
theorem dX1_copyFrom_17 : decode cX1_copyFrom 17 = .ok (.aload_n 1, 1) := by decide +kernel
theorem dX1_copyFrom_18 : decode cX1_copyFrom 18 = .ok (.getfield 18, 3) := by decide +kernel
theorem dX1_copyFrom_21 : decode cX1_copyFrom 21 = .ok (.putfield 18, 3) := by decide +kernel
theorem dX1_copyFrom_24 : decode cX1_copyFrom 24 = .ok (.aload_n 0, 1) := by decide +kernel
theorem dX1_copyFrom_25 : decode cX1_copyFrom 25 = .ok (.aload_n 1, 1) := by decide +kernel
theorem dX1_copyFrom_26 : decode cX1_copyFrom 26 = .ok (.getfield 28, 3) := by decide +kernel
theorem dX1_copyFrom_29 : decode cX1_copyFrom 29 = .ok (.putfield 28, 3) := by decide +kernel
theorem dX1_copyFrom_32 : decode cX1_copyFrom 32 = .ok (.aload_n 0, 1) := by decide +kernel
theorem dX1_copyFrom_33 : decode cX1_copyFrom 33 = .ok (.aload_n 1, 1) := by decide +kernel
theorem dX1_copyFrom_34 : decode cX1_copyFrom 34 = .ok (.getfield 31, 3) := by decide +kernel
theorem dX1_copyFrom_37 : decode cX1_copyFrom 37 = .ok (.putfield 31, 3) := by decide +kernel
theorem dX1_copyFrom_40 : decode cX1_copyFrom 40 = .ok (.aload_n 0, 1) := by decide +kernel
theorem dX1_copyFrom_41 : decode cX1_copyFrom 41 = .ok (.aload_n 1, 1) := by decide +kernel
theorem dX1_copyFrom_42 : decode cX1_copyFrom 42 = .ok (.getfield 34, 3) := by decide +kernel
theorem dX1_copyFrom_45 : decode cX1_copyFrom 45 = .ok (.putfield 34, 3) := by decide +kernel
theorem dX1_copyFrom_48 : decode cX1_copyFrom 48 = .ok (.aload_n 0, 1) := by decide +kernel
theorem dX1_copyFrom_49 : decode cX1_copyFrom 49 = .ok (.aload_n 1, 1) := by decide +kernel
theorem dX1_copyFrom_50 : decode cX1_copyFrom 50 = .ok (.getfield 37, 3) := by decide +kernel
theorem dX1_copyFrom_53 : decode cX1_copyFrom 53 = .ok (.putfield 37, 3) := by decide +kernel
theorem dX1_copyFrom_56 : decode cX1_copyFrom 56 = .ok (.aload_n 0, 1) := by decide +kernel
theorem dX1_copyFrom_57 : decode cX1_copyFrom 57 = .ok (.aload_n 1, 1) := by decide +kernel
theorem dX1_copyFrom_58 : decode cX1_copyFrom 58 = .ok (.getfield 40, 3) := by decide +kernel
theorem dX1_copyFrom_61 : decode cX1_copyFrom 61 = .ok (.putfield 40, 3) := by decide +kernel
theorem dX1_copyFrom_64 : decode cX1_copyFrom 64 = .ok (.aload_n 0, 1) := by decide +kernel
theorem dX1_copyFrom_65 : decode cX1_copyFrom 65 = .ok (.aload_n 1, 1) := by decide +kernel
theorem dX1_copyFrom_66 : decode cX1_copyFrom 66 = .ok (.getfield 43, 3) := by decide +kernel
theorem dX1_copyFrom_69 : decode cX1_copyFrom 69 = .ok (.putfield 43, 3) := by decide +kernel
theorem dX1_copyFrom_72 : decode cX1_copyFrom 72 = .ok (.aload_n 0, 1) := by decide +kernel
theorem dX1_copyFrom_73 : decode cX1_copyFrom 73 = .ok (.aload_n 1, 1) := by decide +kernel
theorem dX1_copyFrom_74 : decode cX1_copyFrom 74 = .ok (.getfield 46, 3) := by decide +kernel
theorem dX1_copyFrom_77 : decode cX1_copyFrom 77 = .ok (.putfield 46, 3) := by decide +kernel
theorem dX1_copyFrom_80 : decode cX1_copyFrom 80 = .ok (.aload_n 0, 1) := by decide +kernel
theorem dX1_copyFrom_81 : decode cX1_copyFrom 81 = .ok (.aload_n 1, 1) := by decide +kernel
theorem dX1_copyFrom_82 : decode cX1_copyFrom 82 = .ok (.getfield 49, 3) := by decide +kernel
theorem dX1_copyFrom_85 : decode cX1_copyFrom 85 = .ok (.putfield 49, 3) := by decide +kernel
theorem dX1_copyFrom_88 : decode cX1_copyFrom 88 = .ok (.aload_n 1, 1) := by decide +kernel
theorem dX1_copyFrom_89 : decode cX1_copyFrom 89 = .ok (.getfield 21, 3) := by decide +kernel
theorem dX1_copyFrom_92 : decode cX1_copyFrom 92 = .ok (.aload_n 0, 1) := by decide +kernel
theorem dX1_copyFrom_93 : decode cX1_copyFrom 93 = .ok (.getfield 21, 3) := by decide +kernel
theorem dX1_copyFrom_96 : decode cX1_copyFrom 96 = .ok (.invokestatic 52, 3) := by decide +kernel
theorem dX1_copyFrom_99 : decode cX1_copyFrom 99 = .ok (.aload_n 1, 1) := by decide +kernel
theorem dX1_copyFrom_100 : decode cX1_copyFrom 100 = .ok (.getfield 25, 3) := by decide +kernel
theorem dX1_copyFrom_103 : decode cX1_copyFrom 103 = .ok (.aload_n 0, 1) := by decide +kernel
theorem dX1_copyFrom_104 : decode cX1_copyFrom 104 = .ok (.getfield 25, 3) := by decide +kernel
theorem dX1_copyFrom_107 : decode cX1_copyFrom 107 = .ok (.invokestatic 52, 3) := by decide +kernel
theorem dX1_copyFrom_110 : decode cX1_copyFrom 110 = .ok (.return_, 1) := by decide +kernel
theorem dX1_spareOfBlock_0 : decode cX1_spareOfBlock 0 = .ok (.iconst 0, 1) := by decide +kernel
theorem dX1_spareOfBlock_1 : decode cX1_spareOfBlock 1 = .ok (.istore_n 2, 1) := by decide +kernel
theorem dX1_spareOfBlock_2 : decode cX1_spareOfBlock 2 = .ok (.iload_n 2, 1) := by decide +kernel
theorem dX1_spareOfBlock_3 : decode cX1_spareOfBlock 3 = .ok (.aload_n 0, 1) := by decide +kernel
theorem dX1_spareOfBlock_4 : decode cX1_spareOfBlock 4 = .ok (.getfield 49, 3) := by decide +kernel
theorem dX1_spareOfBlock_7 : decode cX1_spareOfBlock 7 = .ok (.if_icmp .ge 30, 3) := by decide +kernel
theorem dX1_spareOfBlock_10 : decode cX1_spareOfBlock 10 = .ok (.iload_n 2, 1) := by decide +kernel
theorem dX1_spareOfBlock_11 : decode cX1_spareOfBlock 11 = .ok (.iconst 4, 1) := by decide +kernel
theorem dX1_spareOfBlock_12 : decode cX1_spareOfBlock 12 = .ok (.if_icmp .ge 25, 3) := by decide +kernel
theorem dX1_spareOfBlock_15 : decode cX1_spareOfBlock 15 = .ok (.aload_n 0, 1) := by decide +kernel
theorem dX1_spareOfBlock_16 : decode cX1_spareOfBlock 16 = .ok (.getfield 21, 3) := by decide +kernel
theorem dX1_spareOfBlock_19 : decode cX1_spareOfBlock 19 = .ok (.iload_n 2, 1) := by decide +kernel
theorem dX1_spareOfBlock_20 : decode cX1_spareOfBlock 20 = .ok (.iaload, 1) := by decide +kernel
theorem dX1_spareOfBlock_21 : decode cX1_spareOfBlock 21 = .ok (.iload_n 1, 1) := by decide +kernel
theorem dX1_spareOfBlock_22 : decode cX1_spareOfBlock 22 = .ok (.if_icmp .ne 9, 3) := by decide +kernel
theorem dX1_spareOfBlock_25 : decode cX1_spareOfBlock 25 = .ok (.sipush 572, 3) := by decide +kernel
theorem dX1_spareOfBlock_28 : decode cX1_spareOfBlock 28 = .ok (.iload_n 2, 1) := by decide +kernel
theorem dX1_spareOfBlock_29 : decode cX1_spareOfBlock 29 = .ok (.iadd, 1) := by decide +kernel
theorem dX1_spareOfBlock_30 : decode cX1_spareOfBlock 30 = .ok (.ireturn, 1) := by decide +kernel
theorem dX1_spareOfBlock_31 : decode cX1_spareOfBlock 31 = .ok (.iinc 2 1, 3) := by decide +kernel
theorem dX1_spareOfBlock_34 : decode cX1_spareOfBlock 34 = .ok (.goto (-32), 3) := by decide +kernel
theorem dX1_spareOfBlock_37 : decode cX1_spareOfBlock 37 = .ok (.iconst (-1), 1) := by decide +kernel
theorem dX1_spareOfBlock_38 : decode cX1_spareOfBlock 38 = .ok (.ireturn, 1) := by decide +kernel
theorem dX1_takeSpare_0 : decode cX1_takeSpare 0 = .ok (.aload_n 0, 1) := by decide +kernel
theorem dX1_takeSpare_1 : decode cX1_takeSpare 1 = .ok (.getfield 49, 3) := by decide +kernel
theorem dX1_takeSpare_4 : decode cX1_takeSpare 4 = .ok (.iconst 0, 1) := by decide +kernel
theorem dX1_takeSpare_5 : decode cX1_takeSpare 5 = .ok (.iconst 3, 1) := by decide +kernel
theorem dX1_takeSpare_6 : decode cX1_takeSpare 6 = .ok (.invokestatic 56, 3) := by decide +kernel
theorem dX1_takeSpare_9 : decode cX1_takeSpare 9 = .ok (.ifCond .ne 5, 3) := by decide +kernel
theorem dX1_takeSpare_12 : decode cX1_takeSpare 12 = .ok (.iconst (-1), 1) := by decide +kernel
theorem dX1_takeSpare_13 : decode cX1_takeSpare 13 = .ok (.ireturn, 1) := by decide +kernel
theorem dX1_takeSpare_14 : decode cX1_takeSpare 14 = .ok (.aload_n 0, 1) := by decide +kernel
theorem dX1_takeSpare_15 : decode cX1_takeSpare 15 = .ok (.getfield 21, 3) := by decide +kernel
theorem dX1_takeSpare_18 : decode cX1_takeSpare 18 = .ok (.aload_n 0, 1) := by decide +kernel
theorem dX1_takeSpare_19 : decode cX1_takeSpare 19 = .ok (.getfield 49, 3) := by decide +kernel
theorem dX1_takeSpare_22 : decode cX1_takeSpare 22 = .ok (.iload_n 1, 1) := by decide +kernel
theorem dX1_takeSpare_23 : decode cX1_takeSpare 23 = .ok (.iastore, 1) := by decide +kernel
theorem dX1_takeSpare_24 : decode cX1_takeSpare 24 = .ok (.aload_n 0, 1) := by decide +kernel
theorem dX1_takeSpare_25 : decode cX1_takeSpare 25 = .ok (.dup, 1) := by decide +kernel
theorem dX1_takeSpare_26 : decode cX1_takeSpare 26 = .ok (.getfield 49, 3) := by decide +kernel
theorem dX1_takeSpare_29 : decode cX1_takeSpare 29 = .ok (.iconst 1, 1) := by decide +kernel
theorem dX1_takeSpare_30 : decode cX1_takeSpare 30 = .ok (.iadd, 1) := by decide +kernel
theorem dX1_takeSpare_31 : decode cX1_takeSpare 31 = .ok (.putfield 49, 3) := by decide +kernel
theorem dX1_takeSpare_34 : decode cX1_takeSpare 34 = .ok (.sipush 572, 3) := by decide +kernel
theorem dX1_takeSpare_37 : decode cX1_takeSpare 37 = .ok (.aload_n 0, 1) := by decide +kernel
theorem dX1_takeSpare_38 : decode cX1_takeSpare 38 = .ok (.getfield 49, 3) := by decide +kernel
theorem dX1_takeSpare_41 : decode cX1_takeSpare 41 = .ok (.iadd, 1) := by decide +kernel
theorem dX1_takeSpare_42 : decode cX1_takeSpare 42 = .ok (.iconst 1, 1) := by decide +kernel
theorem dX1_takeSpare_43 : decode cX1_takeSpare 43 = .ok (.isub, 1) := by decide +kernel
theorem dX1_takeSpare_44 : decode cX1_takeSpare 44 = .ok (.ireturn, 1) := by decide +kernel
theorem dX1_placeOfBlock_0 : decode cX1_placeOfBlock 0 = .ok (.aload_n 0, 1) := by decide +kernel
theorem dX1_placeOfBlock_1 : decode cX1_placeOfBlock 1 = .ok (.iload_n 1, 1) := by decide +kernel
theorem dX1_placeOfBlock_2 : decode cX1_placeOfBlock 2 = .ok (.invokevirtual 60, 3) := by decide +kernel
theorem dX1_placeOfBlock_5 : decode cX1_placeOfBlock 5 = .ok (.istore_n 2, 1) := by decide +kernel
theorem dX1_placeOfBlock_6 : decode cX1_placeOfBlock 6 = .ok (.iload_n 2, 1) := by decide +kernel
theorem dX1_placeOfBlock_7 : decode cX1_placeOfBlock 7 = .ok (.iconst (-1), 1) := by decide +kernel
theorem dX1_placeOfBlock_8 : decode cX1_placeOfBlock 8 = .ok (.if_icmp .ne 7, 3) := by decide +kernel
theorem dX1_placeOfBlock_11 : decode cX1_placeOfBlock 11 = .ok (.iload_n 1, 1) := by decide +kernel
theorem dX1_placeOfBlock_12 : decode cX1_placeOfBlock 12 = .ok (.goto 4, 3) := by decide +kernel
theorem dX1_placeOfBlock_15 : decode cX1_placeOfBlock 15 = .ok (.iload_n 2, 1) := by decide +kernel
theorem dX1_placeOfBlock_16 : decode cX1_placeOfBlock 16 = .ok (.ireturn, 1) := by decide +kernel
theorem dX1_accessesAt_0 : decode cX1_accessesAt 0 = .ok (.iload_n 1, 1) := by decide +kernel
theorem dX1_accessesAt_1 : decode cX1_accessesAt 1 = .ok (.iconst 0, 1) := by decide +kernel
theorem dX1_accessesAt_2 : decode cX1_accessesAt 2 = .ok (.sipush 575, 3) := by decide +kernel
theorem dX1_accessesAt_5 : decode cX1_accessesAt 5 = .ok (.invokestatic 56, 3) := by decide +kernel
theorem dX1_accessesAt_8 : decode cX1_accessesAt 8 = .ok (.ifCond .eq 12, 3) := by decide +kernel
theorem dX1_accessesAt_11 : decode cX1_accessesAt 11 = .ok (.aload_n 0, 1) := by decide +kernel
theorem dX1_accessesAt_12 : decode cX1_accessesAt 12 = .ok (.getfield 25, 3) := by decide +kernel
theorem dX1_accessesAt_15 : decode cX1_accessesAt 15 = .ok (.iload_n 1, 1) := by decide +kernel
theorem dX1_accessesAt_16 : decode cX1_accessesAt 16 = .ok (.iaload, 1) := by decide +kernel
theorem dX1_accessesAt_17 : decode cX1_accessesAt 17 = .ok (.goto 4, 3) := by decide +kernel
theorem dX1_accessesAt_20 : decode cX1_accessesAt 20 = .ok (.iconst 0, 1) := by decide +kernel
theorem dX1_accessesAt_21 : decode cX1_accessesAt 21 = .ok (.ireturn, 1) := by decide +kernel
theorem dX1_ticksOfSeek_0 : decode cX1_ticksOfSeek 0 = .ok (.iload_n 1, 1) := by decide +kernel
theorem dX1_ticksOfSeek_1 : decode cX1_ticksOfSeek 1 = .ok (.iload_n 2, 1) := by decide +kernel
theorem dX1_ticksOfSeek_2 : decode cX1_ticksOfSeek 2 = .ok (.if_icmp .ge 9, 3) := by decide +kernel
theorem dX1_ticksOfSeek_5 : decode cX1_ticksOfSeek 5 = .ok (.iload_n 2, 1) := by decide +kernel
theorem dX1_ticksOfSeek_6 : decode cX1_ticksOfSeek 6 = .ok (.iload_n 1, 1) := by decide +kernel
theorem dX1_ticksOfSeek_7 : decode cX1_ticksOfSeek 7 = .ok (.isub, 1) := by decide +kernel
theorem dX1_ticksOfSeek_8 : decode cX1_ticksOfSeek 8 = .ok (.goto 6, 3) := by decide +kernel
theorem dX1_ticksOfSeek_11 : decode cX1_ticksOfSeek 11 = .ok (.iload_n 1, 1) := by decide +kernel
theorem dX1_ticksOfSeek_12 : decode cX1_ticksOfSeek 12 = .ok (.iload_n 2, 1) := by decide +kernel
theorem dX1_ticksOfSeek_13 : decode cX1_ticksOfSeek 13 = .ok (.isub, 1) := by decide +kernel
theorem dX1_ticksOfSeek_14 : decode cX1_ticksOfSeek 14 = .ok (.istore_n 3, 1) := by decide +kernel
theorem dX1_ticksOfSeek_15 : decode cX1_ticksOfSeek 15 = .ok (.iload_n 3, 1) := by decide +kernel
theorem dX1_ticksOfSeek_16 : decode cX1_ticksOfSeek 16 = .ok (.ifCond .ne 5, 3) := by decide +kernel
theorem dX1_ticksOfSeek_19 : decode cX1_ticksOfSeek 19 = .ok (.iconst 0, 1) := by decide +kernel
theorem dX1_ticksOfSeek_20 : decode cX1_ticksOfSeek 20 = .ok (.ireturn, 1) := by decide +kernel
theorem dX1_ticksOfSeek_21 : decode cX1_ticksOfSeek 21 = .ok (.iconst 1, 1) := by decide +kernel
theorem dX1_ticksOfSeek_22 : decode cX1_ticksOfSeek 22 = .ok (.istore 4, 2) := by decide +kernel
theorem dX1_ticksOfSeek_24 : decode cX1_ticksOfSeek 24 = .ok (.iload 4, 2) := by decide +kernel
theorem dX1_ticksOfSeek_26 : decode cX1_ticksOfSeek 26 = .ok (.bipush 64, 2) := by decide +kernel
theorem dX1_ticksOfSeek_28 : decode cX1_ticksOfSeek 28 = .ok (.if_icmp .ge 22, 3) := by decide +kernel
theorem dX1_ticksOfSeek_31 : decode cX1_ticksOfSeek 31 = .ok (.iload 4, 2) := by decide +kernel
theorem dX1_ticksOfSeek_33 : decode cX1_ticksOfSeek 33 = .ok (.iconst 1, 1) := by decide +kernel
theorem dX1_ticksOfSeek_34 : decode cX1_ticksOfSeek 34 = .ok (.iadd, 1) := by decide +kernel
theorem dX1_ticksOfSeek_35 : decode cX1_ticksOfSeek 35 = .ok (.iload 4, 2) := by decide +kernel
theorem dX1_ticksOfSeek_37 : decode cX1_ticksOfSeek 37 = .ok (.iconst 1, 1) := by decide +kernel
theorem dX1_ticksOfSeek_38 : decode cX1_ticksOfSeek 38 = .ok (.iadd, 1) := by decide +kernel
theorem dX1_ticksOfSeek_39 : decode cX1_ticksOfSeek 39 = .ok (.imul, 1) := by decide +kernel
theorem dX1_ticksOfSeek_40 : decode cX1_ticksOfSeek 40 = .ok (.iload_n 3, 1) := by decide +kernel
theorem dX1_ticksOfSeek_41 : decode cX1_ticksOfSeek 41 = .ok (.if_icmp .gt 9, 3) := by decide +kernel
theorem dX1_ticksOfSeek_44 : decode cX1_ticksOfSeek 44 = .ok (.iinc 4 1, 3) := by decide +kernel
theorem dX1_ticksOfSeek_47 : decode cX1_ticksOfSeek 47 = .ok (.goto (-23), 3) := by decide +kernel
theorem dX1_ticksOfSeek_50 : decode cX1_ticksOfSeek 50 = .ok (.aload_n 0, 1) := by decide +kernel
theorem dX1_ticksOfSeek_51 : decode cX1_ticksOfSeek 51 = .ok (.getfield 9, 3) := by decide +kernel
theorem dX1_ticksOfSeek_54 : decode cX1_ticksOfSeek 54 = .ok (.aload_n 0, 1) := by decide +kernel
theorem dX1_ticksOfSeek_55 : decode cX1_ticksOfSeek 55 = .ok (.getfield 15, 3) := by decide +kernel
theorem dX1_ticksOfSeek_58 : decode cX1_ticksOfSeek 58 = .ok (.iload 4, 2) := by decide +kernel
theorem dX1_ticksOfSeek_60 : decode cX1_ticksOfSeek 60 = .ok (.imul, 1) := by decide +kernel
theorem dX1_ticksOfSeek_61 : decode cX1_ticksOfSeek 61 = .ok (.iadd, 1) := by decide +kernel
theorem dX1_ticksOfSeek_62 : decode cX1_ticksOfSeek 62 = .ok (.aload_n 0, 1) := by decide +kernel
theorem dX1_ticksOfSeek_63 : decode cX1_ticksOfSeek 63 = .ok (.getfield 18, 3) := by decide +kernel
theorem dX1_ticksOfSeek_66 : decode cX1_ticksOfSeek 66 = .ok (.iload_n 3, 1) := by decide +kernel
theorem dX1_ticksOfSeek_67 : decode cX1_ticksOfSeek 67 = .ok (.imul, 1) := by decide +kernel
theorem dX1_ticksOfSeek_68 : decode cX1_ticksOfSeek 68 = .ok (.iadd, 1) := by decide +kernel
theorem dX1_ticksOfSeek_69 : decode cX1_ticksOfSeek 69 = .ok (.ireturn, 1) := by decide +kernel
theorem dX1_angleOfPlace_0 : decode cX1_angleOfPlace 0 = .ok (.iload_n 1, 1) := by decide +kernel
theorem dX1_angleOfPlace_1 : decode cX1_angleOfPlace 1 = .ok (.invokestatic 64, 3) := by decide +kernel
theorem dX1_angleOfPlace_4 : decode cX1_angleOfPlace 4 = .ok (.iload_n 1, 1) := by decide +kernel
theorem dX1_angleOfPlace_5 : decode cX1_angleOfPlace 5 = .ok (.invokestatic 69, 3) := by decide +kernel
theorem dX1_angleOfPlace_8 : decode cX1_angleOfPlace 8 = .ok (.imul, 1) := by decide +kernel
theorem dX1_angleOfPlace_9 : decode cX1_angleOfPlace 9 = .ok (.istore_n 2, 1) := by decide +kernel
theorem dX1_angleOfPlace_10 : decode cX1_angleOfPlace 10 = .ok (.iload_n 2, 1) := by decide +kernel
theorem dX1_angleOfPlace_11 : decode cX1_angleOfPlace 11 = .ok (.iload_n 1, 1) := by decide +kernel
theorem dX1_angleOfPlace_12 : decode cX1_angleOfPlace 12 = .ok (.invokestatic 72, 3) := by decide +kernel
theorem dX1_angleOfPlace_15 : decode cX1_angleOfPlace 15 = .ok (.aload_n 0, 1) := by decide +kernel
theorem dX1_angleOfPlace_16 : decode cX1_angleOfPlace 16 = .ok (.getfield 28, 3) := by decide +kernel
theorem dX1_angleOfPlace_19 : decode cX1_angleOfPlace 19 = .ok (.imul, 1) := by decide +kernel
theorem dX1_angleOfPlace_20 : decode cX1_angleOfPlace 20 = .ok (.iadd, 1) := by decide +kernel
theorem dX1_angleOfPlace_21 : decode cX1_angleOfPlace 21 = .ok (.bipush 120, 2) := by decide +kernel
theorem dX1_angleOfPlace_23 : decode cX1_angleOfPlace 23 = .ok (.irem, 1) := by decide +kernel
theorem dX1_angleOfPlace_24 : decode cX1_angleOfPlace 24 = .ok (.ireturn, 1) := by decide +kernel
theorem dX1_ticksToAccess_0 : decode cX1_ticksToAccess 0 = .ok (.aload_n 0, 1) := by decide +kernel
theorem dX1_ticksToAccess_1 : decode cX1_ticksToAccess 1 = .ok (.aload_n 0, 1) := by decide +kernel
theorem dX1_ticksToAccess_2 : decode cX1_ticksToAccess 2 = .ok (.getfield 34, 3) := by decide +kernel
theorem dX1_ticksToAccess_5 : decode cX1_ticksToAccess 5 = .ok (.iload_n 1, 1) := by decide +kernel
theorem dX1_ticksToAccess_6 : decode cX1_ticksToAccess 6 = .ok (.invokestatic 72, 3) := by decide +kernel
theorem dX1_ticksToAccess_9 : decode cX1_ticksToAccess 9 = .ok (.invokevirtual 75, 3) := by decide +kernel
theorem dX1_ticksToAccess_12 : decode cX1_ticksToAccess 12 = .ok (.istore_n 2, 1) := by decide +kernel
theorem dX1_ticksToAccess_13 : decode cX1_ticksToAccess 13 = .ok (.iload_n 2, 1) := by decide +kernel
theorem dX1_ticksToAccess_14 : decode cX1_ticksToAccess 14 = .ok (.aload_n 0, 1) := by decide +kernel
theorem dX1_ticksToAccess_15 : decode cX1_ticksToAccess 15 = .ok (.iload_n 1, 1) := by decide +kernel
theorem dX1_ticksToAccess_16 : decode cX1_ticksToAccess 16 = .ok (.invokevirtual 79, 3) := by decide +kernel
theorem dX1_ticksToAccess_19 : decode cX1_ticksToAccess 19 = .ok (.aload_n 0, 1) := by decide +kernel
theorem dX1_ticksToAccess_20 : decode cX1_ticksToAccess 20 = .ok (.getfield 31, 3) := by decide +kernel
theorem dX1_ticksToAccess_23 : decode cX1_ticksToAccess 23 = .ok (.iload_n 2, 1) := by decide +kernel
theorem dX1_ticksToAccess_24 : decode cX1_ticksToAccess 24 = .ok (.iadd, 1) := by decide +kernel
theorem dX1_ticksToAccess_25 : decode cX1_ticksToAccess 25 = .ok (.invokestatic 82, 3) := by decide +kernel
theorem dX1_ticksToAccess_28 : decode cX1_ticksToAccess 28 = .ok (.iadd, 1) := by decide +kernel
theorem dX1_ticksToAccess_29 : decode cX1_ticksToAccess 29 = .ok (.iload_n 1, 1) := by decide +kernel
theorem dX1_ticksToAccess_30 : decode cX1_ticksToAccess 30 = .ok (.invokestatic 69, 3) := by decide +kernel
theorem dX1_ticksToAccess_33 : decode cX1_ticksToAccess 33 = .ok (.iadd, 1) := by decide +kernel
theorem dX1_ticksToAccess_34 : decode cX1_ticksToAccess 34 = .ok (.ireturn, 1) := by decide +kernel
theorem dX1_ticksOfWait_0 : decode cX1_ticksOfWait 0 = .ok (.iload_n 0, 1) := by decide +kernel
theorem dX1_ticksOfWait_1 : decode cX1_ticksOfWait 1 = .ok (.iload_n 1, 1) := by decide +kernel
theorem dX1_ticksOfWait_2 : decode cX1_ticksOfWait 2 = .ok (.isub, 1) := by decide +kernel
theorem dX1_ticksOfWait_3 : decode cX1_ticksOfWait 3 = .ok (.bipush 120, 2) := by decide +kernel
theorem dX1_ticksOfWait_5 : decode cX1_ticksOfWait 5 = .ok (.invokestatic 85, 3) := by decide +kernel
theorem dX1_ticksOfWait_8 : decode cX1_ticksOfWait 8 = .ok (.ireturn, 1) := by decide +kernel
theorem dX1_access_0 : decode cX1_access 0 = .ok (.iload_n 1, 1) := by decide +kernel
theorem dX1_access_1 : decode cX1_access 1 = .ok (.invokestatic 72, 3) := by decide +kernel
theorem dX1_access_4 : decode cX1_access 4 = .ok (.istore_n 2, 1) := by decide +kernel
theorem dX1_access_5 : decode cX1_access 5 = .ok (.aload_n 0, 1) := by decide +kernel
theorem dX1_access_6 : decode cX1_access 6 = .ok (.aload_n 0, 1) := by decide +kernel
theorem dX1_access_7 : decode cX1_access 7 = .ok (.getfield 34, 3) := by decide +kernel
theorem dX1_access_10 : decode cX1_access 10 = .ok (.iload_n 2, 1) := by decide +kernel
theorem dX1_access_11 : decode cX1_access 11 = .ok (.invokevirtual 75, 3) := by decide +kernel
theorem dX1_access_14 : decode cX1_access 14 = .ok (.istore_n 3, 1) := by decide +kernel
theorem dX1_access_15 : decode cX1_access 15 = .ok (.aload_n 0, 1) := by decide +kernel
theorem dX1_access_16 : decode cX1_access 16 = .ok (.iload_n 1, 1) := by decide +kernel
theorem dX1_access_17 : decode cX1_access 17 = .ok (.invokevirtual 79, 3) := by decide +kernel
theorem dX1_access_20 : decode cX1_access 20 = .ok (.aload_n 0, 1) := by decide +kernel
theorem dX1_access_21 : decode cX1_access 21 = .ok (.getfield 31, 3) := by decide +kernel
theorem dX1_access_24 : decode cX1_access 24 = .ok (.iload_n 3, 1) := by decide +kernel
theorem dX1_access_25 : decode cX1_access 25 = .ok (.iadd, 1) := by decide +kernel
theorem dX1_access_26 : decode cX1_access 26 = .ok (.invokestatic 82, 3) := by decide +kernel
theorem dX1_access_29 : decode cX1_access 29 = .ok (.istore 4, 2) := by decide +kernel
theorem dX1_access_31 : decode cX1_access 31 = .ok (.iload_n 1, 1) := by decide +kernel
theorem dX1_access_32 : decode cX1_access 32 = .ok (.invokestatic 69, 3) := by decide +kernel
theorem dX1_access_35 : decode cX1_access 35 = .ok (.istore 5, 2) := by decide +kernel
theorem dX1_access_37 : decode cX1_access 37 = .ok (.aload_n 0, 1) := by decide +kernel
theorem dX1_access_38 : decode cX1_access 38 = .ok (.dup, 1) := by decide +kernel
theorem dX1_access_39 : decode cX1_access 39 = .ok (.getfield 31, 3) := by decide +kernel
theorem dX1_access_42 : decode cX1_access 42 = .ok (.iload_n 3, 1) := by decide +kernel
theorem dX1_access_43 : decode cX1_access 43 = .ok (.iload 4, 2) := by decide +kernel
theorem dX1_access_45 : decode cX1_access 45 = .ok (.iadd, 1) := by decide +kernel
theorem dX1_access_46 : decode cX1_access 46 = .ok (.iload 5, 2) := by decide +kernel
theorem dX1_access_48 : decode cX1_access 48 = .ok (.iadd, 1) := by decide +kernel
theorem dX1_access_49 : decode cX1_access 49 = .ok (.iadd, 1) := by decide +kernel
theorem dX1_access_50 : decode cX1_access 50 = .ok (.putfield 31, 3) := by decide +kernel
theorem dX1_access_53 : decode cX1_access 53 = .ok (.aload_n 0, 1) := by decide +kernel
theorem dX1_access_54 : decode cX1_access 54 = .ok (.iload_n 2, 1) := by decide +kernel
theorem dX1_access_55 : decode cX1_access 55 = .ok (.putfield 34, 3) := by decide +kernel
theorem dX1_access_58 : decode cX1_access 58 = .ok (.aload_n 0, 1) := by decide +kernel
theorem dX1_access_59 : decode cX1_access 59 = .ok (.dup, 1) := by decide +kernel
theorem dX1_access_60 : decode cX1_access 60 = .ok (.getfield 37, 3) := by decide +kernel
theorem dX1_access_63 : decode cX1_access 63 = .ok (.iload_n 3, 1) := by decide +kernel
theorem dX1_access_64 : decode cX1_access 64 = .ok (.iadd, 1) := by decide +kernel
theorem dX1_access_65 : decode cX1_access 65 = .ok (.putfield 37, 3) := by decide +kernel
theorem dX1_access_68 : decode cX1_access 68 = .ok (.aload_n 0, 1) := by decide +kernel
theorem dX1_access_69 : decode cX1_access 69 = .ok (.dup, 1) := by decide +kernel
theorem dX1_access_70 : decode cX1_access 70 = .ok (.getfield 40, 3) := by decide +kernel
theorem dX1_access_73 : decode cX1_access 73 = .ok (.iload 4, 2) := by decide +kernel
theorem dX1_access_75 : decode cX1_access 75 = .ok (.iadd, 1) := by decide +kernel
theorem dX1_access_76 : decode cX1_access 76 = .ok (.putfield 40, 3) := by decide +kernel
theorem dX1_access_79 : decode cX1_access 79 = .ok (.aload_n 0, 1) := by decide +kernel
theorem dX1_access_80 : decode cX1_access 80 = .ok (.dup, 1) := by decide +kernel
theorem dX1_access_81 : decode cX1_access 81 = .ok (.getfield 43, 3) := by decide +kernel
theorem dX1_access_84 : decode cX1_access 84 = .ok (.iload 5, 2) := by decide +kernel
theorem dX1_access_86 : decode cX1_access 86 = .ok (.iadd, 1) := by decide +kernel
theorem dX1_access_87 : decode cX1_access 87 = .ok (.putfield 43, 3) := by decide +kernel
theorem dX1_access_90 : decode cX1_access 90 = .ok (.aload_n 0, 1) := by decide +kernel
theorem dX1_access_91 : decode cX1_access 91 = .ok (.dup, 1) := by decide +kernel
theorem dX1_access_92 : decode cX1_access 92 = .ok (.getfield 46, 3) := by decide +kernel
theorem dX1_access_95 : decode cX1_access 95 = .ok (.iconst 1, 1) := by decide +kernel
theorem dX1_access_96 : decode cX1_access 96 = .ok (.iadd, 1) := by decide +kernel
theorem dX1_access_97 : decode cX1_access 97 = .ok (.putfield 46, 3) := by decide +kernel
theorem dX1_access_100 : decode cX1_access 100 = .ok (.iload_n 1, 1) := by decide +kernel
theorem dX1_access_101 : decode cX1_access 101 = .ok (.iconst 0, 1) := by decide +kernel
theorem dX1_access_102 : decode cX1_access 102 = .ok (.sipush 575, 3) := by decide +kernel
theorem dX1_access_105 : decode cX1_access 105 = .ok (.invokestatic 56, 3) := by decide +kernel
theorem dX1_access_108 : decode cX1_access 108 = .ok (.ifCond .eq 13, 3) := by decide +kernel
theorem dX1_access_111 : decode cX1_access 111 = .ok (.aload_n 0, 1) := by decide +kernel
theorem dX1_access_112 : decode cX1_access 112 = .ok (.getfield 25, 3) := by decide +kernel
theorem dX1_access_115 : decode cX1_access 115 = .ok (.iload_n 1, 1) := by decide +kernel
theorem dX1_access_116 : decode cX1_access 116 = .ok (.dup2, 1) := by decide +kernel
theorem dX1_access_117 : decode cX1_access 117 = .ok (.iaload, 1) := by decide +kernel
theorem dX1_access_118 : decode cX1_access 118 = .ok (.iconst 1, 1) := by decide +kernel
theorem dX1_access_119 : decode cX1_access 119 = .ok (.iadd, 1) := by decide +kernel
theorem dX1_access_120 : decode cX1_access 120 = .ok (.iastore, 1) := by decide +kernel
theorem dX1_access_121 : decode cX1_access 121 = .ok (.return_, 1) := by decide +kernel
theorem dX2_zoneOfPlace_0 : decode cX2_zoneOfPlace 0 = .ok (.iconst 3, 1) := by decide +kernel
theorem dX2_zoneOfPlace_1 : decode cX2_zoneOfPlace 1 = .ok (.istore_n 1, 1) := by decide +kernel
theorem dX2_zoneOfPlace_2 : decode cX2_zoneOfPlace 2 = .ok (.iload_n 1, 1) := by decide +kernel
theorem dX2_zoneOfPlace_3 : decode cX2_zoneOfPlace 3 = .ok (.ifCond .le 20, 3) := by decide +kernel
theorem dX2_zoneOfPlace_6 : decode cX2_zoneOfPlace 6 = .ok (.iload_n 0, 1) := by decide +kernel
theorem dX2_zoneOfPlace_7 : decode cX2_zoneOfPlace 7 = .ok (.getstatic 9, 3) := by decide +kernel
theorem dX2_zoneOfPlace_10 : decode cX2_zoneOfPlace 10 = .ok (.iload_n 1, 1) := by decide +kernel
theorem dX2_zoneOfPlace_11 : decode cX2_zoneOfPlace 11 = .ok (.iaload, 1) := by decide +kernel
theorem dX2_zoneOfPlace_12 : decode cX2_zoneOfPlace 12 = .ok (.if_icmp .lt 5, 3) := by decide +kernel
theorem dX2_zoneOfPlace_15 : decode cX2_zoneOfPlace 15 = .ok (.iload_n 1, 1) := by decide +kernel
theorem dX2_zoneOfPlace_16 : decode cX2_zoneOfPlace 16 = .ok (.ireturn, 1) := by decide +kernel
theorem dX2_zoneOfPlace_17 : decode cX2_zoneOfPlace 17 = .ok (.iinc 1 (-1), 3) := by decide +kernel
theorem dX2_zoneOfPlace_20 : decode cX2_zoneOfPlace 20 = .ok (.goto (-18), 3) := by decide +kernel
theorem dX2_zoneOfPlace_23 : decode cX2_zoneOfPlace 23 = .ok (.iconst 0, 1) := by decide +kernel
theorem dX2_zoneOfPlace_24 : decode cX2_zoneOfPlace 24 = .ok (.ireturn, 1) := by decide +kernel
theorem dX2_cylinderOfPlace_0 : decode cX2_cylinderOfPlace 0 = .ok (.iload_n 0, 1) := by decide +kernel
theorem dX2_cylinderOfPlace_1 : decode cX2_cylinderOfPlace 1 = .ok (.invokestatic 13, 3) := by decide +kernel
theorem dX2_cylinderOfPlace_4 : decode cX2_cylinderOfPlace 4 = .ok (.istore_n 1, 1) := by decide +kernel
theorem dX2_cylinderOfPlace_5 : decode cX2_cylinderOfPlace 5 = .ok (.iload_n 1, 1) := by decide +kernel
theorem dX2_cylinderOfPlace_6 : decode cX2_cylinderOfPlace 6 = .ok (.bipush 16, 2) := by decide +kernel
theorem dX2_cylinderOfPlace_8 : decode cX2_cylinderOfPlace 8 = .ok (.imul, 1) := by decide +kernel
theorem dX2_cylinderOfPlace_9 : decode cX2_cylinderOfPlace 9 = .ok (.iload_n 0, 1) := by decide +kernel
theorem dX2_cylinderOfPlace_10 : decode cX2_cylinderOfPlace 10 = .ok (.getstatic 9, 3) := by decide +kernel
theorem dX2_cylinderOfPlace_13 : decode cX2_cylinderOfPlace 13 = .ok (.iload_n 1, 1) := by decide +kernel
theorem dX2_cylinderOfPlace_14 : decode cX2_cylinderOfPlace 14 = .ok (.iaload, 1) := by decide +kernel
theorem dX2_cylinderOfPlace_15 : decode cX2_cylinderOfPlace 15 = .ok (.isub, 1) := by decide +kernel
theorem dX2_cylinderOfPlace_16 : decode cX2_cylinderOfPlace 16 = .ok (.getstatic 19, 3) := by decide +kernel
theorem dX2_cylinderOfPlace_19 : decode cX2_cylinderOfPlace 19 = .ok (.iload_n 1, 1) := by decide +kernel
theorem dX2_cylinderOfPlace_20 : decode cX2_cylinderOfPlace 20 = .ok (.iaload, 1) := by decide +kernel
theorem dX2_cylinderOfPlace_21 : decode cX2_cylinderOfPlace 21 = .ok (.invokestatic 22, 3) := by decide +kernel
theorem dX2_cylinderOfPlace_24 : decode cX2_cylinderOfPlace 24 = .ok (.iadd, 1) := by decide +kernel
theorem dX2_cylinderOfPlace_25 : decode cX2_cylinderOfPlace 25 = .ok (.ireturn, 1) := by decide +kernel
theorem dX2_sectorOfPlace_0 : decode cX2_sectorOfPlace 0 = .ok (.iload_n 0, 1) := by decide +kernel
theorem dX2_sectorOfPlace_1 : decode cX2_sectorOfPlace 1 = .ok (.invokestatic 13, 3) := by decide +kernel
theorem dX2_sectorOfPlace_4 : decode cX2_sectorOfPlace 4 = .ok (.istore_n 1, 1) := by decide +kernel
theorem dX2_sectorOfPlace_5 : decode cX2_sectorOfPlace 5 = .ok (.iload_n 0, 1) := by decide +kernel
theorem dX2_sectorOfPlace_6 : decode cX2_sectorOfPlace 6 = .ok (.getstatic 9, 3) := by decide +kernel
theorem dX2_sectorOfPlace_9 : decode cX2_sectorOfPlace 9 = .ok (.iload_n 1, 1) := by decide +kernel
theorem dX2_sectorOfPlace_10 : decode cX2_sectorOfPlace 10 = .ok (.iaload, 1) := by decide +kernel
theorem dX2_sectorOfPlace_11 : decode cX2_sectorOfPlace 11 = .ok (.isub, 1) := by decide +kernel
theorem dX2_sectorOfPlace_12 : decode cX2_sectorOfPlace 12 = .ok (.istore_n 2, 1) := by decide +kernel
theorem dX2_sectorOfPlace_13 : decode cX2_sectorOfPlace 13 = .ok (.iload_n 2, 1) := by decide +kernel
theorem dX2_sectorOfPlace_14 : decode cX2_sectorOfPlace 14 = .ok (.iload_n 2, 1) := by decide +kernel
theorem dX2_sectorOfPlace_15 : decode cX2_sectorOfPlace 15 = .ok (.getstatic 19, 3) := by decide +kernel
theorem dX2_sectorOfPlace_18 : decode cX2_sectorOfPlace 18 = .ok (.iload_n 1, 1) := by decide +kernel
theorem dX2_sectorOfPlace_19 : decode cX2_sectorOfPlace 19 = .ok (.iaload, 1) := by decide +kernel
theorem dX2_sectorOfPlace_20 : decode cX2_sectorOfPlace 20 = .ok (.invokestatic 22, 3) := by decide +kernel
theorem dX2_sectorOfPlace_23 : decode cX2_sectorOfPlace 23 = .ok (.getstatic 19, 3) := by decide +kernel
theorem dX2_sectorOfPlace_26 : decode cX2_sectorOfPlace 26 = .ok (.iload_n 1, 1) := by decide +kernel
theorem dX2_sectorOfPlace_27 : decode cX2_sectorOfPlace 27 = .ok (.iaload, 1) := by decide +kernel
theorem dX2_sectorOfPlace_28 : decode cX2_sectorOfPlace 28 = .ok (.imul, 1) := by decide +kernel
theorem dX2_sectorOfPlace_29 : decode cX2_sectorOfPlace 29 = .ok (.isub, 1) := by decide +kernel
theorem dX2_sectorOfPlace_30 : decode cX2_sectorOfPlace 30 = .ok (.ireturn, 1) := by decide +kernel
theorem dX2_sectorTicksAt_0 : decode cX2_sectorTicksAt 0 = .ok (.getstatic 26, 3) := by decide +kernel
theorem dX2_sectorTicksAt_3 : decode cX2_sectorTicksAt 3 = .ok (.iload_n 0, 1) := by decide +kernel
theorem dX2_sectorTicksAt_4 : decode cX2_sectorTicksAt 4 = .ok (.invokestatic 13, 3) := by decide +kernel
theorem dX2_sectorTicksAt_7 : decode cX2_sectorTicksAt 7 = .ok (.iaload, 1) := by decide +kernel
theorem dX2_sectorTicksAt_8 : decode cX2_sectorTicksAt 8 = .ok (.ireturn, 1) := by decide +kernel
theorem dX2_quotient_0 : decode cX2_quotient 0 = .ok (.iload_n 1, 1) := by decide +kernel
theorem dX2_quotient_1 : decode cX2_quotient 1 = .ok (.ifCond .le 9, 3) := by decide +kernel
theorem dX2_quotient_4 : decode cX2_quotient 4 = .ok (.iload_n 0, 1) := by decide +kernel
theorem dX2_quotient_5 : decode cX2_quotient 5 = .ok (.iload_n 1, 1) := by decide +kernel
theorem dX2_quotient_6 : decode cX2_quotient 6 = .ok (.idiv, 1) := by decide +kernel
theorem dX2_quotient_7 : decode cX2_quotient 7 = .ok (.goto 4, 3) := by decide +kernel
theorem dX2_quotient_10 : decode cX2_quotient 10 = .ok (.iconst 0, 1) := by decide +kernel
theorem dX2_quotient_11 : decode cX2_quotient 11 = .ok (.ireturn, 1) := by decide +kernel
theorem dX3_init_0 : decode cX3_init 0 = .ok (.aload_n 0, 1) := by decide +kernel
theorem dX3_init_1 : decode cX3_init 1 = .ok (.invokespecial 3, 3) := by decide +kernel
theorem dX3_init_4 : decode cX3_init 4 = .ok (.aload_n 0, 1) := by decide +kernel
theorem dX3_init_5 : decode cX3_init 5 = .ok (.bipush 6, 2) := by decide +kernel
theorem dX3_init_7 : decode cX3_init 7 = .ok (.newarray .int, 2) := by decide +kernel
theorem dX3_init_9 : decode cX3_init 9 = .ok (.putfield 9, 3) := by decide +kernel
theorem dX3_init_12 : decode cX3_init 12 = .ok (.aload_n 0, 1) := by decide +kernel
theorem dX3_init_13 : decode cX3_init 13 = .ok (.bipush 6, 2) := by decide +kernel
theorem dX3_init_15 : decode cX3_init 15 = .ok (.newarray .int, 2) := by decide +kernel
theorem dX3_init_17 : decode cX3_init 17 = .ok (.putfield 15, 3) := by decide +kernel
theorem dX3_init_20 : decode cX3_init 20 = .ok (.aload_n 0, 1) := by decide +kernel
theorem dX3_init_21 : decode cX3_init 21 = .ok (.bipush 6, 2) := by decide +kernel
theorem dX3_init_23 : decode cX3_init 23 = .ok (.newarray .int, 2) := by decide +kernel
theorem dX3_init_25 : decode cX3_init 25 = .ok (.putfield 18, 3) := by decide +kernel
theorem dX3_init_28 : decode cX3_init 28 = .ok (.aload_n 0, 1) := by decide +kernel
theorem dX3_init_29 : decode cX3_init 29 = .ok (.bipush 6, 2) := by decide +kernel
theorem dX3_init_31 : decode cX3_init 31 = .ok (.newarray .int, 2) := by decide +kernel
theorem dX3_init_33 : decode cX3_init 33 = .ok (.putfield 21, 3) := by decide +kernel
theorem dX3_init_36 : decode cX3_init 36 = .ok (.aload_n 0, 1) := by decide +kernel
theorem dX3_init_37 : decode cX3_init 37 = .ok (.bipush 6, 2) := by decide +kernel
theorem dX3_init_39 : decode cX3_init 39 = .ok (.newarray .int, 2) := by decide +kernel
theorem dX3_init_41 : decode cX3_init 41 = .ok (.putfield 24, 3) := by decide +kernel
theorem dX3_init_44 : decode cX3_init 44 = .ok (.aload_n 0, 1) := by decide +kernel
theorem dX3_init_45 : decode cX3_init 45 = .ok (.bipush 6, 2) := by decide +kernel
theorem dX3_init_47 : decode cX3_init 47 = .ok (.newarray .boolean, 2) := by decide +kernel
theorem dX3_init_49 : decode cX3_init 49 = .ok (.putfield 27, 3) := by decide +kernel
theorem dX3_init_52 : decode cX3_init 52 = .ok (.aload_n 0, 1) := by decide +kernel
theorem dX3_init_53 : decode cX3_init 53 = .ok (.bipush 6, 2) := by decide +kernel
theorem dX3_init_55 : decode cX3_init 55 = .ok (.newarray .int, 2) := by decide +kernel
theorem dX3_init_57 : decode cX3_init 57 = .ok (.putfield 31, 3) := by decide +kernel
theorem dX3_init_60 : decode cX3_init 60 = .ok (.aload_n 0, 1) := by decide +kernel
theorem dX3_init_61 : decode cX3_init 61 = .ok (.bipush 6, 2) := by decide +kernel
theorem dX3_init_63 : decode cX3_init 63 = .ok (.newarray .int, 2) := by decide +kernel
theorem dX3_init_65 : decode cX3_init 65 = .ok (.putfield 34, 3) := by decide +kernel
theorem dX3_init_68 : decode cX3_init 68 = .ok (.return_, 1) := by decide +kernel
theorem dX3_gather_0 : decode cX3_gather 0 = .ok (.aload_n 0, 1) := by decide +kernel
theorem dX3_gather_1 : decode cX3_gather 1 = .ok (.iconst 0, 1) := by decide +kernel
theorem dX3_gather_2 : decode cX3_gather 2 = .ok (.putfield 37, 3) := by decide +kernel
theorem dX3_gather_5 : decode cX3_gather 5 = .ok (.iconst 0, 1) := by decide +kernel
theorem dX3_gather_6 : decode cX3_gather 6 = .ok (.istore 5, 2) := by decide +kernel
theorem dX3_gather_8 : decode cX3_gather 8 = .ok (.iload 5, 2) := by decide +kernel
theorem dX3_gather_10 : decode cX3_gather 10 = .ok (.aload_n 1, 1) := by decide +kernel
theorem dX3_gather_11 : decode cX3_gather 11 = .ok (.getfield 41, 3) := by decide +kernel
theorem dX3_gather_14 : decode cX3_gather 14 = .ok (.if_icmp .ge 160, 3) := by decide +kernel
theorem dX3_gather_17 : decode cX3_gather 17 = .ok (.aload_n 0, 1) := by decide +kernel
theorem dX3_gather_18 : decode cX3_gather 18 = .ok (.getfield 37, 3) := by decide +kernel
theorem dX3_gather_21 : decode cX3_gather 21 = .ok (.bipush 6, 2) := by decide +kernel
theorem dX3_gather_23 : decode cX3_gather 23 = .ok (.if_icmp .ge 151, 3) := by decide +kernel
theorem dX3_gather_26 : decode cX3_gather 26 = .ok (.aload_n 1, 1) := by decide +kernel
theorem dX3_gather_27 : decode cX3_gather 27 = .ok (.iload 5, 2) := by decide +kernel
theorem dX3_gather_29 : decode cX3_gather 29 = .ok (.invokevirtual 46, 3) := by decide +kernel
theorem dX3_gather_32 : decode cX3_gather 32 = .ok (.astore 6, 2) := by decide +kernel
theorem dX3_gather_34 : decode cX3_gather 34 = .ok (.aload 6, 2) := by decide +kernel
theorem dX3_gather_36 : decode cX3_gather 36 = .ok (.ifnull 132, 3) := by decide +kernel
theorem dX3_gather_39 : decode cX3_gather 39 = .ok (.aload 6, 2) := by decide +kernel
theorem dX3_gather_41 : decode cX3_gather 41 = .ok (.invokevirtual 50, 3) := by decide +kernel
theorem dX3_gather_44 : decode cX3_gather 44 = .ok (.ifCond .ne 7, 3) := by decide +kernel
theorem dX3_gather_47 : decode cX3_gather 47 = .ok (.iload_n 3, 1) := by decide +kernel
theorem dX3_gather_48 : decode cX3_gather 48 = .ok (.ifCond .ne 120, 3) := by decide +kernel
theorem dX3_gather_51 : decode cX3_gather 51 = .ok (.aload_n 2, 1) := by decide +kernel
theorem dX3_gather_52 : decode cX3_gather 52 = .ok (.aload 6, 2) := by decide +kernel
theorem dX3_gather_54 : decode cX3_gather 54 = .ok (.getfield 56, 3) := by decide +kernel
theorem dX3_gather_57 : decode cX3_gather 57 = .ok (.invokevirtual 59, 3) := by decide +kernel
theorem dX3_gather_60 : decode cX3_gather 60 = .ok (.istore 7, 2) := by decide +kernel
theorem dX3_gather_62 : decode cX3_gather 62 = .ok (.aload_n 0, 1) := by decide +kernel
theorem dX3_gather_63 : decode cX3_gather 63 = .ok (.getfield 9, 3) := by decide +kernel
theorem dX3_gather_66 : decode cX3_gather 66 = .ok (.aload_n 0, 1) := by decide +kernel
theorem dX3_gather_67 : decode cX3_gather 67 = .ok (.getfield 37, 3) := by decide +kernel
theorem dX3_gather_70 : decode cX3_gather 70 = .ok (.iload 5, 2) := by decide +kernel
theorem dX3_gather_72 : decode cX3_gather 72 = .ok (.iastore, 1) := by decide +kernel
theorem dX3_gather_73 : decode cX3_gather 73 = .ok (.aload_n 0, 1) := by decide +kernel
theorem dX3_gather_74 : decode cX3_gather 74 = .ok (.getfield 15, 3) := by decide +kernel
theorem dX3_gather_77 : decode cX3_gather 77 = .ok (.aload_n 0, 1) := by decide +kernel
theorem dX3_gather_78 : decode cX3_gather 78 = .ok (.getfield 37, 3) := by decide +kernel
theorem dX3_gather_81 : decode cX3_gather 81 = .ok (.iload 7, 2) := by decide +kernel
theorem dX3_gather_83 : decode cX3_gather 83 = .ok (.invokestatic 65, 3) := by decide +kernel
theorem dX3_gather_86 : decode cX3_gather 86 = .ok (.iastore, 1) := by decide +kernel
theorem dX3_gather_87 : decode cX3_gather 87 = .ok (.aload_n 0, 1) := by decide +kernel
theorem dX3_gather_88 : decode cX3_gather 88 = .ok (.getfield 18, 3) := by decide +kernel
theorem dX3_gather_91 : decode cX3_gather 91 = .ok (.aload_n 0, 1) := by decide +kernel
theorem dX3_gather_92 : decode cX3_gather 92 = .ok (.getfield 37, 3) := by decide +kernel
theorem dX3_gather_95 : decode cX3_gather 95 = .ok (.aload_n 2, 1) := by decide +kernel
theorem dX3_gather_96 : decode cX3_gather 96 = .ok (.iload 7, 2) := by decide +kernel
theorem dX3_gather_98 : decode cX3_gather 98 = .ok (.invokevirtual 70, 3) := by decide +kernel
theorem dX3_gather_101 : decode cX3_gather 101 = .ok (.iastore, 1) := by decide +kernel
theorem dX3_gather_102 : decode cX3_gather 102 = .ok (.aload_n 0, 1) := by decide +kernel
theorem dX3_gather_103 : decode cX3_gather 103 = .ok (.getfield 21, 3) := by decide +kernel
theorem dX3_gather_106 : decode cX3_gather 106 = .ok (.aload_n 0, 1) := by decide +kernel
theorem dX3_gather_107 : decode cX3_gather 107 = .ok (.getfield 37, 3) := by decide +kernel
theorem dX3_gather_110 : decode cX3_gather 110 = .ok (.iload 7, 2) := by decide +kernel
theorem dX3_gather_112 : decode cX3_gather 112 = .ok (.invokestatic 73, 3) := by decide +kernel
theorem dX3_gather_115 : decode cX3_gather 115 = .ok (.iastore, 1) := by decide +kernel
theorem dX3_gather_116 : decode cX3_gather 116 = .ok (.aload_n 0, 1) := by decide +kernel
theorem dX3_gather_117 : decode cX3_gather 117 = .ok (.getfield 24, 3) := by decide +kernel
theorem dX3_gather_120 : decode cX3_gather 120 = .ok (.aload_n 0, 1) := by decide +kernel
theorem dX3_gather_121 : decode cX3_gather 121 = .ok (.getfield 37, 3) := by decide +kernel
theorem dX3_gather_124 : decode cX3_gather 124 = .ok (.iload 4, 2) := by decide +kernel
theorem dX3_gather_126 : decode cX3_gather 126 = .ok (.ifCond .eq 19, 3) := by decide +kernel
theorem dX3_gather_129 : decode cX3_gather 129 = .ok (.aload 6, 2) := by decide +kernel
theorem dX3_gather_131 : decode cX3_gather 131 = .ok (.invokevirtual 50, 3) := by decide +kernel
theorem dX3_gather_134 : decode cX3_gather 134 = .ok (.ifCond .eq 11, 3) := by decide +kernel
theorem dX3_gather_137 : decode cX3_gather 137 = .ok (.aload 6, 2) := by decide +kernel
theorem dX3_gather_139 : decode cX3_gather 139 = .ok (.getfield 76, 3) := by decide +kernel
theorem dX3_gather_142 : decode cX3_gather 142 = .ok (.goto 5, 3) := by decide +kernel
theorem dX3_gather_145 : decode cX3_gather 145 = .ok (.ldc 79, 2) := by decide +kernel
theorem dX3_gather_147 : decode cX3_gather 147 = .ok (.iastore, 1) := by decide +kernel
theorem dX3_gather_148 : decode cX3_gather 148 = .ok (.aload_n 0, 1) := by decide +kernel
theorem dX3_gather_149 : decode cX3_gather 149 = .ok (.getfield 27, 3) := by decide +kernel
theorem dX3_gather_152 : decode cX3_gather 152 = .ok (.aload_n 0, 1) := by decide +kernel
theorem dX3_gather_153 : decode cX3_gather 153 = .ok (.getfield 37, 3) := by decide +kernel
theorem dX3_gather_156 : decode cX3_gather 156 = .ok (.iconst 0, 1) := by decide +kernel
theorem dX3_gather_157 : decode cX3_gather 157 = .ok (.bastore, 1) := by decide +kernel
theorem dX3_gather_158 : decode cX3_gather 158 = .ok (.aload_n 0, 1) := by decide +kernel
theorem dX3_gather_159 : decode cX3_gather 159 = .ok (.dup, 1) := by decide +kernel
theorem dX3_gather_160 : decode cX3_gather 160 = .ok (.getfield 37, 3) := by decide +kernel
theorem dX3_gather_163 : decode cX3_gather 163 = .ok (.iconst 1, 1) := by decide +kernel
theorem dX3_gather_164 : decode cX3_gather 164 = .ok (.iadd, 1) := by decide +kernel
theorem dX3_gather_165 : decode cX3_gather 165 = .ok (.putfield 37, 3) := by decide +kernel
theorem dX3_gather_168 : decode cX3_gather 168 = .ok (.iinc 5 1, 3) := by decide +kernel
theorem dX3_gather_171 : decode cX3_gather 171 = .ok (.goto (-163), 3) := by decide +kernel
theorem dX3_gather_174 : decode cX3_gather 174 = .ok (.return_, 1) := by decide +kernel
theorem dX3_run_0 : decode cX3_run 0 = .ok (.aload_n 0, 1) := by decide +kernel
theorem dX3_run_1 : decode cX3_run 1 = .ok (.ldc 79, 2) := by decide +kernel
theorem dX3_run_3 : decode cX3_run 3 = .ok (.putfield 80, 3) := by decide +kernel
theorem dX3_run_6 : decode cX3_run 6 = .ok (.aload_n 0, 1) := by decide +kernel
theorem dX3_run_7 : decode cX3_run 7 = .ok (.iconst 0, 1) := by decide +kernel
theorem dX3_run_8 : decode cX3_run 8 = .ok (.aload_n 1, 1) := by decide +kernel
theorem dX3_run_9 : decode cX3_run 9 = .ok (.getfield 83, 3) := by decide +kernel
theorem dX3_run_12 : decode cX3_run 12 = .ok (.aload_n 1, 1) := by decide +kernel
theorem dX3_run_13 : decode cX3_run 13 = .ok (.getfield 86, 3) := by decide +kernel
theorem dX3_run_16 : decode cX3_run 16 = .ok (.aload_n 1, 1) := by decide +kernel
theorem dX3_run_17 : decode cX3_run 17 = .ok (.invokevirtual 89, 3) := by decide +kernel
theorem dX3_run_20 : decode cX3_run 20 = .ok (.return_, 1) := by decide +kernel
theorem dX3_hasFound_0 : decode cX3_hasFound 0 = .ok (.aload_n 0, 1) := by decide +kernel
theorem dX3_hasFound_1 : decode cX3_hasFound 1 = .ok (.getfield 80, 3) := by decide +kernel
theorem dX3_hasFound_4 : decode cX3_hasFound 4 = .ok (.ldc 79, 2) := by decide +kernel
theorem dX3_hasFound_6 : decode cX3_hasFound 6 = .ok (.if_icmp .eq 7, 3) := by decide +kernel
theorem dX3_hasFound_9 : decode cX3_hasFound 9 = .ok (.iconst 1, 1) := by decide +kernel
theorem dX3_hasFound_10 : decode cX3_hasFound 10 = .ok (.goto 4, 3) := by decide +kernel
theorem dX3_hasFound_13 : decode cX3_hasFound 13 = .ok (.iconst 0, 1) := by decide +kernel
theorem dX3_hasFound_14 : decode cX3_hasFound 14 = .ok (.ireturn, 1) := by decide +kernel
theorem dX3_requestAt_0 : decode cX3_requestAt 0 = .ok (.iload_n 1, 1) := by decide +kernel
theorem dX3_requestAt_1 : decode cX3_requestAt 1 = .ok (.iconst 0, 1) := by decide +kernel
theorem dX3_requestAt_2 : decode cX3_requestAt 2 = .ok (.iconst 5, 1) := by decide +kernel
theorem dX3_requestAt_3 : decode cX3_requestAt 3 = .ok (.invokestatic 93, 3) := by decide +kernel
theorem dX3_requestAt_6 : decode cX3_requestAt 6 = .ok (.ifCond .eq 12, 3) := by decide +kernel
theorem dX3_requestAt_9 : decode cX3_requestAt 9 = .ok (.aload_n 0, 1) := by decide +kernel
theorem dX3_requestAt_10 : decode cX3_requestAt 10 = .ok (.getfield 34, 3) := by decide +kernel
theorem dX3_requestAt_13 : decode cX3_requestAt 13 = .ok (.iload_n 1, 1) := by decide +kernel
theorem dX3_requestAt_14 : decode cX3_requestAt 14 = .ok (.iaload, 1) := by decide +kernel
theorem dX3_requestAt_15 : decode cX3_requestAt 15 = .ok (.goto 4, 3) := by decide +kernel
theorem dX3_requestAt_18 : decode cX3_requestAt 18 = .ok (.iconst (-1), 1) := by decide +kernel
theorem dX3_requestAt_19 : decode cX3_requestAt 19 = .ok (.ireturn, 1) := by decide +kernel
theorem dX3_tryFrom_0 : decode cX3_tryFrom 0 = .ok (.iload_n 3, 1) := by decide +kernel
theorem dX3_tryFrom_1 : decode cX3_tryFrom 1 = .ok (.aload_n 0, 1) := by decide +kernel
theorem dX3_tryFrom_2 : decode cX3_tryFrom 2 = .ok (.getfield 80, 3) := by decide +kernel
theorem dX3_tryFrom_5 : decode cX3_tryFrom 5 = .ok (.if_icmp .lt 4, 3) := by decide +kernel
theorem dX3_tryFrom_8 : decode cX3_tryFrom 8 = .ok (.return_, 1) := by decide +kernel
theorem dX3_tryFrom_9 : decode cX3_tryFrom 9 = .ok (.iload_n 1, 1) := by decide +kernel
theorem dX3_tryFrom_10 : decode cX3_tryFrom 10 = .ok (.aload_n 0, 1) := by decide +kernel
theorem dX3_tryFrom_11 : decode cX3_tryFrom 11 = .ok (.getfield 37, 3) := by decide +kernel
theorem dX3_tryFrom_14 : decode cX3_tryFrom 14 = .ok (.if_icmp .ge 9, 3) := by decide +kernel
theorem dX3_tryFrom_17 : decode cX3_tryFrom 17 = .ok (.iload_n 1, 1) := by decide +kernel
theorem dX3_tryFrom_18 : decode cX3_tryFrom 18 = .ok (.bipush 6, 2) := by decide +kernel
theorem dX3_tryFrom_20 : decode cX3_tryFrom 20 = .ok (.if_icmp .lt 20, 3) := by decide +kernel
theorem dX3_tryFrom_23 : decode cX3_tryFrom 23 = .ok (.aload_n 0, 1) := by decide +kernel
theorem dX3_tryFrom_24 : decode cX3_tryFrom 24 = .ok (.iload_n 3, 1) := by decide +kernel
theorem dX3_tryFrom_25 : decode cX3_tryFrom 25 = .ok (.putfield 80, 3) := by decide +kernel
theorem dX3_tryFrom_28 : decode cX3_tryFrom 28 = .ok (.aload_n 0, 1) := by decide +kernel
theorem dX3_tryFrom_29 : decode cX3_tryFrom 29 = .ok (.getfield 31, 3) := by decide +kernel
theorem dX3_tryFrom_32 : decode cX3_tryFrom 32 = .ok (.aload_n 0, 1) := by decide +kernel
theorem dX3_tryFrom_33 : decode cX3_tryFrom 33 = .ok (.getfield 34, 3) := by decide +kernel
theorem dX3_tryFrom_36 : decode cX3_tryFrom 36 = .ok (.invokestatic 97, 3) := by decide +kernel
theorem dX3_tryFrom_39 : decode cX3_tryFrom 39 = .ok (.return_, 1) := by decide +kernel
theorem dX3_tryFrom_40 : decode cX3_tryFrom 40 = .ok (.iconst 0, 1) := by decide +kernel
theorem dX3_tryFrom_41 : decode cX3_tryFrom 41 = .ok (.istore 5, 2) := by decide +kernel
theorem dX3_tryFrom_43 : decode cX3_tryFrom 43 = .ok (.iload 5, 2) := by decide +kernel
theorem dX3_tryFrom_45 : decode cX3_tryFrom 45 = .ok (.aload_n 0, 1) := by decide +kernel
theorem dX3_tryFrom_46 : decode cX3_tryFrom 46 = .ok (.getfield 37, 3) := by decide +kernel
theorem dX3_tryFrom_49 : decode cX3_tryFrom 49 = .ok (.if_icmp .ge 37, 3) := by decide +kernel
theorem dX3_tryFrom_52 : decode cX3_tryFrom 52 = .ok (.iload 5, 2) := by decide +kernel
theorem dX3_tryFrom_54 : decode cX3_tryFrom 54 = .ok (.bipush 6, 2) := by decide +kernel
theorem dX3_tryFrom_56 : decode cX3_tryFrom 56 = .ok (.if_icmp .ge 30, 3) := by decide +kernel
theorem dX3_tryFrom_59 : decode cX3_tryFrom 59 = .ok (.aload_n 0, 1) := by decide +kernel
theorem dX3_tryFrom_60 : decode cX3_tryFrom 60 = .ok (.getfield 27, 3) := by decide +kernel
theorem dX3_tryFrom_63 : decode cX3_tryFrom 63 = .ok (.iload 5, 2) := by decide +kernel
theorem dX3_tryFrom_65 : decode cX3_tryFrom 65 = .ok (.baload, 1) := by decide +kernel
theorem dX3_tryFrom_66 : decode cX3_tryFrom 66 = .ok (.ifCond .ne 14, 3) := by decide +kernel
theorem dX3_tryFrom_69 : decode cX3_tryFrom 69 = .ok (.aload_n 0, 1) := by decide +kernel
theorem dX3_tryFrom_70 : decode cX3_tryFrom 70 = .ok (.iload 5, 2) := by decide +kernel
theorem dX3_tryFrom_72 : decode cX3_tryFrom 72 = .ok (.iload_n 1, 1) := by decide +kernel
theorem dX3_tryFrom_73 : decode cX3_tryFrom 73 = .ok (.iload_n 2, 1) := by decide +kernel
theorem dX3_tryFrom_74 : decode cX3_tryFrom 74 = .ok (.iload_n 3, 1) := by decide +kernel
theorem dX3_tryFrom_75 : decode cX3_tryFrom 75 = .ok (.aload 4, 2) := by decide +kernel
theorem dX3_tryFrom_77 : decode cX3_tryFrom 77 = .ok (.invokevirtual 101, 3) := by decide +kernel
theorem dX3_tryFrom_80 : decode cX3_tryFrom 80 = .ok (.iinc 5 1, 3) := by decide +kernel
theorem dX3_tryFrom_83 : decode cX3_tryFrom 83 = .ok (.goto (-40), 3) := by decide +kernel
theorem dX3_tryFrom_86 : decode cX3_tryFrom 86 = .ok (.return_, 1) := by decide +kernel
theorem dX3_tryNext_0 : decode cX3_tryNext 0 = .ok (.iload_n 1, 1) := by decide +kernel
theorem dX3_tryNext_1 : decode cX3_tryNext 1 = .ok (.iconst 0, 1) := by decide +kernel
theorem dX3_tryNext_2 : decode cX3_tryNext 2 = .ok (.iconst 5, 1) := by decide +kernel
theorem dX3_tryNext_3 : decode cX3_tryNext 3 = .ok (.invokestatic 93, 3) := by decide +kernel
theorem dX3_tryNext_6 : decode cX3_tryNext 6 = .ok (.ifCond .eq 12, 3) := by decide +kernel
theorem dX3_tryNext_9 : decode cX3_tryNext 9 = .ok (.iload_n 2, 1) := by decide +kernel
theorem dX3_tryNext_10 : decode cX3_tryNext 10 = .ok (.iconst 0, 1) := by decide +kernel
theorem dX3_tryNext_11 : decode cX3_tryNext 11 = .ok (.iconst 5, 1) := by decide +kernel
theorem dX3_tryNext_12 : decode cX3_tryNext 12 = .ok (.invokestatic 93, 3) := by decide +kernel
theorem dX3_tryNext_15 : decode cX3_tryNext 15 = .ok (.ifCond .ne 4, 3) := by decide +kernel
theorem dX3_tryNext_18 : decode cX3_tryNext 18 = .ok (.return_, 1) := by decide +kernel
theorem dX3_tryNext_19 : decode cX3_tryNext 19 = .ok (.iload 4, 2) := by decide +kernel
theorem dX3_tryNext_21 : decode cX3_tryNext 21 = .ok (.aload 5, 2) := by decide +kernel
theorem dX3_tryNext_23 : decode cX3_tryNext 23 = .ok (.iload_n 3, 1) := by decide +kernel
theorem dX3_tryNext_24 : decode cX3_tryNext 24 = .ok (.aload_n 0, 1) := by decide +kernel
theorem dX3_tryNext_25 : decode cX3_tryNext 25 = .ok (.getfield 15, 3) := by decide +kernel
theorem dX3_tryNext_28 : decode cX3_tryNext 28 = .ok (.iload_n 1, 1) := by decide +kernel
theorem dX3_tryNext_29 : decode cX3_tryNext 29 = .ok (.iaload, 1) := by decide +kernel
theorem dX3_tryNext_30 : decode cX3_tryNext 30 = .ok (.invokevirtual 105, 3) := by decide +kernel
theorem dX3_tryNext_33 : decode cX3_tryNext 33 = .ok (.iadd, 1) := by decide +kernel
theorem dX3_tryNext_34 : decode cX3_tryNext 34 = .ok (.istore 6, 2) := by decide +kernel
theorem dX3_tryNext_36 : decode cX3_tryNext 36 = .ok (.iload 6, 2) := by decide +kernel
theorem dX3_tryNext_38 : decode cX3_tryNext 38 = .ok (.aload_n 0, 1) := by decide +kernel
theorem dX3_tryNext_39 : decode cX3_tryNext 39 = .ok (.getfield 18, 3) := by decide +kernel
theorem dX3_tryNext_42 : decode cX3_tryNext 42 = .ok (.iload_n 1, 1) := by decide +kernel
theorem dX3_tryNext_43 : decode cX3_tryNext 43 = .ok (.iaload, 1) := by decide +kernel
theorem dX3_tryNext_44 : decode cX3_tryNext 44 = .ok (.iload 6, 2) := by decide +kernel
theorem dX3_tryNext_46 : decode cX3_tryNext 46 = .ok (.invokestatic 109, 3) := by decide +kernel
theorem dX3_tryNext_49 : decode cX3_tryNext 49 = .ok (.iadd, 1) := by decide +kernel
theorem dX3_tryNext_50 : decode cX3_tryNext 50 = .ok (.aload_n 0, 1) := by decide +kernel
theorem dX3_tryNext_51 : decode cX3_tryNext 51 = .ok (.getfield 21, 3) := by decide +kernel
theorem dX3_tryNext_54 : decode cX3_tryNext 54 = .ok (.iload_n 1, 1) := by decide +kernel
theorem dX3_tryNext_55 : decode cX3_tryNext 55 = .ok (.iaload, 1) := by decide +kernel
theorem dX3_tryNext_56 : decode cX3_tryNext 56 = .ok (.iadd, 1) := by decide +kernel
theorem dX3_tryNext_57 : decode cX3_tryNext 57 = .ok (.istore 7, 2) := by decide +kernel
theorem dX3_tryNext_59 : decode cX3_tryNext 59 = .ok (.iload 7, 2) := by decide +kernel
theorem dX3_tryNext_61 : decode cX3_tryNext 61 = .ok (.aload_n 0, 1) := by decide +kernel
theorem dX3_tryNext_62 : decode cX3_tryNext 62 = .ok (.getfield 24, 3) := by decide +kernel
theorem dX3_tryNext_65 : decode cX3_tryNext 65 = .ok (.iload_n 1, 1) := by decide +kernel
theorem dX3_tryNext_66 : decode cX3_tryNext 66 = .ok (.iaload, 1) := by decide +kernel
theorem dX3_tryNext_67 : decode cX3_tryNext 67 = .ok (.if_icmp .gt 46, 3) := by decide +kernel
theorem dX3_tryNext_70 : decode cX3_tryNext 70 = .ok (.aload_n 0, 1) := by decide +kernel
theorem dX3_tryNext_71 : decode cX3_tryNext 71 = .ok (.getfield 27, 3) := by decide +kernel
theorem dX3_tryNext_74 : decode cX3_tryNext 74 = .ok (.iload_n 1, 1) := by decide +kernel
theorem dX3_tryNext_75 : decode cX3_tryNext 75 = .ok (.iconst 1, 1) := by decide +kernel
theorem dX3_tryNext_76 : decode cX3_tryNext 76 = .ok (.bastore, 1) := by decide +kernel
theorem dX3_tryNext_77 : decode cX3_tryNext 77 = .ok (.aload_n 0, 1) := by decide +kernel
theorem dX3_tryNext_78 : decode cX3_tryNext 78 = .ok (.getfield 31, 3) := by decide +kernel
theorem dX3_tryNext_81 : decode cX3_tryNext 81 = .ok (.iload_n 2, 1) := by decide +kernel
theorem dX3_tryNext_82 : decode cX3_tryNext 82 = .ok (.aload_n 0, 1) := by decide +kernel
theorem dX3_tryNext_83 : decode cX3_tryNext 83 = .ok (.getfield 9, 3) := by decide +kernel
theorem dX3_tryNext_86 : decode cX3_tryNext 86 = .ok (.iload_n 1, 1) := by decide +kernel
theorem dX3_tryNext_87 : decode cX3_tryNext 87 = .ok (.iaload, 1) := by decide +kernel
theorem dX3_tryNext_88 : decode cX3_tryNext 88 = .ok (.iastore, 1) := by decide +kernel
theorem dX3_tryNext_89 : decode cX3_tryNext 89 = .ok (.aload_n 0, 1) := by decide +kernel
theorem dX3_tryNext_90 : decode cX3_tryNext 90 = .ok (.iload_n 2, 1) := by decide +kernel
theorem dX3_tryNext_91 : decode cX3_tryNext 91 = .ok (.iconst 1, 1) := by decide +kernel
theorem dX3_tryNext_92 : decode cX3_tryNext 92 = .ok (.iadd, 1) := by decide +kernel
theorem dX3_tryNext_93 : decode cX3_tryNext 93 = .ok (.aload_n 0, 1) := by decide +kernel
theorem dX3_tryNext_94 : decode cX3_tryNext 94 = .ok (.getfield 15, 3) := by decide +kernel
theorem dX3_tryNext_97 : decode cX3_tryNext 97 = .ok (.iload_n 1, 1) := by decide +kernel
theorem dX3_tryNext_98 : decode cX3_tryNext 98 = .ok (.iaload, 1) := by decide +kernel
theorem dX3_tryNext_99 : decode cX3_tryNext 99 = .ok (.iload 7, 2) := by decide +kernel
theorem dX3_tryNext_101 : decode cX3_tryNext 101 = .ok (.aload 5, 2) := by decide +kernel
theorem dX3_tryNext_103 : decode cX3_tryNext 103 = .ok (.invokevirtual 89, 3) := by decide +kernel
theorem dX3_tryNext_106 : decode cX3_tryNext 106 = .ok (.aload_n 0, 1) := by decide +kernel
theorem dX3_tryNext_107 : decode cX3_tryNext 107 = .ok (.getfield 27, 3) := by decide +kernel
theorem dX3_tryNext_110 : decode cX3_tryNext 110 = .ok (.iload_n 1, 1) := by decide +kernel
theorem dX3_tryNext_111 : decode cX3_tryNext 111 = .ok (.iconst 0, 1) := by decide +kernel
theorem dX3_tryNext_112 : decode cX3_tryNext 112 = .ok (.bastore, 1) := by decide +kernel
theorem dX3_tryNext_113 : decode cX3_tryNext 113 = .ok (.return_, 1) := by decide +kernel
theorem dX4_init_0 : decode cX4_init 0 = .ok (.aload_n 0, 1) := by decide +kernel
theorem dX4_init_1 : decode cX4_init 1 = .ok (.invokespecial 3, 3) := by decide +kernel
theorem dX4_init_4 : decode cX4_init 4 = .ok (.aload_n 0, 1) := by decide +kernel
theorem dX4_init_5 : decode cX4_init 5 = .ok (.iload_n 1, 1) := by decide +kernel
theorem dX4_init_6 : decode cX4_init 6 = .ok (.putfield 9, 3) := by decide +kernel
theorem dX4_init_9 : decode cX4_init 9 = .ok (.return_, 1) := by decide +kernel
theorem dX4_begin_0 : decode cX4_begin 0 = .ok (.aload_n 0, 1) := by decide +kernel
theorem dX4_begin_1 : decode cX4_begin 1 = .ok (.iload_n 1, 1) := by decide +kernel
theorem dX4_begin_2 : decode cX4_begin 2 = .ok (.putfield 15, 3) := by decide +kernel
theorem dX4_begin_5 : decode cX4_begin 5 = .ok (.aload_n 0, 1) := by decide +kernel
theorem dX4_begin_6 : decode cX4_begin 6 = .ok (.iload_n 2, 1) := by decide +kernel
theorem dX4_begin_7 : decode cX4_begin 7 = .ok (.putfield 18, 3) := by decide +kernel
theorem dX4_begin_10 : decode cX4_begin 10 = .ok (.aload_n 0, 1) := by decide +kernel
theorem dX4_begin_11 : decode cX4_begin 11 = .ok (.iload_n 3, 1) := by decide +kernel
theorem dX4_begin_12 : decode cX4_begin 12 = .ok (.putfield 21, 3) := by decide +kernel
theorem dX4_begin_15 : decode cX4_begin 15 = .ok (.aload_n 0, 1) := by decide +kernel
theorem dX4_begin_16 : decode cX4_begin 16 = .ok (.iconst (-1), 1) := by decide +kernel
theorem dX4_begin_17 : decode cX4_begin 17 = .ok (.putfield 24, 3) := by decide +kernel
theorem dX4_begin_20 : decode cX4_begin 20 = .ok (.aload_n 0, 1) := by decide +kernel
theorem dX4_begin_21 : decode cX4_begin 21 = .ok (.iconst 0, 1) := by decide +kernel
theorem dX4_begin_22 : decode cX4_begin 22 = .ok (.putfield 27, 3) := by decide +kernel
theorem dX4_begin_25 : decode cX4_begin 25 = .ok (.return_, 1) := by decide +kernel
theorem dX4_copyFrom_0 : decode cX4_copyFrom 0 = .ok (.aload_n 0, 1) := by decide +kernel
theorem dX4_copyFrom_1 : decode cX4_copyFrom 1 = .ok (.aload_n 1, 1) := by decide +kernel
theorem dX4_copyFrom_2 : decode cX4_copyFrom 2 = .ok (.getfield 15, 3) := by decide +kernel
theorem dX4_copyFrom_5 : decode cX4_copyFrom 5 = .ok (.putfield 15, 3) := by decide +kernel
theorem dX4_copyFrom_8 : decode cX4_copyFrom 8 = .ok (.aload_n 0, 1) := by decide +kernel
theorem dX4_copyFrom_9 : decode cX4_copyFrom 9 = .ok (.aload_n 1, 1) := by decide +kernel
theorem dX4_copyFrom_10 : decode cX4_copyFrom 10 = .ok (.getfield 18, 3) := by decide +kernel
theorem dX4_copyFrom_13 : decode cX4_copyFrom 13 = .ok (.putfield 18, 3) := by decide +kernel
theorem dX4_copyFrom_16 : decode cX4_copyFrom 16 = .ok (.aload_n 0, 1) := by decide +kernel
theorem dX4_copyFrom_17 : decode cX4_copyFrom 17 = .ok (.aload_n 1, 1) := by decide +kernel
theorem dX4_copyFrom_18 : decode cX4_copyFrom 18 = .ok (.getfield 21, 3) := by decide +kernel
theorem dX4_copyFrom_21 : decode cX4_copyFrom 21 = .ok (.putfield 21, 3) := by decide +kernel
theorem dX4_copyFrom_24 : decode cX4_copyFrom 24 = .ok (.aload_n 0, 1) := by decide +kernel
theorem dX4_copyFrom_25 : decode cX4_copyFrom 25 = .ok (.aload_n 1, 1) := by decide +kernel
theorem dX4_copyFrom_26 : decode cX4_copyFrom 26 = .ok (.getfield 24, 3) := by decide +kernel
theorem dX4_copyFrom_29 : decode cX4_copyFrom 29 = .ok (.putfield 24, 3) := by decide +kernel
theorem dX4_copyFrom_32 : decode cX4_copyFrom 32 = .ok (.aload_n 0, 1) := by decide +kernel
theorem dX4_copyFrom_33 : decode cX4_copyFrom 33 = .ok (.aload_n 1, 1) := by decide +kernel
theorem dX4_copyFrom_34 : decode cX4_copyFrom 34 = .ok (.getfield 27, 3) := by decide +kernel
theorem dX4_copyFrom_37 : decode cX4_copyFrom 37 = .ok (.putfield 27, 3) := by decide +kernel
theorem dX4_copyFrom_40 : decode cX4_copyFrom 40 = .ok (.return_, 1) := by decide +kernel
theorem dX4_hasDeadline_0 : decode cX4_hasDeadline 0 = .ok (.aload_n 0, 1) := by decide +kernel
theorem dX4_hasDeadline_1 : decode cX4_hasDeadline 1 = .ok (.getfield 21, 3) := by decide +kernel
theorem dX4_hasDeadline_4 : decode cX4_hasDeadline 4 = .ok (.iconst (-1), 1) := by decide +kernel
theorem dX4_hasDeadline_5 : decode cX4_hasDeadline 5 = .ok (.if_icmp .eq 7, 3) := by decide +kernel
theorem dX4_hasDeadline_8 : decode cX4_hasDeadline 8 = .ok (.iconst 1, 1) := by decide +kernel
theorem dX4_hasDeadline_9 : decode cX4_hasDeadline 9 = .ok (.goto 4, 3) := by decide +kernel
theorem dX4_hasDeadline_12 : decode cX4_hasDeadline 12 = .ok (.iconst 0, 1) := by decide +kernel
theorem dX4_hasDeadline_13 : decode cX4_hasDeadline 13 = .ok (.ireturn, 1) := by decide +kernel
theorem dX4_missedDeadline_0 : decode cX4_missedDeadline 0 = .ok (.aload_n 0, 1) := by decide +kernel
theorem dX4_missedDeadline_1 : decode cX4_missedDeadline 1 = .ok (.invokevirtual 30, 3) := by decide +kernel
theorem dX4_missedDeadline_4 : decode cX4_missedDeadline 4 = .ok (.ifCond .eq 18, 3) := by decide +kernel
theorem dX4_missedDeadline_7 : decode cX4_missedDeadline 7 = .ok (.aload_n 0, 1) := by decide +kernel
theorem dX4_missedDeadline_8 : decode cX4_missedDeadline 8 = .ok (.getfield 24, 3) := by decide +kernel
theorem dX4_missedDeadline_11 : decode cX4_missedDeadline 11 = .ok (.aload_n 0, 1) := by decide +kernel
theorem dX4_missedDeadline_12 : decode cX4_missedDeadline 12 = .ok (.getfield 21, 3) := by decide +kernel
theorem dX4_missedDeadline_15 : decode cX4_missedDeadline 15 = .ok (.if_icmp .le 7, 3) := by decide +kernel
theorem dX4_missedDeadline_18 : decode cX4_missedDeadline 18 = .ok (.iconst 1, 1) := by decide +kernel
theorem dX4_missedDeadline_19 : decode cX4_missedDeadline 19 = .ok (.goto 4, 3) := by decide +kernel
theorem dX4_missedDeadline_22 : decode cX4_missedDeadline 22 = .ok (.iconst 0, 1) := by decide +kernel
theorem dX4_missedDeadline_23 : decode cX4_missedDeadline 23 = .ok (.ireturn, 1) := by decide +kernel
theorem dX5_init_0 : decode cX5_init 0 = .ok (.aload_n 0, 1) := by decide +kernel
theorem dX5_init_1 : decode cX5_init 1 = .ok (.invokespecial 3, 3) := by decide +kernel
theorem dX5_init_4 : decode cX5_init 4 = .ok (.aload_n 0, 1) := by decide +kernel
theorem dX5_init_5 : decode cX5_init 5 = .ok (.iconst (-1), 1) := by decide +kernel
theorem dX5_init_6 : decode cX5_init 6 = .ok (.putfield 9, 3) := by decide +kernel
theorem dX5_init_9 : decode cX5_init 9 = .ok (.aload_n 0, 1) := by decide +kernel
theorem dX5_init_10 : decode cX5_init 10 = .ok (.bipush 14, 2) := by decide +kernel
theorem dX5_init_12 : decode cX5_init 12 = .ok (.newarray .int, 2) := by decide +kernel
theorem dX5_init_14 : decode cX5_init 14 = .ok (.putfield 15, 3) := by decide +kernel
theorem dX5_init_17 : decode cX5_init 17 = .ok (.aload_n 0, 1) := by decide +kernel
theorem dX5_init_18 : decode cX5_init 18 = .ok (.bipush 14, 2) := by decide +kernel
theorem dX5_init_20 : decode cX5_init 20 = .ok (.newarray .int, 2) := by decide +kernel
theorem dX5_init_22 : decode cX5_init 22 = .ok (.putfield 19, 3) := by decide +kernel
theorem dX5_init_25 : decode cX5_init 25 = .ok (.aload_n 0, 1) := by decide +kernel
theorem dX5_init_26 : decode cX5_init 26 = .ok (.bipush 14, 2) := by decide +kernel
theorem dX5_init_28 : decode cX5_init 28 = .ok (.newarray .int, 2) := by decide +kernel
theorem dX5_init_30 : decode cX5_init 30 = .ok (.putfield 22, 3) := by decide +kernel
theorem dX5_init_33 : decode cX5_init 33 = .ok (.aload_n 0, 1) := by decide +kernel
theorem dX5_init_34 : decode cX5_init 34 = .ok (.bipush 40, 2) := by decide +kernel
theorem dX5_init_36 : decode cX5_init 36 = .ok (.newarray .int, 2) := by decide +kernel
theorem dX5_init_38 : decode cX5_init 38 = .ok (.putfield 25, 3) := by decide +kernel
theorem dX5_init_41 : decode cX5_init 41 = .ok (.return_, 1) := by decide +kernel
theorem dX5_append_0 : decode cX5_append 0 = .ok (.aload_n 0, 1) := by decide +kernel
theorem dX5_append_1 : decode cX5_append 1 = .ok (.getfield 28, 3) := by decide +kernel
theorem dX5_append_4 : decode cX5_append 4 = .ok (.iconst 0, 1) := by decide +kernel
theorem dX5_append_5 : decode cX5_append 5 = .ok (.bipush 39, 2) := by decide +kernel
theorem dX5_append_7 : decode cX5_append 7 = .ok (.invokestatic 31, 3) := by decide +kernel
theorem dX5_append_10 : decode cX5_append 10 = .ok (.ifCond .ne 5, 3) := by decide +kernel
theorem dX5_append_13 : decode cX5_append 13 = .ok (.iconst 0, 1) := by decide +kernel
theorem dX5_append_14 : decode cX5_append 14 = .ok (.ireturn, 1) := by decide +kernel
theorem dX5_append_15 : decode cX5_append 15 = .ok (.aload_n 0, 1) := by decide +kernel
theorem dX5_append_16 : decode cX5_append 16 = .ok (.getfield 25, 3) := by decide +kernel
theorem dX5_append_19 : decode cX5_append 19 = .ok (.aload_n 0, 1) := by decide +kernel
theorem dX5_append_20 : decode cX5_append 20 = .ok (.getfield 28, 3) := by decide +kernel
theorem dX5_append_23 : decode cX5_append 23 = .ok (.iload_n 1, 1) := by decide +kernel
theorem dX5_append_24 : decode cX5_append 24 = .ok (.iastore, 1) := by decide +kernel
theorem dX5_append_25 : decode cX5_append 25 = .ok (.aload_n 0, 1) := by decide +kernel
theorem dX5_append_26 : decode cX5_append 26 = .ok (.dup, 1) := by decide +kernel
theorem dX5_append_27 : decode cX5_append 27 = .ok (.getfield 28, 3) := by decide +kernel
theorem dX5_append_30 : decode cX5_append 30 = .ok (.iconst 1, 1) := by decide +kernel
theorem dX5_append_31 : decode cX5_append 31 = .ok (.iadd, 1) := by decide +kernel
theorem dX5_append_32 : decode cX5_append 32 = .ok (.putfield 28, 3) := by decide +kernel
theorem dX5_append_35 : decode cX5_append 35 = .ok (.iconst 1, 1) := by decide +kernel
theorem dX5_append_36 : decode cX5_append 36 = .ok (.ireturn, 1) := by decide +kernel
theorem dX5_read_0 : decode cX5_read 0 = .ok (.aload_n 0, 1) := by decide +kernel
theorem dX5_read_1 : decode cX5_read 1 = .ok (.iconst 0, 1) := by decide +kernel
theorem dX5_read_2 : decode cX5_read 2 = .ok (.putfield 35, 3) := by decide +kernel
theorem dX5_read_5 : decode cX5_read 5 = .ok (.aload_n 0, 1) := by decide +kernel
theorem dX5_read_6 : decode cX5_read 6 = .ok (.iconst 0, 1) := by decide +kernel
theorem dX5_read_7 : decode cX5_read 7 = .ok (.putfield 38, 3) := by decide +kernel
theorem dX5_read_10 : decode cX5_read 10 = .ok (.aload_n 0, 1) := by decide +kernel
theorem dX5_read_11 : decode cX5_read 11 = .ok (.invokevirtual 41, 3) := by decide +kernel
theorem dX5_read_14 : decode cX5_read 14 = .ok (.istore_n 1, 1) := by decide +kernel
theorem dX5_read_15 : decode cX5_read 15 = .ok (.aload_n 0, 1) := by decide +kernel
theorem dX5_read_16 : decode cX5_read 16 = .ok (.iload_n 1, 1) := by decide +kernel
theorem dX5_read_17 : decode cX5_read 17 = .ok (.ifCond .eq 7, 3) := by decide +kernel
theorem dX5_read_20 : decode cX5_read 20 = .ok (.iconst (-1), 1) := by decide +kernel
theorem dX5_read_21 : decode cX5_read 21 = .ok (.goto 7, 3) := by decide +kernel
theorem dX5_read_24 : decode cX5_read 24 = .ok (.aload_n 0, 1) := by decide +kernel
theorem dX5_read_25 : decode cX5_read 25 = .ok (.getfield 35, 3) := by decide +kernel
theorem dX5_read_28 : decode cX5_read 28 = .ok (.putfield 9, 3) := by decide +kernel
theorem dX5_read_31 : decode cX5_read 31 = .ok (.aload_n 0, 1) := by decide +kernel
theorem dX5_read_32 : decode cX5_read 32 = .ok (.iconst 0, 1) := by decide +kernel
theorem dX5_read_33 : decode cX5_read 33 = .ok (.putfield 28, 3) := by decide +kernel
theorem dX5_read_36 : decode cX5_read 36 = .ok (.iload_n 1, 1) := by decide +kernel
theorem dX5_read_37 : decode cX5_read 37 = .ok (.ireturn, 1) := by decide +kernel
theorem dX5_readItems_0 : decode cX5_readItems 0 = .ok (.iconst 0, 1) := by decide +kernel
theorem dX5_readItems_1 : decode cX5_readItems 1 = .ok (.istore_n 1, 1) := by decide +kernel
theorem dX5_readItems_2 : decode cX5_readItems 2 = .ok (.iload_n 1, 1) := by decide +kernel
theorem dX5_readItems_3 : decode cX5_readItems 3 = .ok (.bipush 14, 2) := by decide +kernel
theorem dX5_readItems_5 : decode cX5_readItems 5 = .ok (.if_icmp .ge 42, 3) := by decide +kernel
theorem dX5_readItems_8 : decode cX5_readItems 8 = .ok (.aload_n 0, 1) := by decide +kernel
theorem dX5_readItems_9 : decode cX5_readItems 9 = .ok (.invokevirtual 45, 3) := by decide +kernel
theorem dX5_readItems_12 : decode cX5_readItems 12 = .ok (.ifCond .ne 5, 3) := by decide +kernel
theorem dX5_readItems_15 : decode cX5_readItems 15 = .ok (.iconst 0, 1) := by decide +kernel
theorem dX5_readItems_16 : decode cX5_readItems 16 = .ok (.ireturn, 1) := by decide +kernel
theorem dX5_readItems_17 : decode cX5_readItems 17 = .ok (.aload_n 0, 1) := by decide +kernel
theorem dX5_readItems_18 : decode cX5_readItems 18 = .ok (.getfield 35, 3) := by decide +kernel
theorem dX5_readItems_21 : decode cX5_readItems 21 = .ok (.aload_n 0, 1) := by decide +kernel
theorem dX5_readItems_22 : decode cX5_readItems 22 = .ok (.getfield 28, 3) := by decide +kernel
theorem dX5_readItems_25 : decode cX5_readItems 25 = .ok (.if_icmp .lt 5, 3) := by decide +kernel
theorem dX5_readItems_28 : decode cX5_readItems 28 = .ok (.iconst 1, 1) := by decide +kernel
theorem dX5_readItems_29 : decode cX5_readItems 29 = .ok (.ireturn, 1) := by decide +kernel
theorem dX5_readItems_30 : decode cX5_readItems 30 = .ok (.aload_n 0, 1) := by decide +kernel
theorem dX5_readItems_31 : decode cX5_readItems 31 = .ok (.bipush 44, 2) := by decide +kernel
theorem dX5_readItems_33 : decode cX5_readItems 33 = .ok (.invokevirtual 48, 3) := by decide +kernel
theorem dX5_readItems_36 : decode cX5_readItems 36 = .ok (.ifCond .ne 5, 3) := by decide +kernel
theorem dX5_readItems_39 : decode cX5_readItems 39 = .ok (.iconst 0, 1) := by decide +kernel
theorem dX5_readItems_40 : decode cX5_readItems 40 = .ok (.ireturn, 1) := by decide +kernel
theorem dX5_readItems_41 : decode cX5_readItems 41 = .ok (.iinc 1 1, 3) := by decide +kernel
theorem dX5_readItems_44 : decode cX5_readItems 44 = .ok (.goto (-42), 3) := by decide +kernel
theorem dX5_readItems_47 : decode cX5_readItems 47 = .ok (.iconst 0, 1) := by decide +kernel
theorem dX5_readItems_48 : decode cX5_readItems 48 = .ok (.ireturn, 1) := by decide +kernel
theorem dX5_readItem_0 : decode cX5_readItem 0 = .ok (.aload_n 0, 1) := by decide +kernel
theorem dX5_readItem_1 : decode cX5_readItem 1 = .ok (.bipush 114, 2) := by decide +kernel
theorem dX5_readItem_3 : decode cX5_readItem 3 = .ok (.invokevirtual 48, 3) := by decide +kernel
theorem dX5_readItem_6 : decode cX5_readItem 6 = .ok (.ifCond .eq 7, 3) := by decide +kernel
theorem dX5_readItem_9 : decode cX5_readItem 9 = .ok (.iconst 0, 1) := by decide +kernel
theorem dX5_readItem_10 : decode cX5_readItem 10 = .ok (.goto 17, 3) := by decide +kernel
theorem dX5_readItem_13 : decode cX5_readItem 13 = .ok (.aload_n 0, 1) := by decide +kernel
theorem dX5_readItem_14 : decode cX5_readItem 14 = .ok (.bipush 119, 2) := by decide +kernel
theorem dX5_readItem_16 : decode cX5_readItem 16 = .ok (.invokevirtual 48, 3) := by decide +kernel
theorem dX5_readItem_19 : decode cX5_readItem 19 = .ok (.ifCond .eq 7, 3) := by decide +kernel
theorem dX5_readItem_22 : decode cX5_readItem 22 = .ok (.iconst 1, 1) := by decide +kernel
theorem dX5_readItem_23 : decode cX5_readItem 23 = .ok (.goto 4, 3) := by decide +kernel
theorem dX5_readItem_26 : decode cX5_readItem 26 = .ok (.iconst (-1), 1) := by decide +kernel
theorem dX5_readItem_27 : decode cX5_readItem 27 = .ok (.istore_n 1, 1) := by decide +kernel
theorem dX5_readItem_28 : decode cX5_readItem 28 = .ok (.iload_n 1, 1) := by decide +kernel
theorem dX5_readItem_29 : decode cX5_readItem 29 = .ok (.iconst (-1), 1) := by decide +kernel
theorem dX5_readItem_30 : decode cX5_readItem 30 = .ok (.if_icmp .ne 5, 3) := by decide +kernel
theorem dX5_readItem_33 : decode cX5_readItem 33 = .ok (.iconst 0, 1) := by decide +kernel
theorem dX5_readItem_34 : decode cX5_readItem 34 = .ok (.ireturn, 1) := by decide +kernel
theorem dX5_readItem_35 : decode cX5_readItem 35 = .ok (.aload_n 0, 1) := by decide +kernel
theorem dX5_readItem_36 : decode cX5_readItem 36 = .ok (.iconst 3, 1) := by decide +kernel
theorem dX5_readItem_37 : decode cX5_readItem 37 = .ok (.invokevirtual 52, 3) := by decide +kernel
theorem dX5_readItem_40 : decode cX5_readItem 40 = .ok (.istore_n 2, 1) := by decide +kernel
theorem dX5_readItem_41 : decode cX5_readItem 41 = .ok (.iload_n 2, 1) := by decide +kernel
theorem dX5_readItem_42 : decode cX5_readItem 42 = .ok (.iconst (-1), 1) := by decide +kernel
theorem dX5_readItem_43 : decode cX5_readItem 43 = .ok (.if_icmp .ne 5, 3) := by decide +kernel
theorem dX5_readItem_46 : decode cX5_readItem 46 = .ok (.iconst 0, 1) := by decide +kernel
theorem dX5_readItem_47 : decode cX5_readItem 47 = .ok (.ireturn, 1) := by decide +kernel
theorem dX5_readItem_48 : decode cX5_readItem 48 = .ok (.aload_n 0, 1) := by decide +kernel
theorem dX5_readItem_49 : decode cX5_readItem 49 = .ok (.bipush 64, 2) := by decide +kernel
theorem dX5_readItem_51 : decode cX5_readItem 51 = .ok (.invokevirtual 48, 3) := by decide +kernel
theorem dX5_readItem_54 : decode cX5_readItem 54 = .ok (.ifCond .eq 11, 3) := by decide +kernel
theorem dX5_readItem_57 : decode cX5_readItem 57 = .ok (.aload_n 0, 1) := by decide +kernel
theorem dX5_readItem_58 : decode cX5_readItem 58 = .ok (.iconst 4, 1) := by decide +kernel
theorem dX5_readItem_59 : decode cX5_readItem 59 = .ok (.invokevirtual 52, 3) := by decide +kernel
theorem dX5_readItem_62 : decode cX5_readItem 62 = .ok (.goto 4, 3) := by decide +kernel
theorem dX5_readItem_65 : decode cX5_readItem 65 = .ok (.iconst 0, 1) := by decide +kernel
theorem dX5_readItem_66 : decode cX5_readItem 66 = .ok (.istore_n 3, 1) := by decide +kernel
theorem dX5_readItem_67 : decode cX5_readItem 67 = .ok (.iload_n 3, 1) := by decide +kernel
theorem dX5_readItem_68 : decode cX5_readItem 68 = .ok (.iconst (-1), 1) := by decide +kernel
theorem dX5_readItem_69 : decode cX5_readItem 69 = .ok (.if_icmp .ne 5, 3) := by decide +kernel
theorem dX5_readItem_72 : decode cX5_readItem 72 = .ok (.iconst 0, 1) := by decide +kernel
theorem dX5_readItem_73 : decode cX5_readItem 73 = .ok (.ireturn, 1) := by decide +kernel
theorem dX5_readItem_74 : decode cX5_readItem 74 = .ok (.aload_n 0, 1) := by decide +kernel
theorem dX5_readItem_75 : decode cX5_readItem 75 = .ok (.iload_n 1, 1) := by decide +kernel
theorem dX5_readItem_76 : decode cX5_readItem 76 = .ok (.iload_n 2, 1) := by decide +kernel
theorem dX5_readItem_77 : decode cX5_readItem 77 = .ok (.iload_n 3, 1) := by decide +kernel
theorem dX5_readItem_78 : decode cX5_readItem 78 = .ok (.invokevirtual 56, 3) := by decide +kernel
theorem dX5_readItem_81 : decode cX5_readItem 81 = .ok (.ireturn, 1) := by decide +kernel
theorem dX5_keepItem_0 : decode cX5_keepItem 0 = .ok (.aload_n 0, 1) := by decide +kernel
theorem dX5_keepItem_1 : decode cX5_keepItem 1 = .ok (.getfield 38, 3) := by decide +kernel
theorem dX5_keepItem_4 : decode cX5_keepItem 4 = .ok (.iconst 0, 1) := by decide +kernel
theorem dX5_keepItem_5 : decode cX5_keepItem 5 = .ok (.bipush 13, 2) := by decide +kernel
theorem dX5_keepItem_7 : decode cX5_keepItem 7 = .ok (.invokestatic 31, 3) := by decide +kernel
theorem dX5_keepItem_10 : decode cX5_keepItem 10 = .ok (.ifCond .ne 5, 3) := by decide +kernel
theorem dX5_keepItem_13 : decode cX5_keepItem 13 = .ok (.iconst 0, 1) := by decide +kernel
theorem dX5_keepItem_14 : decode cX5_keepItem 14 = .ok (.ireturn, 1) := by decide +kernel
theorem dX5_keepItem_15 : decode cX5_keepItem 15 = .ok (.aload_n 0, 1) := by decide +kernel
theorem dX5_keepItem_16 : decode cX5_keepItem 16 = .ok (.getfield 15, 3) := by decide +kernel
theorem dX5_keepItem_19 : decode cX5_keepItem 19 = .ok (.aload_n 0, 1) := by decide +kernel
theorem dX5_keepItem_20 : decode cX5_keepItem 20 = .ok (.getfield 38, 3) := by decide +kernel
theorem dX5_keepItem_23 : decode cX5_keepItem 23 = .ok (.iload_n 1, 1) := by decide +kernel
theorem dX5_keepItem_24 : decode cX5_keepItem 24 = .ok (.iastore, 1) := by decide +kernel
theorem dX5_keepItem_25 : decode cX5_keepItem 25 = .ok (.aload_n 0, 1) := by decide +kernel
theorem dX5_keepItem_26 : decode cX5_keepItem 26 = .ok (.getfield 19, 3) := by decide +kernel
theorem dX5_keepItem_29 : decode cX5_keepItem 29 = .ok (.aload_n 0, 1) := by decide +kernel
theorem dX5_keepItem_30 : decode cX5_keepItem 30 = .ok (.getfield 38, 3) := by decide +kernel
theorem dX5_keepItem_33 : decode cX5_keepItem 33 = .ok (.iload_n 2, 1) := by decide +kernel
theorem dX5_keepItem_34 : decode cX5_keepItem 34 = .ok (.iastore, 1) := by decide +kernel
theorem dX5_keepItem_35 : decode cX5_keepItem 35 = .ok (.aload_n 0, 1) := by decide +kernel
theorem dX5_keepItem_36 : decode cX5_keepItem 36 = .ok (.getfield 22, 3) := by decide +kernel
theorem dX5_keepItem_39 : decode cX5_keepItem 39 = .ok (.aload_n 0, 1) := by decide +kernel
theorem dX5_keepItem_40 : decode cX5_keepItem 40 = .ok (.getfield 38, 3) := by decide +kernel
theorem dX5_keepItem_43 : decode cX5_keepItem 43 = .ok (.iload_n 3, 1) := by decide +kernel
theorem dX5_keepItem_44 : decode cX5_keepItem 44 = .ok (.iastore, 1) := by decide +kernel
theorem dX5_keepItem_45 : decode cX5_keepItem 45 = .ok (.aload_n 0, 1) := by decide +kernel
theorem dX5_keepItem_46 : decode cX5_keepItem 46 = .ok (.dup, 1) := by decide +kernel
theorem dX5_keepItem_47 : decode cX5_keepItem 47 = .ok (.getfield 38, 3) := by decide +kernel
theorem dX5_keepItem_50 : decode cX5_keepItem 50 = .ok (.iconst 1, 1) := by decide +kernel
theorem dX5_keepItem_51 : decode cX5_keepItem 51 = .ok (.iadd, 1) := by decide +kernel
theorem dX5_keepItem_52 : decode cX5_keepItem 52 = .ok (.putfield 38, 3) := by decide +kernel
theorem dX5_keepItem_55 : decode cX5_keepItem 55 = .ok (.iconst 1, 1) := by decide +kernel
theorem dX5_keepItem_56 : decode cX5_keepItem 56 = .ok (.ireturn, 1) := by decide +kernel
theorem dX5_readNumber_0 : decode cX5_readNumber 0 = .ok (.iconst 0, 1) := by decide +kernel
theorem dX5_readNumber_1 : decode cX5_readNumber 1 = .ok (.istore_n 2, 1) := by decide +kernel
theorem dX5_readNumber_2 : decode cX5_readNumber 2 = .ok (.iconst 0, 1) := by decide +kernel
theorem dX5_readNumber_3 : decode cX5_readNumber 3 = .ok (.istore_n 3, 1) := by decide +kernel
theorem dX5_readNumber_4 : decode cX5_readNumber 4 = .ok (.iload_n 3, 1) := by decide +kernel
theorem dX5_readNumber_5 : decode cX5_readNumber 5 = .ok (.iload_n 1, 1) := by decide +kernel
theorem dX5_readNumber_6 : decode cX5_readNumber 6 = .ok (.if_icmp .ge 46, 3) := by decide +kernel
theorem dX5_readNumber_9 : decode cX5_readNumber 9 = .ok (.aload_n 0, 1) := by decide +kernel
theorem dX5_readNumber_10 : decode cX5_readNumber 10 = .ok (.invokevirtual 59, 3) := by decide +kernel
theorem dX5_readNumber_13 : decode cX5_readNumber 13 = .ok (.bipush 48, 2) := by decide +kernel
theorem dX5_readNumber_15 : decode cX5_readNumber 15 = .ok (.bipush 57, 2) := by decide +kernel
theorem dX5_readNumber_17 : decode cX5_readNumber 17 = .ok (.invokestatic 31, 3) := by decide +kernel
theorem dX5_readNumber_20 : decode cX5_readNumber 20 = .ok (.ifCond .eq 32, 3) := by decide +kernel
theorem dX5_readNumber_23 : decode cX5_readNumber 23 = .ok (.iload_n 2, 1) := by decide +kernel
theorem dX5_readNumber_24 : decode cX5_readNumber 24 = .ok (.bipush 10, 2) := by decide +kernel
theorem dX5_readNumber_26 : decode cX5_readNumber 26 = .ok (.imul, 1) := by decide +kernel
theorem dX5_readNumber_27 : decode cX5_readNumber 27 = .ok (.aload_n 0, 1) := by decide +kernel
theorem dX5_readNumber_28 : decode cX5_readNumber 28 = .ok (.invokevirtual 59, 3) := by decide +kernel
theorem dX5_readNumber_31 : decode cX5_readNumber 31 = .ok (.iadd, 1) := by decide +kernel
theorem dX5_readNumber_32 : decode cX5_readNumber 32 = .ok (.bipush 48, 2) := by decide +kernel
theorem dX5_readNumber_34 : decode cX5_readNumber 34 = .ok (.isub, 1) := by decide +kernel
theorem dX5_readNumber_35 : decode cX5_readNumber 35 = .ok (.istore_n 2, 1) := by decide +kernel
theorem dX5_readNumber_36 : decode cX5_readNumber 36 = .ok (.iinc 3 1, 3) := by decide +kernel
theorem dX5_readNumber_39 : decode cX5_readNumber 39 = .ok (.aload_n 0, 1) := by decide +kernel
theorem dX5_readNumber_40 : decode cX5_readNumber 40 = .ok (.dup, 1) := by decide +kernel
theorem dX5_readNumber_41 : decode cX5_readNumber 41 = .ok (.getfield 35, 3) := by decide +kernel
theorem dX5_readNumber_44 : decode cX5_readNumber 44 = .ok (.iconst 1, 1) := by decide +kernel
theorem dX5_readNumber_45 : decode cX5_readNumber 45 = .ok (.iadd, 1) := by decide +kernel
theorem dX5_readNumber_46 : decode cX5_readNumber 46 = .ok (.putfield 35, 3) := by decide +kernel
theorem dX5_readNumber_49 : decode cX5_readNumber 49 = .ok (.goto (-45), 3) := by decide +kernel
theorem dX5_readNumber_52 : decode cX5_readNumber 52 = .ok (.iload_n 3, 1) := by decide +kernel
theorem dX5_readNumber_53 : decode cX5_readNumber 53 = .ok (.ifCond .ne 7, 3) := by decide +kernel
theorem dX5_readNumber_56 : decode cX5_readNumber 56 = .ok (.iconst (-1), 1) := by decide +kernel
theorem dX5_readNumber_57 : decode cX5_readNumber 57 = .ok (.goto 4, 3) := by decide +kernel
theorem dX5_readNumber_60 : decode cX5_readNumber 60 = .ok (.iload_n 2, 1) := by decide +kernel
theorem dX5_readNumber_61 : decode cX5_readNumber 61 = .ok (.ireturn, 1) := by decide +kernel
theorem dX5_skip_0 : decode cX5_skip 0 = .ok (.aload_n 0, 1) := by decide +kernel
theorem dX5_skip_1 : decode cX5_skip 1 = .ok (.invokevirtual 59, 3) := by decide +kernel
theorem dX5_skip_4 : decode cX5_skip 4 = .ok (.iload_n 1, 1) := by decide +kernel
theorem dX5_skip_5 : decode cX5_skip 5 = .ok (.if_icmp .eq 5, 3) := by decide +kernel
theorem dX5_skip_8 : decode cX5_skip 8 = .ok (.iconst 0, 1) := by decide +kernel
theorem dX5_skip_9 : decode cX5_skip 9 = .ok (.ireturn, 1) := by decide +kernel
theorem dX5_skip_10 : decode cX5_skip 10 = .ok (.aload_n 0, 1) := by decide +kernel
theorem dX5_skip_11 : decode cX5_skip 11 = .ok (.dup, 1) := by decide +kernel
theorem dX5_skip_12 : decode cX5_skip 12 = .ok (.getfield 35, 3) := by decide +kernel
theorem dX5_skip_15 : decode cX5_skip 15 = .ok (.iconst 1, 1) := by decide +kernel
theorem dX5_skip_16 : decode cX5_skip 16 = .ok (.iadd, 1) := by decide +kernel
theorem dX5_skip_17 : decode cX5_skip 17 = .ok (.putfield 35, 3) := by decide +kernel
theorem dX5_skip_20 : decode cX5_skip 20 = .ok (.iconst 1, 1) := by decide +kernel
theorem dX5_skip_21 : decode cX5_skip 21 = .ok (.ireturn, 1) := by decide +kernel
theorem dX5_current_0 : decode cX5_current 0 = .ok (.aload_n 0, 1) := by decide +kernel
theorem dX5_current_1 : decode cX5_current 1 = .ok (.getfield 35, 3) := by decide +kernel
theorem dX5_current_4 : decode cX5_current 4 = .ok (.ifCond .lt 35, 3) := by decide +kernel
theorem dX5_current_7 : decode cX5_current 7 = .ok (.aload_n 0, 1) := by decide +kernel
theorem dX5_current_8 : decode cX5_current 8 = .ok (.getfield 35, 3) := by decide +kernel
theorem dX5_current_11 : decode cX5_current 11 = .ok (.aload_n 0, 1) := by decide +kernel
theorem dX5_current_12 : decode cX5_current 12 = .ok (.getfield 28, 3) := by decide +kernel
theorem dX5_current_15 : decode cX5_current 15 = .ok (.if_icmp .ge 24, 3) := by decide +kernel
theorem dX5_current_18 : decode cX5_current 18 = .ok (.aload_n 0, 1) := by decide +kernel
theorem dX5_current_19 : decode cX5_current 19 = .ok (.getfield 35, 3) := by decide +kernel
theorem dX5_current_22 : decode cX5_current 22 = .ok (.bipush 40, 2) := by decide +kernel
theorem dX5_current_24 : decode cX5_current 24 = .ok (.if_icmp .ge 15, 3) := by decide +kernel
theorem dX5_current_27 : decode cX5_current 27 = .ok (.aload_n 0, 1) := by decide +kernel
theorem dX5_current_28 : decode cX5_current 28 = .ok (.getfield 25, 3) := by decide +kernel
theorem dX5_current_31 : decode cX5_current 31 = .ok (.aload_n 0, 1) := by decide +kernel
theorem dX5_current_32 : decode cX5_current 32 = .ok (.getfield 35, 3) := by decide +kernel
theorem dX5_current_35 : decode cX5_current 35 = .ok (.iaload, 1) := by decide +kernel
theorem dX5_current_36 : decode cX5_current 36 = .ok (.goto 4, 3) := by decide +kernel
theorem dX5_current_39 : decode cX5_current 39 = .ok (.iconst (-1), 1) := by decide +kernel
theorem dX5_current_40 : decode cX5_current 40 = .ok (.ireturn, 1) := by decide +kernel
theorem dX6_init_0 : decode cX6_init 0 = .ok (.aload_n 0, 1) := by decide +kernel
theorem dX6_init_1 : decode cX6_init 1 = .ok (.invokespecial 3, 3) := by decide +kernel
theorem dX6_init_4 : decode cX6_init 4 = .ok (.aload_n 0, 1) := by decide +kernel
theorem dX6_init_5 : decode cX6_init 5 = .ok (.bipush 80, 2) := by decide +kernel
theorem dX6_init_7 : decode cX6_init 7 = .ok (.anewarray 9, 3) := by decide +kernel
theorem dX6_init_10 : decode cX6_init 10 = .ok (.putfield 11, 3) := by decide +kernel
theorem dX6_init_13 : decode cX6_init 13 = .ok (.return_, 1) := by decide +kernel
theorem dX6_copyFrom_0 : decode cX6_copyFrom 0 = .ok (.iconst 0, 1) := by decide +kernel
theorem dX6_copyFrom_1 : decode cX6_copyFrom 1 = .ok (.istore_n 2, 1) := by decide +kernel
theorem dX6_copyFrom_2 : decode cX6_copyFrom 2 = .ok (.iload_n 2, 1) := by decide +kernel
theorem dX6_copyFrom_3 : decode cX6_copyFrom 3 = .ok (.aload_n 1, 1) := by decide +kernel
theorem dX6_copyFrom_4 : decode cX6_copyFrom 4 = .ok (.getfield 17, 3) := by decide +kernel
theorem dX6_copyFrom_7 : decode cX6_copyFrom 7 = .ok (.if_icmp .ge 44, 3) := by decide +kernel
theorem dX6_copyFrom_10 : decode cX6_copyFrom 10 = .ok (.iload_n 2, 1) := by decide +kernel
theorem dX6_copyFrom_11 : decode cX6_copyFrom 11 = .ok (.bipush 80, 2) := by decide +kernel
theorem dX6_copyFrom_13 : decode cX6_copyFrom 13 = .ok (.if_icmp .ge 38, 3) := by decide +kernel
theorem dX6_copyFrom_16 : decode cX6_copyFrom 16 = .ok (.aload_n 1, 1) := by decide +kernel
theorem dX6_copyFrom_17 : decode cX6_copyFrom 17 = .ok (.getfield 11, 3) := by decide +kernel
theorem dX6_copyFrom_20 : decode cX6_copyFrom 20 = .ok (.iload_n 2, 1) := by decide +kernel
theorem dX6_copyFrom_21 : decode cX6_copyFrom 21 = .ok (.aaload, 1) := by decide +kernel
theorem dX6_copyFrom_22 : decode cX6_copyFrom 22 = .ok (.astore_n 3, 1) := by decide +kernel
theorem dX6_copyFrom_23 : decode cX6_copyFrom 23 = .ok (.aload_n 0, 1) := by decide +kernel
theorem dX6_copyFrom_24 : decode cX6_copyFrom 24 = .ok (.iload_n 2, 1) := by decide +kernel
theorem dX6_copyFrom_25 : decode cX6_copyFrom 25 = .ok (.invokevirtual 21, 3) := by decide +kernel
theorem dX6_copyFrom_28 : decode cX6_copyFrom 28 = .ok (.astore 4, 2) := by decide +kernel
theorem dX6_copyFrom_30 : decode cX6_copyFrom 30 = .ok (.aload_n 3, 1) := by decide +kernel
theorem dX6_copyFrom_31 : decode cX6_copyFrom 31 = .ok (.ifnull 14, 3) := by decide +kernel
theorem dX6_copyFrom_34 : decode cX6_copyFrom 34 = .ok (.aload 4, 2) := by decide +kernel
theorem dX6_copyFrom_36 : decode cX6_copyFrom 36 = .ok (.ifnull 9, 3) := by decide +kernel
theorem dX6_copyFrom_39 : decode cX6_copyFrom 39 = .ok (.aload 4, 2) := by decide +kernel
theorem dX6_copyFrom_41 : decode cX6_copyFrom 41 = .ok (.aload_n 3, 1) := by decide +kernel
theorem dX6_copyFrom_42 : decode cX6_copyFrom 42 = .ok (.invokevirtual 25, 3) := by decide +kernel
theorem dX6_copyFrom_45 : decode cX6_copyFrom 45 = .ok (.iinc 2 1, 3) := by decide +kernel
theorem dX6_copyFrom_48 : decode cX6_copyFrom 48 = .ok (.goto (-46), 3) := by decide +kernel
theorem dX6_copyFrom_51 : decode cX6_copyFrom 51 = .ok (.aload_n 0, 1) := by decide +kernel
theorem dX6_copyFrom_52 : decode cX6_copyFrom 52 = .ok (.aload_n 1, 1) := by decide +kernel
theorem dX6_copyFrom_53 : decode cX6_copyFrom 53 = .ok (.getfield 17, 3) := by decide +kernel
theorem dX6_copyFrom_56 : decode cX6_copyFrom 56 = .ok (.putfield 17, 3) := by decide +kernel
theorem dX6_copyFrom_59 : decode cX6_copyFrom 59 = .ok (.aload_n 0, 1) := by decide +kernel
theorem dX6_copyFrom_60 : decode cX6_copyFrom 60 = .ok (.aload_n 1, 1) := by decide +kernel
theorem dX6_copyFrom_61 : decode cX6_copyFrom 61 = .ok (.getfield 29, 3) := by decide +kernel
theorem dX6_copyFrom_64 : decode cX6_copyFrom 64 = .ok (.putfield 29, 3) := by decide +kernel
theorem dX6_copyFrom_67 : decode cX6_copyFrom 67 = .ok (.return_, 1) := by decide +kernel
theorem dX6_rowAt_0 : decode cX6_rowAt 0 = .ok (.iload_n 1, 1) := by decide +kernel
theorem dX6_rowAt_1 : decode cX6_rowAt 1 = .ok (.iconst 0, 1) := by decide +kernel
theorem dX6_rowAt_2 : decode cX6_rowAt 2 = .ok (.bipush 79, 2) := by decide +kernel
theorem dX6_rowAt_4 : decode cX6_rowAt 4 = .ok (.invokestatic 32, 3) := by decide +kernel
theorem dX6_rowAt_7 : decode cX6_rowAt 7 = .ok (.ifCond .ne 5, 3) := by decide +kernel
theorem dX6_rowAt_10 : decode cX6_rowAt 10 = .ok (.aconst_null, 1) := by decide +kernel
theorem dX6_rowAt_11 : decode cX6_rowAt 11 = .ok (.areturn, 1) := by decide +kernel
theorem dX6_rowAt_12 : decode cX6_rowAt 12 = .ok (.aload_n 0, 1) := by decide +kernel
theorem dX6_rowAt_13 : decode cX6_rowAt 13 = .ok (.getfield 11, 3) := by decide +kernel
theorem dX6_rowAt_16 : decode cX6_rowAt 16 = .ok (.iload_n 1, 1) := by decide +kernel
theorem dX6_rowAt_17 : decode cX6_rowAt 17 = .ok (.aaload, 1) := by decide +kernel
theorem dX6_rowAt_18 : decode cX6_rowAt 18 = .ok (.ifnonnull 17, 3) := by decide +kernel
theorem dX6_rowAt_21 : decode cX6_rowAt 21 = .ok (.aload_n 0, 1) := by decide +kernel
theorem dX6_rowAt_22 : decode cX6_rowAt 22 = .ok (.getfield 11, 3) := by decide +kernel
theorem dX6_rowAt_25 : decode cX6_rowAt 25 = .ok (.iload_n 1, 1) := by decide +kernel
theorem dX6_rowAt_26 : decode cX6_rowAt 26 = .ok (.new 9, 3) := by decide +kernel
theorem dX6_rowAt_29 : decode cX6_rowAt 29 = .ok (.dup, 1) := by decide +kernel
theorem dX6_rowAt_30 : decode cX6_rowAt 30 = .ok (.iload_n 1, 1) := by decide +kernel
theorem dX6_rowAt_31 : decode cX6_rowAt 31 = .ok (.invokespecial 36, 3) := by decide +kernel
theorem dX6_rowAt_34 : decode cX6_rowAt 34 = .ok (.aastore, 1) := by decide +kernel
theorem dX6_rowAt_35 : decode cX6_rowAt 35 = .ok (.aload_n 0, 1) := by decide +kernel
theorem dX6_rowAt_36 : decode cX6_rowAt 36 = .ok (.getfield 11, 3) := by decide +kernel
theorem dX6_rowAt_39 : decode cX6_rowAt 39 = .ok (.iload_n 1, 1) := by decide +kernel
theorem dX6_rowAt_40 : decode cX6_rowAt 40 = .ok (.aaload, 1) := by decide +kernel
theorem dX6_rowAt_41 : decode cX6_rowAt 41 = .ok (.areturn, 1) := by decide +kernel
theorem dX6_find_0 : decode cX6_find 0 = .ok (.iload_n 1, 1) := by decide +kernel
theorem dX6_find_1 : decode cX6_find 1 = .ok (.ifCond .lt 26, 3) := by decide +kernel
theorem dX6_find_4 : decode cX6_find 4 = .ok (.iload_n 1, 1) := by decide +kernel
theorem dX6_find_5 : decode cX6_find 5 = .ok (.aload_n 0, 1) := by decide +kernel
theorem dX6_find_6 : decode cX6_find 6 = .ok (.getfield 17, 3) := by decide +kernel
theorem dX6_find_9 : decode cX6_find 9 = .ok (.if_icmp .ge 18, 3) := by decide +kernel
theorem dX6_find_12 : decode cX6_find 12 = .ok (.iload_n 1, 1) := by decide +kernel
theorem dX6_find_13 : decode cX6_find 13 = .ok (.bipush 80, 2) := by decide +kernel
theorem dX6_find_15 : decode cX6_find 15 = .ok (.if_icmp .ge 12, 3) := by decide +kernel
theorem dX6_find_18 : decode cX6_find 18 = .ok (.aload_n 0, 1) := by decide +kernel
theorem dX6_find_19 : decode cX6_find 19 = .ok (.getfield 11, 3) := by decide +kernel
theorem dX6_find_22 : decode cX6_find 22 = .ok (.iload_n 1, 1) := by decide +kernel
theorem dX6_find_23 : decode cX6_find 23 = .ok (.aaload, 1) := by decide +kernel
theorem dX6_find_24 : decode cX6_find 24 = .ok (.goto 4, 3) := by decide +kernel
theorem dX6_find_27 : decode cX6_find 27 = .ok (.aconst_null, 1) := by decide +kernel
theorem dX6_find_28 : decode cX6_find 28 = .ok (.areturn, 1) := by decide +kernel
theorem dX6_findPending_0 : decode cX6_findPending 0 = .ok (.aload_n 0, 1) := by decide +kernel
theorem dX6_findPending_1 : decode cX6_findPending 1 = .ok (.iload_n 1, 1) := by decide +kernel
theorem dX6_findPending_2 : decode cX6_findPending 2 = .ok (.invokevirtual 39, 3) := by decide +kernel
theorem dX6_findPending_5 : decode cX6_findPending 5 = .ok (.astore_n 2, 1) := by decide +kernel
theorem dX6_findPending_6 : decode cX6_findPending 6 = .ok (.aload_n 2, 1) := by decide +kernel
theorem dX6_findPending_7 : decode cX6_findPending 7 = .ok (.ifnull 14, 3) := by decide +kernel
theorem dX6_findPending_10 : decode cX6_findPending 10 = .ok (.aload_n 2, 1) := by decide +kernel
theorem dX6_findPending_11 : decode cX6_findPending 11 = .ok (.getfield 42, 3) := by decide +kernel
theorem dX6_findPending_14 : decode cX6_findPending 14 = .ok (.ifCond .ne 7, 3) := by decide +kernel
theorem dX6_findPending_17 : decode cX6_findPending 17 = .ok (.aload_n 2, 1) := by decide +kernel
theorem dX6_findPending_18 : decode cX6_findPending 18 = .ok (.goto 4, 3) := by decide +kernel
theorem dX6_findPending_21 : decode cX6_findPending 21 = .ok (.aconst_null, 1) := by decide +kernel
theorem dX6_findPending_22 : decode cX6_findPending 22 = .ok (.areturn, 1) := by decide +kernel
theorem dX6_findFinished_0 : decode cX6_findFinished 0 = .ok (.aload_n 0, 1) := by decide +kernel
theorem dX6_findFinished_1 : decode cX6_findFinished 1 = .ok (.iload_n 1, 1) := by decide +kernel
theorem dX6_findFinished_2 : decode cX6_findFinished 2 = .ok (.invokevirtual 39, 3) := by decide +kernel
theorem dX6_findFinished_5 : decode cX6_findFinished 5 = .ok (.astore_n 2, 1) := by decide +kernel
theorem dX6_findFinished_6 : decode cX6_findFinished 6 = .ok (.aload_n 2, 1) := by decide +kernel
theorem dX6_findFinished_7 : decode cX6_findFinished 7 = .ok (.ifnull 15, 3) := by decide +kernel
theorem dX6_findFinished_10 : decode cX6_findFinished 10 = .ok (.aload_n 2, 1) := by decide +kernel
theorem dX6_findFinished_11 : decode cX6_findFinished 11 = .ok (.getfield 42, 3) := by decide +kernel
theorem dX6_findFinished_14 : decode cX6_findFinished 14 = .ok (.iconst 1, 1) := by decide +kernel
theorem dX6_findFinished_15 : decode cX6_findFinished 15 = .ok (.if_icmp .ne 7, 3) := by decide +kernel
theorem dX6_findFinished_18 : decode cX6_findFinished 18 = .ok (.aload_n 2, 1) := by decide +kernel
theorem dX6_findFinished_19 : decode cX6_findFinished 19 = .ok (.goto 4, 3) := by decide +kernel
theorem dX6_findFinished_22 : decode cX6_findFinished 22 = .ok (.aconst_null, 1) := by decide +kernel
theorem dX6_findFinished_23 : decode cX6_findFinished 23 = .ok (.areturn, 1) := by decide +kernel
theorem dX6_add_0 : decode cX6_add 0 = .ok (.aload_n 0, 1) := by decide +kernel
theorem dX6_add_1 : decode cX6_add 1 = .ok (.aload_n 0, 1) := by decide +kernel
theorem dX6_add_2 : decode cX6_add 2 = .ok (.getfield 17, 3) := by decide +kernel
theorem dX6_add_5 : decode cX6_add 5 = .ok (.invokevirtual 21, 3) := by decide +kernel
theorem dX6_add_8 : decode cX6_add 8 = .ok (.astore 4, 2) := by decide +kernel
theorem dX6_add_10 : decode cX6_add 10 = .ok (.aload 4, 2) := by decide +kernel
theorem dX6_add_12 : decode cX6_add 12 = .ok (.ifnull 31, 3) := by decide +kernel
theorem dX6_add_15 : decode cX6_add 15 = .ok (.aload 4, 2) := by decide +kernel
theorem dX6_add_17 : decode cX6_add 17 = .ok (.iload_n 1, 1) := by decide +kernel
theorem dX6_add_18 : decode cX6_add 18 = .ok (.iload_n 2, 1) := by decide +kernel
theorem dX6_add_19 : decode cX6_add 19 = .ok (.iload_n 3, 1) := by decide +kernel
theorem dX6_add_20 : decode cX6_add 20 = .ok (.invokevirtual 45, 3) := by decide +kernel
theorem dX6_add_23 : decode cX6_add 23 = .ok (.aload_n 0, 1) := by decide +kernel
theorem dX6_add_24 : decode cX6_add 24 = .ok (.dup, 1) := by decide +kernel
theorem dX6_add_25 : decode cX6_add 25 = .ok (.getfield 17, 3) := by decide +kernel
theorem dX6_add_28 : decode cX6_add 28 = .ok (.iconst 1, 1) := by decide +kernel
theorem dX6_add_29 : decode cX6_add 29 = .ok (.iadd, 1) := by decide +kernel
theorem dX6_add_30 : decode cX6_add 30 = .ok (.putfield 17, 3) := by decide +kernel
theorem dX6_add_33 : decode cX6_add 33 = .ok (.aload_n 0, 1) := by decide +kernel
theorem dX6_add_34 : decode cX6_add 34 = .ok (.dup, 1) := by decide +kernel
theorem dX6_add_35 : decode cX6_add 35 = .ok (.getfield 29, 3) := by decide +kernel
theorem dX6_add_38 : decode cX6_add 38 = .ok (.iconst 1, 1) := by decide +kernel
theorem dX6_add_39 : decode cX6_add 39 = .ok (.iadd, 1) := by decide +kernel
theorem dX6_add_40 : decode cX6_add 40 = .ok (.putfield 29, 3) := by decide +kernel
theorem dX6_add_43 : decode cX6_add 43 = .ok (.aload 4, 2) := by decide +kernel
theorem dX6_add_45 : decode cX6_add 45 = .ok (.areturn, 1) := by decide +kernel
theorem dX6_finishPending_0 : decode cX6_finishPending 0 = .ok (.aload_n 1, 1) := by decide +kernel
theorem dX6_finishPending_1 : decode cX6_finishPending 1 = .ok (.iconst 1, 1) := by decide +kernel
theorem dX6_finishPending_2 : decode cX6_finishPending 2 = .ok (.putfield 42, 3) := by decide +kernel
theorem dX6_finishPending_5 : decode cX6_finishPending 5 = .ok (.aload_n 1, 1) := by decide +kernel
theorem dX6_finishPending_6 : decode cX6_finishPending 6 = .ok (.iload_n 2, 1) := by decide +kernel
theorem dX6_finishPending_7 : decode cX6_finishPending 7 = .ok (.putfield 49, 3) := by decide +kernel
theorem dX6_finishPending_10 : decode cX6_finishPending 10 = .ok (.aload_n 0, 1) := by decide +kernel
theorem dX6_finishPending_11 : decode cX6_finishPending 11 = .ok (.dup, 1) := by decide +kernel
theorem dX6_finishPending_12 : decode cX6_finishPending 12 = .ok (.getfield 29, 3) := by decide +kernel
theorem dX6_finishPending_15 : decode cX6_finishPending 15 = .ok (.iconst 1, 1) := by decide +kernel
theorem dX6_finishPending_16 : decode cX6_finishPending 16 = .ok (.isub, 1) := by decide +kernel
theorem dX6_finishPending_17 : decode cX6_finishPending 17 = .ok (.putfield 29, 3) := by decide +kernel
theorem dX6_finishPending_20 : decode cX6_finishPending 20 = .ok (.return_, 1) := by decide +kernel
theorem dX6_cancelPending_0 : decode cX6_cancelPending 0 = .ok (.aload_n 1, 1) := by decide +kernel
theorem dX6_cancelPending_1 : decode cX6_cancelPending 1 = .ok (.iconst 2, 1) := by decide +kernel
theorem dX6_cancelPending_2 : decode cX6_cancelPending 2 = .ok (.putfield 42, 3) := by decide +kernel
theorem dX6_cancelPending_5 : decode cX6_cancelPending 5 = .ok (.aload_n 0, 1) := by decide +kernel
theorem dX6_cancelPending_6 : decode cX6_cancelPending 6 = .ok (.dup, 1) := by decide +kernel
theorem dX6_cancelPending_7 : decode cX6_cancelPending 7 = .ok (.getfield 29, 3) := by decide +kernel
theorem dX6_cancelPending_10 : decode cX6_cancelPending 10 = .ok (.iconst 1, 1) := by decide +kernel
theorem dX6_cancelPending_11 : decode cX6_cancelPending 11 = .ok (.isub, 1) := by decide +kernel
theorem dX6_cancelPending_12 : decode cX6_cancelPending 12 = .ok (.putfield 29, 3) := by decide +kernel
theorem dX6_cancelPending_15 : decode cX6_cancelPending 15 = .ok (.return_, 1) := by decide +kernel
theorem dX6_countFinished_0 : decode cX6_countFinished 0 = .ok (.iconst 0, 1) := by decide +kernel
theorem dX6_countFinished_1 : decode cX6_countFinished 1 = .ok (.istore_n 1, 1) := by decide +kernel
theorem dX6_countFinished_2 : decode cX6_countFinished 2 = .ok (.iconst 0, 1) := by decide +kernel
theorem dX6_countFinished_3 : decode cX6_countFinished 3 = .ok (.istore_n 2, 1) := by decide +kernel
theorem dX6_countFinished_4 : decode cX6_countFinished 4 = .ok (.iload_n 2, 1) := by decide +kernel
theorem dX6_countFinished_5 : decode cX6_countFinished 5 = .ok (.aload_n 0, 1) := by decide +kernel
theorem dX6_countFinished_6 : decode cX6_countFinished 6 = .ok (.getfield 17, 3) := by decide +kernel
theorem dX6_countFinished_9 : decode cX6_countFinished 9 = .ok (.if_icmp .ge 25, 3) := by decide +kernel
theorem dX6_countFinished_12 : decode cX6_countFinished 12 = .ok (.iload_n 1, 1) := by decide +kernel
theorem dX6_countFinished_13 : decode cX6_countFinished 13 = .ok (.aload_n 0, 1) := by decide +kernel
theorem dX6_countFinished_14 : decode cX6_countFinished 14 = .ok (.iload_n 2, 1) := by decide +kernel
theorem dX6_countFinished_15 : decode cX6_countFinished 15 = .ok (.invokevirtual 52, 3) := by decide +kernel
theorem dX6_countFinished_18 : decode cX6_countFinished 18 = .ok (.ifnull 7, 3) := by decide +kernel
theorem dX6_countFinished_21 : decode cX6_countFinished 21 = .ok (.iconst 1, 1) := by decide +kernel
theorem dX6_countFinished_22 : decode cX6_countFinished 22 = .ok (.goto 4, 3) := by decide +kernel
theorem dX6_countFinished_25 : decode cX6_countFinished 25 = .ok (.iconst 0, 1) := by decide +kernel
theorem dX6_countFinished_26 : decode cX6_countFinished 26 = .ok (.iadd, 1) := by decide +kernel
theorem dX6_countFinished_27 : decode cX6_countFinished 27 = .ok (.istore_n 1, 1) := by decide +kernel
theorem dX6_countFinished_28 : decode cX6_countFinished 28 = .ok (.iinc 2 1, 3) := by decide +kernel
theorem dX6_countFinished_31 : decode cX6_countFinished 31 = .ok (.goto (-27), 3) := by decide +kernel
theorem dX6_countFinished_34 : decode cX6_countFinished 34 = .ok (.iload_n 1, 1) := by decide +kernel
theorem dX6_countFinished_35 : decode cX6_countFinished 35 = .ok (.ireturn, 1) := by decide +kernel
theorem dX6_sumOfResponses_0 : decode cX6_sumOfResponses 0 = .ok (.iconst 0, 1) := by decide +kernel
theorem dX6_sumOfResponses_1 : decode cX6_sumOfResponses 1 = .ok (.istore_n 1, 1) := by decide +kernel
theorem dX6_sumOfResponses_2 : decode cX6_sumOfResponses 2 = .ok (.iconst 0, 1) := by decide +kernel
theorem dX6_sumOfResponses_3 : decode cX6_sumOfResponses 3 = .ok (.istore_n 2, 1) := by decide +kernel
theorem dX6_sumOfResponses_4 : decode cX6_sumOfResponses 4 = .ok (.iload_n 2, 1) := by decide +kernel
theorem dX6_sumOfResponses_5 : decode cX6_sumOfResponses 5 = .ok (.aload_n 0, 1) := by decide +kernel
theorem dX6_sumOfResponses_6 : decode cX6_sumOfResponses 6 = .ok (.getfield 17, 3) := by decide +kernel
theorem dX6_sumOfResponses_9 : decode cX6_sumOfResponses 9 = .ok (.if_icmp .ge 35, 3) := by decide +kernel
theorem dX6_sumOfResponses_12 : decode cX6_sumOfResponses 12 = .ok (.aload_n 0, 1) := by decide +kernel
theorem dX6_sumOfResponses_13 : decode cX6_sumOfResponses 13 = .ok (.iload_n 2, 1) := by decide +kernel
theorem dX6_sumOfResponses_14 : decode cX6_sumOfResponses 14 = .ok (.invokevirtual 52, 3) := by decide +kernel
theorem dX6_sumOfResponses_17 : decode cX6_sumOfResponses 17 = .ok (.astore_n 3, 1) := by decide +kernel
theorem dX6_sumOfResponses_18 : decode cX6_sumOfResponses 18 = .ok (.iload_n 1, 1) := by decide +kernel
theorem dX6_sumOfResponses_19 : decode cX6_sumOfResponses 19 = .ok (.aload_n 3, 1) := by decide +kernel
theorem dX6_sumOfResponses_20 : decode cX6_sumOfResponses 20 = .ok (.ifnull 15, 3) := by decide +kernel
theorem dX6_sumOfResponses_23 : decode cX6_sumOfResponses 23 = .ok (.aload_n 3, 1) := by decide +kernel
theorem dX6_sumOfResponses_24 : decode cX6_sumOfResponses 24 = .ok (.getfield 49, 3) := by decide +kernel
theorem dX6_sumOfResponses_27 : decode cX6_sumOfResponses 27 = .ok (.aload_n 3, 1) := by decide +kernel
theorem dX6_sumOfResponses_28 : decode cX6_sumOfResponses 28 = .ok (.getfield 55, 3) := by decide +kernel
theorem dX6_sumOfResponses_31 : decode cX6_sumOfResponses 31 = .ok (.isub, 1) := by decide +kernel
theorem dX6_sumOfResponses_32 : decode cX6_sumOfResponses 32 = .ok (.goto 4, 3) := by decide +kernel
theorem dX6_sumOfResponses_35 : decode cX6_sumOfResponses 35 = .ok (.iconst 0, 1) := by decide +kernel
theorem dX6_sumOfResponses_36 : decode cX6_sumOfResponses 36 = .ok (.iadd, 1) := by decide +kernel
theorem dX6_sumOfResponses_37 : decode cX6_sumOfResponses 37 = .ok (.istore_n 1, 1) := by decide +kernel
theorem dX6_sumOfResponses_38 : decode cX6_sumOfResponses 38 = .ok (.iinc 2 1, 3) := by decide +kernel
theorem dX6_sumOfResponses_41 : decode cX6_sumOfResponses 41 = .ok (.goto (-37), 3) := by decide +kernel
theorem dX6_sumOfResponses_44 : decode cX6_sumOfResponses 44 = .ok (.iload_n 1, 1) := by decide +kernel
theorem dX6_sumOfResponses_45 : decode cX6_sumOfResponses 45 = .ok (.ireturn, 1) := by decide +kernel
theorem dX6_countFinishedWithDeadline_0 : decode cX6_countFinishedWithDeadline 0 = .ok (.iconst 0, 1) := by decide +kernel
theorem dX6_countFinishedWithDeadline_1 : decode cX6_countFinishedWithDeadline 1 = .ok (.istore_n 1, 1) := by decide +kernel
theorem dX6_countFinishedWithDeadline_2 : decode cX6_countFinishedWithDeadline 2 = .ok (.iconst 0, 1) := by decide +kernel
theorem dX6_countFinishedWithDeadline_3 : decode cX6_countFinishedWithDeadline 3 = .ok (.istore_n 2, 1) := by decide +kernel
theorem dX6_countFinishedWithDeadline_4 : decode cX6_countFinishedWithDeadline 4 = .ok (.iload_n 2, 1) := by decide +kernel
theorem dX6_countFinishedWithDeadline_5 : decode cX6_countFinishedWithDeadline 5 = .ok (.aload_n 0, 1) := by decide +kernel
theorem dX6_countFinishedWithDeadline_6 : decode cX6_countFinishedWithDeadline 6 = .ok (.getfield 17, 3) := by decide +kernel
theorem dX6_countFinishedWithDeadline_9 : decode cX6_countFinishedWithDeadline 9 = .ok (.if_icmp .ge 34, 3) := by decide +kernel
theorem dX6_countFinishedWithDeadline_12 : decode cX6_countFinishedWithDeadline 12 = .ok (.aload_n 0, 1) := by decide +kernel
theorem dX6_countFinishedWithDeadline_13 : decode cX6_countFinishedWithDeadline 13 = .ok (.iload_n 2, 1) := by decide +kernel
theorem dX6_countFinishedWithDeadline_14 : decode cX6_countFinishedWithDeadline 14 = .ok (.invokevirtual 52, 3) := by decide +kernel
theorem dX6_countFinishedWithDeadline_17 : decode cX6_countFinishedWithDeadline 17 = .ok (.astore_n 3, 1) := by decide +kernel
theorem dX6_countFinishedWithDeadline_18 : decode cX6_countFinishedWithDeadline 18 = .ok (.iload_n 1, 1) := by decide +kernel
theorem dX6_countFinishedWithDeadline_19 : decode cX6_countFinishedWithDeadline 19 = .ok (.aload_n 3, 1) := by decide +kernel
theorem dX6_countFinishedWithDeadline_20 : decode cX6_countFinishedWithDeadline 20 = .ok (.ifnull 14, 3) := by decide +kernel
theorem dX6_countFinishedWithDeadline_23 : decode cX6_countFinishedWithDeadline 23 = .ok (.aload_n 3, 1) := by decide +kernel
theorem dX6_countFinishedWithDeadline_24 : decode cX6_countFinishedWithDeadline 24 = .ok (.invokevirtual 58, 3) := by decide +kernel
theorem dX6_countFinishedWithDeadline_27 : decode cX6_countFinishedWithDeadline 27 = .ok (.ifCond .eq 7, 3) := by decide +kernel
theorem dX6_countFinishedWithDeadline_30 : decode cX6_countFinishedWithDeadline 30 = .ok (.iconst 1, 1) := by decide +kernel
theorem dX6_countFinishedWithDeadline_31 : decode cX6_countFinishedWithDeadline 31 = .ok (.goto 4, 3) := by decide +kernel
theorem dX6_countFinishedWithDeadline_34 : decode cX6_countFinishedWithDeadline 34 = .ok (.iconst 0, 1) := by decide +kernel
theorem dX6_countFinishedWithDeadline_35 : decode cX6_countFinishedWithDeadline 35 = .ok (.iadd, 1) := by decide +kernel
theorem dX6_countFinishedWithDeadline_36 : decode cX6_countFinishedWithDeadline 36 = .ok (.istore_n 1, 1) := by decide +kernel
theorem dX6_countFinishedWithDeadline_37 : decode cX6_countFinishedWithDeadline 37 = .ok (.iinc 2 1, 3) := by decide +kernel
theorem dX6_countFinishedWithDeadline_40 : decode cX6_countFinishedWithDeadline 40 = .ok (.goto (-36), 3) := by decide +kernel
theorem dX6_countFinishedWithDeadline_43 : decode cX6_countFinishedWithDeadline 43 = .ok (.iload_n 1, 1) := by decide +kernel
theorem dX6_countFinishedWithDeadline_44 : decode cX6_countFinishedWithDeadline 44 = .ok (.ireturn, 1) := by decide +kernel
theorem dX6_countLate_0 : decode cX6_countLate 0 = .ok (.iconst 0, 1) := by decide +kernel
theorem dX6_countLate_1 : decode cX6_countLate 1 = .ok (.istore_n 1, 1) := by decide +kernel
theorem dX6_countLate_2 : decode cX6_countLate 2 = .ok (.iconst 0, 1) := by decide +kernel
theorem dX6_countLate_3 : decode cX6_countLate 3 = .ok (.istore_n 2, 1) := by decide +kernel
theorem dX6_countLate_4 : decode cX6_countLate 4 = .ok (.iload_n 2, 1) := by decide +kernel
theorem dX6_countLate_5 : decode cX6_countLate 5 = .ok (.aload_n 0, 1) := by decide +kernel
theorem dX6_countLate_6 : decode cX6_countLate 6 = .ok (.getfield 17, 3) := by decide +kernel
theorem dX6_countLate_9 : decode cX6_countLate 9 = .ok (.if_icmp .ge 34, 3) := by decide +kernel
theorem dX6_countLate_12 : decode cX6_countLate 12 = .ok (.aload_n 0, 1) := by decide +kernel
theorem dX6_countLate_13 : decode cX6_countLate 13 = .ok (.iload_n 2, 1) := by decide +kernel
theorem dX6_countLate_14 : decode cX6_countLate 14 = .ok (.invokevirtual 52, 3) := by decide +kernel
theorem dX6_countLate_17 : decode cX6_countLate 17 = .ok (.astore_n 3, 1) := by decide +kernel
theorem dX6_countLate_18 : decode cX6_countLate 18 = .ok (.iload_n 1, 1) := by decide +kernel
theorem dX6_countLate_19 : decode cX6_countLate 19 = .ok (.aload_n 3, 1) := by decide +kernel
theorem dX6_countLate_20 : decode cX6_countLate 20 = .ok (.ifnull 14, 3) := by decide +kernel
theorem dX6_countLate_23 : decode cX6_countLate 23 = .ok (.aload_n 3, 1) := by decide +kernel
theorem dX6_countLate_24 : decode cX6_countLate 24 = .ok (.invokevirtual 62, 3) := by decide +kernel
theorem dX6_countLate_27 : decode cX6_countLate 27 = .ok (.ifCond .eq 7, 3) := by decide +kernel
theorem dX6_countLate_30 : decode cX6_countLate 30 = .ok (.iconst 1, 1) := by decide +kernel
theorem dX6_countLate_31 : decode cX6_countLate 31 = .ok (.goto 4, 3) := by decide +kernel
theorem dX6_countLate_34 : decode cX6_countLate 34 = .ok (.iconst 0, 1) := by decide +kernel
theorem dX6_countLate_35 : decode cX6_countLate 35 = .ok (.iadd, 1) := by decide +kernel
theorem dX6_countLate_36 : decode cX6_countLate 36 = .ok (.istore_n 1, 1) := by decide +kernel
theorem dX6_countLate_37 : decode cX6_countLate 37 = .ok (.iinc 2 1, 3) := by decide +kernel
theorem dX6_countLate_40 : decode cX6_countLate 40 = .ok (.goto (-36), 3) := by decide +kernel
theorem dX6_countLate_43 : decode cX6_countLate 43 = .ok (.iload_n 1, 1) := by decide +kernel
theorem dX6_countLate_44 : decode cX6_countLate 44 = .ok (.ireturn, 1) := by decide +kernel
theorem dX7_init_0 : decode cX7_init 0 = .ok (.aload_n 0, 1) := by decide +kernel
theorem dX7_init_1 : decode cX7_init 1 = .ok (.invokespecial 3, 3) := by decide +kernel
theorem dX7_init_4 : decode cX7_init 4 = .ok (.aload_n 0, 1) := by decide +kernel
theorem dX7_init_5 : decode cX7_init 5 = .ok (.iconst 1, 1) := by decide +kernel
theorem dX7_init_6 : decode cX7_init 6 = .ok (.putfield 9, 3) := by decide +kernel
theorem dX7_init_9 : decode cX7_init 9 = .ok (.aload_n 0, 1) := by decide +kernel
theorem dX7_init_10 : decode cX7_init 10 = .ok (.sipush 200, 3) := by decide +kernel
theorem dX7_init_13 : decode cX7_init 13 = .ok (.putfield 15, 3) := by decide +kernel
theorem dX7_init_16 : decode cX7_init 16 = .ok (.aload_n 0, 1) := by decide +kernel
theorem dX7_init_17 : decode cX7_init 17 = .ok (.sipush 1000, 3) := by decide +kernel
theorem dX7_init_20 : decode cX7_init 20 = .ok (.putfield 19, 3) := by decide +kernel
theorem dX7_init_23 : decode cX7_init 23 = .ok (.return_, 1) := by decide +kernel
theorem dX7_copyFrom_0 : decode cX7_copyFrom 0 = .ok (.aload_n 0, 1) := by decide +kernel
theorem dX7_copyFrom_1 : decode cX7_copyFrom 1 = .ok (.aload_n 1, 1) := by decide +kernel
theorem dX7_copyFrom_2 : decode cX7_copyFrom 2 = .ok (.getfield 22, 3) := by decide +kernel
theorem dX7_copyFrom_5 : decode cX7_copyFrom 5 = .ok (.putfield 22, 3) := by decide +kernel
theorem dX7_copyFrom_8 : decode cX7_copyFrom 8 = .ok (.aload_n 0, 1) := by decide +kernel
theorem dX7_copyFrom_9 : decode cX7_copyFrom 9 = .ok (.aload_n 1, 1) := by decide +kernel
theorem dX7_copyFrom_10 : decode cX7_copyFrom 10 = .ok (.getfield 9, 3) := by decide +kernel
theorem dX7_copyFrom_13 : decode cX7_copyFrom 13 = .ok (.putfield 9, 3) := by decide +kernel
theorem dX7_copyFrom_16 : decode cX7_copyFrom 16 = .ok (.aload_n 0, 1) := by decide +kernel
theorem dX7_copyFrom_17 : decode cX7_copyFrom 17 = .ok (.aload_n 1, 1) := by decide +kernel
theorem dX7_copyFrom_18 : decode cX7_copyFrom 18 = .ok (.getfield 15, 3) := by decide +kernel
theorem dX7_copyFrom_21 : decode cX7_copyFrom 21 = .ok (.putfield 15, 3) := by decide +kernel
theorem dX7_copyFrom_24 : decode cX7_copyFrom 24 = .ok (.aload_n 0, 1) := by decide +kernel
theorem dX7_copyFrom_25 : decode cX7_copyFrom 25 = .ok (.aload_n 1, 1) := by decide +kernel
theorem dX7_copyFrom_26 : decode cX7_copyFrom 26 = .ok (.getfield 19, 3) := by decide +kernel
theorem dX7_copyFrom_29 : decode cX7_copyFrom 29 = .ok (.putfield 19, 3) := by decide +kernel
theorem dX7_copyFrom_32 : decode cX7_copyFrom 32 = .ok (.return_, 1) := by decide +kernel
theorem dX7_choose_0 : decode cX7_choose 0 = .ok (.aload_n 0, 1) := by decide +kernel
theorem dX7_choose_1 : decode cX7_choose 1 = .ok (.getfield 22, 3) := by decide +kernel
theorem dX7_choose_4 : decode cX7_choose 4 = .ok (.bipush 6, 2) := by decide +kernel
theorem dX7_choose_6 : decode cX7_choose 6 = .ok (.if_icmp .ne 36, 3) := by decide +kernel
theorem dX7_choose_9 : decode cX7_choose 9 = .ok (.aload_n 3, 1) := by decide +kernel
theorem dX7_choose_10 : decode cX7_choose 10 = .ok (.aload_n 1, 1) := by decide +kernel
theorem dX7_choose_11 : decode cX7_choose 11 = .ok (.aload_n 2, 1) := by decide +kernel
theorem dX7_choose_12 : decode cX7_choose 12 = .ok (.iconst 1, 1) := by decide +kernel
theorem dX7_choose_13 : decode cX7_choose 13 = .ok (.iconst 1, 1) := by decide +kernel
theorem dX7_choose_14 : decode cX7_choose 14 = .ok (.invokevirtual 25, 3) := by decide +kernel
theorem dX7_choose_17 : decode cX7_choose 17 = .ok (.aload_n 3, 1) := by decide +kernel
theorem dX7_choose_18 : decode cX7_choose 18 = .ok (.aload_n 2, 1) := by decide +kernel
theorem dX7_choose_19 : decode cX7_choose 19 = .ok (.invokevirtual 31, 3) := by decide +kernel
theorem dX7_choose_22 : decode cX7_choose 22 = .ok (.aload_n 3, 1) := by decide +kernel
theorem dX7_choose_23 : decode cX7_choose 23 = .ok (.getfield 35, 3) := by decide +kernel
theorem dX7_choose_26 : decode cX7_choose 26 = .ok (.ifCond .le 16, 3) := by decide +kernel
theorem dX7_choose_29 : decode cX7_choose 29 = .ok (.aload_n 3, 1) := by decide +kernel
theorem dX7_choose_30 : decode cX7_choose 30 = .ok (.invokevirtual 38, 3) := by decide +kernel
theorem dX7_choose_33 : decode cX7_choose 33 = .ok (.ifCond .eq 9, 3) := by decide +kernel
theorem dX7_choose_36 : decode cX7_choose 36 = .ok (.aload_n 3, 1) := by decide +kernel
theorem dX7_choose_37 : decode cX7_choose 37 = .ok (.iconst 0, 1) := by decide +kernel
theorem dX7_choose_38 : decode cX7_choose 38 = .ok (.invokevirtual 42, 3) := by decide +kernel
theorem dX7_choose_41 : decode cX7_choose 41 = .ok (.ireturn, 1) := by decide +kernel
theorem dX7_choose_42 : decode cX7_choose 42 = .ok (.iconst (-1), 1) := by decide +kernel
theorem dX7_choose_43 : decode cX7_choose 43 = .ok (.istore 4, 2) := by decide +kernel
theorem dX7_choose_45 : decode cX7_choose 45 = .ok (.ldc 46, 2) := by decide +kernel
theorem dX7_choose_47 : decode cX7_choose 47 = .ok (.istore 5, 2) := by decide +kernel
theorem dX7_choose_49 : decode cX7_choose 49 = .ok (.iconst 0, 1) := by decide +kernel
theorem dX7_choose_50 : decode cX7_choose 50 = .ok (.istore 6, 2) := by decide +kernel
theorem dX7_choose_52 : decode cX7_choose 52 = .ok (.iload 6, 2) := by decide +kernel
theorem dX7_choose_54 : decode cX7_choose 54 = .ok (.aload_n 1, 1) := by decide +kernel
theorem dX7_choose_55 : decode cX7_choose 55 = .ok (.getfield 47, 3) := by decide +kernel
theorem dX7_choose_58 : decode cX7_choose 58 = .ok (.if_icmp .ge 51, 3) := by decide +kernel
theorem dX7_choose_61 : decode cX7_choose 61 = .ok (.aload_n 1, 1) := by decide +kernel
theorem dX7_choose_62 : decode cX7_choose 62 = .ok (.iload 6, 2) := by decide +kernel
theorem dX7_choose_64 : decode cX7_choose 64 = .ok (.invokevirtual 52, 3) := by decide +kernel
theorem dX7_choose_67 : decode cX7_choose 67 = .ok (.astore 7, 2) := by decide +kernel
theorem dX7_choose_69 : decode cX7_choose 69 = .ok (.aload 7, 2) := by decide +kernel
theorem dX7_choose_71 : decode cX7_choose 71 = .ok (.ifnull 13, 3) := by decide +kernel
theorem dX7_choose_74 : decode cX7_choose 74 = .ok (.aload_n 0, 1) := by decide +kernel
theorem dX7_choose_75 : decode cX7_choose 75 = .ok (.aload 7, 2) := by decide +kernel
theorem dX7_choose_77 : decode cX7_choose 77 = .ok (.aload_n 2, 1) := by decide +kernel
theorem dX7_choose_78 : decode cX7_choose 78 = .ok (.invokevirtual 56, 3) := by decide +kernel
theorem dX7_choose_81 : decode cX7_choose 81 = .ok (.goto 5, 3) := by decide +kernel
theorem dX7_choose_84 : decode cX7_choose 84 = .ok (.ldc 46, 2) := by decide +kernel
theorem dX7_choose_86 : decode cX7_choose 86 = .ok (.istore 8, 2) := by decide +kernel
theorem dX7_choose_88 : decode cX7_choose 88 = .ok (.iload 8, 2) := by decide +kernel
theorem dX7_choose_90 : decode cX7_choose 90 = .ok (.iload 5, 2) := by decide +kernel
theorem dX7_choose_92 : decode cX7_choose 92 = .ok (.if_icmp .ge 11, 3) := by decide +kernel
theorem dX7_choose_95 : decode cX7_choose 95 = .ok (.iload 6, 2) := by decide +kernel
theorem dX7_choose_97 : decode cX7_choose 97 = .ok (.istore 4, 2) := by decide +kernel
theorem dX7_choose_99 : decode cX7_choose 99 = .ok (.iload 8, 2) := by decide +kernel
theorem dX7_choose_101 : decode cX7_choose 101 = .ok (.istore 5, 2) := by decide +kernel
theorem dX7_choose_103 : decode cX7_choose 103 = .ok (.iinc 6 1, 3) := by decide +kernel
theorem dX7_choose_106 : decode cX7_choose 106 = .ok (.goto (-54), 3) := by decide +kernel
theorem dX7_choose_109 : decode cX7_choose 109 = .ok (.iload 4, 2) := by decide +kernel
theorem dX7_choose_111 : decode cX7_choose 111 = .ok (.ireturn, 1) := by decide +kernel
theorem dX7_keyOf_0 : decode cX7_keyOf 0 = .ok (.aload_n 2, 1) := by decide +kernel
theorem dX7_keyOf_1 : decode cX7_keyOf 1 = .ok (.aload_n 1, 1) := by decide +kernel
theorem dX7_keyOf_2 : decode cX7_keyOf 2 = .ok (.getfield 60, 3) := by decide +kernel
theorem dX7_keyOf_5 : decode cX7_keyOf 5 = .ok (.invokevirtual 65, 3) := by decide +kernel
theorem dX7_keyOf_8 : decode cX7_keyOf 8 = .ok (.istore_n 3, 1) := by decide +kernel
theorem dX7_keyOf_9 : decode cX7_keyOf 9 = .ok (.iload_n 3, 1) := by decide +kernel
theorem dX7_keyOf_10 : decode cX7_keyOf 10 = .ok (.invokestatic 70, 3) := by decide +kernel
theorem dX7_keyOf_13 : decode cX7_keyOf 13 = .ok (.istore 4, 2) := by decide +kernel
theorem dX7_keyOf_15 : decode cX7_keyOf 15 = .ok (.iload 4, 2) := by decide +kernel
theorem dX7_keyOf_17 : decode cX7_keyOf 17 = .ok (.aload_n 2, 1) := by decide +kernel
theorem dX7_keyOf_18 : decode cX7_keyOf 18 = .ok (.getfield 75, 3) := by decide +kernel
theorem dX7_keyOf_21 : decode cX7_keyOf 21 = .ok (.isub, 1) := by decide +kernel
theorem dX7_keyOf_22 : decode cX7_keyOf 22 = .ok (.invokestatic 78, 3) := by decide +kernel
theorem dX7_keyOf_25 : decode cX7_keyOf 25 = .ok (.istore 5, 2) := by decide +kernel
theorem dX7_keyOf_27 : decode cX7_keyOf 27 = .ok (.aload_n 0, 1) := by decide +kernel
theorem dX7_keyOf_28 : decode cX7_keyOf 28 = .ok (.getfield 22, 3) := by decide +kernel
theorem dX7_keyOf_31 : decode cX7_keyOf 31 = .ok (.tableswitch 109 0 5 #[37, 42, 45, 69, 109, 89], 37) := by decide +kernel
theorem dX7_keyOf_68 : decode cX7_keyOf 68 = .ok (.aload_n 1, 1) := by decide +kernel
theorem dX7_keyOf_69 : decode cX7_keyOf 69 = .ok (.getfield 83, 3) := by decide +kernel
theorem dX7_keyOf_72 : decode cX7_keyOf 72 = .ok (.ireturn, 1) := by decide +kernel
theorem dX7_keyOf_73 : decode cX7_keyOf 73 = .ok (.iload 5, 2) := by decide +kernel
theorem dX7_keyOf_75 : decode cX7_keyOf 75 = .ok (.ireturn, 1) := by decide +kernel
theorem dX7_keyOf_76 : decode cX7_keyOf 76 = .ok (.aload_n 0, 1) := by decide +kernel
theorem dX7_keyOf_77 : decode cX7_keyOf 77 = .ok (.iload 4, 2) := by decide +kernel
theorem dX7_keyOf_79 : decode cX7_keyOf 79 = .ok (.aload_n 2, 1) := by decide +kernel
theorem dX7_keyOf_80 : decode cX7_keyOf 80 = .ok (.getfield 75, 3) := by decide +kernel
theorem dX7_keyOf_83 : decode cX7_keyOf 83 = .ok (.invokevirtual 86, 3) := by decide +kernel
theorem dX7_keyOf_86 : decode cX7_keyOf 86 = .ok (.ifCond .eq 8, 3) := by decide +kernel
theorem dX7_keyOf_89 : decode cX7_keyOf 89 = .ok (.iload 5, 2) := by decide +kernel
theorem dX7_keyOf_91 : decode cX7_keyOf 91 = .ok (.goto 8, 3) := by decide +kernel
theorem dX7_keyOf_94 : decode cX7_keyOf 94 = .ok (.bipush 64, 2) := by decide +kernel
theorem dX7_keyOf_96 : decode cX7_keyOf 96 = .ok (.iload 5, 2) := by decide +kernel
theorem dX7_keyOf_98 : decode cX7_keyOf 98 = .ok (.iadd, 1) := by decide +kernel
theorem dX7_keyOf_99 : decode cX7_keyOf 99 = .ok (.ireturn, 1) := by decide +kernel
theorem dX7_keyOf_100 : decode cX7_keyOf 100 = .ok (.iload 4, 2) := by decide +kernel
theorem dX7_keyOf_102 : decode cX7_keyOf 102 = .ok (.aload_n 2, 1) := by decide +kernel
theorem dX7_keyOf_103 : decode cX7_keyOf 103 = .ok (.getfield 75, 3) := by decide +kernel
theorem dX7_keyOf_106 : decode cX7_keyOf 106 = .ok (.if_icmp .lt 8, 3) := by decide +kernel
theorem dX7_keyOf_109 : decode cX7_keyOf 109 = .ok (.iload 5, 2) := by decide +kernel
theorem dX7_keyOf_111 : decode cX7_keyOf 111 = .ok (.goto 8, 3) := by decide +kernel
theorem dX7_keyOf_114 : decode cX7_keyOf 114 = .ok (.bipush 64, 2) := by decide +kernel
theorem dX7_keyOf_116 : decode cX7_keyOf 116 = .ok (.iload 4, 2) := by decide +kernel
theorem dX7_keyOf_118 : decode cX7_keyOf 118 = .ok (.iadd, 1) := by decide +kernel
theorem dX7_keyOf_119 : decode cX7_keyOf 119 = .ok (.ireturn, 1) := by decide +kernel
theorem dX7_keyOf_120 : decode cX7_keyOf 120 = .ok (.aload_n 0, 1) := by decide +kernel
theorem dX7_keyOf_121 : decode cX7_keyOf 121 = .ok (.aload_n 1, 1) := by decide +kernel
theorem dX7_keyOf_122 : decode cX7_keyOf 122 = .ok (.aload_n 2, 1) := by decide +kernel
theorem dX7_keyOf_123 : decode cX7_keyOf 123 = .ok (.getfield 90, 3) := by decide +kernel
theorem dX7_keyOf_126 : decode cX7_keyOf 126 = .ok (.invokevirtual 93, 3) := by decide +kernel
theorem dX7_keyOf_129 : decode cX7_keyOf 129 = .ok (.sipush 10000, 3) := by decide +kernel
theorem dX7_keyOf_132 : decode cX7_keyOf 132 = .ok (.imul, 1) := by decide +kernel
theorem dX7_keyOf_133 : decode cX7_keyOf 133 = .ok (.aload_n 2, 1) := by decide +kernel
theorem dX7_keyOf_134 : decode cX7_keyOf 134 = .ok (.iload_n 3, 1) := by decide +kernel
theorem dX7_keyOf_135 : decode cX7_keyOf 135 = .ok (.invokevirtual 97, 3) := by decide +kernel
theorem dX7_keyOf_138 : decode cX7_keyOf 138 = .ok (.iadd, 1) := by decide +kernel
theorem dX7_keyOf_139 : decode cX7_keyOf 139 = .ok (.ireturn, 1) := by decide +kernel
theorem dX7_keyOf_140 : decode cX7_keyOf 140 = .ok (.aload_n 2, 1) := by decide +kernel
theorem dX7_keyOf_141 : decode cX7_keyOf 141 = .ok (.iload_n 3, 1) := by decide +kernel
theorem dX7_keyOf_142 : decode cX7_keyOf 142 = .ok (.invokevirtual 97, 3) := by decide +kernel
theorem dX7_keyOf_145 : decode cX7_keyOf 145 = .ok (.ireturn, 1) := by decide +kernel
theorem dX7_isAhead_0 : decode cX7_isAhead 0 = .ok (.aload_n 0, 1) := by decide +kernel
theorem dX7_isAhead_1 : decode cX7_isAhead 1 = .ok (.getfield 9, 3) := by decide +kernel
theorem dX7_isAhead_4 : decode cX7_isAhead 4 = .ok (.ifCond .eq 16, 3) := by decide +kernel
theorem dX7_isAhead_7 : decode cX7_isAhead 7 = .ok (.iload_n 1, 1) := by decide +kernel
theorem dX7_isAhead_8 : decode cX7_isAhead 8 = .ok (.iload_n 2, 1) := by decide +kernel
theorem dX7_isAhead_9 : decode cX7_isAhead 9 = .ok (.if_icmp .lt 7, 3) := by decide +kernel
theorem dX7_isAhead_12 : decode cX7_isAhead 12 = .ok (.iconst 1, 1) := by decide +kernel
theorem dX7_isAhead_13 : decode cX7_isAhead 13 = .ok (.goto 17, 3) := by decide +kernel
theorem dX7_isAhead_16 : decode cX7_isAhead 16 = .ok (.iconst 0, 1) := by decide +kernel
theorem dX7_isAhead_17 : decode cX7_isAhead 17 = .ok (.goto 13, 3) := by decide +kernel
theorem dX7_isAhead_20 : decode cX7_isAhead 20 = .ok (.iload_n 1, 1) := by decide +kernel
theorem dX7_isAhead_21 : decode cX7_isAhead 21 = .ok (.iload_n 2, 1) := by decide +kernel
theorem dX7_isAhead_22 : decode cX7_isAhead 22 = .ok (.if_icmp .gt 7, 3) := by decide +kernel
theorem dX7_isAhead_25 : decode cX7_isAhead 25 = .ok (.iconst 1, 1) := by decide +kernel
theorem dX7_isAhead_26 : decode cX7_isAhead 26 = .ok (.goto 4, 3) := by decide +kernel
theorem dX7_isAhead_29 : decode cX7_isAhead 29 = .ok (.iconst 0, 1) := by decide +kernel
theorem dX7_isAhead_30 : decode cX7_isAhead 30 = .ok (.ireturn, 1) := by decide +kernel
theorem dX7_turnFor_0 : decode cX7_turnFor 0 = .ok (.aload_n 0, 1) := by decide +kernel
theorem dX7_turnFor_1 : decode cX7_turnFor 1 = .ok (.getfield 22, 3) := by decide +kernel
theorem dX7_turnFor_4 : decode cX7_turnFor 4 = .ok (.iconst 2, 1) := by decide +kernel
theorem dX7_turnFor_5 : decode cX7_turnFor 5 = .ok (.if_icmp .ne 28, 3) := by decide +kernel
theorem dX7_turnFor_8 : decode cX7_turnFor 8 = .ok (.aload_n 0, 1) := by decide +kernel
theorem dX7_turnFor_9 : decode cX7_turnFor 9 = .ok (.iload_n 1, 1) := by decide +kernel
theorem dX7_turnFor_10 : decode cX7_turnFor 10 = .ok (.iload_n 2, 1) := by decide +kernel
theorem dX7_turnFor_11 : decode cX7_turnFor 11 = .ok (.invokevirtual 86, 3) := by decide +kernel
theorem dX7_turnFor_14 : decode cX7_turnFor 14 = .ok (.ifCond .ne 19, 3) := by decide +kernel
theorem dX7_turnFor_17 : decode cX7_turnFor 17 = .ok (.aload_n 0, 1) := by decide +kernel
theorem dX7_turnFor_18 : decode cX7_turnFor 18 = .ok (.aload_n 0, 1) := by decide +kernel
theorem dX7_turnFor_19 : decode cX7_turnFor 19 = .ok (.getfield 9, 3) := by decide +kernel
theorem dX7_turnFor_22 : decode cX7_turnFor 22 = .ok (.ifCond .ne 7, 3) := by decide +kernel
theorem dX7_turnFor_25 : decode cX7_turnFor 25 = .ok (.iconst 1, 1) := by decide +kernel
theorem dX7_turnFor_26 : decode cX7_turnFor 26 = .ok (.goto 4, 3) := by decide +kernel
theorem dX7_turnFor_29 : decode cX7_turnFor 29 = .ok (.iconst 0, 1) := by decide +kernel
theorem dX7_turnFor_30 : decode cX7_turnFor 30 = .ok (.putfield 9, 3) := by decide +kernel
theorem dX7_turnFor_33 : decode cX7_turnFor 33 = .ok (.return_, 1) := by decide +kernel
theorem dX7_bucketOf_0 : decode cX7_bucketOf 0 = .ok (.iconst 3, 1) := by decide +kernel
theorem dX7_bucketOf_1 : decode cX7_bucketOf 1 = .ok (.istore_n 3, 1) := by decide +kernel
theorem dX7_bucketOf_2 : decode cX7_bucketOf 2 = .ok (.aload_n 1, 1) := by decide +kernel
theorem dX7_bucketOf_3 : decode cX7_bucketOf 3 = .ok (.invokevirtual 100, 3) := by decide +kernel
theorem dX7_bucketOf_6 : decode cX7_bucketOf 6 = .ok (.ifCond .eq 29, 3) := by decide +kernel
theorem dX7_bucketOf_9 : decode cX7_bucketOf 9 = .ok (.iconst 0, 1) := by decide +kernel
theorem dX7_bucketOf_10 : decode cX7_bucketOf 10 = .ok (.aload_n 1, 1) := by decide +kernel
theorem dX7_bucketOf_11 : decode cX7_bucketOf 11 = .ok (.getfield 103, 3) := by decide +kernel
theorem dX7_bucketOf_14 : decode cX7_bucketOf 14 = .ok (.iload_n 2, 1) := by decide +kernel
theorem dX7_bucketOf_15 : decode cX7_bucketOf 15 = .ok (.isub, 1) := by decide +kernel
theorem dX7_bucketOf_16 : decode cX7_bucketOf 16 = .ok (.invokestatic 106, 3) := by decide +kernel
theorem dX7_bucketOf_19 : decode cX7_bucketOf 19 = .ok (.istore 4, 2) := by decide +kernel
theorem dX7_bucketOf_21 : decode cX7_bucketOf 21 = .ok (.iconst 3, 1) := by decide +kernel
theorem dX7_bucketOf_22 : decode cX7_bucketOf 22 = .ok (.iload 4, 2) := by decide +kernel
theorem dX7_bucketOf_24 : decode cX7_bucketOf 24 = .ok (.aload_n 0, 1) := by decide +kernel
theorem dX7_bucketOf_25 : decode cX7_bucketOf 25 = .ok (.getfield 15, 3) := by decide +kernel
theorem dX7_bucketOf_28 : decode cX7_bucketOf 28 = .ok (.invokestatic 110, 3) := by decide +kernel
theorem dX7_bucketOf_31 : decode cX7_bucketOf 31 = .ok (.invokestatic 113, 3) := by decide +kernel
theorem dX7_bucketOf_34 : decode cX7_bucketOf 34 = .ok (.istore_n 3, 1) := by decide +kernel
theorem dX7_bucketOf_35 : decode cX7_bucketOf 35 = .ok (.iconst 0, 1) := by decide +kernel
theorem dX7_bucketOf_36 : decode cX7_bucketOf 36 = .ok (.iload_n 3, 1) := by decide +kernel
theorem dX7_bucketOf_37 : decode cX7_bucketOf 37 = .ok (.iload_n 2, 1) := by decide +kernel
theorem dX7_bucketOf_38 : decode cX7_bucketOf 38 = .ok (.aload_n 1, 1) := by decide +kernel
theorem dX7_bucketOf_39 : decode cX7_bucketOf 39 = .ok (.getfield 116, 3) := by decide +kernel
theorem dX7_bucketOf_42 : decode cX7_bucketOf 42 = .ok (.isub, 1) := by decide +kernel
theorem dX7_bucketOf_43 : decode cX7_bucketOf 43 = .ok (.aload_n 0, 1) := by decide +kernel
theorem dX7_bucketOf_44 : decode cX7_bucketOf 44 = .ok (.getfield 19, 3) := by decide +kernel
theorem dX7_bucketOf_47 : decode cX7_bucketOf 47 = .ok (.invokestatic 110, 3) := by decide +kernel
theorem dX7_bucketOf_50 : decode cX7_bucketOf 50 = .ok (.isub, 1) := by decide +kernel
theorem dX7_bucketOf_51 : decode cX7_bucketOf 51 = .ok (.invokestatic 106, 3) := by decide +kernel
theorem dX7_bucketOf_54 : decode cX7_bucketOf 54 = .ok (.ireturn, 1) := by decide +kernel
theorem dX8_init_0 : decode cX8_init 0 = .ok (.aload_n 0, 1) := by decide +kernel
theorem dX8_init_1 : decode cX8_init 1 = .ok (.invokespecial 3, 3) := by decide +kernel
theorem dX8_init_4 : decode cX8_init 4 = .ok (.aload_n 0, 1) := by decide +kernel
theorem dX8_init_5 : decode cX8_init 5 = .ok (.new 9, 3) := by decide +kernel
theorem dX8_init_8 : decode cX8_init 8 = .ok (.dup, 1) := by decide +kernel
theorem dX8_init_9 : decode cX8_init 9 = .ok (.invokespecial 11, 3) := by decide +kernel
theorem dX8_init_12 : decode cX8_init 12 = .ok (.putfield 12, 3) := by decide +kernel
theorem dX8_init_15 : decode cX8_init 15 = .ok (.aload_n 0, 1) := by decide +kernel
theorem dX8_init_16 : decode cX8_init 16 = .ok (.new 18, 3) := by decide +kernel
theorem dX8_init_19 : decode cX8_init 19 = .ok (.dup, 1) := by decide +kernel
theorem dX8_init_20 : decode cX8_init 20 = .ok (.invokespecial 20, 3) := by decide +kernel
theorem dX8_init_23 : decode cX8_init 23 = .ok (.putfield 21, 3) := by decide +kernel
theorem dX8_init_26 : decode cX8_init 26 = .ok (.aload_n 0, 1) := by decide +kernel
theorem dX8_init_27 : decode cX8_init 27 = .ok (.new 25, 3) := by decide +kernel
theorem dX8_init_30 : decode cX8_init 30 = .ok (.dup, 1) := by decide +kernel
theorem dX8_init_31 : decode cX8_init 31 = .ok (.invokespecial 27, 3) := by decide +kernel
theorem dX8_init_34 : decode cX8_init 34 = .ok (.putfield 28, 3) := by decide +kernel
theorem dX8_init_37 : decode cX8_init 37 = .ok (.aload_n 0, 1) := by decide +kernel
theorem dX8_init_38 : decode cX8_init 38 = .ok (.new 32, 3) := by decide +kernel
theorem dX8_init_41 : decode cX8_init 41 = .ok (.dup, 1) := by decide +kernel
theorem dX8_init_42 : decode cX8_init 42 = .ok (.invokespecial 34, 3) := by decide +kernel
theorem dX8_init_45 : decode cX8_init 45 = .ok (.putfield 35, 3) := by decide +kernel
theorem dX8_init_48 : decode cX8_init 48 = .ok (.return_, 1) := by decide +kernel
theorem dX8_copyFrom_0 : decode cX8_copyFrom 0 = .ok (.aload_n 0, 1) := by decide +kernel
theorem dX8_copyFrom_1 : decode cX8_copyFrom 1 = .ok (.getfield 12, 3) := by decide +kernel
theorem dX8_copyFrom_4 : decode cX8_copyFrom 4 = .ok (.aload_n 1, 1) := by decide +kernel
theorem dX8_copyFrom_5 : decode cX8_copyFrom 5 = .ok (.getfield 12, 3) := by decide +kernel
theorem dX8_copyFrom_8 : decode cX8_copyFrom 8 = .ok (.invokevirtual 39, 3) := by decide +kernel
theorem dX8_copyFrom_11 : decode cX8_copyFrom 11 = .ok (.aload_n 0, 1) := by decide +kernel
theorem dX8_copyFrom_12 : decode cX8_copyFrom 12 = .ok (.getfield 21, 3) := by decide +kernel
theorem dX8_copyFrom_15 : decode cX8_copyFrom 15 = .ok (.aload_n 1, 1) := by decide +kernel
theorem dX8_copyFrom_16 : decode cX8_copyFrom 16 = .ok (.getfield 21, 3) := by decide +kernel
theorem dX8_copyFrom_19 : decode cX8_copyFrom 19 = .ok (.invokevirtual 43, 3) := by decide +kernel
theorem dX8_copyFrom_22 : decode cX8_copyFrom 22 = .ok (.aload_n 0, 1) := by decide +kernel
theorem dX8_copyFrom_23 : decode cX8_copyFrom 23 = .ok (.getfield 28, 3) := by decide +kernel
theorem dX8_copyFrom_26 : decode cX8_copyFrom 26 = .ok (.aload_n 1, 1) := by decide +kernel
theorem dX8_copyFrom_27 : decode cX8_copyFrom 27 = .ok (.getfield 28, 3) := by decide +kernel
theorem dX8_copyFrom_30 : decode cX8_copyFrom 30 = .ok (.invokevirtual 46, 3) := by decide +kernel
theorem dX8_copyFrom_33 : decode cX8_copyFrom 33 = .ok (.aload_n 0, 1) := by decide +kernel
theorem dX8_copyFrom_34 : decode cX8_copyFrom 34 = .ok (.getfield 35, 3) := by decide +kernel
theorem dX8_copyFrom_37 : decode cX8_copyFrom 37 = .ok (.aload_n 1, 1) := by decide +kernel
theorem dX8_copyFrom_38 : decode cX8_copyFrom 38 = .ok (.getfield 35, 3) := by decide +kernel
theorem dX8_copyFrom_41 : decode cX8_copyFrom 41 = .ok (.invokevirtual 49, 3) := by decide +kernel
theorem dX8_copyFrom_44 : decode cX8_copyFrom 44 = .ok (.return_, 1) := by decide +kernel
theorem dX8_hasRoomFor_0 : decode cX8_hasRoomFor 0 = .ok (.aload_n 0, 1) := by decide +kernel
theorem dX8_hasRoomFor_1 : decode cX8_hasRoomFor 1 = .ok (.getfield 21, 3) := by decide +kernel
theorem dX8_hasRoomFor_4 : decode cX8_hasRoomFor 4 = .ok (.getfield 52, 3) := by decide +kernel
theorem dX8_hasRoomFor_7 : decode cX8_hasRoomFor 7 = .ok (.bipush 80, 2) := by decide +kernel
theorem dX8_hasRoomFor_9 : decode cX8_hasRoomFor 9 = .ok (.if_icmp .ge 15, 3) := by decide +kernel
theorem dX8_hasRoomFor_12 : decode cX8_hasRoomFor 12 = .ok (.aload_n 0, 1) := by decide +kernel
theorem dX8_hasRoomFor_13 : decode cX8_hasRoomFor 13 = .ok (.getfield 21, 3) := by decide +kernel
theorem dX8_hasRoomFor_16 : decode cX8_hasRoomFor 16 = .ok (.getfield 56, 3) := by decide +kernel
theorem dX8_hasRoomFor_19 : decode cX8_hasRoomFor 19 = .ok (.bipush 12, 2) := by decide +kernel
theorem dX8_hasRoomFor_21 : decode cX8_hasRoomFor 21 = .ok (.if_icmp .lt 5, 3) := by decide +kernel
theorem dX8_hasRoomFor_24 : decode cX8_hasRoomFor 24 = .ok (.iconst 0, 1) := by decide +kernel
theorem dX8_hasRoomFor_25 : decode cX8_hasRoomFor 25 = .ok (.ireturn, 1) := by decide +kernel
theorem dX8_hasRoomFor_26 : decode cX8_hasRoomFor 26 = .ok (.aload_n 0, 1) := by decide +kernel
theorem dX8_hasRoomFor_27 : decode cX8_hasRoomFor 27 = .ok (.getfield 35, 3) := by decide +kernel
theorem dX8_hasRoomFor_30 : decode cX8_hasRoomFor 30 = .ok (.getfield 59, 3) := by decide +kernel
theorem dX8_hasRoomFor_33 : decode cX8_hasRoomFor 33 = .ok (.ifCond .eq 23, 3) := by decide +kernel
theorem dX8_hasRoomFor_36 : decode cX8_hasRoomFor 36 = .ok (.iload_n 1, 1) := by decide +kernel
theorem dX8_hasRoomFor_37 : decode cX8_hasRoomFor 37 = .ok (.iconst 1, 1) := by decide +kernel
theorem dX8_hasRoomFor_38 : decode cX8_hasRoomFor 38 = .ok (.if_icmp .ne 18, 3) := by decide +kernel
theorem dX8_hasRoomFor_41 : decode cX8_hasRoomFor 41 = .ok (.aload_n 0, 1) := by decide +kernel
theorem dX8_hasRoomFor_42 : decode cX8_hasRoomFor 42 = .ok (.getfield 35, 3) := by decide +kernel
theorem dX8_hasRoomFor_45 : decode cX8_hasRoomFor 45 = .ok (.iload_n 2, 1) := by decide +kernel
theorem dX8_hasRoomFor_46 : decode cX8_hasRoomFor 46 = .ok (.invokevirtual 63, 3) := by decide +kernel
theorem dX8_hasRoomFor_49 : decode cX8_hasRoomFor 49 = .ok (.ifCond .ne 7, 3) := by decide +kernel
theorem dX8_hasRoomFor_52 : decode cX8_hasRoomFor 52 = .ok (.iconst 1, 1) := by decide +kernel
theorem dX8_hasRoomFor_53 : decode cX8_hasRoomFor 53 = .ok (.goto 4, 3) := by decide +kernel
theorem dX8_hasRoomFor_56 : decode cX8_hasRoomFor 56 = .ok (.iconst 0, 1) := by decide +kernel
theorem dX8_hasRoomFor_57 : decode cX8_hasRoomFor 57 = .ok (.istore_n 3, 1) := by decide +kernel
theorem dX8_hasRoomFor_58 : decode cX8_hasRoomFor 58 = .ok (.iload_n 3, 1) := by decide +kernel
theorem dX8_hasRoomFor_59 : decode cX8_hasRoomFor 59 = .ok (.ifCond .eq 15, 3) := by decide +kernel
theorem dX8_hasRoomFor_62 : decode cX8_hasRoomFor 62 = .ok (.aload_n 0, 1) := by decide +kernel
theorem dX8_hasRoomFor_63 : decode cX8_hasRoomFor 63 = .ok (.getfield 35, 3) := by decide +kernel
theorem dX8_hasRoomFor_66 : decode cX8_hasRoomFor 66 = .ok (.getfield 67, 3) := by decide +kernel
theorem dX8_hasRoomFor_69 : decode cX8_hasRoomFor 69 = .ok (.bipush 8, 2) := by decide +kernel
theorem dX8_hasRoomFor_71 : decode cX8_hasRoomFor 71 = .ok (.if_icmp .ge 7, 3) := by decide +kernel
theorem dX8_hasRoomFor_74 : decode cX8_hasRoomFor 74 = .ok (.iconst 1, 1) := by decide +kernel
theorem dX8_hasRoomFor_75 : decode cX8_hasRoomFor 75 = .ok (.goto 4, 3) := by decide +kernel
theorem dX8_hasRoomFor_78 : decode cX8_hasRoomFor 78 = .ok (.iconst 0, 1) := by decide +kernel
theorem dX8_hasRoomFor_79 : decode cX8_hasRoomFor 79 = .ok (.ireturn, 1) := by decide +kernel
theorem dX8_accept_0 : decode cX8_accept 0 = .ok (.aload_n 0, 1) := by decide +kernel
theorem dX8_accept_1 : decode cX8_accept 1 = .ok (.getfield 12, 3) := by decide +kernel
theorem dX8_accept_4 : decode cX8_accept 4 = .ok (.getfield 68, 3) := by decide +kernel
theorem dX8_accept_7 : decode cX8_accept 7 = .ok (.istore 4, 2) := by decide +kernel
theorem dX8_accept_9 : decode cX8_accept 9 = .ok (.aload_n 0, 1) := by decide +kernel
theorem dX8_accept_10 : decode cX8_accept 10 = .ok (.getfield 21, 3) := by decide +kernel
theorem dX8_accept_13 : decode cX8_accept 13 = .ok (.iload_n 2, 1) := by decide +kernel
theorem dX8_accept_14 : decode cX8_accept 14 = .ok (.iload 4, 2) := by decide +kernel
theorem dX8_accept_16 : decode cX8_accept 16 = .ok (.iload_n 3, 1) := by decide +kernel
theorem dX8_accept_17 : decode cX8_accept 17 = .ok (.ifCond .ne 7, 3) := by decide +kernel
theorem dX8_accept_20 : decode cX8_accept 20 = .ok (.iconst (-1), 1) := by decide +kernel
theorem dX8_accept_21 : decode cX8_accept 21 = .ok (.goto 7, 3) := by decide +kernel
theorem dX8_accept_24 : decode cX8_accept 24 = .ok (.iload 4, 2) := by decide +kernel
theorem dX8_accept_26 : decode cX8_accept 26 = .ok (.iload_n 3, 1) := by decide +kernel
theorem dX8_accept_27 : decode cX8_accept 27 = .ok (.iadd, 1) := by decide +kernel
theorem dX8_accept_28 : decode cX8_accept 28 = .ok (.invokevirtual 71, 3) := by decide +kernel
theorem dX8_accept_31 : decode cX8_accept 31 = .ok (.astore 5, 2) := by decide +kernel
theorem dX8_accept_33 : decode cX8_accept 33 = .ok (.aload 5, 2) := by decide +kernel
theorem dX8_accept_35 : decode cX8_accept 35 = .ok (.ifnonnull 5, 3) := by decide +kernel
theorem dX8_accept_38 : decode cX8_accept 38 = .ok (.iconst (-1), 1) := by decide +kernel
theorem dX8_accept_39 : decode cX8_accept 39 = .ok (.ireturn, 1) := by decide +kernel
theorem dX8_accept_40 : decode cX8_accept 40 = .ok (.aload_n 0, 1) := by decide +kernel
theorem dX8_accept_41 : decode cX8_accept 41 = .ok (.getfield 35, 3) := by decide +kernel
theorem dX8_accept_44 : decode cX8_accept 44 = .ok (.iload_n 1, 1) := by decide +kernel
theorem dX8_accept_45 : decode cX8_accept 45 = .ok (.iload_n 2, 1) := by decide +kernel
theorem dX8_accept_46 : decode cX8_accept 46 = .ok (.invokevirtual 75, 3) := by decide +kernel
theorem dX8_accept_49 : decode cX8_accept 49 = .ok (.ifCond .eq 27, 3) := by decide +kernel
theorem dX8_accept_52 : decode cX8_accept 52 = .ok (.aload_n 0, 1) := by decide +kernel
theorem dX8_accept_53 : decode cX8_accept 53 = .ok (.getfield 21, 3) := by decide +kernel
theorem dX8_accept_56 : decode cX8_accept 56 = .ok (.aload 5, 2) := by decide +kernel
theorem dX8_accept_58 : decode cX8_accept 58 = .ok (.iload 4, 2) := by decide +kernel
theorem dX8_accept_60 : decode cX8_accept 60 = .ok (.invokevirtual 79, 3) := by decide +kernel
theorem dX8_accept_63 : decode cX8_accept 63 = .ok (.iload_n 1, 1) := by decide +kernel
theorem dX8_accept_64 : decode cX8_accept 64 = .ok (.iconst 1, 1) := by decide +kernel
theorem dX8_accept_65 : decode cX8_accept 65 = .ok (.if_icmp .ne 11, 3) := by decide +kernel
theorem dX8_accept_68 : decode cX8_accept 68 = .ok (.aload_n 0, 1) := by decide +kernel
theorem dX8_accept_69 : decode cX8_accept 69 = .ok (.getfield 35, 3) := by decide +kernel
theorem dX8_accept_72 : decode cX8_accept 72 = .ok (.iload_n 2, 1) := by decide +kernel
theorem dX8_accept_73 : decode cX8_accept 73 = .ok (.invokevirtual 83, 3) := by decide +kernel
theorem dX8_accept_76 : decode cX8_accept 76 = .ok (.aload 5, 2) := by decide +kernel
theorem dX8_accept_78 : decode cX8_accept 78 = .ok (.getfield 87, 3) := by decide +kernel
theorem dX8_accept_81 : decode cX8_accept 81 = .ok (.ireturn, 1) := by decide +kernel
theorem dX8_serveChosen_0 : decode cX8_serveChosen 0 = .ok (.aload_n 0, 1) := by decide +kernel
theorem dX8_serveChosen_1 : decode cX8_serveChosen 1 = .ok (.getfield 21, 3) := by decide +kernel
theorem dX8_serveChosen_4 : decode cX8_serveChosen 4 = .ok (.aload_n 0, 1) := by decide +kernel
theorem dX8_serveChosen_5 : decode cX8_serveChosen 5 = .ok (.getfield 28, 3) := by decide +kernel
theorem dX8_serveChosen_8 : decode cX8_serveChosen 8 = .ok (.aload_n 0, 1) := by decide +kernel
theorem dX8_serveChosen_9 : decode cX8_serveChosen 9 = .ok (.getfield 21, 3) := by decide +kernel
theorem dX8_serveChosen_12 : decode cX8_serveChosen 12 = .ok (.aload_n 0, 1) := by decide +kernel
theorem dX8_serveChosen_13 : decode cX8_serveChosen 13 = .ok (.getfield 12, 3) := by decide +kernel
theorem dX8_serveChosen_16 : decode cX8_serveChosen 16 = .ok (.aload_n 1, 1) := by decide +kernel
theorem dX8_serveChosen_17 : decode cX8_serveChosen 17 = .ok (.invokevirtual 92, 3) := by decide +kernel
theorem dX8_serveChosen_20 : decode cX8_serveChosen 20 = .ok (.invokevirtual 96, 3) := by decide +kernel
theorem dX8_serveChosen_23 : decode cX8_serveChosen 23 = .ok (.astore_n 2, 1) := by decide +kernel
theorem dX8_serveChosen_24 : decode cX8_serveChosen 24 = .ok (.aload_n 2, 1) := by decide +kernel
theorem dX8_serveChosen_25 : decode cX8_serveChosen 25 = .ok (.ifnonnull 5, 3) := by decide +kernel
theorem dX8_serveChosen_28 : decode cX8_serveChosen 28 = .ok (.iconst (-1), 1) := by decide +kernel
theorem dX8_serveChosen_29 : decode cX8_serveChosen 29 = .ok (.ireturn, 1) := by decide +kernel
theorem dX8_serveChosen_30 : decode cX8_serveChosen 30 = .ok (.aload_n 0, 1) := by decide +kernel
theorem dX8_serveChosen_31 : decode cX8_serveChosen 31 = .ok (.getfield 12, 3) := by decide +kernel
theorem dX8_serveChosen_34 : decode cX8_serveChosen 34 = .ok (.aload_n 2, 1) := by decide +kernel
theorem dX8_serveChosen_35 : decode cX8_serveChosen 35 = .ok (.getfield 100, 3) := by decide +kernel
theorem dX8_serveChosen_38 : decode cX8_serveChosen 38 = .ok (.invokevirtual 103, 3) := by decide +kernel
theorem dX8_serveChosen_41 : decode cX8_serveChosen 41 = .ok (.istore_n 3, 1) := by decide +kernel
theorem dX8_serveChosen_42 : decode cX8_serveChosen 42 = .ok (.aload_n 0, 1) := by decide +kernel
theorem dX8_serveChosen_43 : decode cX8_serveChosen 43 = .ok (.getfield 28, 3) := by decide +kernel
theorem dX8_serveChosen_46 : decode cX8_serveChosen 46 = .ok (.iload_n 3, 1) := by decide +kernel
theorem dX8_serveChosen_47 : decode cX8_serveChosen 47 = .ok (.invokestatic 107, 3) := by decide +kernel
theorem dX8_serveChosen_50 : decode cX8_serveChosen 50 = .ok (.aload_n 0, 1) := by decide +kernel
theorem dX8_serveChosen_51 : decode cX8_serveChosen 51 = .ok (.getfield 12, 3) := by decide +kernel
theorem dX8_serveChosen_54 : decode cX8_serveChosen 54 = .ok (.getfield 112, 3) := by decide +kernel
theorem dX8_serveChosen_57 : decode cX8_serveChosen 57 = .ok (.invokevirtual 115, 3) := by decide +kernel
theorem dX8_serveChosen_60 : decode cX8_serveChosen 60 = .ok (.aload_n 0, 1) := by decide +kernel
theorem dX8_serveChosen_61 : decode cX8_serveChosen 61 = .ok (.getfield 12, 3) := by decide +kernel
theorem dX8_serveChosen_64 : decode cX8_serveChosen 64 = .ok (.iload_n 3, 1) := by decide +kernel
theorem dX8_serveChosen_65 : decode cX8_serveChosen 65 = .ok (.invokevirtual 119, 3) := by decide +kernel
theorem dX8_serveChosen_68 : decode cX8_serveChosen 68 = .ok (.aload_n 0, 1) := by decide +kernel
theorem dX8_serveChosen_69 : decode cX8_serveChosen 69 = .ok (.getfield 21, 3) := by decide +kernel
theorem dX8_serveChosen_72 : decode cX8_serveChosen 72 = .ok (.aload_n 2, 1) := by decide +kernel
theorem dX8_serveChosen_73 : decode cX8_serveChosen 73 = .ok (.aload_n 0, 1) := by decide +kernel
theorem dX8_serveChosen_74 : decode cX8_serveChosen 74 = .ok (.getfield 12, 3) := by decide +kernel
theorem dX8_serveChosen_77 : decode cX8_serveChosen 77 = .ok (.getfield 68, 3) := by decide +kernel
theorem dX8_serveChosen_80 : decode cX8_serveChosen 80 = .ok (.invokevirtual 79, 3) := by decide +kernel
theorem dX8_serveChosen_83 : decode cX8_serveChosen 83 = .ok (.aload_n 2, 1) := by decide +kernel
theorem dX8_serveChosen_84 : decode cX8_serveChosen 84 = .ok (.getfield 87, 3) := by decide +kernel
theorem dX8_serveChosen_87 : decode cX8_serveChosen 87 = .ok (.ireturn, 1) := by decide +kernel
theorem dX9_init_0 : decode cX9_init 0 = .ok (.aload_n 0, 1) := by decide +kernel
theorem dX9_init_1 : decode cX9_init 1 = .ok (.invokespecial 1, 3) := by decide +kernel
theorem dX9_init_4 : decode cX9_init 4 = .ok (.aload_n 0, 1) := by decide +kernel
theorem dX9_init_5 : decode cX9_init 5 = .ok (.new 7, 3) := by decide +kernel
theorem dX9_init_8 : decode cX9_init 8 = .ok (.dup, 1) := by decide +kernel
theorem dX9_init_9 : decode cX9_init 9 = .ok (.invokespecial 9, 3) := by decide +kernel
theorem dX9_init_12 : decode cX9_init 12 = .ok (.putfield 10, 3) := by decide +kernel
theorem dX9_init_15 : decode cX9_init 15 = .ok (.aload_n 0, 1) := by decide +kernel
theorem dX9_init_16 : decode cX9_init 16 = .ok (.new 16, 3) := by decide +kernel
theorem dX9_init_19 : decode cX9_init 19 = .ok (.dup, 1) := by decide +kernel
theorem dX9_init_20 : decode cX9_init 20 = .ok (.invokespecial 18, 3) := by decide +kernel
theorem dX9_init_23 : decode cX9_init 23 = .ok (.putfield 19, 3) := by decide +kernel
theorem dX9_init_26 : decode cX9_init 26 = .ok (.aload_n 0, 1) := by decide +kernel
theorem dX9_init_27 : decode cX9_init 27 = .ok (.new 23, 3) := by decide +kernel
theorem dX9_init_30 : decode cX9_init 30 = .ok (.dup, 1) := by decide +kernel
theorem dX9_init_31 : decode cX9_init 31 = .ok (.invokespecial 25, 3) := by decide +kernel
theorem dX9_init_34 : decode cX9_init 34 = .ok (.putfield 26, 3) := by decide +kernel
theorem dX9_init_37 : decode cX9_init 37 = .ok (.return_, 1) := by decide +kernel
theorem dX9_setCurve_0 : decode cX9_setCurve 0 = .ok (.iload_n 1, 1) := by decide +kernel
theorem dX9_setCurve_1 : decode cX9_setCurve 1 = .ok (.iconst 0, 1) := by decide +kernel
theorem dX9_setCurve_2 : decode cX9_setCurve 2 = .ok (.bipush 50, 2) := by decide +kernel
theorem dX9_setCurve_4 : decode cX9_setCurve 4 = .ok (.invokestatic 30, 3) := by decide +kernel
theorem dX9_setCurve_7 : decode cX9_setCurve 7 = .ok (.ifCond .eq 23, 3) := by decide +kernel
theorem dX9_setCurve_10 : decode cX9_setCurve 10 = .ok (.iload_n 2, 1) := by decide +kernel
theorem dX9_setCurve_11 : decode cX9_setCurve 11 = .ok (.iconst 0, 1) := by decide +kernel
theorem dX9_setCurve_12 : decode cX9_setCurve 12 = .ok (.bipush 20, 2) := by decide +kernel
theorem dX9_setCurve_14 : decode cX9_setCurve 14 = .ok (.invokestatic 30, 3) := by decide +kernel
theorem dX9_setCurve_17 : decode cX9_setCurve 17 = .ok (.ifCond .eq 13, 3) := by decide +kernel
theorem dX9_setCurve_20 : decode cX9_setCurve 20 = .ok (.iload_n 3, 1) := by decide +kernel
theorem dX9_setCurve_21 : decode cX9_setCurve 21 = .ok (.iconst 0, 1) := by decide +kernel
theorem dX9_setCurve_22 : decode cX9_setCurve 22 = .ok (.bipush 9, 2) := by decide +kernel
theorem dX9_setCurve_24 : decode cX9_setCurve 24 = .ok (.invokestatic 30, 3) := by decide +kernel
theorem dX9_setCurve_27 : decode cX9_setCurve 27 = .ok (.ifCond .ne 13, 3) := by decide +kernel
theorem dX9_setCurve_30 : decode cX9_setCurve 30 = .ok (.new 34, 3) := by decide +kernel
theorem dX9_setCurve_33 : decode cX9_setCurve 33 = .ok (.dup, 1) := by decide +kernel
theorem dX9_setCurve_34 : decode cX9_setCurve 34 = .ok (.ldc 36, 2) := by decide +kernel
theorem dX9_setCurve_36 : decode cX9_setCurve 36 = .ok (.invokespecial 38, 3) := by decide +kernel
theorem dX9_setCurve_39 : decode cX9_setCurve 39 = .ok (.athrow, 1) := by decide +kernel
theorem dX9_setCurve_40 : decode cX9_setCurve 40 = .ok (.aload_n 0, 1) := by decide +kernel
theorem dX9_setCurve_41 : decode cX9_setCurve 41 = .ok (.getfield 10, 3) := by decide +kernel
theorem dX9_setCurve_44 : decode cX9_setCurve 44 = .ok (.getfield 41, 3) := by decide +kernel
theorem dX9_setCurve_47 : decode cX9_setCurve 47 = .ok (.iload_n 1, 1) := by decide +kernel
theorem dX9_setCurve_48 : decode cX9_setCurve 48 = .ok (.putfield 45, 3) := by decide +kernel
theorem dX9_setCurve_51 : decode cX9_setCurve 51 = .ok (.aload_n 0, 1) := by decide +kernel
theorem dX9_setCurve_52 : decode cX9_setCurve 52 = .ok (.getfield 10, 3) := by decide +kernel
theorem dX9_setCurve_55 : decode cX9_setCurve 55 = .ok (.getfield 41, 3) := by decide +kernel
theorem dX9_setCurve_58 : decode cX9_setCurve 58 = .ok (.iload_n 2, 1) := by decide +kernel
theorem dX9_setCurve_59 : decode cX9_setCurve 59 = .ok (.putfield 51, 3) := by decide +kernel
theorem dX9_setCurve_62 : decode cX9_setCurve 62 = .ok (.aload_n 0, 1) := by decide +kernel
theorem dX9_setCurve_63 : decode cX9_setCurve 63 = .ok (.getfield 10, 3) := by decide +kernel
theorem dX9_setCurve_66 : decode cX9_setCurve 66 = .ok (.getfield 41, 3) := by decide +kernel
theorem dX9_setCurve_69 : decode cX9_setCurve 69 = .ok (.iload_n 3, 1) := by decide +kernel
theorem dX9_setCurve_70 : decode cX9_setCurve 70 = .ok (.putfield 54, 3) := by decide +kernel
theorem dX9_setCurve_73 : decode cX9_setCurve 73 = .ok (.return_, 1) := by decide +kernel
theorem dX9_setSkew_0 : decode cX9_setSkew 0 = .ok (.iload_n 1, 1) := by decide +kernel
theorem dX9_setSkew_1 : decode cX9_setSkew 1 = .ok (.iconst 0, 1) := by decide +kernel
theorem dX9_setSkew_2 : decode cX9_setSkew 2 = .ok (.bipush 40, 2) := by decide +kernel
theorem dX9_setSkew_4 : decode cX9_setSkew 4 = .ok (.invokestatic 30, 3) := by decide +kernel
theorem dX9_setSkew_7 : decode cX9_setSkew 7 = .ok (.ifCond .ne 13, 3) := by decide +kernel
theorem dX9_setSkew_10 : decode cX9_setSkew 10 = .ok (.new 34, 3) := by decide +kernel
theorem dX9_setSkew_13 : decode cX9_setSkew 13 = .ok (.dup, 1) := by decide +kernel
theorem dX9_setSkew_14 : decode cX9_setSkew 14 = .ok (.ldc 57, 2) := by decide +kernel
theorem dX9_setSkew_16 : decode cX9_setSkew 16 = .ok (.invokespecial 38, 3) := by decide +kernel
theorem dX9_setSkew_19 : decode cX9_setSkew 19 = .ok (.athrow, 1) := by decide +kernel
theorem dX9_setSkew_20 : decode cX9_setSkew 20 = .ok (.aload_n 0, 1) := by decide +kernel
theorem dX9_setSkew_21 : decode cX9_setSkew 21 = .ok (.getfield 10, 3) := by decide +kernel
theorem dX9_setSkew_24 : decode cX9_setSkew 24 = .ok (.getfield 41, 3) := by decide +kernel
theorem dX9_setSkew_27 : decode cX9_setSkew 27 = .ok (.getfield 59, 3) := by decide +kernel
theorem dX9_setSkew_30 : decode cX9_setSkew 30 = .ok (.istore_n 2, 1) := by decide +kernel
theorem dX9_setSkew_31 : decode cX9_setSkew 31 = .ok (.aload_n 0, 1) := by decide +kernel
theorem dX9_setSkew_32 : decode cX9_setSkew 32 = .ok (.getfield 10, 3) := by decide +kernel
theorem dX9_setSkew_35 : decode cX9_setSkew 35 = .ok (.getfield 41, 3) := by decide +kernel
theorem dX9_setSkew_38 : decode cX9_setSkew 38 = .ok (.iload_n 1, 1) := by decide +kernel
theorem dX9_setSkew_39 : decode cX9_setSkew 39 = .ok (.putfield 59, 3) := by decide +kernel
theorem dX9_setSkew_42 : decode cX9_setSkew 42 = .ok (.iload_n 2, 1) := by decide +kernel
theorem dX9_setSkew_43 : decode cX9_setSkew 43 = .ok (.ireturn, 1) := by decide +kernel
theorem dX9_setPolicy_0 : decode cX9_setPolicy 0 = .ok (.iload_n 1, 1) := by decide +kernel
theorem dX9_setPolicy_1 : decode cX9_setPolicy 1 = .ok (.iconst 0, 1) := by decide +kernel
theorem dX9_setPolicy_2 : decode cX9_setPolicy 2 = .ok (.bipush 6, 2) := by decide +kernel
theorem dX9_setPolicy_4 : decode cX9_setPolicy 4 = .ok (.invokestatic 30, 3) := by decide +kernel
theorem dX9_setPolicy_7 : decode cX9_setPolicy 7 = .ok (.ifCond .ne 13, 3) := by decide +kernel
theorem dX9_setPolicy_10 : decode cX9_setPolicy 10 = .ok (.new 34, 3) := by decide +kernel
theorem dX9_setPolicy_13 : decode cX9_setPolicy 13 = .ok (.dup, 1) := by decide +kernel
theorem dX9_setPolicy_14 : decode cX9_setPolicy 14 = .ok (.ldc 62, 2) := by decide +kernel
theorem dX9_setPolicy_16 : decode cX9_setPolicy 16 = .ok (.invokespecial 38, 3) := by decide +kernel
theorem dX9_setPolicy_19 : decode cX9_setPolicy 19 = .ok (.athrow, 1) := by decide +kernel
theorem dX9_setPolicy_20 : decode cX9_setPolicy 20 = .ok (.aload_n 0, 1) := by decide +kernel
theorem dX9_setPolicy_21 : decode cX9_setPolicy 21 = .ok (.getfield 10, 3) := by decide +kernel
theorem dX9_setPolicy_24 : decode cX9_setPolicy 24 = .ok (.getfield 64, 3) := by decide +kernel
theorem dX9_setPolicy_27 : decode cX9_setPolicy 27 = .ok (.getfield 68, 3) := by decide +kernel
theorem dX9_setPolicy_30 : decode cX9_setPolicy 30 = .ok (.istore_n 2, 1) := by decide +kernel
theorem dX9_setPolicy_31 : decode cX9_setPolicy 31 = .ok (.aload_n 0, 1) := by decide +kernel
theorem dX9_setPolicy_32 : decode cX9_setPolicy 32 = .ok (.getfield 10, 3) := by decide +kernel
theorem dX9_setPolicy_35 : decode cX9_setPolicy 35 = .ok (.getfield 64, 3) := by decide +kernel
theorem dX9_setPolicy_38 : decode cX9_setPolicy 38 = .ok (.iload_n 1, 1) := by decide +kernel
theorem dX9_setPolicy_39 : decode cX9_setPolicy 39 = .ok (.putfield 68, 3) := by decide +kernel
theorem dX9_setPolicy_42 : decode cX9_setPolicy 42 = .ok (.iload_n 2, 1) := by decide +kernel
theorem dX9_setPolicy_43 : decode cX9_setPolicy 43 = .ok (.ireturn, 1) := by decide +kernel
theorem dX9_setBuckets_0 : decode cX9_setBuckets 0 = .ok (.iload_n 1, 1) := by decide +kernel
theorem dX9_setBuckets_1 : decode cX9_setBuckets 1 = .ok (.iconst 1, 1) := by decide +kernel
theorem dX9_setBuckets_2 : decode cX9_setBuckets 2 = .ok (.sipush 999, 3) := by decide +kernel
theorem dX9_setBuckets_5 : decode cX9_setBuckets 5 = .ok (.invokestatic 30, 3) := by decide +kernel
theorem dX9_setBuckets_8 : decode cX9_setBuckets 8 = .ok (.ifCond .eq 14, 3) := by decide +kernel
theorem dX9_setBuckets_11 : decode cX9_setBuckets 11 = .ok (.iload_n 2, 1) := by decide +kernel
theorem dX9_setBuckets_12 : decode cX9_setBuckets 12 = .ok (.iconst 1, 1) := by decide +kernel
theorem dX9_setBuckets_13 : decode cX9_setBuckets 13 = .ok (.sipush 9999, 3) := by decide +kernel
theorem dX9_setBuckets_16 : decode cX9_setBuckets 16 = .ok (.invokestatic 30, 3) := by decide +kernel
theorem dX9_setBuckets_19 : decode cX9_setBuckets 19 = .ok (.ifCond .ne 13, 3) := by decide +kernel
theorem dX9_setBuckets_22 : decode cX9_setBuckets 22 = .ok (.new 34, 3) := by decide +kernel
theorem dX9_setBuckets_25 : decode cX9_setBuckets 25 = .ok (.dup, 1) := by decide +kernel
theorem dX9_setBuckets_26 : decode cX9_setBuckets 26 = .ok (.ldc 73, 2) := by decide +kernel
theorem dX9_setBuckets_28 : decode cX9_setBuckets 28 = .ok (.invokespecial 38, 3) := by decide +kernel
theorem dX9_setBuckets_31 : decode cX9_setBuckets 31 = .ok (.athrow, 1) := by decide +kernel
theorem dX9_setBuckets_32 : decode cX9_setBuckets 32 = .ok (.aload_n 0, 1) := by decide +kernel
theorem dX9_setBuckets_33 : decode cX9_setBuckets 33 = .ok (.getfield 10, 3) := by decide +kernel
theorem dX9_setBuckets_36 : decode cX9_setBuckets 36 = .ok (.getfield 64, 3) := by decide +kernel
theorem dX9_setBuckets_39 : decode cX9_setBuckets 39 = .ok (.iload_n 1, 1) := by decide +kernel
theorem dX9_setBuckets_40 : decode cX9_setBuckets 40 = .ok (.putfield 75, 3) := by decide +kernel
theorem dX9_setBuckets_43 : decode cX9_setBuckets 43 = .ok (.aload_n 0, 1) := by decide +kernel
theorem dX9_setBuckets_44 : decode cX9_setBuckets 44 = .ok (.getfield 10, 3) := by decide +kernel
theorem dX9_setBuckets_47 : decode cX9_setBuckets 47 = .ok (.getfield 64, 3) := by decide +kernel
theorem dX9_setBuckets_50 : decode cX9_setBuckets 50 = .ok (.iload_n 2, 1) := by decide +kernel
theorem dX9_setBuckets_51 : decode cX9_setBuckets 51 = .ok (.putfield 78, 3) := by decide +kernel
theorem dX9_setBuckets_54 : decode cX9_setBuckets 54 = .ok (.return_, 1) := by decide +kernel
theorem dX9_setWriteBack_0 : decode cX9_setWriteBack 0 = .ok (.iload_n 1, 1) := by decide +kernel
theorem dX9_setWriteBack_1 : decode cX9_setWriteBack 1 = .ok (.ifCond .ne 26, 3) := by decide +kernel
theorem dX9_setWriteBack_4 : decode cX9_setWriteBack 4 = .ok (.aload_n 0, 1) := by decide +kernel
theorem dX9_setWriteBack_5 : decode cX9_setWriteBack 5 = .ok (.getfield 10, 3) := by decide +kernel
theorem dX9_setWriteBack_8 : decode cX9_setWriteBack 8 = .ok (.getfield 81, 3) := by decide +kernel
theorem dX9_setWriteBack_11 : decode cX9_setWriteBack 11 = .ok (.getfield 85, 3) := by decide +kernel
theorem dX9_setWriteBack_14 : decode cX9_setWriteBack 14 = .ok (.ifCond .le 13, 3) := by decide +kernel
theorem dX9_setWriteBack_17 : decode cX9_setWriteBack 17 = .ok (.new 90, 3) := by decide +kernel
theorem dX9_setWriteBack_20 : decode cX9_setWriteBack 20 = .ok (.dup, 1) := by decide +kernel
theorem dX9_setWriteBack_21 : decode cX9_setWriteBack 21 = .ok (.ldc 92, 2) := by decide +kernel
theorem dX9_setWriteBack_23 : decode cX9_setWriteBack 23 = .ok (.invokespecial 94, 3) := by decide +kernel
theorem dX9_setWriteBack_26 : decode cX9_setWriteBack 26 = .ok (.athrow, 1) := by decide +kernel
theorem dX9_setWriteBack_27 : decode cX9_setWriteBack 27 = .ok (.aload_n 0, 1) := by decide +kernel
theorem dX9_setWriteBack_28 : decode cX9_setWriteBack 28 = .ok (.getfield 10, 3) := by decide +kernel
theorem dX9_setWriteBack_31 : decode cX9_setWriteBack 31 = .ok (.getfield 81, 3) := by decide +kernel
theorem dX9_setWriteBack_34 : decode cX9_setWriteBack 34 = .ok (.getfield 95, 3) := by decide +kernel
theorem dX9_setWriteBack_37 : decode cX9_setWriteBack 37 = .ok (.istore_n 2, 1) := by decide +kernel
theorem dX9_setWriteBack_38 : decode cX9_setWriteBack 38 = .ok (.aload_n 0, 1) := by decide +kernel
theorem dX9_setWriteBack_39 : decode cX9_setWriteBack 39 = .ok (.getfield 10, 3) := by decide +kernel
theorem dX9_setWriteBack_42 : decode cX9_setWriteBack 42 = .ok (.getfield 81, 3) := by decide +kernel
theorem dX9_setWriteBack_45 : decode cX9_setWriteBack 45 = .ok (.iload_n 1, 1) := by decide +kernel
theorem dX9_setWriteBack_46 : decode cX9_setWriteBack 46 = .ok (.putfield 95, 3) := by decide +kernel
theorem dX9_setWriteBack_49 : decode cX9_setWriteBack 49 = .ok (.iload_n 2, 1) := by decide +kernel
theorem dX9_setWriteBack_50 : decode cX9_setWriteBack 50 = .ok (.ireturn, 1) := by decide +kernel
theorem dX9_seekTime_0 : decode cX9_seekTime 0 = .ok (.iload_n 1, 1) := by decide +kernel
theorem dX9_seekTime_1 : decode cX9_seekTime 1 = .ok (.iconst 0, 1) := by decide +kernel
theorem dX9_seekTime_2 : decode cX9_seekTime 2 = .ok (.bipush 63, 2) := by decide +kernel
theorem dX9_seekTime_4 : decode cX9_seekTime 4 = .ok (.invokestatic 30, 3) := by decide +kernel
theorem dX9_seekTime_7 : decode cX9_seekTime 7 = .ok (.ifCond .eq 13, 3) := by decide +kernel
theorem dX9_seekTime_10 : decode cX9_seekTime 10 = .ok (.iload_n 2, 1) := by decide +kernel
theorem dX9_seekTime_11 : decode cX9_seekTime 11 = .ok (.iconst 0, 1) := by decide +kernel
theorem dX9_seekTime_12 : decode cX9_seekTime 12 = .ok (.bipush 63, 2) := by decide +kernel
theorem dX9_seekTime_14 : decode cX9_seekTime 14 = .ok (.invokestatic 30, 3) := by decide +kernel
theorem dX9_seekTime_17 : decode cX9_seekTime 17 = .ok (.ifCond .ne 13, 3) := by decide +kernel
theorem dX9_seekTime_20 : decode cX9_seekTime 20 = .ok (.new 99, 3) := by decide +kernel
theorem dX9_seekTime_23 : decode cX9_seekTime 23 = .ok (.dup, 1) := by decide +kernel
theorem dX9_seekTime_24 : decode cX9_seekTime 24 = .ok (.ldc 101, 2) := by decide +kernel
theorem dX9_seekTime_26 : decode cX9_seekTime 26 = .ok (.invokespecial 103, 3) := by decide +kernel
theorem dX9_seekTime_29 : decode cX9_seekTime 29 = .ok (.athrow, 1) := by decide +kernel
theorem dX9_seekTime_30 : decode cX9_seekTime 30 = .ok (.aload_n 0, 1) := by decide +kernel
theorem dX9_seekTime_31 : decode cX9_seekTime 31 = .ok (.getfield 10, 3) := by decide +kernel
theorem dX9_seekTime_34 : decode cX9_seekTime 34 = .ok (.getfield 41, 3) := by decide +kernel
theorem dX9_seekTime_37 : decode cX9_seekTime 37 = .ok (.iload_n 1, 1) := by decide +kernel
theorem dX9_seekTime_38 : decode cX9_seekTime 38 = .ok (.iload_n 2, 1) := by decide +kernel
theorem dX9_seekTime_39 : decode cX9_seekTime 39 = .ok (.invokevirtual 104, 3) := by decide +kernel
theorem dX9_seekTime_42 : decode cX9_seekTime 42 = .ok (.ireturn, 1) := by decide +kernel
theorem dX9_placeOf_0 : decode cX9_placeOf 0 = .ok (.iload_n 1, 1) := by decide +kernel
theorem dX9_placeOf_1 : decode cX9_placeOf 1 = .ok (.invokestatic 108, 3) := by decide +kernel
theorem dX9_placeOf_4 : decode cX9_placeOf 4 = .ok (.aload_n 0, 1) := by decide +kernel
theorem dX9_placeOf_5 : decode cX9_placeOf 5 = .ok (.getfield 10, 3) := by decide +kernel
theorem dX9_placeOf_8 : decode cX9_placeOf 8 = .ok (.getfield 41, 3) := by decide +kernel
theorem dX9_placeOf_11 : decode cX9_placeOf 11 = .ok (.iload_n 1, 1) := by decide +kernel
theorem dX9_placeOf_12 : decode cX9_placeOf 12 = .ok (.invokevirtual 112, 3) := by decide +kernel
theorem dX9_placeOf_15 : decode cX9_placeOf 15 = .ok (.ireturn, 1) := by decide +kernel
theorem dX9_cylinderOf_0 : decode cX9_cylinderOf 0 = .ok (.iload_n 1, 1) := by decide +kernel
theorem dX9_cylinderOf_1 : decode cX9_cylinderOf 1 = .ok (.invokestatic 108, 3) := by decide +kernel
theorem dX9_cylinderOf_4 : decode cX9_cylinderOf 4 = .ok (.aload_n 0, 1) := by decide +kernel
theorem dX9_cylinderOf_5 : decode cX9_cylinderOf 5 = .ok (.getfield 10, 3) := by decide +kernel
theorem dX9_cylinderOf_8 : decode cX9_cylinderOf 8 = .ok (.getfield 41, 3) := by decide +kernel
theorem dX9_cylinderOf_11 : decode cX9_cylinderOf 11 = .ok (.iload_n 1, 1) := by decide +kernel
theorem dX9_cylinderOf_12 : decode cX9_cylinderOf 12 = .ok (.invokevirtual 112, 3) := by decide +kernel
theorem dX9_cylinderOf_15 : decode cX9_cylinderOf 15 = .ok (.invokestatic 116, 3) := by decide +kernel
theorem dX9_cylinderOf_18 : decode cX9_cylinderOf 18 = .ok (.ireturn, 1) := by decide +kernel
theorem dX9_sectorOf_0 : decode cX9_sectorOf 0 = .ok (.iload_n 1, 1) := by decide +kernel
theorem dX9_sectorOf_1 : decode cX9_sectorOf 1 = .ok (.invokestatic 108, 3) := by decide +kernel
theorem dX9_sectorOf_4 : decode cX9_sectorOf 4 = .ok (.aload_n 0, 1) := by decide +kernel
theorem dX9_sectorOf_5 : decode cX9_sectorOf 5 = .ok (.getfield 10, 3) := by decide +kernel
theorem dX9_sectorOf_8 : decode cX9_sectorOf 8 = .ok (.getfield 41, 3) := by decide +kernel
theorem dX9_sectorOf_11 : decode cX9_sectorOf 11 = .ok (.iload_n 1, 1) := by decide +kernel
theorem dX9_sectorOf_12 : decode cX9_sectorOf 12 = .ok (.invokevirtual 112, 3) := by decide +kernel
theorem dX9_sectorOf_15 : decode cX9_sectorOf 15 = .ok (.invokestatic 121, 3) := by decide +kernel
theorem dX9_sectorOf_18 : decode cX9_sectorOf 18 = .ok (.ireturn, 1) := by decide +kernel
theorem dX9_startAngle_0 : decode cX9_startAngle 0 = .ok (.iload_n 1, 1) := by decide +kernel
theorem dX9_startAngle_1 : decode cX9_startAngle 1 = .ok (.invokestatic 108, 3) := by decide +kernel
theorem dX9_startAngle_4 : decode cX9_startAngle 4 = .ok (.aload_n 0, 1) := by decide +kernel
theorem dX9_startAngle_5 : decode cX9_startAngle 5 = .ok (.getfield 10, 3) := by decide +kernel
theorem dX9_startAngle_8 : decode cX9_startAngle 8 = .ok (.getfield 41, 3) := by decide +kernel
theorem dX9_startAngle_11 : decode cX9_startAngle 11 = .ok (.aload_n 0, 1) := by decide +kernel
theorem dX9_startAngle_12 : decode cX9_startAngle 12 = .ok (.getfield 10, 3) := by decide +kernel
theorem dX9_startAngle_15 : decode cX9_startAngle 15 = .ok (.getfield 41, 3) := by decide +kernel
theorem dX9_startAngle_18 : decode cX9_startAngle 18 = .ok (.iload_n 1, 1) := by decide +kernel
theorem dX9_startAngle_19 : decode cX9_startAngle 19 = .ok (.invokevirtual 112, 3) := by decide +kernel
theorem dX9_startAngle_22 : decode cX9_startAngle 22 = .ok (.invokevirtual 124, 3) := by decide +kernel
theorem dX9_startAngle_25 : decode cX9_startAngle 25 = .ok (.ireturn, 1) := by decide +kernel
theorem dX9_accessTime_0 : decode cX9_accessTime 0 = .ok (.iload_n 1, 1) := by decide +kernel
theorem dX9_accessTime_1 : decode cX9_accessTime 1 = .ok (.invokestatic 108, 3) := by decide +kernel
theorem dX9_accessTime_4 : decode cX9_accessTime 4 = .ok (.aload_n 0, 1) := by decide +kernel
theorem dX9_accessTime_5 : decode cX9_accessTime 5 = .ok (.getfield 10, 3) := by decide +kernel
theorem dX9_accessTime_8 : decode cX9_accessTime 8 = .ok (.getfield 41, 3) := by decide +kernel
theorem dX9_accessTime_11 : decode cX9_accessTime 11 = .ok (.aload_n 0, 1) := by decide +kernel
theorem dX9_accessTime_12 : decode cX9_accessTime 12 = .ok (.getfield 10, 3) := by decide +kernel
theorem dX9_accessTime_15 : decode cX9_accessTime 15 = .ok (.getfield 41, 3) := by decide +kernel
theorem dX9_accessTime_18 : decode cX9_accessTime 18 = .ok (.iload_n 1, 1) := by decide +kernel
theorem dX9_accessTime_19 : decode cX9_accessTime 19 = .ok (.invokevirtual 112, 3) := by decide +kernel
theorem dX9_accessTime_22 : decode cX9_accessTime 22 = .ok (.invokevirtual 127, 3) := by decide +kernel
theorem dX9_accessTime_25 : decode cX9_accessTime 25 = .ok (.ireturn, 1) := by decide +kernel
theorem dX9_moveToSpare_0 : decode cX9_moveToSpare 0 = .ok (.iload_n 1, 1) := by decide +kernel
theorem dX9_moveToSpare_1 : decode cX9_moveToSpare 1 = .ok (.invokestatic 108, 3) := by decide +kernel
theorem dX9_moveToSpare_4 : decode cX9_moveToSpare 4 = .ok (.aload_n 0, 1) := by decide +kernel
theorem dX9_moveToSpare_5 : decode cX9_moveToSpare 5 = .ok (.getfield 10, 3) := by decide +kernel
theorem dX9_moveToSpare_8 : decode cX9_moveToSpare 8 = .ok (.getfield 41, 3) := by decide +kernel
theorem dX9_moveToSpare_11 : decode cX9_moveToSpare 11 = .ok (.iload_n 1, 1) := by decide +kernel
theorem dX9_moveToSpare_12 : decode cX9_moveToSpare 12 = .ok (.invokevirtual 130, 3) := by decide +kernel
theorem dX9_moveToSpare_15 : decode cX9_moveToSpare 15 = .ok (.iconst (-1), 1) := by decide +kernel
theorem dX9_moveToSpare_16 : decode cX9_moveToSpare 16 = .ok (.if_icmp .eq 13, 3) := by decide +kernel
theorem dX9_moveToSpare_19 : decode cX9_moveToSpare 19 = .ok (.new 90, 3) := by decide +kernel
theorem dX9_moveToSpare_22 : decode cX9_moveToSpare 22 = .ok (.dup, 1) := by decide +kernel
theorem dX9_moveToSpare_23 : decode cX9_moveToSpare 23 = .ok (.ldc 133, 2) := by decide +kernel
theorem dX9_moveToSpare_25 : decode cX9_moveToSpare 25 = .ok (.invokespecial 94, 3) := by decide +kernel
theorem dX9_moveToSpare_28 : decode cX9_moveToSpare 28 = .ok (.athrow, 1) := by decide +kernel
theorem dX9_moveToSpare_29 : decode cX9_moveToSpare 29 = .ok (.aload_n 0, 1) := by decide +kernel
theorem dX9_moveToSpare_30 : decode cX9_moveToSpare 30 = .ok (.getfield 10, 3) := by decide +kernel
theorem dX9_moveToSpare_33 : decode cX9_moveToSpare 33 = .ok (.getfield 41, 3) := by decide +kernel
theorem dX9_moveToSpare_36 : decode cX9_moveToSpare 36 = .ok (.iload_n 1, 1) := by decide +kernel
theorem dX9_moveToSpare_37 : decode cX9_moveToSpare 37 = .ok (.invokevirtual 135, 3) := by decide +kernel
theorem dX9_moveToSpare_40 : decode cX9_moveToSpare 40 = .ok (.istore_n 2, 1) := by decide +kernel
theorem dX9_moveToSpare_41 : decode cX9_moveToSpare 41 = .ok (.iload_n 2, 1) := by decide +kernel
theorem dX9_moveToSpare_42 : decode cX9_moveToSpare 42 = .ok (.iconst (-1), 1) := by decide +kernel
theorem dX9_moveToSpare_43 : decode cX9_moveToSpare 43 = .ok (.if_icmp .ne 13, 3) := by decide +kernel
theorem dX9_moveToSpare_46 : decode cX9_moveToSpare 46 = .ok (.new 138, 3) := by decide +kernel
theorem dX9_moveToSpare_49 : decode cX9_moveToSpare 49 = .ok (.dup, 1) := by decide +kernel
theorem dX9_moveToSpare_50 : decode cX9_moveToSpare 50 = .ok (.ldc 140, 2) := by decide +kernel
theorem dX9_moveToSpare_52 : decode cX9_moveToSpare 52 = .ok (.invokespecial 142, 3) := by decide +kernel
theorem dX9_moveToSpare_55 : decode cX9_moveToSpare 55 = .ok (.athrow, 1) := by decide +kernel
theorem dX9_moveToSpare_56 : decode cX9_moveToSpare 56 = .ok (.iload_n 2, 1) := by decide +kernel
theorem dX9_moveToSpare_57 : decode cX9_moveToSpare 57 = .ok (.ireturn, 1) := by decide +kernel
theorem dX9_accessesOf_0 : decode cX9_accessesOf 0 = .ok (.iload_n 1, 1) := by decide +kernel
theorem dX9_accessesOf_1 : decode cX9_accessesOf 1 = .ok (.invokestatic 108, 3) := by decide +kernel
theorem dX9_accessesOf_4 : decode cX9_accessesOf 4 = .ok (.aload_n 0, 1) := by decide +kernel
theorem dX9_accessesOf_5 : decode cX9_accessesOf 5 = .ok (.getfield 10, 3) := by decide +kernel
theorem dX9_accessesOf_8 : decode cX9_accessesOf 8 = .ok (.getfield 41, 3) := by decide +kernel
theorem dX9_accessesOf_11 : decode cX9_accessesOf 11 = .ok (.aload_n 0, 1) := by decide +kernel
theorem dX9_accessesOf_12 : decode cX9_accessesOf 12 = .ok (.getfield 10, 3) := by decide +kernel
theorem dX9_accessesOf_15 : decode cX9_accessesOf 15 = .ok (.getfield 41, 3) := by decide +kernel
theorem dX9_accessesOf_18 : decode cX9_accessesOf 18 = .ok (.iload_n 1, 1) := by decide +kernel
theorem dX9_accessesOf_19 : decode cX9_accessesOf 19 = .ok (.invokevirtual 112, 3) := by decide +kernel
theorem dX9_accessesOf_22 : decode cX9_accessesOf 22 = .ok (.invokevirtual 143, 3) := by decide +kernel
theorem dX9_accessesOf_25 : decode cX9_accessesOf 25 = .ok (.ireturn, 1) := by decide +kernel
theorem dX9_clock_0 : decode cX9_clock 0 = .ok (.aload_n 0, 1) := by decide +kernel
theorem dX9_clock_1 : decode cX9_clock 1 = .ok (.getfield 10, 3) := by decide +kernel
theorem dX9_clock_4 : decode cX9_clock 4 = .ok (.getfield 41, 3) := by decide +kernel
theorem dX9_clock_7 : decode cX9_clock 7 = .ok (.getfield 146, 3) := by decide +kernel
theorem dX9_clock_10 : decode cX9_clock 10 = .ok (.ireturn, 1) := by decide +kernel
theorem dX9_arm_0 : decode cX9_arm 0 = .ok (.aload_n 0, 1) := by decide +kernel
theorem dX9_arm_1 : decode cX9_arm 1 = .ok (.getfield 10, 3) := by decide +kernel
theorem dX9_arm_4 : decode cX9_arm 4 = .ok (.getfield 41, 3) := by decide +kernel
theorem dX9_arm_7 : decode cX9_arm 7 = .ok (.getfield 149, 3) := by decide +kernel
theorem dX9_arm_10 : decode cX9_arm 10 = .ok (.ireturn, 1) := by decide +kernel
theorem dX9_isUpward_0 : decode cX9_isUpward 0 = .ok (.aload_n 0, 1) := by decide +kernel
theorem dX9_isUpward_1 : decode cX9_isUpward 1 = .ok (.getfield 10, 3) := by decide +kernel
theorem dX9_isUpward_4 : decode cX9_isUpward 4 = .ok (.getfield 64, 3) := by decide +kernel
theorem dX9_isUpward_7 : decode cX9_isUpward 7 = .ok (.getfield 152, 3) := by decide +kernel
theorem dX9_isUpward_10 : decode cX9_isUpward 10 = .ok (.ireturn, 1) := by decide +kernel
theorem dX9_idle_0 : decode cX9_idle 0 = .ok (.iload_n 1, 1) := by decide +kernel
theorem dX9_idle_1 : decode cX9_idle 1 = .ok (.iconst 1, 1) := by decide +kernel
theorem dX9_idle_2 : decode cX9_idle 2 = .ok (.sipush 1000, 3) := by decide +kernel
theorem dX9_idle_5 : decode cX9_idle 5 = .ok (.invokestatic 30, 3) := by decide +kernel
theorem dX9_idle_8 : decode cX9_idle 8 = .ok (.ifCond .ne 13, 3) := by decide +kernel
theorem dX9_idle_11 : decode cX9_idle 11 = .ok (.new 34, 3) := by decide +kernel
theorem dX9_idle_14 : decode cX9_idle 14 = .ok (.dup, 1) := by decide +kernel
theorem dX9_idle_15 : decode cX9_idle 15 = .ok (.ldc 155, 2) := by decide +kernel
theorem dX9_idle_17 : decode cX9_idle 17 = .ok (.invokespecial 38, 3) := by decide +kernel
theorem dX9_idle_20 : decode cX9_idle 20 = .ok (.athrow, 1) := by decide +kernel
theorem dX9_idle_21 : decode cX9_idle 21 = .ok (.aload_n 0, 1) := by decide +kernel
theorem dX9_idle_22 : decode cX9_idle 22 = .ok (.getfield 10, 3) := by decide +kernel
theorem dX9_idle_25 : decode cX9_idle 25 = .ok (.getfield 41, 3) := by decide +kernel
theorem dX9_idle_28 : decode cX9_idle 28 = .ok (.getfield 146, 3) := by decide +kernel
theorem dX9_idle_31 : decode cX9_idle 31 = .ok (.ldc 157, 2) := by decide +kernel
theorem dX9_idle_33 : decode cX9_idle 33 = .ok (.iload_n 1, 1) := by decide +kernel
theorem dX9_idle_34 : decode cX9_idle 34 = .ok (.isub, 1) := by decide +kernel
theorem dX9_idle_35 : decode cX9_idle 35 = .ok (.if_icmp .le 13, 3) := by decide +kernel
theorem dX9_idle_38 : decode cX9_idle 38 = .ok (.new 90, 3) := by decide +kernel
theorem dX9_idle_41 : decode cX9_idle 41 = .ok (.dup, 1) := by decide +kernel
theorem dX9_idle_42 : decode cX9_idle 42 = .ok (.ldc 158, 2) := by decide +kernel
theorem dX9_idle_44 : decode cX9_idle 44 = .ok (.invokespecial 94, 3) := by decide +kernel
theorem dX9_idle_47 : decode cX9_idle 47 = .ok (.athrow, 1) := by decide +kernel
theorem dX9_idle_48 : decode cX9_idle 48 = .ok (.aload_n 0, 1) := by decide +kernel
theorem dX9_idle_49 : decode cX9_idle 49 = .ok (.getfield 10, 3) := by decide +kernel
theorem dX9_idle_52 : decode cX9_idle 52 = .ok (.getfield 41, 3) := by decide +kernel
theorem dX9_idle_55 : decode cX9_idle 55 = .ok (.dup, 1) := by decide +kernel
theorem dX9_idle_56 : decode cX9_idle 56 = .ok (.getfield 146, 3) := by decide +kernel
theorem dX9_idle_59 : decode cX9_idle 59 = .ok (.iload_n 1, 1) := by decide +kernel
theorem dX9_idle_60 : decode cX9_idle 60 = .ok (.iadd, 1) := by decide +kernel
theorem dX9_idle_61 : decode cX9_idle 61 = .ok (.putfield 146, 3) := by decide +kernel
theorem dX9_idle_64 : decode cX9_idle 64 = .ok (.aload_n 0, 1) := by decide +kernel
theorem dX9_idle_65 : decode cX9_idle 65 = .ok (.getfield 10, 3) := by decide +kernel
theorem dX9_idle_68 : decode cX9_idle 68 = .ok (.getfield 41, 3) := by decide +kernel
theorem dX9_idle_71 : decode cX9_idle 71 = .ok (.getfield 146, 3) := by decide +kernel
theorem dX9_idle_74 : decode cX9_idle 74 = .ok (.ireturn, 1) := by decide +kernel
theorem dX9_submit_0 : decode cX9_submit 0 = .ok (.iload_n 1, 1) := by decide +kernel
theorem dX9_submit_1 : decode cX9_submit 1 = .ok (.iconst 0, 1) := by decide +kernel
theorem dX9_submit_2 : decode cX9_submit 2 = .ok (.iconst 1, 1) := by decide +kernel
theorem dX9_submit_3 : decode cX9_submit 3 = .ok (.invokestatic 30, 3) := by decide +kernel
theorem dX9_submit_6 : decode cX9_submit 6 = .ok (.ifCond .eq 14, 3) := by decide +kernel
theorem dX9_submit_9 : decode cX9_submit 9 = .ok (.iload_n 3, 1) := by decide +kernel
theorem dX9_submit_10 : decode cX9_submit 10 = .ok (.iconst 0, 1) := by decide +kernel
theorem dX9_submit_11 : decode cX9_submit 11 = .ok (.sipush 9999, 3) := by decide +kernel
theorem dX9_submit_14 : decode cX9_submit 14 = .ok (.invokestatic 30, 3) := by decide +kernel
theorem dX9_submit_17 : decode cX9_submit 17 = .ok (.ifCond .ne 13, 3) := by decide +kernel
theorem dX9_submit_20 : decode cX9_submit 20 = .ok (.new 34, 3) := by decide +kernel
theorem dX9_submit_23 : decode cX9_submit 23 = .ok (.dup, 1) := by decide +kernel
theorem dX9_submit_24 : decode cX9_submit 24 = .ok (.ldc 160, 2) := by decide +kernel
theorem dX9_submit_26 : decode cX9_submit 26 = .ok (.invokespecial 38, 3) := by decide +kernel
theorem dX9_submit_29 : decode cX9_submit 29 = .ok (.athrow, 1) := by decide +kernel
theorem dX9_submit_30 : decode cX9_submit 30 = .ok (.iload_n 2, 1) := by decide +kernel
theorem dX9_submit_31 : decode cX9_submit 31 = .ok (.invokestatic 108, 3) := by decide +kernel
theorem dX9_submit_34 : decode cX9_submit 34 = .ok (.aload_n 0, 1) := by decide +kernel
theorem dX9_submit_35 : decode cX9_submit 35 = .ok (.getfield 10, 3) := by decide +kernel
theorem dX9_submit_38 : decode cX9_submit 38 = .ok (.iload_n 1, 1) := by decide +kernel
theorem dX9_submit_39 : decode cX9_submit 39 = .ok (.iload_n 2, 1) := by decide +kernel
theorem dX9_submit_40 : decode cX9_submit 40 = .ok (.invokevirtual 162, 3) := by decide +kernel
theorem dX9_submit_43 : decode cX9_submit 43 = .ok (.ifCond .ne 13, 3) := by decide +kernel
theorem dX9_submit_46 : decode cX9_submit 46 = .ok (.new 90, 3) := by decide +kernel
theorem dX9_submit_49 : decode cX9_submit 49 = .ok (.dup, 1) := by decide +kernel
theorem dX9_submit_50 : decode cX9_submit 50 = .ok (.ldc 166, 2) := by decide +kernel
theorem dX9_submit_52 : decode cX9_submit 52 = .ok (.invokespecial 94, 3) := by decide +kernel
theorem dX9_submit_55 : decode cX9_submit 55 = .ok (.athrow, 1) := by decide +kernel
theorem dX9_submit_56 : decode cX9_submit 56 = .ok (.aload_n 0, 1) := by decide +kernel
theorem dX9_submit_57 : decode cX9_submit 57 = .ok (.getfield 10, 3) := by decide +kernel
theorem dX9_submit_60 : decode cX9_submit 60 = .ok (.iload_n 1, 1) := by decide +kernel
theorem dX9_submit_61 : decode cX9_submit 61 = .ok (.iload_n 2, 1) := by decide +kernel
theorem dX9_submit_62 : decode cX9_submit 62 = .ok (.iload_n 3, 1) := by decide +kernel
theorem dX9_submit_63 : decode cX9_submit 63 = .ok (.invokevirtual 168, 3) := by decide +kernel
theorem dX9_submit_66 : decode cX9_submit 66 = .ok (.ireturn, 1) := by decide +kernel
theorem dX9_appendCharacter_0 : decode cX9_appendCharacter 0 = .ok (.iload_n 1, 1) := by decide +kernel
theorem dX9_appendCharacter_1 : decode cX9_appendCharacter 1 = .ok (.bipush 33, 2) := by decide +kernel
theorem dX9_appendCharacter_3 : decode cX9_appendCharacter 3 = .ok (.bipush 126, 2) := by decide +kernel
theorem dX9_appendCharacter_5 : decode cX9_appendCharacter 5 = .ok (.invokestatic 30, 3) := by decide +kernel
theorem dX9_appendCharacter_8 : decode cX9_appendCharacter 8 = .ok (.ifCond .ne 13, 3) := by decide +kernel
theorem dX9_appendCharacter_11 : decode cX9_appendCharacter 11 = .ok (.new 34, 3) := by decide +kernel
theorem dX9_appendCharacter_14 : decode cX9_appendCharacter 14 = .ok (.dup, 1) := by decide +kernel
theorem dX9_appendCharacter_15 : decode cX9_appendCharacter 15 = .ok (.ldc 172, 2) := by decide +kernel
theorem dX9_appendCharacter_17 : decode cX9_appendCharacter 17 = .ok (.invokespecial 38, 3) := by decide +kernel
theorem dX9_appendCharacter_20 : decode cX9_appendCharacter 20 = .ok (.athrow, 1) := by decide +kernel
theorem dX9_appendCharacter_21 : decode cX9_appendCharacter 21 = .ok (.aload_n 0, 1) := by decide +kernel
theorem dX9_appendCharacter_22 : decode cX9_appendCharacter 22 = .ok (.getfield 26, 3) := by decide +kernel
theorem dX9_appendCharacter_25 : decode cX9_appendCharacter 25 = .ok (.iload_n 1, 1) := by decide +kernel
theorem dX9_appendCharacter_26 : decode cX9_appendCharacter 26 = .ok (.invokevirtual 174, 3) := by decide +kernel
theorem dX9_appendCharacter_29 : decode cX9_appendCharacter 29 = .ok (.ifCond .ne 13, 3) := by decide +kernel
theorem dX9_appendCharacter_32 : decode cX9_appendCharacter 32 = .ok (.new 90, 3) := by decide +kernel
theorem dX9_appendCharacter_35 : decode cX9_appendCharacter 35 = .ok (.dup, 1) := by decide +kernel
theorem dX9_appendCharacter_36 : decode cX9_appendCharacter 36 = .ok (.ldc 178, 2) := by decide +kernel
theorem dX9_appendCharacter_38 : decode cX9_appendCharacter 38 = .ok (.invokespecial 94, 3) := by decide +kernel
theorem dX9_appendCharacter_41 : decode cX9_appendCharacter 41 = .ok (.athrow, 1) := by decide +kernel
theorem dX9_appendCharacter_42 : decode cX9_appendCharacter 42 = .ok (.aload_n 0, 1) := by decide +kernel
theorem dX9_appendCharacter_43 : decode cX9_appendCharacter 43 = .ok (.getfield 26, 3) := by decide +kernel
theorem dX9_appendCharacter_46 : decode cX9_appendCharacter 46 = .ok (.getfield 180, 3) := by decide +kernel
theorem dX9_appendCharacter_49 : decode cX9_appendCharacter 49 = .ok (.ireturn, 1) := by decide +kernel
theorem dX9_submitText_0 : decode cX9_submitText 0 = .ok (.aload_n 0, 1) := by decide +kernel
theorem dX9_submitText_1 : decode cX9_submitText 1 = .ok (.getfield 26, 3) := by decide +kernel
theorem dX9_submitText_4 : decode cX9_submitText 4 = .ok (.invokevirtual 183, 3) := by decide +kernel
theorem dX9_submitText_7 : decode cX9_submitText 7 = .ok (.ifCond .ne 13, 3) := by decide +kernel
theorem dX9_submitText_10 : decode cX9_submitText 10 = .ok (.new 34, 3) := by decide +kernel
theorem dX9_submitText_13 : decode cX9_submitText 13 = .ok (.dup, 1) := by decide +kernel
theorem dX9_submitText_14 : decode cX9_submitText 14 = .ok (.ldc 187, 2) := by decide +kernel
theorem dX9_submitText_16 : decode cX9_submitText 16 = .ok (.invokespecial 38, 3) := by decide +kernel
theorem dX9_submitText_19 : decode cX9_submitText 19 = .ok (.athrow, 1) := by decide +kernel
theorem dX9_submitText_20 : decode cX9_submitText 20 = .ok (.iconst 0, 1) := by decide +kernel
theorem dX9_submitText_21 : decode cX9_submitText 21 = .ok (.istore_n 1, 1) := by decide +kernel
theorem dX9_submitText_22 : decode cX9_submitText 22 = .ok (.iconst 0, 1) := by decide +kernel
theorem dX9_submitText_23 : decode cX9_submitText 23 = .ok (.istore_n 2, 1) := by decide +kernel
theorem dX9_submitText_24 : decode cX9_submitText 24 = .ok (.iload_n 2, 1) := by decide +kernel
theorem dX9_submitText_25 : decode cX9_submitText 25 = .ok (.aload_n 0, 1) := by decide +kernel
theorem dX9_submitText_26 : decode cX9_submitText 26 = .ok (.getfield 26, 3) := by decide +kernel
theorem dX9_submitText_29 : decode cX9_submitText 29 = .ok (.getfield 189, 3) := by decide +kernel
theorem dX9_submitText_32 : decode cX9_submitText 32 = .ok (.if_icmp .ge 96, 3) := by decide +kernel
theorem dX9_submitText_35 : decode cX9_submitText 35 = .ok (.iload_n 2, 1) := by decide +kernel
theorem dX9_submitText_36 : decode cX9_submitText 36 = .ok (.bipush 14, 2) := by decide +kernel
theorem dX9_submitText_38 : decode cX9_submitText 38 = .ok (.if_icmp .ge 90, 3) := by decide +kernel
theorem dX9_submitText_41 : decode cX9_submitText 41 = .ok (.aload_n 0, 1) := by decide +kernel
theorem dX9_submitText_42 : decode cX9_submitText 42 = .ok (.getfield 26, 3) := by decide +kernel
theorem dX9_submitText_45 : decode cX9_submitText 45 = .ok (.getfield 192, 3) := by decide +kernel
theorem dX9_submitText_48 : decode cX9_submitText 48 = .ok (.iload_n 2, 1) := by decide +kernel
theorem dX9_submitText_49 : decode cX9_submitText 49 = .ok (.iaload, 1) := by decide +kernel
theorem dX9_submitText_50 : decode cX9_submitText 50 = .ok (.invokestatic 196, 3) := by decide +kernel
theorem dX9_submitText_53 : decode cX9_submitText 53 = .ok (.ifCond .eq 69, 3) := by decide +kernel
theorem dX9_submitText_56 : decode cX9_submitText 56 = .ok (.aload_n 0, 1) := by decide +kernel
theorem dX9_submitText_57 : decode cX9_submitText 57 = .ok (.getfield 10, 3) := by decide +kernel
theorem dX9_submitText_60 : decode cX9_submitText 60 = .ok (.aload_n 0, 1) := by decide +kernel
theorem dX9_submitText_61 : decode cX9_submitText 61 = .ok (.getfield 26, 3) := by decide +kernel
theorem dX9_submitText_64 : decode cX9_submitText 64 = .ok (.getfield 199, 3) := by decide +kernel
theorem dX9_submitText_67 : decode cX9_submitText 67 = .ok (.iload_n 2, 1) := by decide +kernel
theorem dX9_submitText_68 : decode cX9_submitText 68 = .ok (.iaload, 1) := by decide +kernel
theorem dX9_submitText_69 : decode cX9_submitText 69 = .ok (.aload_n 0, 1) := by decide +kernel
theorem dX9_submitText_70 : decode cX9_submitText 70 = .ok (.getfield 26, 3) := by decide +kernel
theorem dX9_submitText_73 : decode cX9_submitText 73 = .ok (.getfield 192, 3) := by decide +kernel
theorem dX9_submitText_76 : decode cX9_submitText 76 = .ok (.iload_n 2, 1) := by decide +kernel
theorem dX9_submitText_77 : decode cX9_submitText 77 = .ok (.iaload, 1) := by decide +kernel
theorem dX9_submitText_78 : decode cX9_submitText 78 = .ok (.invokevirtual 162, 3) := by decide +kernel
theorem dX9_submitText_81 : decode cX9_submitText 81 = .ok (.ifCond .eq 41, 3) := by decide +kernel
theorem dX9_submitText_84 : decode cX9_submitText 84 = .ok (.aload_n 0, 1) := by decide +kernel
theorem dX9_submitText_85 : decode cX9_submitText 85 = .ok (.getfield 10, 3) := by decide +kernel
theorem dX9_submitText_88 : decode cX9_submitText 88 = .ok (.aload_n 0, 1) := by decide +kernel
theorem dX9_submitText_89 : decode cX9_submitText 89 = .ok (.getfield 26, 3) := by decide +kernel
theorem dX9_submitText_92 : decode cX9_submitText 92 = .ok (.getfield 199, 3) := by decide +kernel
theorem dX9_submitText_95 : decode cX9_submitText 95 = .ok (.iload_n 2, 1) := by decide +kernel
theorem dX9_submitText_96 : decode cX9_submitText 96 = .ok (.iaload, 1) := by decide +kernel
theorem dX9_submitText_97 : decode cX9_submitText 97 = .ok (.aload_n 0, 1) := by decide +kernel
theorem dX9_submitText_98 : decode cX9_submitText 98 = .ok (.getfield 26, 3) := by decide +kernel
theorem dX9_submitText_101 : decode cX9_submitText 101 = .ok (.getfield 192, 3) := by decide +kernel
theorem dX9_submitText_104 : decode cX9_submitText 104 = .ok (.iload_n 2, 1) := by decide +kernel
theorem dX9_submitText_105 : decode cX9_submitText 105 = .ok (.iaload, 1) := by decide +kernel
theorem dX9_submitText_106 : decode cX9_submitText 106 = .ok (.aload_n 0, 1) := by decide +kernel
theorem dX9_submitText_107 : decode cX9_submitText 107 = .ok (.getfield 26, 3) := by decide +kernel
theorem dX9_submitText_110 : decode cX9_submitText 110 = .ok (.getfield 202, 3) := by decide +kernel
theorem dX9_submitText_113 : decode cX9_submitText 113 = .ok (.iload_n 2, 1) := by decide +kernel
theorem dX9_submitText_114 : decode cX9_submitText 114 = .ok (.iaload, 1) := by decide +kernel
theorem dX9_submitText_115 : decode cX9_submitText 115 = .ok (.invokevirtual 168, 3) := by decide +kernel
theorem dX9_submitText_118 : decode cX9_submitText 118 = .ok (.pop, 1) := by decide +kernel
theorem dX9_submitText_119 : decode cX9_submitText 119 = .ok (.iinc 1 1, 3) := by decide +kernel
theorem dX9_submitText_122 : decode cX9_submitText 122 = .ok (.iinc 2 1, 3) := by decide +kernel
theorem dX9_submitText_125 : decode cX9_submitText 125 = .ok (.goto (-101), 3) := by decide +kernel
theorem dX9_submitText_128 : decode cX9_submitText 128 = .ok (.iload_n 1, 1) := by decide +kernel
theorem dX9_submitText_129 : decode cX9_submitText 129 = .ok (.ireturn, 1) := by decide +kernel
theorem dX9_faultPosition_0 : decode cX9_faultPosition 0 = .ok (.aload_n 0, 1) := by decide +kernel
theorem dX9_faultPosition_1 : decode cX9_faultPosition 1 = .ok (.getfield 26, 3) := by decide +kernel
theorem dX9_faultPosition_4 : decode cX9_faultPosition 4 = .ok (.getfield 205, 3) := by decide +kernel
theorem dX9_faultPosition_7 : decode cX9_faultPosition 7 = .ok (.ireturn, 1) := by decide +kernel
theorem dX9_cancel_0 : decode cX9_cancel 0 = .ok (.aload_n 0, 1) := by decide +kernel
theorem dX9_cancel_1 : decode cX9_cancel 1 = .ok (.iload_n 1, 1) := by decide +kernel
theorem dX9_cancel_2 : decode cX9_cancel 2 = .ok (.invokevirtual 208, 3) := by decide +kernel
theorem dX9_cancel_5 : decode cX9_cancel 5 = .ok (.astore_n 2, 1) := by decide +kernel
theorem dX9_cancel_6 : decode cX9_cancel 6 = .ok (.aload_n 2, 1) := by decide +kernel
theorem dX9_cancel_7 : decode cX9_cancel 7 = .ok (.getfield 212, 3) := by decide +kernel
theorem dX9_cancel_10 : decode cX9_cancel 10 = .ok (.ifCond .eq 13, 3) := by decide +kernel
theorem dX9_cancel_13 : decode cX9_cancel 13 = .ok (.new 90, 3) := by decide +kernel
theorem dX9_cancel_16 : decode cX9_cancel 16 = .ok (.dup, 1) := by decide +kernel
theorem dX9_cancel_17 : decode cX9_cancel 17 = .ok (.ldc 217, 2) := by decide +kernel
theorem dX9_cancel_19 : decode cX9_cancel 19 = .ok (.invokespecial 94, 3) := by decide +kernel
theorem dX9_cancel_22 : decode cX9_cancel 22 = .ok (.athrow, 1) := by decide +kernel
theorem dX9_cancel_23 : decode cX9_cancel 23 = .ok (.aload_n 0, 1) := by decide +kernel
theorem dX9_cancel_24 : decode cX9_cancel 24 = .ok (.getfield 10, 3) := by decide +kernel
theorem dX9_cancel_27 : decode cX9_cancel 27 = .ok (.getfield 219, 3) := by decide +kernel
theorem dX9_cancel_30 : decode cX9_cancel 30 = .ok (.aload_n 2, 1) := by decide +kernel
theorem dX9_cancel_31 : decode cX9_cancel 31 = .ok (.invokevirtual 223, 3) := by decide +kernel
theorem dX9_cancel_34 : decode cX9_cancel 34 = .ok (.return_, 1) := by decide +kernel
theorem dX9_next_0 : decode cX9_next 0 = .ok (.aload_n 0, 1) := by decide +kernel
theorem dX9_next_1 : decode cX9_next 1 = .ok (.getfield 10, 3) := by decide +kernel
theorem dX9_next_4 : decode cX9_next 4 = .ok (.getfield 64, 3) := by decide +kernel
theorem dX9_next_7 : decode cX9_next 7 = .ok (.aload_n 0, 1) := by decide +kernel
theorem dX9_next_8 : decode cX9_next 8 = .ok (.getfield 10, 3) := by decide +kernel
theorem dX9_next_11 : decode cX9_next 11 = .ok (.getfield 219, 3) := by decide +kernel
theorem dX9_next_14 : decode cX9_next 14 = .ok (.aload_n 0, 1) := by decide +kernel
theorem dX9_next_15 : decode cX9_next 15 = .ok (.getfield 10, 3) := by decide +kernel
theorem dX9_next_18 : decode cX9_next 18 = .ok (.getfield 41, 3) := by decide +kernel
theorem dX9_next_21 : decode cX9_next 21 = .ok (.aload_n 0, 1) := by decide +kernel
theorem dX9_next_22 : decode cX9_next 22 = .ok (.getfield 19, 3) := by decide +kernel
theorem dX9_next_25 : decode cX9_next 25 = .ok (.invokevirtual 229, 3) := by decide +kernel
theorem dX9_next_28 : decode cX9_next 28 = .ok (.istore_n 1, 1) := by decide +kernel
theorem dX9_next_29 : decode cX9_next 29 = .ok (.iload_n 1, 1) := by decide +kernel
theorem dX9_next_30 : decode cX9_next 30 = .ok (.iconst (-1), 1) := by decide +kernel
theorem dX9_next_31 : decode cX9_next 31 = .ok (.if_icmp .ne 13, 3) := by decide +kernel
theorem dX9_next_34 : decode cX9_next 34 = .ok (.new 233, 3) := by decide +kernel
theorem dX9_next_37 : decode cX9_next 37 = .ok (.dup, 1) := by decide +kernel
theorem dX9_next_38 : decode cX9_next 38 = .ok (.ldc 235, 2) := by decide +kernel
theorem dX9_next_40 : decode cX9_next 40 = .ok (.invokespecial 237, 3) := by decide +kernel
theorem dX9_next_43 : decode cX9_next 43 = .ok (.athrow, 1) := by decide +kernel
theorem dX9_next_44 : decode cX9_next 44 = .ok (.iload_n 1, 1) := by decide +kernel
theorem dX9_next_45 : decode cX9_next 45 = .ok (.ireturn, 1) := by decide +kernel
theorem dX9_serve_0 : decode cX9_serve 0 = .ok (.aload_n 0, 1) := by decide +kernel
theorem dX9_serve_1 : decode cX9_serve 1 = .ok (.getfield 10, 3) := by decide +kernel
theorem dX9_serve_4 : decode cX9_serve 4 = .ok (.getfield 219, 3) := by decide +kernel
theorem dX9_serve_7 : decode cX9_serve 7 = .ok (.getfield 238, 3) := by decide +kernel
theorem dX9_serve_10 : decode cX9_serve 10 = .ok (.ifCond .ne 13, 3) := by decide +kernel
theorem dX9_serve_13 : decode cX9_serve 13 = .ok (.new 233, 3) := by decide +kernel
theorem dX9_serve_16 : decode cX9_serve 16 = .ok (.dup, 1) := by decide +kernel
theorem dX9_serve_17 : decode cX9_serve 17 = .ok (.ldc 235, 2) := by decide +kernel
theorem dX9_serve_19 : decode cX9_serve 19 = .ok (.invokespecial 237, 3) := by decide +kernel
theorem dX9_serve_22 : decode cX9_serve 22 = .ok (.athrow, 1) := by decide +kernel
theorem dX9_serve_23 : decode cX9_serve 23 = .ok (.aload_n 0, 1) := by decide +kernel
theorem dX9_serve_24 : decode cX9_serve 24 = .ok (.invokevirtual 241, 3) := by decide +kernel
theorem dX9_serve_27 : decode cX9_serve 27 = .ok (.aload_n 0, 1) := by decide +kernel
theorem dX9_serve_28 : decode cX9_serve 28 = .ok (.getfield 10, 3) := by decide +kernel
theorem dX9_serve_31 : decode cX9_serve 31 = .ok (.aload_n 0, 1) := by decide +kernel
theorem dX9_serve_32 : decode cX9_serve 32 = .ok (.getfield 19, 3) := by decide +kernel
theorem dX9_serve_35 : decode cX9_serve 35 = .ok (.invokevirtual 244, 3) := by decide +kernel
theorem dX9_serve_38 : decode cX9_serve 38 = .ok (.ireturn, 1) := by decide +kernel
theorem dX9_serveFor_0 : decode cX9_serveFor 0 = .ok (.iload_n 1, 1) := by decide +kernel
theorem dX9_serveFor_1 : decode cX9_serveFor 1 = .ok (.iconst 1, 1) := by decide +kernel
theorem dX9_serveFor_2 : decode cX9_serveFor 2 = .ok (.sipush 9999, 3) := by decide +kernel
theorem dX9_serveFor_5 : decode cX9_serveFor 5 = .ok (.invokestatic 30, 3) := by decide +kernel
theorem dX9_serveFor_8 : decode cX9_serveFor 8 = .ok (.ifCond .ne 13, 3) := by decide +kernel
theorem dX9_serveFor_11 : decode cX9_serveFor 11 = .ok (.new 34, 3) := by decide +kernel
theorem dX9_serveFor_14 : decode cX9_serveFor 14 = .ok (.dup, 1) := by decide +kernel
theorem dX9_serveFor_15 : decode cX9_serveFor 15 = .ok (.ldc 155, 2) := by decide +kernel
theorem dX9_serveFor_17 : decode cX9_serveFor 17 = .ok (.invokespecial 38, 3) := by decide +kernel
theorem dX9_serveFor_20 : decode cX9_serveFor 20 = .ok (.athrow, 1) := by decide +kernel
theorem dX9_serveFor_21 : decode cX9_serveFor 21 = .ok (.aload_n 0, 1) := by decide +kernel
theorem dX9_serveFor_22 : decode cX9_serveFor 22 = .ok (.invokevirtual 241, 3) := by decide +kernel
theorem dX9_serveFor_25 : decode cX9_serveFor 25 = .ok (.aload_n 0, 1) := by decide +kernel
theorem dX9_serveFor_26 : decode cX9_serveFor 26 = .ok (.getfield 10, 3) := by decide +kernel
theorem dX9_serveFor_29 : decode cX9_serveFor 29 = .ok (.getfield 41, 3) := by decide +kernel
theorem dX9_serveFor_32 : decode cX9_serveFor 32 = .ok (.getfield 146, 3) := by decide +kernel
theorem dX9_serveFor_35 : decode cX9_serveFor 35 = .ok (.iload_n 1, 1) := by decide +kernel
theorem dX9_serveFor_36 : decode cX9_serveFor 36 = .ok (.iadd, 1) := by decide +kernel
theorem dX9_serveFor_37 : decode cX9_serveFor 37 = .ok (.istore_n 2, 1) := by decide +kernel
theorem dX9_serveFor_38 : decode cX9_serveFor 38 = .ok (.iconst 0, 1) := by decide +kernel
theorem dX9_serveFor_39 : decode cX9_serveFor 39 = .ok (.istore_n 3, 1) := by decide +kernel
theorem dX9_serveFor_40 : decode cX9_serveFor 40 = .ok (.iload_n 3, 1) := by decide +kernel
theorem dX9_serveFor_41 : decode cX9_serveFor 41 = .ok (.bipush 12, 2) := by decide +kernel
theorem dX9_serveFor_43 : decode cX9_serveFor 43 = .ok (.if_icmp .ge 48, 3) := by decide +kernel
theorem dX9_serveFor_46 : decode cX9_serveFor 46 = .ok (.aload_n 0, 1) := by decide +kernel
theorem dX9_serveFor_47 : decode cX9_serveFor 47 = .ok (.getfield 10, 3) := by decide +kernel
theorem dX9_serveFor_50 : decode cX9_serveFor 50 = .ok (.getfield 219, 3) := by decide +kernel
theorem dX9_serveFor_53 : decode cX9_serveFor 53 = .ok (.getfield 238, 3) := by decide +kernel
theorem dX9_serveFor_56 : decode cX9_serveFor 56 = .ok (.ifCond .le 35, 3) := by decide +kernel
theorem dX9_serveFor_59 : decode cX9_serveFor 59 = .ok (.aload_n 0, 1) := by decide +kernel
theorem dX9_serveFor_60 : decode cX9_serveFor 60 = .ok (.getfield 10, 3) := by decide +kernel
theorem dX9_serveFor_63 : decode cX9_serveFor 63 = .ok (.getfield 41, 3) := by decide +kernel
theorem dX9_serveFor_66 : decode cX9_serveFor 66 = .ok (.getfield 146, 3) := by decide +kernel
theorem dX9_serveFor_69 : decode cX9_serveFor 69 = .ok (.iload_n 2, 1) := by decide +kernel
theorem dX9_serveFor_70 : decode cX9_serveFor 70 = .ok (.if_icmp .ge 21, 3) := by decide +kernel
theorem dX9_serveFor_73 : decode cX9_serveFor 73 = .ok (.aload_n 0, 1) := by decide +kernel
theorem dX9_serveFor_74 : decode cX9_serveFor 74 = .ok (.getfield 10, 3) := by decide +kernel
theorem dX9_serveFor_77 : decode cX9_serveFor 77 = .ok (.aload_n 0, 1) := by decide +kernel
theorem dX9_serveFor_78 : decode cX9_serveFor 78 = .ok (.getfield 19, 3) := by decide +kernel
theorem dX9_serveFor_81 : decode cX9_serveFor 81 = .ok (.invokevirtual 244, 3) := by decide +kernel
theorem dX9_serveFor_84 : decode cX9_serveFor 84 = .ok (.pop, 1) := by decide +kernel
theorem dX9_serveFor_85 : decode cX9_serveFor 85 = .ok (.iinc 3 1, 3) := by decide +kernel
theorem dX9_serveFor_88 : decode cX9_serveFor 88 = .ok (.goto (-48), 3) := by decide +kernel
theorem dX9_serveFor_91 : decode cX9_serveFor 91 = .ok (.iload_n 3, 1) := by decide +kernel
theorem dX9_serveFor_92 : decode cX9_serveFor 92 = .ok (.ireturn, 1) := by decide +kernel
theorem dX9_flush_0 : decode cX9_flush 0 = .ok (.aload_n 0, 1) := by decide +kernel
theorem dX9_flush_1 : decode cX9_flush 1 = .ok (.invokevirtual 241, 3) := by decide +kernel
theorem dX9_flush_4 : decode cX9_flush 4 = .ok (.aload_n 0, 1) := by decide +kernel
theorem dX9_flush_5 : decode cX9_flush 5 = .ok (.getfield 10, 3) := by decide +kernel
theorem dX9_flush_8 : decode cX9_flush 8 = .ok (.getfield 41, 3) := by decide +kernel
theorem dX9_flush_11 : decode cX9_flush 11 = .ok (.getfield 146, 3) := by decide +kernel
theorem dX9_flush_14 : decode cX9_flush 14 = .ok (.istore_n 1, 1) := by decide +kernel
theorem dX9_flush_15 : decode cX9_flush 15 = .ok (.aload_n 0, 1) := by decide +kernel
theorem dX9_flush_16 : decode cX9_flush 16 = .ok (.getfield 10, 3) := by decide +kernel
theorem dX9_flush_19 : decode cX9_flush 19 = .ok (.getfield 81, 3) := by decide +kernel
theorem dX9_flush_22 : decode cX9_flush 22 = .ok (.aload_n 0, 1) := by decide +kernel
theorem dX9_flush_23 : decode cX9_flush 23 = .ok (.getfield 10, 3) := by decide +kernel
theorem dX9_flush_26 : decode cX9_flush 26 = .ok (.getfield 41, 3) := by decide +kernel
theorem dX9_flush_29 : decode cX9_flush 29 = .ok (.invokevirtual 248, 3) := by decide +kernel
theorem dX9_flush_32 : decode cX9_flush 32 = .ok (.aload_n 0, 1) := by decide +kernel
theorem dX9_flush_33 : decode cX9_flush 33 = .ok (.getfield 10, 3) := by decide +kernel
theorem dX9_flush_36 : decode cX9_flush 36 = .ok (.getfield 41, 3) := by decide +kernel
theorem dX9_flush_39 : decode cX9_flush 39 = .ok (.getfield 146, 3) := by decide +kernel
theorem dX9_flush_42 : decode cX9_flush 42 = .ok (.iload_n 1, 1) := by decide +kernel
theorem dX9_flush_43 : decode cX9_flush 43 = .ok (.isub, 1) := by decide +kernel
theorem dX9_flush_44 : decode cX9_flush 44 = .ok (.ireturn, 1) := by decide +kernel
theorem dX9_dirtyBlocks_0 : decode cX9_dirtyBlocks 0 = .ok (.aload_n 0, 1) := by decide +kernel
theorem dX9_dirtyBlocks_1 : decode cX9_dirtyBlocks 1 = .ok (.getfield 10, 3) := by decide +kernel
theorem dX9_dirtyBlocks_4 : decode cX9_dirtyBlocks 4 = .ok (.getfield 81, 3) := by decide +kernel
theorem dX9_dirtyBlocks_7 : decode cX9_dirtyBlocks 7 = .ok (.getfield 85, 3) := by decide +kernel
theorem dX9_dirtyBlocks_10 : decode cX9_dirtyBlocks 10 = .ok (.ireturn, 1) := by decide +kernel
theorem dX9_pendingRequests_0 : decode cX9_pendingRequests 0 = .ok (.aload_n 0, 1) := by decide +kernel
theorem dX9_pendingRequests_1 : decode cX9_pendingRequests 1 = .ok (.getfield 10, 3) := by decide +kernel
theorem dX9_pendingRequests_4 : decode cX9_pendingRequests 4 = .ok (.getfield 219, 3) := by decide +kernel
theorem dX9_pendingRequests_7 : decode cX9_pendingRequests 7 = .ok (.getfield 238, 3) := by decide +kernel
theorem dX9_pendingRequests_10 : decode cX9_pendingRequests 10 = .ok (.ireturn, 1) := by decide +kernel
theorem dX9_state_0 : decode cX9_state 0 = .ok (.aload_n 0, 1) := by decide +kernel
theorem dX9_state_1 : decode cX9_state 1 = .ok (.iload_n 1, 1) := by decide +kernel
theorem dX9_state_2 : decode cX9_state 2 = .ok (.invokevirtual 208, 3) := by decide +kernel
theorem dX9_state_5 : decode cX9_state 5 = .ok (.getfield 212, 3) := by decide +kernel
theorem dX9_state_8 : decode cX9_state 8 = .ok (.ireturn, 1) := by decide +kernel
theorem dX9_bucket_0 : decode cX9_bucket 0 = .ok (.aload_n 0, 1) := by decide +kernel
theorem dX9_bucket_1 : decode cX9_bucket 1 = .ok (.iload_n 1, 1) := by decide +kernel
theorem dX9_bucket_2 : decode cX9_bucket 2 = .ok (.invokevirtual 208, 3) := by decide +kernel
theorem dX9_bucket_5 : decode cX9_bucket 5 = .ok (.astore_n 2, 1) := by decide +kernel
theorem dX9_bucket_6 : decode cX9_bucket 6 = .ok (.aload_n 2, 1) := by decide +kernel
theorem dX9_bucket_7 : decode cX9_bucket 7 = .ok (.getfield 212, 3) := by decide +kernel
theorem dX9_bucket_10 : decode cX9_bucket 10 = .ok (.ifCond .eq 13, 3) := by decide +kernel
theorem dX9_bucket_13 : decode cX9_bucket 13 = .ok (.new 90, 3) := by decide +kernel
theorem dX9_bucket_16 : decode cX9_bucket 16 = .ok (.dup, 1) := by decide +kernel
theorem dX9_bucket_17 : decode cX9_bucket 17 = .ok (.ldc 217, 2) := by decide +kernel
theorem dX9_bucket_19 : decode cX9_bucket 19 = .ok (.invokespecial 94, 3) := by decide +kernel
theorem dX9_bucket_22 : decode cX9_bucket 22 = .ok (.athrow, 1) := by decide +kernel
theorem dX9_bucket_23 : decode cX9_bucket 23 = .ok (.aload_n 0, 1) := by decide +kernel
theorem dX9_bucket_24 : decode cX9_bucket 24 = .ok (.getfield 10, 3) := by decide +kernel
theorem dX9_bucket_27 : decode cX9_bucket 27 = .ok (.getfield 64, 3) := by decide +kernel
theorem dX9_bucket_30 : decode cX9_bucket 30 = .ok (.aload_n 2, 1) := by decide +kernel
theorem dX9_bucket_31 : decode cX9_bucket 31 = .ok (.aload_n 0, 1) := by decide +kernel
theorem dX9_bucket_32 : decode cX9_bucket 32 = .ok (.getfield 10, 3) := by decide +kernel
theorem dX9_bucket_35 : decode cX9_bucket 35 = .ok (.getfield 41, 3) := by decide +kernel
theorem dX9_bucket_38 : decode cX9_bucket 38 = .ok (.getfield 146, 3) := by decide +kernel
theorem dX9_bucket_41 : decode cX9_bucket 41 = .ok (.invokevirtual 252, 3) := by decide +kernel
theorem dX9_bucket_44 : decode cX9_bucket 44 = .ok (.ireturn, 1) := by decide +kernel
theorem dX9_finish_0 : decode cX9_finish 0 = .ok (.aload_n 0, 1) := by decide +kernel
theorem dX9_finish_1 : decode cX9_finish 1 = .ok (.iload_n 1, 1) := by decide +kernel
theorem dX9_finish_2 : decode cX9_finish 2 = .ok (.invokevirtual 208, 3) := by decide +kernel
theorem dX9_finish_5 : decode cX9_finish 5 = .ok (.astore_n 2, 1) := by decide +kernel
theorem dX9_finish_6 : decode cX9_finish 6 = .ok (.aload_n 2, 1) := by decide +kernel
theorem dX9_finish_7 : decode cX9_finish 7 = .ok (.getfield 212, 3) := by decide +kernel
theorem dX9_finish_10 : decode cX9_finish 10 = .ok (.iconst 1, 1) := by decide +kernel
theorem dX9_finish_11 : decode cX9_finish 11 = .ok (.if_icmp .eq 14, 3) := by decide +kernel
theorem dX9_finish_14 : decode cX9_finish 14 = .ok (.new 90, 3) := by decide +kernel
theorem dX9_finish_17 : decode cX9_finish 17 = .ok (.dup, 1) := by decide +kernel
theorem dX9_finish_18 : decode cX9_finish 18 = .ok (.ldc_w 256, 3) := by decide +kernel
theorem dX9_finish_21 : decode cX9_finish 21 = .ok (.invokespecial 94, 3) := by decide +kernel
theorem dX9_finish_24 : decode cX9_finish 24 = .ok (.athrow, 1) := by decide +kernel
theorem dX9_finish_25 : decode cX9_finish 25 = .ok (.aload_n 2, 1) := by decide +kernel
theorem dX9_finish_26 : decode cX9_finish 26 = .ok (.getfield 258, 3) := by decide +kernel
theorem dX9_finish_29 : decode cX9_finish 29 = .ok (.ireturn, 1) := by decide +kernel
theorem dX9_isLate_0 : decode cX9_isLate 0 = .ok (.aload_n 0, 1) := by decide +kernel
theorem dX9_isLate_1 : decode cX9_isLate 1 = .ok (.iload_n 1, 1) := by decide +kernel
theorem dX9_isLate_2 : decode cX9_isLate 2 = .ok (.invokevirtual 208, 3) := by decide +kernel
theorem dX9_isLate_5 : decode cX9_isLate 5 = .ok (.astore_n 2, 1) := by decide +kernel
theorem dX9_isLate_6 : decode cX9_isLate 6 = .ok (.aload_n 2, 1) := by decide +kernel
theorem dX9_isLate_7 : decode cX9_isLate 7 = .ok (.getfield 212, 3) := by decide +kernel
theorem dX9_isLate_10 : decode cX9_isLate 10 = .ok (.iconst 1, 1) := by decide +kernel
theorem dX9_isLate_11 : decode cX9_isLate 11 = .ok (.if_icmp .eq 14, 3) := by decide +kernel
theorem dX9_isLate_14 : decode cX9_isLate 14 = .ok (.new 90, 3) := by decide +kernel
theorem dX9_isLate_17 : decode cX9_isLate 17 = .ok (.dup, 1) := by decide +kernel
theorem dX9_isLate_18 : decode cX9_isLate 18 = .ok (.ldc_w 256, 3) := by decide +kernel
theorem dX9_isLate_21 : decode cX9_isLate 21 = .ok (.invokespecial 94, 3) := by decide +kernel
theorem dX9_isLate_24 : decode cX9_isLate 24 = .ok (.athrow, 1) := by decide +kernel
theorem dX9_isLate_25 : decode cX9_isLate 25 = .ok (.aload_n 2, 1) := by decide +kernel
theorem dX9_isLate_26 : decode cX9_isLate 26 = .ok (.invokevirtual 261, 3) := by decide +kernel
theorem dX9_isLate_29 : decode cX9_isLate 29 = .ok (.ifCond .ne 14, 3) := by decide +kernel
theorem dX9_isLate_32 : decode cX9_isLate 32 = .ok (.new 138, 3) := by decide +kernel
theorem dX9_isLate_35 : decode cX9_isLate 35 = .ok (.dup, 1) := by decide +kernel
theorem dX9_isLate_36 : decode cX9_isLate 36 = .ok (.ldc_w 264, 3) := by decide +kernel
theorem dX9_isLate_39 : decode cX9_isLate 39 = .ok (.invokespecial 142, 3) := by decide +kernel
theorem dX9_isLate_42 : decode cX9_isLate 42 = .ok (.athrow, 1) := by decide +kernel
theorem dX9_isLate_43 : decode cX9_isLate 43 = .ok (.aload_n 2, 1) := by decide +kernel
theorem dX9_isLate_44 : decode cX9_isLate 44 = .ok (.invokevirtual 266, 3) := by decide +kernel
theorem dX9_isLate_47 : decode cX9_isLate 47 = .ok (.ireturn, 1) := by decide +kernel
theorem dX9_bestFinish_0 : decode cX9_bestFinish 0 = .ok (.aload_n 0, 1) := by decide +kernel
theorem dX9_bestFinish_1 : decode cX9_bestFinish 1 = .ok (.invokevirtual 269, 3) := by decide +kernel
theorem dX9_bestFinish_4 : decode cX9_bestFinish 4 = .ok (.aload_n 0, 1) := by decide +kernel
theorem dX9_bestFinish_5 : decode cX9_bestFinish 5 = .ok (.getfield 19, 3) := by decide +kernel
theorem dX9_bestFinish_8 : decode cX9_bestFinish 8 = .ok (.aload_n 0, 1) := by decide +kernel
theorem dX9_bestFinish_9 : decode cX9_bestFinish 9 = .ok (.getfield 10, 3) := by decide +kernel
theorem dX9_bestFinish_12 : decode cX9_bestFinish 12 = .ok (.getfield 219, 3) := by decide +kernel
theorem dX9_bestFinish_15 : decode cX9_bestFinish 15 = .ok (.aload_n 0, 1) := by decide +kernel
theorem dX9_bestFinish_16 : decode cX9_bestFinish 16 = .ok (.getfield 10, 3) := by decide +kernel
theorem dX9_bestFinish_19 : decode cX9_bestFinish 19 = .ok (.getfield 41, 3) := by decide +kernel
theorem dX9_bestFinish_22 : decode cX9_bestFinish 22 = .ok (.iconst 0, 1) := by decide +kernel
theorem dX9_bestFinish_23 : decode cX9_bestFinish 23 = .ok (.iconst 0, 1) := by decide +kernel
theorem dX9_bestFinish_24 : decode cX9_bestFinish 24 = .ok (.invokevirtual 272, 3) := by decide +kernel
theorem dX9_bestFinish_27 : decode cX9_bestFinish 27 = .ok (.aload_n 0, 1) := by decide +kernel
theorem dX9_bestFinish_28 : decode cX9_bestFinish 28 = .ok (.getfield 19, 3) := by decide +kernel
theorem dX9_bestFinish_31 : decode cX9_bestFinish 31 = .ok (.aload_n 0, 1) := by decide +kernel
theorem dX9_bestFinish_32 : decode cX9_bestFinish 32 = .ok (.getfield 10, 3) := by decide +kernel
theorem dX9_bestFinish_35 : decode cX9_bestFinish 35 = .ok (.getfield 41, 3) := by decide +kernel
theorem dX9_bestFinish_38 : decode cX9_bestFinish 38 = .ok (.invokevirtual 276, 3) := by decide +kernel
theorem dX9_bestFinish_41 : decode cX9_bestFinish 41 = .ok (.aload_n 0, 1) := by decide +kernel
theorem dX9_bestFinish_42 : decode cX9_bestFinish 42 = .ok (.getfield 19, 3) := by decide +kernel
theorem dX9_bestFinish_45 : decode cX9_bestFinish 45 = .ok (.getfield 279, 3) := by decide +kernel
theorem dX9_bestFinish_48 : decode cX9_bestFinish 48 = .ok (.ireturn, 1) := by decide +kernel
theorem dX9_bestRequest_0 : decode cX9_bestRequest 0 = .ok (.aload_n 0, 1) := by decide +kernel
theorem dX9_bestRequest_1 : decode cX9_bestRequest 1 = .ok (.invokevirtual 269, 3) := by decide +kernel
theorem dX9_bestRequest_4 : decode cX9_bestRequest 4 = .ok (.iload_n 1, 1) := by decide +kernel
theorem dX9_bestRequest_5 : decode cX9_bestRequest 5 = .ok (.iconst 0, 1) := by decide +kernel
theorem dX9_bestRequest_6 : decode cX9_bestRequest 6 = .ok (.aload_n 0, 1) := by decide +kernel
theorem dX9_bestRequest_7 : decode cX9_bestRequest 7 = .ok (.getfield 10, 3) := by decide +kernel
theorem dX9_bestRequest_10 : decode cX9_bestRequest 10 = .ok (.getfield 219, 3) := by decide +kernel
theorem dX9_bestRequest_13 : decode cX9_bestRequest 13 = .ok (.getfield 238, 3) := by decide +kernel
theorem dX9_bestRequest_16 : decode cX9_bestRequest 16 = .ok (.iconst 1, 1) := by decide +kernel
theorem dX9_bestRequest_17 : decode cX9_bestRequest 17 = .ok (.isub, 1) := by decide +kernel
theorem dX9_bestRequest_18 : decode cX9_bestRequest 18 = .ok (.invokestatic 30, 3) := by decide +kernel
theorem dX9_bestRequest_21 : decode cX9_bestRequest 21 = .ok (.ifCond .ne 14, 3) := by decide +kernel
theorem dX9_bestRequest_24 : decode cX9_bestRequest 24 = .ok (.new 99, 3) := by decide +kernel
theorem dX9_bestRequest_27 : decode cX9_bestRequest 27 = .ok (.dup, 1) := by decide +kernel
theorem dX9_bestRequest_28 : decode cX9_bestRequest 28 = .ok (.ldc_w 282, 3) := by decide +kernel
theorem dX9_bestRequest_31 : decode cX9_bestRequest 31 = .ok (.invokespecial 103, 3) := by decide +kernel
theorem dX9_bestRequest_34 : decode cX9_bestRequest 34 = .ok (.athrow, 1) := by decide +kernel
theorem dX9_bestRequest_35 : decode cX9_bestRequest 35 = .ok (.aload_n 0, 1) := by decide +kernel
theorem dX9_bestRequest_36 : decode cX9_bestRequest 36 = .ok (.getfield 19, 3) := by decide +kernel
theorem dX9_bestRequest_39 : decode cX9_bestRequest 39 = .ok (.aload_n 0, 1) := by decide +kernel
theorem dX9_bestRequest_40 : decode cX9_bestRequest 40 = .ok (.getfield 10, 3) := by decide +kernel
theorem dX9_bestRequest_43 : decode cX9_bestRequest 43 = .ok (.getfield 219, 3) := by decide +kernel
theorem dX9_bestRequest_46 : decode cX9_bestRequest 46 = .ok (.aload_n 0, 1) := by decide +kernel
theorem dX9_bestRequest_47 : decode cX9_bestRequest 47 = .ok (.getfield 10, 3) := by decide +kernel
theorem dX9_bestRequest_50 : decode cX9_bestRequest 50 = .ok (.getfield 41, 3) := by decide +kernel
theorem dX9_bestRequest_53 : decode cX9_bestRequest 53 = .ok (.iconst 0, 1) := by decide +kernel
theorem dX9_bestRequest_54 : decode cX9_bestRequest 54 = .ok (.iconst 0, 1) := by decide +kernel
theorem dX9_bestRequest_55 : decode cX9_bestRequest 55 = .ok (.invokevirtual 272, 3) := by decide +kernel
theorem dX9_bestRequest_58 : decode cX9_bestRequest 58 = .ok (.aload_n 0, 1) := by decide +kernel
theorem dX9_bestRequest_59 : decode cX9_bestRequest 59 = .ok (.getfield 19, 3) := by decide +kernel
theorem dX9_bestRequest_62 : decode cX9_bestRequest 62 = .ok (.aload_n 0, 1) := by decide +kernel
theorem dX9_bestRequest_63 : decode cX9_bestRequest 63 = .ok (.getfield 10, 3) := by decide +kernel
theorem dX9_bestRequest_66 : decode cX9_bestRequest 66 = .ok (.getfield 41, 3) := by decide +kernel
theorem dX9_bestRequest_69 : decode cX9_bestRequest 69 = .ok (.invokevirtual 276, 3) := by decide +kernel
theorem dX9_bestRequest_72 : decode cX9_bestRequest 72 = .ok (.aload_n 0, 1) := by decide +kernel
theorem dX9_bestRequest_73 : decode cX9_bestRequest 73 = .ok (.getfield 19, 3) := by decide +kernel
theorem dX9_bestRequest_76 : decode cX9_bestRequest 76 = .ok (.iload_n 1, 1) := by decide +kernel
theorem dX9_bestRequest_77 : decode cX9_bestRequest 77 = .ok (.invokevirtual 284, 3) := by decide +kernel
theorem dX9_bestRequest_80 : decode cX9_bestRequest 80 = .ok (.ireturn, 1) := by decide +kernel
theorem dX9_canMeetDeadlines_0 : decode cX9_canMeetDeadlines 0 = .ok (.aload_n 0, 1) := by decide +kernel
theorem dX9_canMeetDeadlines_1 : decode cX9_canMeetDeadlines 1 = .ok (.invokevirtual 269, 3) := by decide +kernel
theorem dX9_canMeetDeadlines_4 : decode cX9_canMeetDeadlines 4 = .ok (.aload_n 0, 1) := by decide +kernel
theorem dX9_canMeetDeadlines_5 : decode cX9_canMeetDeadlines 5 = .ok (.getfield 19, 3) := by decide +kernel
theorem dX9_canMeetDeadlines_8 : decode cX9_canMeetDeadlines 8 = .ok (.aload_n 0, 1) := by decide +kernel
theorem dX9_canMeetDeadlines_9 : decode cX9_canMeetDeadlines 9 = .ok (.getfield 10, 3) := by decide +kernel
theorem dX9_canMeetDeadlines_12 : decode cX9_canMeetDeadlines 12 = .ok (.getfield 219, 3) := by decide +kernel
theorem dX9_canMeetDeadlines_15 : decode cX9_canMeetDeadlines 15 = .ok (.aload_n 0, 1) := by decide +kernel
theorem dX9_canMeetDeadlines_16 : decode cX9_canMeetDeadlines 16 = .ok (.getfield 10, 3) := by decide +kernel
theorem dX9_canMeetDeadlines_19 : decode cX9_canMeetDeadlines 19 = .ok (.getfield 41, 3) := by decide +kernel
theorem dX9_canMeetDeadlines_22 : decode cX9_canMeetDeadlines 22 = .ok (.iconst 0, 1) := by decide +kernel
theorem dX9_canMeetDeadlines_23 : decode cX9_canMeetDeadlines 23 = .ok (.iconst 1, 1) := by decide +kernel
theorem dX9_canMeetDeadlines_24 : decode cX9_canMeetDeadlines 24 = .ok (.invokevirtual 272, 3) := by decide +kernel
theorem dX9_canMeetDeadlines_27 : decode cX9_canMeetDeadlines 27 = .ok (.aload_n 0, 1) := by decide +kernel
theorem dX9_canMeetDeadlines_28 : decode cX9_canMeetDeadlines 28 = .ok (.getfield 19, 3) := by decide +kernel
theorem dX9_canMeetDeadlines_31 : decode cX9_canMeetDeadlines 31 = .ok (.aload_n 0, 1) := by decide +kernel
theorem dX9_canMeetDeadlines_32 : decode cX9_canMeetDeadlines 32 = .ok (.getfield 10, 3) := by decide +kernel
theorem dX9_canMeetDeadlines_35 : decode cX9_canMeetDeadlines 35 = .ok (.getfield 41, 3) := by decide +kernel
theorem dX9_canMeetDeadlines_38 : decode cX9_canMeetDeadlines 38 = .ok (.invokevirtual 276, 3) := by decide +kernel
theorem dX9_canMeetDeadlines_41 : decode cX9_canMeetDeadlines 41 = .ok (.aload_n 0, 1) := by decide +kernel
theorem dX9_canMeetDeadlines_42 : decode cX9_canMeetDeadlines 42 = .ok (.getfield 19, 3) := by decide +kernel
theorem dX9_canMeetDeadlines_45 : decode cX9_canMeetDeadlines 45 = .ok (.invokevirtual 287, 3) := by decide +kernel
theorem dX9_canMeetDeadlines_48 : decode cX9_canMeetDeadlines 48 = .ok (.ireturn, 1) := by decide +kernel
theorem dX9_total_0 : decode cX9_total 0 = .ok (.iload_n 1, 1) := by decide +kernel
theorem dX9_total_1 : decode cX9_total 1 = .ok (.tableswitch 75 0 3 #[31, 42, 53, 64], 31) := by decide +kernel
theorem dX9_total_32 : decode cX9_total 32 = .ok (.aload_n 0, 1) := by decide +kernel
theorem dX9_total_33 : decode cX9_total 33 = .ok (.getfield 10, 3) := by decide +kernel
theorem dX9_total_36 : decode cX9_total 36 = .ok (.getfield 41, 3) := by decide +kernel
theorem dX9_total_39 : decode cX9_total 39 = .ok (.getfield 290, 3) := by decide +kernel
theorem dX9_total_42 : decode cX9_total 42 = .ok (.ireturn, 1) := by decide +kernel
theorem dX9_total_43 : decode cX9_total 43 = .ok (.aload_n 0, 1) := by decide +kernel
theorem dX9_total_44 : decode cX9_total 44 = .ok (.getfield 10, 3) := by decide +kernel
theorem dX9_total_47 : decode cX9_total 47 = .ok (.getfield 41, 3) := by decide +kernel
theorem dX9_total_50 : decode cX9_total 50 = .ok (.getfield 293, 3) := by decide +kernel
theorem dX9_total_53 : decode cX9_total 53 = .ok (.ireturn, 1) := by decide +kernel
theorem dX9_total_54 : decode cX9_total 54 = .ok (.aload_n 0, 1) := by decide +kernel
theorem dX9_total_55 : decode cX9_total 55 = .ok (.getfield 10, 3) := by decide +kernel
theorem dX9_total_58 : decode cX9_total 58 = .ok (.getfield 41, 3) := by decide +kernel
theorem dX9_total_61 : decode cX9_total 61 = .ok (.getfield 296, 3) := by decide +kernel
theorem dX9_total_64 : decode cX9_total 64 = .ok (.ireturn, 1) := by decide +kernel
theorem dX9_total_65 : decode cX9_total 65 = .ok (.aload_n 0, 1) := by decide +kernel
theorem dX9_total_66 : decode cX9_total 66 = .ok (.getfield 10, 3) := by decide +kernel
theorem dX9_total_69 : decode cX9_total 69 = .ok (.getfield 41, 3) := by decide +kernel
theorem dX9_total_72 : decode cX9_total 72 = .ok (.getfield 299, 3) := by decide +kernel
theorem dX9_total_75 : decode cX9_total 75 = .ok (.ireturn, 1) := by decide +kernel
theorem dX9_total_76 : decode cX9_total 76 = .ok (.new 34, 3) := by decide +kernel
theorem dX9_total_79 : decode cX9_total 79 = .ok (.dup, 1) := by decide +kernel
theorem dX9_total_80 : decode cX9_total 80 = .ok (.ldc_w 302, 3) := by decide +kernel
theorem dX9_total_83 : decode cX9_total 83 = .ok (.invokespecial 38, 3) := by decide +kernel
theorem dX9_total_86 : decode cX9_total 86 = .ok (.athrow, 1) := by decide +kernel
theorem dX9_utilization_0 : decode cX9_utilization 0 = .ok (.aload_n 0, 1) := by decide +kernel
theorem dX9_utilization_1 : decode cX9_utilization 1 = .ok (.getfield 10, 3) := by decide +kernel
theorem dX9_utilization_4 : decode cX9_utilization 4 = .ok (.getfield 41, 3) := by decide +kernel
theorem dX9_utilization_7 : decode cX9_utilization 7 = .ok (.getfield 146, 3) := by decide +kernel
theorem dX9_utilization_10 : decode cX9_utilization 10 = .ok (.ifCond .ne 14, 3) := by decide +kernel
theorem dX9_utilization_13 : decode cX9_utilization 13 = .ok (.new 304, 3) := by decide +kernel
theorem dX9_utilization_16 : decode cX9_utilization 16 = .ok (.dup, 1) := by decide +kernel
theorem dX9_utilization_17 : decode cX9_utilization 17 = .ok (.ldc_w 306, 3) := by decide +kernel
theorem dX9_utilization_20 : decode cX9_utilization 20 = .ok (.invokespecial 308, 3) := by decide +kernel
theorem dX9_utilization_23 : decode cX9_utilization 23 = .ok (.athrow, 1) := by decide +kernel
theorem dX9_utilization_24 : decode cX9_utilization 24 = .ok (.aload_n 0, 1) := by decide +kernel
theorem dX9_utilization_25 : decode cX9_utilization 25 = .ok (.getfield 10, 3) := by decide +kernel
theorem dX9_utilization_28 : decode cX9_utilization 28 = .ok (.getfield 41, 3) := by decide +kernel
theorem dX9_utilization_31 : decode cX9_utilization 31 = .ok (.getfield 290, 3) := by decide +kernel
theorem dX9_utilization_34 : decode cX9_utilization 34 = .ok (.aload_n 0, 1) := by decide +kernel
theorem dX9_utilization_35 : decode cX9_utilization 35 = .ok (.getfield 10, 3) := by decide +kernel
theorem dX9_utilization_38 : decode cX9_utilization 38 = .ok (.getfield 41, 3) := by decide +kernel
theorem dX9_utilization_41 : decode cX9_utilization 41 = .ok (.getfield 293, 3) := by decide +kernel
theorem dX9_utilization_44 : decode cX9_utilization 44 = .ok (.iadd, 1) := by decide +kernel
theorem dX9_utilization_45 : decode cX9_utilization 45 = .ok (.aload_n 0, 1) := by decide +kernel
theorem dX9_utilization_46 : decode cX9_utilization 46 = .ok (.getfield 10, 3) := by decide +kernel
theorem dX9_utilization_49 : decode cX9_utilization 49 = .ok (.getfield 41, 3) := by decide +kernel
theorem dX9_utilization_52 : decode cX9_utilization 52 = .ok (.getfield 296, 3) := by decide +kernel
theorem dX9_utilization_55 : decode cX9_utilization 55 = .ok (.iadd, 1) := by decide +kernel
theorem dX9_utilization_56 : decode cX9_utilization 56 = .ok (.istore_n 1, 1) := by decide +kernel
theorem dX9_utilization_57 : decode cX9_utilization 57 = .ok (.iload_n 1, 1) := by decide +kernel
theorem dX9_utilization_58 : decode cX9_utilization 58 = .ok (.i2d, 1) := by decide +kernel
theorem dX9_utilization_59 : decode cX9_utilization 59 = .ok (.aload_n 0, 1) := by decide +kernel
theorem dX9_utilization_60 : decode cX9_utilization 60 = .ok (.getfield 10, 3) := by decide +kernel
theorem dX9_utilization_63 : decode cX9_utilization 63 = .ok (.getfield 41, 3) := by decide +kernel
theorem dX9_utilization_66 : decode cX9_utilization 66 = .ok (.getfield 146, 3) := by decide +kernel
theorem dX9_utilization_69 : decode cX9_utilization 69 = .ok (.i2d, 1) := by decide +kernel
theorem dX9_utilization_70 : decode cX9_utilization 70 = .ok (.ddiv, 1) := by decide +kernel
theorem dX9_utilization_71 : decode cX9_utilization 71 = .ok (.dreturn, 1) := by decide +kernel
theorem dX9_averageResponse_0 : decode cX9_averageResponse 0 = .ok (.aload_n 0, 1) := by decide +kernel
theorem dX9_averageResponse_1 : decode cX9_averageResponse 1 = .ok (.getfield 10, 3) := by decide +kernel
theorem dX9_averageResponse_4 : decode cX9_averageResponse 4 = .ok (.getfield 219, 3) := by decide +kernel
theorem dX9_averageResponse_7 : decode cX9_averageResponse 7 = .ok (.invokevirtual 309, 3) := by decide +kernel
theorem dX9_averageResponse_10 : decode cX9_averageResponse 10 = .ok (.istore_n 1, 1) := by decide +kernel
theorem dX9_averageResponse_11 : decode cX9_averageResponse 11 = .ok (.iload_n 1, 1) := by decide +kernel
theorem dX9_averageResponse_12 : decode cX9_averageResponse 12 = .ok (.ifCond .ne 14, 3) := by decide +kernel
theorem dX9_averageResponse_15 : decode cX9_averageResponse 15 = .ok (.new 304, 3) := by decide +kernel
theorem dX9_averageResponse_18 : decode cX9_averageResponse 18 = .ok (.dup, 1) := by decide +kernel
theorem dX9_averageResponse_19 : decode cX9_averageResponse 19 = .ok (.ldc_w 313, 3) := by decide +kernel
theorem dX9_averageResponse_22 : decode cX9_averageResponse 22 = .ok (.invokespecial 308, 3) := by decide +kernel
theorem dX9_averageResponse_25 : decode cX9_averageResponse 25 = .ok (.athrow, 1) := by decide +kernel
theorem dX9_averageResponse_26 : decode cX9_averageResponse 26 = .ok (.aload_n 0, 1) := by decide +kernel
theorem dX9_averageResponse_27 : decode cX9_averageResponse 27 = .ok (.getfield 10, 3) := by decide +kernel
theorem dX9_averageResponse_30 : decode cX9_averageResponse 30 = .ok (.getfield 219, 3) := by decide +kernel
theorem dX9_averageResponse_33 : decode cX9_averageResponse 33 = .ok (.invokevirtual 315, 3) := by decide +kernel
theorem dX9_averageResponse_36 : decode cX9_averageResponse 36 = .ok (.i2d, 1) := by decide +kernel
theorem dX9_averageResponse_37 : decode cX9_averageResponse 37 = .ok (.iload_n 1, 1) := by decide +kernel
theorem dX9_averageResponse_38 : decode cX9_averageResponse 38 = .ok (.i2d, 1) := by decide +kernel
theorem dX9_averageResponse_39 : decode cX9_averageResponse 39 = .ok (.ddiv, 1) := by decide +kernel
theorem dX9_averageResponse_40 : decode cX9_averageResponse 40 = .ok (.dreturn, 1) := by decide +kernel
theorem dX9_lateShare_0 : decode cX9_lateShare 0 = .ok (.aload_n 0, 1) := by decide +kernel
theorem dX9_lateShare_1 : decode cX9_lateShare 1 = .ok (.getfield 10, 3) := by decide +kernel
theorem dX9_lateShare_4 : decode cX9_lateShare 4 = .ok (.getfield 219, 3) := by decide +kernel
theorem dX9_lateShare_7 : decode cX9_lateShare 7 = .ok (.invokevirtual 318, 3) := by decide +kernel
theorem dX9_lateShare_10 : decode cX9_lateShare 10 = .ok (.istore_n 1, 1) := by decide +kernel
theorem dX9_lateShare_11 : decode cX9_lateShare 11 = .ok (.iload_n 1, 1) := by decide +kernel
theorem dX9_lateShare_12 : decode cX9_lateShare 12 = .ok (.ifCond .ne 14, 3) := by decide +kernel
theorem dX9_lateShare_15 : decode cX9_lateShare 15 = .ok (.new 304, 3) := by decide +kernel
theorem dX9_lateShare_18 : decode cX9_lateShare 18 = .ok (.dup, 1) := by decide +kernel
theorem dX9_lateShare_19 : decode cX9_lateShare 19 = .ok (.ldc_w 321, 3) := by decide +kernel
theorem dX9_lateShare_22 : decode cX9_lateShare 22 = .ok (.invokespecial 308, 3) := by decide +kernel
theorem dX9_lateShare_25 : decode cX9_lateShare 25 = .ok (.athrow, 1) := by decide +kernel
theorem dX9_lateShare_26 : decode cX9_lateShare 26 = .ok (.aload_n 0, 1) := by decide +kernel
theorem dX9_lateShare_27 : decode cX9_lateShare 27 = .ok (.getfield 10, 3) := by decide +kernel
theorem dX9_lateShare_30 : decode cX9_lateShare 30 = .ok (.getfield 219, 3) := by decide +kernel
theorem dX9_lateShare_33 : decode cX9_lateShare 33 = .ok (.invokevirtual 323, 3) := by decide +kernel
theorem dX9_lateShare_36 : decode cX9_lateShare 36 = .ok (.i2f, 1) := by decide +kernel
theorem dX9_lateShare_37 : decode cX9_lateShare 37 = .ok (.iload_n 1, 1) := by decide +kernel
theorem dX9_lateShare_38 : decode cX9_lateShare 38 = .ok (.i2f, 1) := by decide +kernel
theorem dX9_lateShare_39 : decode cX9_lateShare 39 = .ok (.fdiv, 1) := by decide +kernel
theorem dX9_lateShare_40 : decode cX9_lateShare 40 = .ok (.freturn, 1) := by decide +kernel
theorem dX9_save_0 : decode cX9_save 0 = .ok (.aload_n 0, 1) := by decide +kernel
theorem dX9_save_1 : decode cX9_save 1 = .ok (.getfield 326, 3) := by decide +kernel
theorem dX9_save_4 : decode cX9_save 4 = .ok (.ifnonnull 14, 3) := by decide +kernel
theorem dX9_save_7 : decode cX9_save 7 = .ok (.aload_n 0, 1) := by decide +kernel
theorem dX9_save_8 : decode cX9_save 8 = .ok (.new 7, 3) := by decide +kernel
theorem dX9_save_11 : decode cX9_save 11 = .ok (.dup, 1) := by decide +kernel
theorem dX9_save_12 : decode cX9_save 12 = .ok (.invokespecial 9, 3) := by decide +kernel
theorem dX9_save_15 : decode cX9_save 15 = .ok (.putfield 326, 3) := by decide +kernel
theorem dX9_save_18 : decode cX9_save 18 = .ok (.aload_n 0, 1) := by decide +kernel
theorem dX9_save_19 : decode cX9_save 19 = .ok (.getfield 326, 3) := by decide +kernel
theorem dX9_save_22 : decode cX9_save 22 = .ok (.aload_n 0, 1) := by decide +kernel
theorem dX9_save_23 : decode cX9_save 23 = .ok (.getfield 10, 3) := by decide +kernel
theorem dX9_save_26 : decode cX9_save 26 = .ok (.invokevirtual 329, 3) := by decide +kernel
theorem dX9_save_29 : decode cX9_save 29 = .ok (.return_, 1) := by decide +kernel
theorem dX9_restore_0 : decode cX9_restore 0 = .ok (.aload_n 0, 1) := by decide +kernel
theorem dX9_restore_1 : decode cX9_restore 1 = .ok (.getfield 326, 3) := by decide +kernel
theorem dX9_restore_4 : decode cX9_restore 4 = .ok (.ifnonnull 14, 3) := by decide +kernel
theorem dX9_restore_7 : decode cX9_restore 7 = .ok (.new 90, 3) := by decide +kernel
theorem dX9_restore_10 : decode cX9_restore 10 = .ok (.dup, 1) := by decide +kernel
theorem dX9_restore_11 : decode cX9_restore 11 = .ok (.ldc_w 333, 3) := by decide +kernel
theorem dX9_restore_14 : decode cX9_restore 14 = .ok (.invokespecial 94, 3) := by decide +kernel
theorem dX9_restore_17 : decode cX9_restore 17 = .ok (.athrow, 1) := by decide +kernel
theorem dX9_restore_18 : decode cX9_restore 18 = .ok (.aload_n 0, 1) := by decide +kernel
theorem dX9_restore_19 : decode cX9_restore 19 = .ok (.getfield 10, 3) := by decide +kernel
theorem dX9_restore_22 : decode cX9_restore 22 = .ok (.aload_n 0, 1) := by decide +kernel
theorem dX9_restore_23 : decode cX9_restore 23 = .ok (.getfield 326, 3) := by decide +kernel
theorem dX9_restore_26 : decode cX9_restore 26 = .ok (.invokevirtual 329, 3) := by decide +kernel
theorem dX9_restore_29 : decode cX9_restore 29 = .ok (.aload_n 0, 1) := by decide +kernel
theorem dX9_restore_30 : decode cX9_restore 30 = .ok (.getfield 10, 3) := by decide +kernel
theorem dX9_restore_33 : decode cX9_restore 33 = .ok (.getfield 41, 3) := by decide +kernel
theorem dX9_restore_36 : decode cX9_restore 36 = .ok (.getfield 146, 3) := by decide +kernel
theorem dX9_restore_39 : decode cX9_restore 39 = .ok (.ireturn, 1) := by decide +kernel
theorem dX9_isWithin_0 : decode cX9_isWithin 0 = .ok (.iload_n 0, 1) := by decide +kernel
theorem dX9_isWithin_1 : decode cX9_isWithin 1 = .ok (.iload_n 1, 1) := by decide +kernel
theorem dX9_isWithin_2 : decode cX9_isWithin 2 = .ok (.if_icmp .lt 12, 3) := by decide +kernel
theorem dX9_isWithin_5 : decode cX9_isWithin 5 = .ok (.iload_n 0, 1) := by decide +kernel
theorem dX9_isWithin_6 : decode cX9_isWithin 6 = .ok (.iload_n 2, 1) := by decide +kernel
theorem dX9_isWithin_7 : decode cX9_isWithin 7 = .ok (.if_icmp .gt 7, 3) := by decide +kernel
theorem dX9_isWithin_10 : decode cX9_isWithin 10 = .ok (.iconst 1, 1) := by decide +kernel
theorem dX9_isWithin_11 : decode cX9_isWithin 11 = .ok (.goto 4, 3) := by decide +kernel
theorem dX9_isWithin_14 : decode cX9_isWithin 14 = .ok (.iconst 0, 1) := by decide +kernel
theorem dX9_isWithin_15 : decode cX9_isWithin 15 = .ok (.ireturn, 1) := by decide +kernel
theorem dX9_isBlock_0 : decode cX9_isBlock 0 = .ok (.iload_n 0, 1) := by decide +kernel
theorem dX9_isBlock_1 : decode cX9_isBlock 1 = .ok (.iconst 0, 1) := by decide +kernel
theorem dX9_isBlock_2 : decode cX9_isBlock 2 = .ok (.sipush 571, 3) := by decide +kernel
theorem dX9_isBlock_5 : decode cX9_isBlock 5 = .ok (.invokestatic 30, 3) := by decide +kernel
theorem dX9_isBlock_8 : decode cX9_isBlock 8 = .ok (.ireturn, 1) := by decide +kernel
theorem dX9_requireBlock_0 : decode cX9_requireBlock 0 = .ok (.iload_n 0, 1) := by decide +kernel
theorem dX9_requireBlock_1 : decode cX9_requireBlock 1 = .ok (.invokestatic 196, 3) := by decide +kernel
theorem dX9_requireBlock_4 : decode cX9_requireBlock 4 = .ok (.ifCond .ne 14, 3) := by decide +kernel
theorem dX9_requireBlock_7 : decode cX9_requireBlock 7 = .ok (.new 99, 3) := by decide +kernel
theorem dX9_requireBlock_10 : decode cX9_requireBlock 10 = .ok (.dup, 1) := by decide +kernel
theorem dX9_requireBlock_11 : decode cX9_requireBlock 11 = .ok (.ldc_w 335, 3) := by decide +kernel
theorem dX9_requireBlock_14 : decode cX9_requireBlock 14 = .ok (.invokespecial 103, 3) := by decide +kernel
theorem dX9_requireBlock_17 : decode cX9_requireBlock 17 = .ok (.athrow, 1) := by decide +kernel
theorem dX9_requireBlock_18 : decode cX9_requireBlock 18 = .ok (.return_, 1) := by decide +kernel
theorem dX9_requireRequest_0 : decode cX9_requireRequest 0 = .ok (.aload_n 0, 1) := by decide +kernel
theorem dX9_requireRequest_1 : decode cX9_requireRequest 1 = .ok (.getfield 10, 3) := by decide +kernel
theorem dX9_requireRequest_4 : decode cX9_requireRequest 4 = .ok (.getfield 219, 3) := by decide +kernel
theorem dX9_requireRequest_7 : decode cX9_requireRequest 7 = .ok (.iload_n 1, 1) := by decide +kernel
theorem dX9_requireRequest_8 : decode cX9_requireRequest 8 = .ok (.invokevirtual 337, 3) := by decide +kernel
theorem dX9_requireRequest_11 : decode cX9_requireRequest 11 = .ok (.astore_n 2, 1) := by decide +kernel
theorem dX9_requireRequest_12 : decode cX9_requireRequest 12 = .ok (.aload_n 2, 1) := by decide +kernel
theorem dX9_requireRequest_13 : decode cX9_requireRequest 13 = .ok (.ifnonnull 14, 3) := by decide +kernel
theorem dX9_requireRequest_16 : decode cX9_requireRequest 16 = .ok (.new 99, 3) := by decide +kernel
theorem dX9_requireRequest_19 : decode cX9_requireRequest 19 = .ok (.dup, 1) := by decide +kernel
theorem dX9_requireRequest_20 : decode cX9_requireRequest 20 = .ok (.ldc_w 340, 3) := by decide +kernel
theorem dX9_requireRequest_23 : decode cX9_requireRequest 23 = .ok (.invokespecial 103, 3) := by decide +kernel
theorem dX9_requireRequest_26 : decode cX9_requireRequest 26 = .ok (.athrow, 1) := by decide +kernel
theorem dX9_requireRequest_27 : decode cX9_requireRequest 27 = .ok (.aload_n 2, 1) := by decide +kernel
theorem dX9_requireRequest_28 : decode cX9_requireRequest 28 = .ok (.areturn, 1) := by decide +kernel
theorem dX9_requireFewPending_0 : decode cX9_requireFewPending 0 = .ok (.aload_n 0, 1) := by decide +kernel
theorem dX9_requireFewPending_1 : decode cX9_requireFewPending 1 = .ok (.getfield 10, 3) := by decide +kernel
theorem dX9_requireFewPending_4 : decode cX9_requireFewPending 4 = .ok (.getfield 219, 3) := by decide +kernel
theorem dX9_requireFewPending_7 : decode cX9_requireFewPending 7 = .ok (.getfield 238, 3) := by decide +kernel
theorem dX9_requireFewPending_10 : decode cX9_requireFewPending 10 = .ok (.bipush 6, 2) := by decide +kernel
theorem dX9_requireFewPending_12 : decode cX9_requireFewPending 12 = .ok (.if_icmp .le 14, 3) := by decide +kernel
theorem dX9_requireFewPending_15 : decode cX9_requireFewPending 15 = .ok (.new 138, 3) := by decide +kernel
theorem dX9_requireFewPending_18 : decode cX9_requireFewPending 18 = .ok (.dup, 1) := by decide +kernel
theorem dX9_requireFewPending_19 : decode cX9_requireFewPending 19 = .ok (.ldc_w 342, 3) := by decide +kernel
theorem dX9_requireFewPending_22 : decode cX9_requireFewPending 22 = .ok (.invokespecial 142, 3) := by decide +kernel
theorem dX9_requireFewPending_25 : decode cX9_requireFewPending 25 = .ok (.athrow, 1) := by decide +kernel
theorem dX9_requireFewPending_26 : decode cX9_requireFewPending 26 = .ok (.return_, 1) := by decide +kernel
theorem dX9_requireTimeToAccess_0 : decode cX9_requireTimeToAccess 0 = .ok (.aload_n 0, 1) := by decide +kernel
theorem dX9_requireTimeToAccess_1 : decode cX9_requireTimeToAccess 1 = .ok (.getfield 10, 3) := by decide +kernel
theorem dX9_requireTimeToAccess_4 : decode cX9_requireTimeToAccess 4 = .ok (.getfield 41, 3) := by decide +kernel
theorem dX9_requireTimeToAccess_7 : decode cX9_requireTimeToAccess 7 = .ok (.getfield 146, 3) := by decide +kernel
theorem dX9_requireTimeToAccess_10 : decode cX9_requireTimeToAccess 10 = .ok (.ldc 157, 2) := by decide +kernel
theorem dX9_requireTimeToAccess_12 : decode cX9_requireTimeToAccess 12 = .ok (.if_icmp .le 14, 3) := by decide +kernel
theorem dX9_requireTimeToAccess_15 : decode cX9_requireTimeToAccess 15 = .ok (.new 90, 3) := by decide +kernel
theorem dX9_requireTimeToAccess_18 : decode cX9_requireTimeToAccess 18 = .ok (.dup, 1) := by decide +kernel
theorem dX9_requireTimeToAccess_19 : decode cX9_requireTimeToAccess 19 = .ok (.ldc_w 344, 3) := by decide +kernel
theorem dX9_requireTimeToAccess_22 : decode cX9_requireTimeToAccess 22 = .ok (.invokespecial 94, 3) := by decide +kernel
theorem dX9_requireTimeToAccess_25 : decode cX9_requireTimeToAccess 25 = .ok (.athrow, 1) := by decide +kernel
theorem dX9_requireTimeToAccess_26 : decode cX9_requireTimeToAccess 26 = .ok (.return_, 1) := by decide +kernel
theorem dX9_copyNumbers_0 : decode cX9_copyNumbers 0 = .ok (.aload_n 0, 1) := by decide +kernel
theorem dX9_copyNumbers_1 : decode cX9_copyNumbers 1 = .ok (.iconst 0, 1) := by decide +kernel
theorem dX9_copyNumbers_2 : decode cX9_copyNumbers 2 = .ok (.aload_n 1, 1) := by decide +kernel
theorem dX9_copyNumbers_3 : decode cX9_copyNumbers 3 = .ok (.iconst 0, 1) := by decide +kernel
theorem dX9_copyNumbers_4 : decode cX9_copyNumbers 4 = .ok (.aload_n 0, 1) := by decide +kernel
theorem dX9_copyNumbers_5 : decode cX9_copyNumbers 5 = .ok (.arraylength, 1) := by decide +kernel
theorem dX9_copyNumbers_6 : decode cX9_copyNumbers 6 = .ok (.aload_n 1, 1) := by decide +kernel
theorem dX9_copyNumbers_7 : decode cX9_copyNumbers 7 = .ok (.arraylength, 1) := by decide +kernel
theorem dX9_copyNumbers_8 : decode cX9_copyNumbers 8 = .ok (.invokestatic 346, 3) := by decide +kernel
theorem dX9_copyNumbers_11 : decode cX9_copyNumbers 11 = .ok (.invokestatic 351, 3) := by decide +kernel
theorem dX9_copyNumbers_14 : decode cX9_copyNumbers 14 = .ok (.return_, 1) := by decide +kernel
theorem dX10_init_0 : decode cX10_init 0 = .ok (.aload_n 0, 1) := by decide +kernel
theorem dX10_init_1 : decode cX10_init 1 = .ok (.invokespecial 1, 3) := by decide +kernel
theorem dX10_init_4 : decode cX10_init 4 = .ok (.aload_n 0, 1) := by decide +kernel
theorem dX10_init_5 : decode cX10_init 5 = .ok (.sipush 1700, 3) := by decide +kernel
theorem dX10_init_8 : decode cX10_init 8 = .ok (.newarray .int, 2) := by decide +kernel
theorem dX10_init_10 : decode cX10_init 10 = .ok (.putfield 7, 3) := by decide +kernel
theorem dX10_init_13 : decode cX10_init 13 = .ok (.aload_n 0, 1) := by decide +kernel
theorem dX10_init_14 : decode cX10_init 14 = .ok (.sipush 1700, 3) := by decide +kernel
theorem dX10_init_17 : decode cX10_init 17 = .ok (.newarray .int, 2) := by decide +kernel
theorem dX10_init_19 : decode cX10_init 19 = .ok (.putfield 13, 3) := by decide +kernel
theorem dX10_init_22 : decode cX10_init 22 = .ok (.aload_n 0, 1) := by decide +kernel
theorem dX10_init_23 : decode cX10_init 23 = .ok (.bipush 40, 2) := by decide +kernel
theorem dX10_init_25 : decode cX10_init 25 = .ok (.newarray .int, 2) := by decide +kernel
theorem dX10_init_27 : decode cX10_init 27 = .ok (.putfield 16, 3) := by decide +kernel
theorem dX10_init_30 : decode cX10_init 30 = .ok (.aload_n 0, 1) := by decide +kernel
theorem dX10_init_31 : decode cX10_init 31 = .ok (.iconst (-1), 1) := by decide +kernel
theorem dX10_init_32 : decode cX10_init 32 = .ok (.putfield 19, 3) := by decide +kernel
theorem dX10_init_35 : decode cX10_init 35 = .ok (.aload_n 0, 1) := by decide +kernel
theorem dX10_init_36 : decode cX10_init 36 = .ok (.bipush 60, 2) := by decide +kernel
theorem dX10_init_38 : decode cX10_init 38 = .ok (.newarray .int, 2) := by decide +kernel
theorem dX10_init_40 : decode cX10_init 40 = .ok (.putfield 23, 3) := by decide +kernel
theorem dX10_init_43 : decode cX10_init 43 = .ok (.aload_n 0, 1) := by decide +kernel
theorem dX10_init_44 : decode cX10_init 44 = .ok (.bipush 12, 2) := by decide +kernel
theorem dX10_init_46 : decode cX10_init 46 = .ok (.newarray .int, 2) := by decide +kernel
theorem dX10_init_48 : decode cX10_init 48 = .ok (.putfield 26, 3) := by decide +kernel
theorem dX10_init_51 : decode cX10_init 51 = .ok (.aload_n 0, 1) := by decide +kernel
theorem dX10_init_52 : decode cX10_init 52 = .ok (.bipush 12, 2) := by decide +kernel
theorem dX10_init_54 : decode cX10_init 54 = .ok (.newarray .int, 2) := by decide +kernel
theorem dX10_init_56 : decode cX10_init 56 = .ok (.putfield 29, 3) := by decide +kernel
theorem dX10_init_59 : decode cX10_init 59 = .ok (.aload_n 0, 1) := by decide +kernel
theorem dX10_init_60 : decode cX10_init 60 = .ok (.bipush 12, 2) := by decide +kernel
theorem dX10_init_62 : decode cX10_init 62 = .ok (.newarray .int, 2) := by decide +kernel
theorem dX10_init_64 : decode cX10_init 64 = .ok (.putfield 32, 3) := by decide +kernel
theorem dX10_init_67 : decode cX10_init 67 = .ok (.aload_n 0, 1) := by decide +kernel
theorem dX10_init_68 : decode cX10_init 68 = .ok (.bipush 12, 2) := by decide +kernel
theorem dX10_init_70 : decode cX10_init 70 = .ok (.newarray .boolean, 2) := by decide +kernel
theorem dX10_init_72 : decode cX10_init 72 = .ok (.putfield 35, 3) := by decide +kernel
theorem dX10_init_75 : decode cX10_init 75 = .ok (.aload_n 0, 1) := by decide +kernel
theorem dX10_init_76 : decode cX10_init 76 = .ok (.getfield 7, 3) := by decide +kernel
theorem dX10_init_79 : decode cX10_init 79 = .ok (.iconst 0, 1) := by decide +kernel
theorem dX10_init_80 : decode cX10_init 80 = .ok (.bipush 10, 2) := by decide +kernel
theorem dX10_init_82 : decode cX10_init 82 = .ok (.iastore, 1) := by decide +kernel
theorem dX10_init_83 : decode cX10_init 83 = .ok (.aload_n 0, 1) := by decide +kernel
theorem dX10_init_84 : decode cX10_init 84 = .ok (.getfield 7, 3) := by decide +kernel
theorem dX10_init_87 : decode cX10_init 87 = .ok (.iconst 1, 1) := by decide +kernel
theorem dX10_init_88 : decode cX10_init 88 = .ok (.iconst 4, 1) := by decide +kernel
theorem dX10_init_89 : decode cX10_init 89 = .ok (.iastore, 1) := by decide +kernel
theorem dX10_init_90 : decode cX10_init 90 = .ok (.aload_n 0, 1) := by decide +kernel
theorem dX10_init_91 : decode cX10_init 91 = .ok (.getfield 7, 3) := by decide +kernel
theorem dX10_init_94 : decode cX10_init 94 = .ok (.iconst 2, 1) := by decide +kernel
theorem dX10_init_95 : decode cX10_init 95 = .ok (.iconst 1, 1) := by decide +kernel
theorem dX10_init_96 : decode cX10_init 96 = .ok (.iastore, 1) := by decide +kernel
theorem dX10_init_97 : decode cX10_init 97 = .ok (.aload_n 0, 1) := by decide +kernel
theorem dX10_init_98 : decode cX10_init 98 = .ok (.getfield 7, 3) := by decide +kernel
theorem dX10_init_101 : decode cX10_init 101 = .ok (.iconst 5, 1) := by decide +kernel
theorem dX10_init_102 : decode cX10_init 102 = .ok (.sipush 200, 3) := by decide +kernel
theorem dX10_init_105 : decode cX10_init 105 = .ok (.iastore, 1) := by decide +kernel
theorem dX10_init_106 : decode cX10_init 106 = .ok (.aload_n 0, 1) := by decide +kernel
theorem dX10_init_107 : decode cX10_init 107 = .ok (.getfield 7, 3) := by decide +kernel
theorem dX10_init_110 : decode cX10_init 110 = .ok (.bipush 6, 2) := by decide +kernel
theorem dX10_init_112 : decode cX10_init 112 = .ok (.sipush 1000, 3) := by decide +kernel
theorem dX10_init_115 : decode cX10_init 115 = .ok (.iastore, 1) := by decide +kernel
theorem dX10_init_116 : decode cX10_init 116 = .ok (.aload_n 0, 1) := by decide +kernel
theorem dX10_init_117 : decode cX10_init 117 = .ok (.getfield 7, 3) := by decide +kernel
theorem dX10_init_120 : decode cX10_init 120 = .ok (.bipush 10, 2) := by decide +kernel
theorem dX10_init_122 : decode cX10_init 122 = .ok (.iconst 1, 1) := by decide +kernel
theorem dX10_init_123 : decode cX10_init 123 = .ok (.iastore, 1) := by decide +kernel
theorem dX10_init_124 : decode cX10_init 124 = .ok (.return_, 1) := by decide +kernel
theorem dX10_thrown_0 : decode cX10_thrown 0 = .ok (.aload_n 0, 1) := by decide +kernel
theorem dX10_thrown_1 : decode cX10_thrown 1 = .ok (.getfield 39, 3) := by decide +kernel
theorem dX10_thrown_4 : decode cX10_thrown 4 = .ok (.ireturn, 1) := by decide +kernel
theorem dX10_fails_0 : decode cX10_fails 0 = .ok (.aload_n 0, 1) := by decide +kernel
theorem dX10_fails_1 : decode cX10_fails 1 = .ok (.iload_n 1, 1) := by decide +kernel
theorem dX10_fails_2 : decode cX10_fails 2 = .ok (.putfield 39, 3) := by decide +kernel
theorem dX10_fails_5 : decode cX10_fails 5 = .ok (.iconst 0, 1) := by decide +kernel
theorem dX10_fails_6 : decode cX10_fails 6 = .ok (.ireturn, 1) := by decide +kernel
theorem dX10_in_0 : decode cX10_in 0 = .ok (.iload_n 0, 1) := by decide +kernel
theorem dX10_in_1 : decode cX10_in 1 = .ok (.iload_n 1, 1) := by decide +kernel
theorem dX10_in_2 : decode cX10_in 2 = .ok (.if_icmp .lt 12, 3) := by decide +kernel
theorem dX10_in_5 : decode cX10_in 5 = .ok (.iload_n 0, 1) := by decide +kernel
theorem dX10_in_6 : decode cX10_in 6 = .ok (.iload_n 2, 1) := by decide +kernel
theorem dX10_in_7 : decode cX10_in 7 = .ok (.if_icmp .gt 7, 3) := by decide +kernel
theorem dX10_in_10 : decode cX10_in 10 = .ok (.iconst 1, 1) := by decide +kernel
theorem dX10_in_11 : decode cX10_in 11 = .ok (.goto 4, 3) := by decide +kernel
theorem dX10_in_14 : decode cX10_in 14 = .ok (.iconst 0, 1) := by decide +kernel
theorem dX10_in_15 : decode cX10_in 15 = .ok (.ireturn, 1) := by decide +kernel
theorem dX10_isBlock_0 : decode cX10_isBlock 0 = .ok (.iload_n 0, 1) := by decide +kernel
theorem dX10_isBlock_1 : decode cX10_isBlock 1 = .ok (.iconst 0, 1) := by decide +kernel
theorem dX10_isBlock_2 : decode cX10_isBlock 2 = .ok (.sipush 571, 3) := by decide +kernel
theorem dX10_isBlock_5 : decode cX10_isBlock 5 = .ok (.invokestatic 42, 3) := by decide +kernel
theorem dX10_isBlock_8 : decode cX10_isBlock 8 = .ok (.ireturn, 1) := by decide +kernel
theorem dX10_isRequest_0 : decode cX10_isRequest 0 = .ok (.iload_n 1, 1) := by decide +kernel
theorem dX10_isRequest_1 : decode cX10_isRequest 1 = .ok (.iconst 0, 1) := by decide +kernel
theorem dX10_isRequest_2 : decode cX10_isRequest 2 = .ok (.aload_n 0, 1) := by decide +kernel
theorem dX10_isRequest_3 : decode cX10_isRequest 3 = .ok (.getfield 7, 3) := by decide +kernel
theorem dX10_isRequest_6 : decode cX10_isRequest 6 = .ok (.bipush 12, 2) := by decide +kernel
theorem dX10_isRequest_8 : decode cX10_isRequest 8 = .ok (.iaload, 1) := by decide +kernel
theorem dX10_isRequest_9 : decode cX10_isRequest 9 = .ok (.iconst 1, 1) := by decide +kernel
theorem dX10_isRequest_10 : decode cX10_isRequest 10 = .ok (.isub, 1) := by decide +kernel
theorem dX10_isRequest_11 : decode cX10_isRequest 11 = .ok (.invokestatic 42, 3) := by decide +kernel
theorem dX10_isRequest_14 : decode cX10_isRequest 14 = .ok (.ireturn, 1) := by decide +kernel
theorem dX10_sectorsOf_0 : decode cX10_sectorsOf 0 = .ok (.bipush 12, 2) := by decide +kernel
theorem dX10_sectorsOf_2 : decode cX10_sectorsOf 2 = .ok (.iconst 2, 1) := by decide +kernel
theorem dX10_sectorsOf_3 : decode cX10_sectorsOf 3 = .ok (.iload_n 0, 1) := by decide +kernel
theorem dX10_sectorsOf_4 : decode cX10_sectorsOf 4 = .ok (.bipush 16, 2) := by decide +kernel
theorem dX10_sectorsOf_6 : decode cX10_sectorsOf 6 = .ok (.idiv, 1) := by decide +kernel
theorem dX10_sectorsOf_7 : decode cX10_sectorsOf 7 = .ok (.imul, 1) := by decide +kernel
theorem dX10_sectorsOf_8 : decode cX10_sectorsOf 8 = .ok (.isub, 1) := by decide +kernel
theorem dX10_sectorsOf_9 : decode cX10_sectorsOf 9 = .ok (.ireturn, 1) := by decide +kernel
theorem dX10_ticksOf_0 : decode cX10_ticksOf 0 = .ok (.bipush 120, 2) := by decide +kernel
theorem dX10_ticksOf_2 : decode cX10_ticksOf 2 = .ok (.iload_n 0, 1) := by decide +kernel
theorem dX10_ticksOf_3 : decode cX10_ticksOf 3 = .ok (.invokestatic 46, 3) := by decide +kernel
theorem dX10_ticksOf_6 : decode cX10_ticksOf 6 = .ok (.idiv, 1) := by decide +kernel
theorem dX10_ticksOf_7 : decode cX10_ticksOf 7 = .ok (.ireturn, 1) := by decide +kernel
theorem dX10_zoneAt_0 : decode cX10_zoneAt 0 = .ok (.iload_n 0, 1) := by decide +kernel
theorem dX10_zoneAt_1 : decode cX10_zoneAt 1 = .ok (.ifCond .ne 7, 3) := by decide +kernel
theorem dX10_zoneAt_4 : decode cX10_zoneAt 4 = .ok (.iconst 0, 1) := by decide +kernel
theorem dX10_zoneAt_5 : decode cX10_zoneAt 5 = .ok (.goto 28, 3) := by decide +kernel
theorem dX10_zoneAt_8 : decode cX10_zoneAt 8 = .ok (.iload_n 0, 1) := by decide +kernel
theorem dX10_zoneAt_9 : decode cX10_zoneAt 9 = .ok (.iconst 1, 1) := by decide +kernel
theorem dX10_zoneAt_10 : decode cX10_zoneAt 10 = .ok (.if_icmp .ne 9, 3) := by decide +kernel
theorem dX10_zoneAt_13 : decode cX10_zoneAt 13 = .ok (.sipush 192, 3) := by decide +kernel
theorem dX10_zoneAt_16 : decode cX10_zoneAt 16 = .ok (.goto 17, 3) := by decide +kernel
theorem dX10_zoneAt_19 : decode cX10_zoneAt 19 = .ok (.iload_n 0, 1) := by decide +kernel
theorem dX10_zoneAt_20 : decode cX10_zoneAt 20 = .ok (.iconst 2, 1) := by decide +kernel
theorem dX10_zoneAt_21 : decode cX10_zoneAt 21 = .ok (.if_icmp .ne 9, 3) := by decide +kernel
theorem dX10_zoneAt_24 : decode cX10_zoneAt 24 = .ok (.sipush 352, 3) := by decide +kernel
theorem dX10_zoneAt_27 : decode cX10_zoneAt 27 = .ok (.goto 6, 3) := by decide +kernel
theorem dX10_zoneAt_30 : decode cX10_zoneAt 30 = .ok (.sipush 480, 3) := by decide +kernel
theorem dX10_zoneAt_33 : decode cX10_zoneAt 33 = .ok (.ireturn, 1) := by decide +kernel
theorem dX10_firstOf_0 : decode cX10_firstOf 0 = .ok (.iload_n 0, 1) := by decide +kernel
theorem dX10_firstOf_1 : decode cX10_firstOf 1 = .ok (.bipush 16, 2) := by decide +kernel
theorem dX10_firstOf_3 : decode cX10_firstOf 3 = .ok (.idiv, 1) := by decide +kernel
theorem dX10_firstOf_4 : decode cX10_firstOf 4 = .ok (.invokestatic 50, 3) := by decide +kernel
theorem dX10_firstOf_7 : decode cX10_firstOf 7 = .ok (.iload_n 0, 1) := by decide +kernel
theorem dX10_firstOf_8 : decode cX10_firstOf 8 = .ok (.bipush 16, 2) := by decide +kernel
theorem dX10_firstOf_10 : decode cX10_firstOf 10 = .ok (.irem, 1) := by decide +kernel
theorem dX10_firstOf_11 : decode cX10_firstOf 11 = .ok (.iload_n 0, 1) := by decide +kernel
theorem dX10_firstOf_12 : decode cX10_firstOf 12 = .ok (.invokestatic 46, 3) := by decide +kernel
theorem dX10_firstOf_15 : decode cX10_firstOf 15 = .ok (.imul, 1) := by decide +kernel
theorem dX10_firstOf_16 : decode cX10_firstOf 16 = .ok (.iadd, 1) := by decide +kernel
theorem dX10_firstOf_17 : decode cX10_firstOf 17 = .ok (.ireturn, 1) := by decide +kernel
theorem dX10_cylinderAt_0 : decode cX10_cylinderAt 0 = .ok (.iload_n 0, 1) := by decide +kernel
theorem dX10_cylinderAt_1 : decode cX10_cylinderAt 1 = .ok (.sipush 192, 3) := by decide +kernel
theorem dX10_cylinderAt_4 : decode cX10_cylinderAt 4 = .ok (.if_icmp .ge 7, 3) := by decide +kernel
theorem dX10_cylinderAt_7 : decode cX10_cylinderAt 7 = .ok (.iconst 0, 1) := by decide +kernel
theorem dX10_cylinderAt_8 : decode cX10_cylinderAt 8 = .ok (.goto 26, 3) := by decide +kernel
theorem dX10_cylinderAt_11 : decode cX10_cylinderAt 11 = .ok (.iload_n 0, 1) := by decide +kernel
theorem dX10_cylinderAt_12 : decode cX10_cylinderAt 12 = .ok (.sipush 352, 3) := by decide +kernel
theorem dX10_cylinderAt_15 : decode cX10_cylinderAt 15 = .ok (.if_icmp .ge 7, 3) := by decide +kernel
theorem dX10_cylinderAt_18 : decode cX10_cylinderAt 18 = .ok (.iconst 1, 1) := by decide +kernel
theorem dX10_cylinderAt_19 : decode cX10_cylinderAt 19 = .ok (.goto 15, 3) := by decide +kernel
theorem dX10_cylinderAt_22 : decode cX10_cylinderAt 22 = .ok (.iload_n 0, 1) := by decide +kernel
theorem dX10_cylinderAt_23 : decode cX10_cylinderAt 23 = .ok (.sipush 480, 3) := by decide +kernel
theorem dX10_cylinderAt_26 : decode cX10_cylinderAt 26 = .ok (.if_icmp .ge 7, 3) := by decide +kernel
theorem dX10_cylinderAt_29 : decode cX10_cylinderAt 29 = .ok (.iconst 2, 1) := by decide +kernel
theorem dX10_cylinderAt_30 : decode cX10_cylinderAt 30 = .ok (.goto 4, 3) := by decide +kernel
theorem dX10_cylinderAt_33 : decode cX10_cylinderAt 33 = .ok (.iconst 3, 1) := by decide +kernel
theorem dX10_cylinderAt_34 : decode cX10_cylinderAt 34 = .ok (.istore_n 1, 1) := by decide +kernel
theorem dX10_cylinderAt_35 : decode cX10_cylinderAt 35 = .ok (.bipush 16, 2) := by decide +kernel
theorem dX10_cylinderAt_37 : decode cX10_cylinderAt 37 = .ok (.iload_n 1, 1) := by decide +kernel
theorem dX10_cylinderAt_38 : decode cX10_cylinderAt 38 = .ok (.imul, 1) := by decide +kernel
theorem dX10_cylinderAt_39 : decode cX10_cylinderAt 39 = .ok (.iload_n 0, 1) := by decide +kernel
theorem dX10_cylinderAt_40 : decode cX10_cylinderAt 40 = .ok (.iload_n 1, 1) := by decide +kernel
theorem dX10_cylinderAt_41 : decode cX10_cylinderAt 41 = .ok (.invokestatic 50, 3) := by decide +kernel
theorem dX10_cylinderAt_44 : decode cX10_cylinderAt 44 = .ok (.isub, 1) := by decide +kernel
theorem dX10_cylinderAt_45 : decode cX10_cylinderAt 45 = .ok (.bipush 16, 2) := by decide +kernel
theorem dX10_cylinderAt_47 : decode cX10_cylinderAt 47 = .ok (.iload_n 1, 1) := by decide +kernel
theorem dX10_cylinderAt_48 : decode cX10_cylinderAt 48 = .ok (.imul, 1) := by decide +kernel
theorem dX10_cylinderAt_49 : decode cX10_cylinderAt 49 = .ok (.invokestatic 46, 3) := by decide +kernel
theorem dX10_cylinderAt_52 : decode cX10_cylinderAt 52 = .ok (.idiv, 1) := by decide +kernel
theorem dX10_cylinderAt_53 : decode cX10_cylinderAt 53 = .ok (.iadd, 1) := by decide +kernel
theorem dX10_cylinderAt_54 : decode cX10_cylinderAt 54 = .ok (.ireturn, 1) := by decide +kernel
theorem dX10_place_0 : decode cX10_place 0 = .ok (.iconst 0, 1) := by decide +kernel
theorem dX10_place_1 : decode cX10_place 1 = .ok (.istore_n 2, 1) := by decide +kernel
theorem dX10_place_2 : decode cX10_place 2 = .ok (.iload_n 2, 1) := by decide +kernel
theorem dX10_place_3 : decode cX10_place 3 = .ok (.aload_n 0, 1) := by decide +kernel
theorem dX10_place_4 : decode cX10_place 4 = .ok (.getfield 7, 3) := by decide +kernel
theorem dX10_place_7 : decode cX10_place 7 = .ok (.bipush 11, 2) := by decide +kernel
theorem dX10_place_9 : decode cX10_place 9 = .ok (.iaload, 1) := by decide +kernel
theorem dX10_place_10 : decode cX10_place 10 = .ok (.if_icmp .ge 28, 3) := by decide +kernel
theorem dX10_place_13 : decode cX10_place 13 = .ok (.aload_n 0, 1) := by decide +kernel
theorem dX10_place_14 : decode cX10_place 14 = .ok (.getfield 7, 3) := by decide +kernel
theorem dX10_place_17 : decode cX10_place 17 = .ok (.bipush 20, 2) := by decide +kernel
theorem dX10_place_19 : decode cX10_place 19 = .ok (.iload_n 2, 1) := by decide +kernel
theorem dX10_place_20 : decode cX10_place 20 = .ok (.iadd, 1) := by decide +kernel
theorem dX10_place_21 : decode cX10_place 21 = .ok (.iaload, 1) := by decide +kernel
theorem dX10_place_22 : decode cX10_place 22 = .ok (.iload_n 1, 1) := by decide +kernel
theorem dX10_place_23 : decode cX10_place 23 = .ok (.if_icmp .ne 9, 3) := by decide +kernel
theorem dX10_place_26 : decode cX10_place 26 = .ok (.sipush 572, 3) := by decide +kernel
theorem dX10_place_29 : decode cX10_place 29 = .ok (.iload_n 2, 1) := by decide +kernel
theorem dX10_place_30 : decode cX10_place 30 = .ok (.iadd, 1) := by decide +kernel
theorem dX10_place_31 : decode cX10_place 31 = .ok (.ireturn, 1) := by decide +kernel
theorem dX10_place_32 : decode cX10_place 32 = .ok (.iinc 2 1, 3) := by decide +kernel
theorem dX10_place_35 : decode cX10_place 35 = .ok (.goto (-33), 3) := by decide +kernel
theorem dX10_place_38 : decode cX10_place 38 = .ok (.iload_n 1, 1) := by decide +kernel
theorem dX10_place_39 : decode cX10_place 39 = .ok (.ireturn, 1) := by decide +kernel
theorem dX10_angleAt_0 : decode cX10_angleAt 0 = .ok (.iload_n 1, 1) := by decide +kernel
theorem dX10_angleAt_1 : decode cX10_angleAt 1 = .ok (.invokestatic 53, 3) := by decide +kernel
theorem dX10_angleAt_4 : decode cX10_angleAt 4 = .ok (.istore_n 2, 1) := by decide +kernel
theorem dX10_angleAt_5 : decode cX10_angleAt 5 = .ok (.iload_n 1, 1) := by decide +kernel
theorem dX10_angleAt_6 : decode cX10_angleAt 6 = .ok (.iload_n 2, 1) := by decide +kernel
theorem dX10_angleAt_7 : decode cX10_angleAt 7 = .ok (.invokestatic 56, 3) := by decide +kernel
theorem dX10_angleAt_10 : decode cX10_angleAt 10 = .ok (.isub, 1) := by decide +kernel
theorem dX10_angleAt_11 : decode cX10_angleAt 11 = .ok (.iload_n 2, 1) := by decide +kernel
theorem dX10_angleAt_12 : decode cX10_angleAt 12 = .ok (.invokestatic 59, 3) := by decide +kernel
theorem dX10_angleAt_15 : decode cX10_angleAt 15 = .ok (.imul, 1) := by decide +kernel
theorem dX10_angleAt_16 : decode cX10_angleAt 16 = .ok (.iload_n 2, 1) := by decide +kernel
theorem dX10_angleAt_17 : decode cX10_angleAt 17 = .ok (.aload_n 0, 1) := by decide +kernel
theorem dX10_angleAt_18 : decode cX10_angleAt 18 = .ok (.getfield 7, 3) := by decide +kernel
theorem dX10_angleAt_21 : decode cX10_angleAt 21 = .ok (.iconst 3, 1) := by decide +kernel
theorem dX10_angleAt_22 : decode cX10_angleAt 22 = .ok (.iaload, 1) := by decide +kernel
theorem dX10_angleAt_23 : decode cX10_angleAt 23 = .ok (.imul, 1) := by decide +kernel
theorem dX10_angleAt_24 : decode cX10_angleAt 24 = .ok (.iadd, 1) := by decide +kernel
theorem dX10_angleAt_25 : decode cX10_angleAt 25 = .ok (.bipush 120, 2) := by decide +kernel
theorem dX10_angleAt_27 : decode cX10_angleAt 27 = .ok (.irem, 1) := by decide +kernel
theorem dX10_angleAt_28 : decode cX10_angleAt 28 = .ok (.ireturn, 1) := by decide +kernel
theorem dX10_rootOf_0 : decode cX10_rootOf 0 = .ok (.iconst 0, 1) := by decide +kernel
theorem dX10_rootOf_1 : decode cX10_rootOf 1 = .ok (.istore_n 1, 1) := by decide +kernel
theorem dX10_rootOf_2 : decode cX10_rootOf 2 = .ok (.iload_n 1, 1) := by decide +kernel
theorem dX10_rootOf_3 : decode cX10_rootOf 3 = .ok (.iconst 1, 1) := by decide +kernel
theorem dX10_rootOf_4 : decode cX10_rootOf 4 = .ok (.iadd, 1) := by decide +kernel
theorem dX10_rootOf_5 : decode cX10_rootOf 5 = .ok (.iload_n 1, 1) := by decide +kernel
theorem dX10_rootOf_6 : decode cX10_rootOf 6 = .ok (.iconst 1, 1) := by decide +kernel
theorem dX10_rootOf_7 : decode cX10_rootOf 7 = .ok (.iadd, 1) := by decide +kernel
theorem dX10_rootOf_8 : decode cX10_rootOf 8 = .ok (.imul, 1) := by decide +kernel
theorem dX10_rootOf_9 : decode cX10_rootOf 9 = .ok (.iload_n 0, 1) := by decide +kernel
theorem dX10_rootOf_10 : decode cX10_rootOf 10 = .ok (.if_icmp .gt 9, 3) := by decide +kernel
theorem dX10_rootOf_13 : decode cX10_rootOf 13 = .ok (.iinc 1 1, 3) := by decide +kernel
theorem dX10_rootOf_16 : decode cX10_rootOf 16 = .ok (.goto (-14), 3) := by decide +kernel
theorem dX10_rootOf_19 : decode cX10_rootOf 19 = .ok (.iload_n 1, 1) := by decide +kernel
theorem dX10_rootOf_20 : decode cX10_rootOf 20 = .ok (.ireturn, 1) := by decide +kernel
theorem dX10_seek_0 : decode cX10_seek 0 = .ok (.iload_n 1, 1) := by decide +kernel
theorem dX10_seek_1 : decode cX10_seek 1 = .ok (.iload_n 2, 1) := by decide +kernel
theorem dX10_seek_2 : decode cX10_seek 2 = .ok (.if_icmp .ge 9, 3) := by decide +kernel
theorem dX10_seek_5 : decode cX10_seek 5 = .ok (.iload_n 2, 1) := by decide +kernel
theorem dX10_seek_6 : decode cX10_seek 6 = .ok (.iload_n 1, 1) := by decide +kernel
theorem dX10_seek_7 : decode cX10_seek 7 = .ok (.isub, 1) := by decide +kernel
theorem dX10_seek_8 : decode cX10_seek 8 = .ok (.goto 6, 3) := by decide +kernel
theorem dX10_seek_11 : decode cX10_seek 11 = .ok (.iload_n 1, 1) := by decide +kernel
theorem dX10_seek_12 : decode cX10_seek 12 = .ok (.iload_n 2, 1) := by decide +kernel
theorem dX10_seek_13 : decode cX10_seek 13 = .ok (.isub, 1) := by decide +kernel
theorem dX10_seek_14 : decode cX10_seek 14 = .ok (.istore_n 3, 1) := by decide +kernel
theorem dX10_seek_15 : decode cX10_seek 15 = .ok (.iload_n 3, 1) := by decide +kernel
theorem dX10_seek_16 : decode cX10_seek 16 = .ok (.ifCond .ne 7, 3) := by decide +kernel
theorem dX10_seek_19 : decode cX10_seek 19 = .ok (.iconst 0, 1) := by decide +kernel
theorem dX10_seek_20 : decode cX10_seek 20 = .ok (.goto 30, 3) := by decide +kernel
theorem dX10_seek_23 : decode cX10_seek 23 = .ok (.aload_n 0, 1) := by decide +kernel
theorem dX10_seek_24 : decode cX10_seek 24 = .ok (.getfield 7, 3) := by decide +kernel
theorem dX10_seek_27 : decode cX10_seek 27 = .ok (.iconst 0, 1) := by decide +kernel
theorem dX10_seek_28 : decode cX10_seek 28 = .ok (.iaload, 1) := by decide +kernel
theorem dX10_seek_29 : decode cX10_seek 29 = .ok (.aload_n 0, 1) := by decide +kernel
theorem dX10_seek_30 : decode cX10_seek 30 = .ok (.getfield 7, 3) := by decide +kernel
theorem dX10_seek_33 : decode cX10_seek 33 = .ok (.iconst 1, 1) := by decide +kernel
theorem dX10_seek_34 : decode cX10_seek 34 = .ok (.iaload, 1) := by decide +kernel
theorem dX10_seek_35 : decode cX10_seek 35 = .ok (.iload_n 3, 1) := by decide +kernel
theorem dX10_seek_36 : decode cX10_seek 36 = .ok (.invokestatic 62, 3) := by decide +kernel
theorem dX10_seek_39 : decode cX10_seek 39 = .ok (.imul, 1) := by decide +kernel
theorem dX10_seek_40 : decode cX10_seek 40 = .ok (.iadd, 1) := by decide +kernel
theorem dX10_seek_41 : decode cX10_seek 41 = .ok (.aload_n 0, 1) := by decide +kernel
theorem dX10_seek_42 : decode cX10_seek 42 = .ok (.getfield 7, 3) := by decide +kernel
theorem dX10_seek_45 : decode cX10_seek 45 = .ok (.iconst 2, 1) := by decide +kernel
theorem dX10_seek_46 : decode cX10_seek 46 = .ok (.iaload, 1) := by decide +kernel
theorem dX10_seek_47 : decode cX10_seek 47 = .ok (.iload_n 3, 1) := by decide +kernel
theorem dX10_seek_48 : decode cX10_seek 48 = .ok (.imul, 1) := by decide +kernel
theorem dX10_seek_49 : decode cX10_seek 49 = .ok (.iadd, 1) := by decide +kernel
theorem dX10_seek_50 : decode cX10_seek 50 = .ok (.ireturn, 1) := by decide +kernel
theorem dX10_waits_0 : decode cX10_waits 0 = .ok (.aload_n 0, 1) := by decide +kernel
theorem dX10_waits_1 : decode cX10_waits 1 = .ok (.iload_n 2, 1) := by decide +kernel
theorem dX10_waits_2 : decode cX10_waits 2 = .ok (.invokevirtual 65, 3) := by decide +kernel
theorem dX10_waits_5 : decode cX10_waits 5 = .ok (.iload_n 1, 1) := by decide +kernel
theorem dX10_waits_6 : decode cX10_waits 6 = .ok (.bipush 120, 2) := by decide +kernel
theorem dX10_waits_8 : decode cX10_waits 8 = .ok (.irem, 1) := by decide +kernel
theorem dX10_waits_9 : decode cX10_waits 9 = .ok (.isub, 1) := by decide +kernel
theorem dX10_waits_10 : decode cX10_waits 10 = .ok (.bipush 120, 2) := by decide +kernel
theorem dX10_waits_12 : decode cX10_waits 12 = .ok (.iadd, 1) := by decide +kernel
theorem dX10_waits_13 : decode cX10_waits 13 = .ok (.bipush 120, 2) := by decide +kernel
theorem dX10_waits_15 : decode cX10_waits 15 = .ok (.irem, 1) := by decide +kernel
theorem dX10_waits_16 : decode cX10_waits 16 = .ok (.ireturn, 1) := by decide +kernel
theorem dX10_ends_0 : decode cX10_ends 0 = .ok (.iload_n 3, 1) := by decide +kernel
theorem dX10_ends_1 : decode cX10_ends 1 = .ok (.invokestatic 53, 3) := by decide +kernel
theorem dX10_ends_4 : decode cX10_ends 4 = .ok (.istore 4, 2) := by decide +kernel
theorem dX10_ends_6 : decode cX10_ends 6 = .ok (.iload_n 1, 1) := by decide +kernel
theorem dX10_ends_7 : decode cX10_ends 7 = .ok (.aload_n 0, 1) := by decide +kernel
theorem dX10_ends_8 : decode cX10_ends 8 = .ok (.iload_n 2, 1) := by decide +kernel
theorem dX10_ends_9 : decode cX10_ends 9 = .ok (.iload 4, 2) := by decide +kernel
theorem dX10_ends_11 : decode cX10_ends 11 = .ok (.invokevirtual 68, 3) := by decide +kernel
theorem dX10_ends_14 : decode cX10_ends 14 = .ok (.iadd, 1) := by decide +kernel
theorem dX10_ends_15 : decode cX10_ends 15 = .ok (.istore 5, 2) := by decide +kernel
theorem dX10_ends_17 : decode cX10_ends 17 = .ok (.iload 5, 2) := by decide +kernel
theorem dX10_ends_19 : decode cX10_ends 19 = .ok (.aload_n 0, 1) := by decide +kernel
theorem dX10_ends_20 : decode cX10_ends 20 = .ok (.iload 5, 2) := by decide +kernel
theorem dX10_ends_22 : decode cX10_ends 22 = .ok (.iload_n 3, 1) := by decide +kernel
theorem dX10_ends_23 : decode cX10_ends 23 = .ok (.invokevirtual 72, 3) := by decide +kernel
theorem dX10_ends_26 : decode cX10_ends 26 = .ok (.iadd, 1) := by decide +kernel
theorem dX10_ends_27 : decode cX10_ends 27 = .ok (.iload 4, 2) := by decide +kernel
theorem dX10_ends_29 : decode cX10_ends 29 = .ok (.invokestatic 59, 3) := by decide +kernel
theorem dX10_ends_32 : decode cX10_ends 32 = .ok (.iadd, 1) := by decide +kernel
theorem dX10_ends_33 : decode cX10_ends 33 = .ok (.ireturn, 1) := by decide +kernel
theorem dX10_accesses_0 : decode cX10_accesses 0 = .ok (.iload_n 1, 1) := by decide +kernel
theorem dX10_accesses_1 : decode cX10_accesses 1 = .ok (.invokestatic 53, 3) := by decide +kernel
theorem dX10_accesses_4 : decode cX10_accesses 4 = .ok (.istore_n 2, 1) := by decide +kernel
theorem dX10_accesses_5 : decode cX10_accesses 5 = .ok (.aload_n 0, 1) := by decide +kernel
theorem dX10_accesses_6 : decode cX10_accesses 6 = .ok (.aload_n 0, 1) := by decide +kernel
theorem dX10_accesses_7 : decode cX10_accesses 7 = .ok (.getfield 7, 3) := by decide +kernel
theorem dX10_accesses_10 : decode cX10_accesses 10 = .ok (.bipush 9, 2) := by decide +kernel
theorem dX10_accesses_12 : decode cX10_accesses 12 = .ok (.iaload, 1) := by decide +kernel
theorem dX10_accesses_13 : decode cX10_accesses 13 = .ok (.iload_n 2, 1) := by decide +kernel
theorem dX10_accesses_14 : decode cX10_accesses 14 = .ok (.invokevirtual 68, 3) := by decide +kernel
theorem dX10_accesses_17 : decode cX10_accesses 17 = .ok (.istore_n 3, 1) := by decide +kernel
theorem dX10_accesses_18 : decode cX10_accesses 18 = .ok (.aload_n 0, 1) := by decide +kernel
theorem dX10_accesses_19 : decode cX10_accesses 19 = .ok (.aload_n 0, 1) := by decide +kernel
theorem dX10_accesses_20 : decode cX10_accesses 20 = .ok (.getfield 7, 3) := by decide +kernel
theorem dX10_accesses_23 : decode cX10_accesses 23 = .ok (.bipush 8, 2) := by decide +kernel
theorem dX10_accesses_25 : decode cX10_accesses 25 = .ok (.iaload, 1) := by decide +kernel
theorem dX10_accesses_26 : decode cX10_accesses 26 = .ok (.iload_n 3, 1) := by decide +kernel
theorem dX10_accesses_27 : decode cX10_accesses 27 = .ok (.iadd, 1) := by decide +kernel
theorem dX10_accesses_28 : decode cX10_accesses 28 = .ok (.iload_n 1, 1) := by decide +kernel
theorem dX10_accesses_29 : decode cX10_accesses 29 = .ok (.invokevirtual 72, 3) := by decide +kernel
theorem dX10_accesses_32 : decode cX10_accesses 32 = .ok (.istore 4, 2) := by decide +kernel
theorem dX10_accesses_34 : decode cX10_accesses 34 = .ok (.aload_n 0, 1) := by decide +kernel
theorem dX10_accesses_35 : decode cX10_accesses 35 = .ok (.getfield 7, 3) := by decide +kernel
theorem dX10_accesses_38 : decode cX10_accesses 38 = .ok (.bipush 13, 2) := by decide +kernel
theorem dX10_accesses_40 : decode cX10_accesses 40 = .ok (.dup2, 1) := by decide +kernel
theorem dX10_accesses_41 : decode cX10_accesses 41 = .ok (.iaload, 1) := by decide +kernel
theorem dX10_accesses_42 : decode cX10_accesses 42 = .ok (.iload_n 3, 1) := by decide +kernel
theorem dX10_accesses_43 : decode cX10_accesses 43 = .ok (.iadd, 1) := by decide +kernel
theorem dX10_accesses_44 : decode cX10_accesses 44 = .ok (.iastore, 1) := by decide +kernel
theorem dX10_accesses_45 : decode cX10_accesses 45 = .ok (.aload_n 0, 1) := by decide +kernel
theorem dX10_accesses_46 : decode cX10_accesses 46 = .ok (.getfield 7, 3) := by decide +kernel
theorem dX10_accesses_49 : decode cX10_accesses 49 = .ok (.bipush 14, 2) := by decide +kernel
theorem dX10_accesses_51 : decode cX10_accesses 51 = .ok (.dup2, 1) := by decide +kernel
theorem dX10_accesses_52 : decode cX10_accesses 52 = .ok (.iaload, 1) := by decide +kernel
theorem dX10_accesses_53 : decode cX10_accesses 53 = .ok (.iload 4, 2) := by decide +kernel
theorem dX10_accesses_55 : decode cX10_accesses 55 = .ok (.iadd, 1) := by decide +kernel
theorem dX10_accesses_56 : decode cX10_accesses 56 = .ok (.iastore, 1) := by decide +kernel
theorem dX10_accesses_57 : decode cX10_accesses 57 = .ok (.aload_n 0, 1) := by decide +kernel
theorem dX10_accesses_58 : decode cX10_accesses 58 = .ok (.getfield 7, 3) := by decide +kernel
theorem dX10_accesses_61 : decode cX10_accesses 61 = .ok (.bipush 15, 2) := by decide +kernel
theorem dX10_accesses_63 : decode cX10_accesses 63 = .ok (.dup2, 1) := by decide +kernel
theorem dX10_accesses_64 : decode cX10_accesses 64 = .ok (.iaload, 1) := by decide +kernel
theorem dX10_accesses_65 : decode cX10_accesses 65 = .ok (.iload_n 2, 1) := by decide +kernel
theorem dX10_accesses_66 : decode cX10_accesses 66 = .ok (.invokestatic 59, 3) := by decide +kernel
theorem dX10_accesses_69 : decode cX10_accesses 69 = .ok (.iadd, 1) := by decide +kernel
theorem dX10_accesses_70 : decode cX10_accesses 70 = .ok (.iastore, 1) := by decide +kernel
theorem dX10_accesses_71 : decode cX10_accesses 71 = .ok (.aload_n 0, 1) := by decide +kernel
theorem dX10_accesses_72 : decode cX10_accesses 72 = .ok (.getfield 7, 3) := by decide +kernel
theorem dX10_accesses_75 : decode cX10_accesses 75 = .ok (.bipush 16, 2) := by decide +kernel
theorem dX10_accesses_77 : decode cX10_accesses 77 = .ok (.dup2, 1) := by decide +kernel
theorem dX10_accesses_78 : decode cX10_accesses 78 = .ok (.iaload, 1) := by decide +kernel
theorem dX10_accesses_79 : decode cX10_accesses 79 = .ok (.iconst 1, 1) := by decide +kernel
theorem dX10_accesses_80 : decode cX10_accesses 80 = .ok (.iadd, 1) := by decide +kernel
theorem dX10_accesses_81 : decode cX10_accesses 81 = .ok (.iastore, 1) := by decide +kernel
theorem dX10_accesses_82 : decode cX10_accesses 82 = .ok (.aload_n 0, 1) := by decide +kernel
theorem dX10_accesses_83 : decode cX10_accesses 83 = .ok (.getfield 7, 3) := by decide +kernel
theorem dX10_accesses_86 : decode cX10_accesses 86 = .ok (.sipush 1100, 3) := by decide +kernel
theorem dX10_accesses_89 : decode cX10_accesses 89 = .ok (.iload_n 1, 1) := by decide +kernel
theorem dX10_accesses_90 : decode cX10_accesses 90 = .ok (.iadd, 1) := by decide +kernel
theorem dX10_accesses_91 : decode cX10_accesses 91 = .ok (.dup2, 1) := by decide +kernel
theorem dX10_accesses_92 : decode cX10_accesses 92 = .ok (.iaload, 1) := by decide +kernel
theorem dX10_accesses_93 : decode cX10_accesses 93 = .ok (.iconst 1, 1) := by decide +kernel
theorem dX10_accesses_94 : decode cX10_accesses 94 = .ok (.iadd, 1) := by decide +kernel
theorem dX10_accesses_95 : decode cX10_accesses 95 = .ok (.iastore, 1) := by decide +kernel
theorem dX10_accesses_96 : decode cX10_accesses 96 = .ok (.aload_n 0, 1) := by decide +kernel
theorem dX10_accesses_97 : decode cX10_accesses 97 = .ok (.getfield 7, 3) := by decide +kernel
theorem dX10_accesses_100 : decode cX10_accesses 100 = .ok (.bipush 8, 2) := by decide +kernel
theorem dX10_accesses_102 : decode cX10_accesses 102 = .ok (.dup2, 1) := by decide +kernel
theorem dX10_accesses_103 : decode cX10_accesses 103 = .ok (.iaload, 1) := by decide +kernel
theorem dX10_accesses_104 : decode cX10_accesses 104 = .ok (.iload_n 3, 1) := by decide +kernel
theorem dX10_accesses_105 : decode cX10_accesses 105 = .ok (.iload 4, 2) := by decide +kernel
theorem dX10_accesses_107 : decode cX10_accesses 107 = .ok (.iadd, 1) := by decide +kernel
theorem dX10_accesses_108 : decode cX10_accesses 108 = .ok (.iload_n 2, 1) := by decide +kernel
theorem dX10_accesses_109 : decode cX10_accesses 109 = .ok (.invokestatic 59, 3) := by decide +kernel
theorem dX10_accesses_112 : decode cX10_accesses 112 = .ok (.iadd, 1) := by decide +kernel
theorem dX10_accesses_113 : decode cX10_accesses 113 = .ok (.iadd, 1) := by decide +kernel
theorem dX10_accesses_114 : decode cX10_accesses 114 = .ok (.iastore, 1) := by decide +kernel
theorem dX10_accesses_115 : decode cX10_accesses 115 = .ok (.aload_n 0, 1) := by decide +kernel
theorem dX10_accesses_116 : decode cX10_accesses 116 = .ok (.getfield 7, 3) := by decide +kernel
theorem dX10_accesses_119 : decode cX10_accesses 119 = .ok (.bipush 9, 2) := by decide +kernel
theorem dX10_accesses_121 : decode cX10_accesses 121 = .ok (.iload_n 2, 1) := by decide +kernel
theorem dX10_accesses_122 : decode cX10_accesses 122 = .ok (.iastore, 1) := by decide +kernel
theorem dX10_accesses_123 : decode cX10_accesses 123 = .ok (.return_, 1) := by decide +kernel
theorem dX10_setCurve_0 : decode cX10_setCurve 0 = .ok (.aload_n 0, 1) := by decide +kernel
theorem dX10_setCurve_1 : decode cX10_setCurve 1 = .ok (.iconst 0, 1) := by decide +kernel
theorem dX10_setCurve_2 : decode cX10_setCurve 2 = .ok (.putfield 39, 3) := by decide +kernel
theorem dX10_setCurve_5 : decode cX10_setCurve 5 = .ok (.iload_n 1, 1) := by decide +kernel
theorem dX10_setCurve_6 : decode cX10_setCurve 6 = .ok (.iconst 0, 1) := by decide +kernel
theorem dX10_setCurve_7 : decode cX10_setCurve 7 = .ok (.bipush 50, 2) := by decide +kernel
theorem dX10_setCurve_9 : decode cX10_setCurve 9 = .ok (.invokestatic 42, 3) := by decide +kernel
theorem dX10_setCurve_12 : decode cX10_setCurve 12 = .ok (.ifCond .eq 23, 3) := by decide +kernel
theorem dX10_setCurve_15 : decode cX10_setCurve 15 = .ok (.iload_n 2, 1) := by decide +kernel
theorem dX10_setCurve_16 : decode cX10_setCurve 16 = .ok (.iconst 0, 1) := by decide +kernel
theorem dX10_setCurve_17 : decode cX10_setCurve 17 = .ok (.bipush 20, 2) := by decide +kernel
theorem dX10_setCurve_19 : decode cX10_setCurve 19 = .ok (.invokestatic 42, 3) := by decide +kernel
theorem dX10_setCurve_22 : decode cX10_setCurve 22 = .ok (.ifCond .eq 13, 3) := by decide +kernel
theorem dX10_setCurve_25 : decode cX10_setCurve 25 = .ok (.iload_n 3, 1) := by decide +kernel
theorem dX10_setCurve_26 : decode cX10_setCurve 26 = .ok (.iconst 0, 1) := by decide +kernel
theorem dX10_setCurve_27 : decode cX10_setCurve 27 = .ok (.bipush 9, 2) := by decide +kernel
theorem dX10_setCurve_29 : decode cX10_setCurve 29 = .ok (.invokestatic 42, 3) := by decide +kernel
theorem dX10_setCurve_32 : decode cX10_setCurve 32 = .ok (.ifCond .ne 9, 3) := by decide +kernel
theorem dX10_setCurve_35 : decode cX10_setCurve 35 = .ok (.aload_n 0, 1) := by decide +kernel
theorem dX10_setCurve_36 : decode cX10_setCurve 36 = .ok (.iconst 1, 1) := by decide +kernel
theorem dX10_setCurve_37 : decode cX10_setCurve 37 = .ok (.putfield 39, 3) := by decide +kernel
theorem dX10_setCurve_40 : decode cX10_setCurve 40 = .ok (.return_, 1) := by decide +kernel
theorem dX10_setCurve_41 : decode cX10_setCurve 41 = .ok (.aload_n 0, 1) := by decide +kernel
theorem dX10_setCurve_42 : decode cX10_setCurve 42 = .ok (.getfield 7, 3) := by decide +kernel
theorem dX10_setCurve_45 : decode cX10_setCurve 45 = .ok (.iconst 0, 1) := by decide +kernel
theorem dX10_setCurve_46 : decode cX10_setCurve 46 = .ok (.iload_n 1, 1) := by decide +kernel
theorem dX10_setCurve_47 : decode cX10_setCurve 47 = .ok (.iastore, 1) := by decide +kernel
theorem dX10_setCurve_48 : decode cX10_setCurve 48 = .ok (.aload_n 0, 1) := by decide +kernel
theorem dX10_setCurve_49 : decode cX10_setCurve 49 = .ok (.getfield 7, 3) := by decide +kernel
theorem dX10_setCurve_52 : decode cX10_setCurve 52 = .ok (.iconst 1, 1) := by decide +kernel
theorem dX10_setCurve_53 : decode cX10_setCurve 53 = .ok (.iload_n 2, 1) := by decide +kernel
theorem dX10_setCurve_54 : decode cX10_setCurve 54 = .ok (.iastore, 1) := by decide +kernel
theorem dX10_setCurve_55 : decode cX10_setCurve 55 = .ok (.aload_n 0, 1) := by decide +kernel
theorem dX10_setCurve_56 : decode cX10_setCurve 56 = .ok (.getfield 7, 3) := by decide +kernel
theorem dX10_setCurve_59 : decode cX10_setCurve 59 = .ok (.iconst 2, 1) := by decide +kernel
theorem dX10_setCurve_60 : decode cX10_setCurve 60 = .ok (.iload_n 3, 1) := by decide +kernel
theorem dX10_setCurve_61 : decode cX10_setCurve 61 = .ok (.iastore, 1) := by decide +kernel
theorem dX10_setCurve_62 : decode cX10_setCurve 62 = .ok (.return_, 1) := by decide +kernel
theorem dX10_becomes_0 : decode cX10_becomes 0 = .ok (.aload_n 0, 1) := by decide +kernel
theorem dX10_becomes_1 : decode cX10_becomes 1 = .ok (.getfield 7, 3) := by decide +kernel
theorem dX10_becomes_4 : decode cX10_becomes 4 = .ok (.iload_n 1, 1) := by decide +kernel
theorem dX10_becomes_5 : decode cX10_becomes 5 = .ok (.iaload, 1) := by decide +kernel
theorem dX10_becomes_6 : decode cX10_becomes 6 = .ok (.istore_n 3, 1) := by decide +kernel
theorem dX10_becomes_7 : decode cX10_becomes 7 = .ok (.aload_n 0, 1) := by decide +kernel
theorem dX10_becomes_8 : decode cX10_becomes 8 = .ok (.getfield 7, 3) := by decide +kernel
theorem dX10_becomes_11 : decode cX10_becomes 11 = .ok (.iload_n 1, 1) := by decide +kernel
theorem dX10_becomes_12 : decode cX10_becomes 12 = .ok (.iload_n 2, 1) := by decide +kernel
theorem dX10_becomes_13 : decode cX10_becomes 13 = .ok (.iastore, 1) := by decide +kernel
theorem dX10_becomes_14 : decode cX10_becomes 14 = .ok (.iload_n 3, 1) := by decide +kernel
theorem dX10_becomes_15 : decode cX10_becomes 15 = .ok (.ireturn, 1) := by decide +kernel
theorem dX10_setSkew_0 : decode cX10_setSkew 0 = .ok (.aload_n 0, 1) := by decide +kernel
theorem dX10_setSkew_1 : decode cX10_setSkew 1 = .ok (.iconst 0, 1) := by decide +kernel
theorem dX10_setSkew_2 : decode cX10_setSkew 2 = .ok (.putfield 39, 3) := by decide +kernel
theorem dX10_setSkew_5 : decode cX10_setSkew 5 = .ok (.iload_n 1, 1) := by decide +kernel
theorem dX10_setSkew_6 : decode cX10_setSkew 6 = .ok (.iconst 0, 1) := by decide +kernel
theorem dX10_setSkew_7 : decode cX10_setSkew 7 = .ok (.bipush 40, 2) := by decide +kernel
theorem dX10_setSkew_9 : decode cX10_setSkew 9 = .ok (.invokestatic 42, 3) := by decide +kernel
theorem dX10_setSkew_12 : decode cX10_setSkew 12 = .ok (.ifCond .eq 12, 3) := by decide +kernel
theorem dX10_setSkew_15 : decode cX10_setSkew 15 = .ok (.aload_n 0, 1) := by decide +kernel
theorem dX10_setSkew_16 : decode cX10_setSkew 16 = .ok (.iconst 3, 1) := by decide +kernel
theorem dX10_setSkew_17 : decode cX10_setSkew 17 = .ok (.iload_n 1, 1) := by decide +kernel
theorem dX10_setSkew_18 : decode cX10_setSkew 18 = .ok (.invokevirtual 75, 3) := by decide +kernel
theorem dX10_setSkew_21 : decode cX10_setSkew 21 = .ok (.goto 8, 3) := by decide +kernel
theorem dX10_setSkew_24 : decode cX10_setSkew 24 = .ok (.aload_n 0, 1) := by decide +kernel
theorem dX10_setSkew_25 : decode cX10_setSkew 25 = .ok (.iconst 1, 1) := by decide +kernel
theorem dX10_setSkew_26 : decode cX10_setSkew 26 = .ok (.invokevirtual 78, 3) := by decide +kernel
theorem dX10_setSkew_29 : decode cX10_setSkew 29 = .ok (.ireturn, 1) := by decide +kernel
theorem dX10_setPolicy_0 : decode cX10_setPolicy 0 = .ok (.aload_n 0, 1) := by decide +kernel
theorem dX10_setPolicy_1 : decode cX10_setPolicy 1 = .ok (.iconst 0, 1) := by decide +kernel
theorem dX10_setPolicy_2 : decode cX10_setPolicy 2 = .ok (.putfield 39, 3) := by decide +kernel
theorem dX10_setPolicy_5 : decode cX10_setPolicy 5 = .ok (.iload_n 1, 1) := by decide +kernel
theorem dX10_setPolicy_6 : decode cX10_setPolicy 6 = .ok (.iconst 0, 1) := by decide +kernel
theorem dX10_setPolicy_7 : decode cX10_setPolicy 7 = .ok (.bipush 6, 2) := by decide +kernel
theorem dX10_setPolicy_9 : decode cX10_setPolicy 9 = .ok (.invokestatic 42, 3) := by decide +kernel
theorem dX10_setPolicy_12 : decode cX10_setPolicy 12 = .ok (.ifCond .eq 12, 3) := by decide +kernel
theorem dX10_setPolicy_15 : decode cX10_setPolicy 15 = .ok (.aload_n 0, 1) := by decide +kernel
theorem dX10_setPolicy_16 : decode cX10_setPolicy 16 = .ok (.iconst 4, 1) := by decide +kernel
theorem dX10_setPolicy_17 : decode cX10_setPolicy 17 = .ok (.iload_n 1, 1) := by decide +kernel
theorem dX10_setPolicy_18 : decode cX10_setPolicy 18 = .ok (.invokevirtual 75, 3) := by decide +kernel
theorem dX10_setPolicy_21 : decode cX10_setPolicy 21 = .ok (.goto 8, 3) := by decide +kernel
theorem dX10_setPolicy_24 : decode cX10_setPolicy 24 = .ok (.aload_n 0, 1) := by decide +kernel
theorem dX10_setPolicy_25 : decode cX10_setPolicy 25 = .ok (.iconst 1, 1) := by decide +kernel
theorem dX10_setPolicy_26 : decode cX10_setPolicy 26 = .ok (.invokevirtual 78, 3) := by decide +kernel
theorem dX10_setPolicy_29 : decode cX10_setPolicy 29 = .ok (.ireturn, 1) := by decide +kernel
theorem dX10_setBuckets_0 : decode cX10_setBuckets 0 = .ok (.aload_n 0, 1) := by decide +kernel
theorem dX10_setBuckets_1 : decode cX10_setBuckets 1 = .ok (.iconst 0, 1) := by decide +kernel
theorem dX10_setBuckets_2 : decode cX10_setBuckets 2 = .ok (.putfield 39, 3) := by decide +kernel
theorem dX10_setBuckets_5 : decode cX10_setBuckets 5 = .ok (.iload_n 1, 1) := by decide +kernel
theorem dX10_setBuckets_6 : decode cX10_setBuckets 6 = .ok (.iconst 1, 1) := by decide +kernel
theorem dX10_setBuckets_7 : decode cX10_setBuckets 7 = .ok (.sipush 999, 3) := by decide +kernel
theorem dX10_setBuckets_10 : decode cX10_setBuckets 10 = .ok (.invokestatic 42, 3) := by decide +kernel
theorem dX10_setBuckets_13 : decode cX10_setBuckets 13 = .ok (.ifCond .eq 14, 3) := by decide +kernel
theorem dX10_setBuckets_16 : decode cX10_setBuckets 16 = .ok (.iload_n 2, 1) := by decide +kernel
theorem dX10_setBuckets_17 : decode cX10_setBuckets 17 = .ok (.iconst 1, 1) := by decide +kernel
theorem dX10_setBuckets_18 : decode cX10_setBuckets 18 = .ok (.sipush 9999, 3) := by decide +kernel
theorem dX10_setBuckets_21 : decode cX10_setBuckets 21 = .ok (.invokestatic 42, 3) := by decide +kernel
theorem dX10_setBuckets_24 : decode cX10_setBuckets 24 = .ok (.ifCond .ne 9, 3) := by decide +kernel
theorem dX10_setBuckets_27 : decode cX10_setBuckets 27 = .ok (.aload_n 0, 1) := by decide +kernel
theorem dX10_setBuckets_28 : decode cX10_setBuckets 28 = .ok (.iconst 1, 1) := by decide +kernel
theorem dX10_setBuckets_29 : decode cX10_setBuckets 29 = .ok (.putfield 39, 3) := by decide +kernel
theorem dX10_setBuckets_32 : decode cX10_setBuckets 32 = .ok (.return_, 1) := by decide +kernel
theorem dX10_setBuckets_33 : decode cX10_setBuckets 33 = .ok (.aload_n 0, 1) := by decide +kernel
theorem dX10_setBuckets_34 : decode cX10_setBuckets 34 = .ok (.getfield 7, 3) := by decide +kernel
theorem dX10_setBuckets_37 : decode cX10_setBuckets 37 = .ok (.iconst 5, 1) := by decide +kernel
theorem dX10_setBuckets_38 : decode cX10_setBuckets 38 = .ok (.iload_n 1, 1) := by decide +kernel
theorem dX10_setBuckets_39 : decode cX10_setBuckets 39 = .ok (.iastore, 1) := by decide +kernel
theorem dX10_setBuckets_40 : decode cX10_setBuckets 40 = .ok (.aload_n 0, 1) := by decide +kernel
theorem dX10_setBuckets_41 : decode cX10_setBuckets 41 = .ok (.getfield 7, 3) := by decide +kernel
theorem dX10_setBuckets_44 : decode cX10_setBuckets 44 = .ok (.bipush 6, 2) := by decide +kernel
theorem dX10_setBuckets_46 : decode cX10_setBuckets 46 = .ok (.iload_n 2, 1) := by decide +kernel
theorem dX10_setBuckets_47 : decode cX10_setBuckets 47 = .ok (.iastore, 1) := by decide +kernel
theorem dX10_setBuckets_48 : decode cX10_setBuckets 48 = .ok (.return_, 1) := by decide +kernel
theorem dX10_dirty_0 : decode cX10_dirty 0 = .ok (.iconst 0, 1) := by decide +kernel
theorem dX10_dirty_1 : decode cX10_dirty 1 = .ok (.istore_n 1, 1) := by decide +kernel
theorem dX10_dirty_2 : decode cX10_dirty 2 = .ok (.iconst 0, 1) := by decide +kernel
theorem dX10_dirty_3 : decode cX10_dirty 3 = .ok (.istore_n 2, 1) := by decide +kernel
theorem dX10_dirty_4 : decode cX10_dirty 4 = .ok (.iload_n 2, 1) := by decide +kernel
theorem dX10_dirty_5 : decode cX10_dirty 5 = .ok (.sipush 572, 3) := by decide +kernel
theorem dX10_dirty_8 : decode cX10_dirty 8 = .ok (.if_icmp .ge 22, 3) := by decide +kernel
theorem dX10_dirty_11 : decode cX10_dirty 11 = .ok (.iload_n 1, 1) := by decide +kernel
theorem dX10_dirty_12 : decode cX10_dirty 12 = .ok (.aload_n 0, 1) := by decide +kernel
theorem dX10_dirty_13 : decode cX10_dirty 13 = .ok (.getfield 7, 3) := by decide +kernel
theorem dX10_dirty_16 : decode cX10_dirty 16 = .ok (.sipush 510, 3) := by decide +kernel
theorem dX10_dirty_19 : decode cX10_dirty 19 = .ok (.iload_n 2, 1) := by decide +kernel
theorem dX10_dirty_20 : decode cX10_dirty 20 = .ok (.iadd, 1) := by decide +kernel
theorem dX10_dirty_21 : decode cX10_dirty 21 = .ok (.iaload, 1) := by decide +kernel
theorem dX10_dirty_22 : decode cX10_dirty 22 = .ok (.iadd, 1) := by decide +kernel
theorem dX10_dirty_23 : decode cX10_dirty 23 = .ok (.istore_n 1, 1) := by decide +kernel
theorem dX10_dirty_24 : decode cX10_dirty 24 = .ok (.iinc 2 1, 3) := by decide +kernel
theorem dX10_dirty_27 : decode cX10_dirty 27 = .ok (.goto (-23), 3) := by decide +kernel
theorem dX10_dirty_30 : decode cX10_dirty 30 = .ok (.iload_n 1, 1) := by decide +kernel
theorem dX10_dirty_31 : decode cX10_dirty 31 = .ok (.ireturn, 1) := by decide +kernel
theorem dX10_setWriteBack_0 : decode cX10_setWriteBack 0 = .ok (.aload_n 0, 1) := by decide +kernel
theorem dX10_setWriteBack_1 : decode cX10_setWriteBack 1 = .ok (.iconst 0, 1) := by decide +kernel
theorem dX10_setWriteBack_2 : decode cX10_setWriteBack 2 = .ok (.putfield 39, 3) := by decide +kernel
theorem dX10_setWriteBack_5 : decode cX10_setWriteBack 5 = .ok (.iload_n 1, 1) := by decide +kernel
theorem dX10_setWriteBack_6 : decode cX10_setWriteBack 6 = .ok (.ifCond .ne 17, 3) := by decide +kernel
theorem dX10_setWriteBack_9 : decode cX10_setWriteBack 9 = .ok (.aload_n 0, 1) := by decide +kernel
theorem dX10_setWriteBack_10 : decode cX10_setWriteBack 10 = .ok (.invokevirtual 81, 3) := by decide +kernel
theorem dX10_setWriteBack_13 : decode cX10_setWriteBack 13 = .ok (.ifCond .le 10, 3) := by decide +kernel
theorem dX10_setWriteBack_16 : decode cX10_setWriteBack 16 = .ok (.aload_n 0, 1) := by decide +kernel
theorem dX10_setWriteBack_17 : decode cX10_setWriteBack 17 = .ok (.iconst 1, 1) := by decide +kernel
theorem dX10_setWriteBack_18 : decode cX10_setWriteBack 18 = .ok (.putfield 39, 3) := by decide +kernel
theorem dX10_setWriteBack_21 : decode cX10_setWriteBack 21 = .ok (.iconst 0, 1) := by decide +kernel
theorem dX10_setWriteBack_22 : decode cX10_setWriteBack 22 = .ok (.ireturn, 1) := by decide +kernel
theorem dX10_setWriteBack_23 : decode cX10_setWriteBack 23 = .ok (.aload_n 0, 1) := by decide +kernel
theorem dX10_setWriteBack_24 : decode cX10_setWriteBack 24 = .ok (.bipush 7, 2) := by decide +kernel
theorem dX10_setWriteBack_26 : decode cX10_setWriteBack 26 = .ok (.iload_n 1, 1) := by decide +kernel
theorem dX10_setWriteBack_27 : decode cX10_setWriteBack 27 = .ok (.ifCond .eq 7, 3) := by decide +kernel
theorem dX10_setWriteBack_30 : decode cX10_setWriteBack 30 = .ok (.iconst 1, 1) := by decide +kernel
theorem dX10_setWriteBack_31 : decode cX10_setWriteBack 31 = .ok (.goto 4, 3) := by decide +kernel
theorem dX10_setWriteBack_34 : decode cX10_setWriteBack 34 = .ok (.iconst 0, 1) := by decide +kernel
theorem dX10_setWriteBack_35 : decode cX10_setWriteBack 35 = .ok (.invokevirtual 75, 3) := by decide +kernel
theorem dX10_setWriteBack_38 : decode cX10_setWriteBack 38 = .ok (.iconst 1, 1) := by decide +kernel
theorem dX10_setWriteBack_39 : decode cX10_setWriteBack 39 = .ok (.if_icmp .ne 7, 3) := by decide +kernel
theorem dX10_setWriteBack_42 : decode cX10_setWriteBack 42 = .ok (.iconst 1, 1) := by decide +kernel
theorem dX10_setWriteBack_43 : decode cX10_setWriteBack 43 = .ok (.goto 4, 3) := by decide +kernel
theorem dX10_setWriteBack_46 : decode cX10_setWriteBack 46 = .ok (.iconst 0, 1) := by decide +kernel
theorem dX10_setWriteBack_47 : decode cX10_setWriteBack 47 = .ok (.ireturn, 1) := by decide +kernel
theorem dX10_seekTime_0 : decode cX10_seekTime 0 = .ok (.aload_n 0, 1) := by decide +kernel
theorem dX10_seekTime_1 : decode cX10_seekTime 1 = .ok (.iconst 0, 1) := by decide +kernel
theorem dX10_seekTime_2 : decode cX10_seekTime 2 = .ok (.putfield 39, 3) := by decide +kernel
theorem dX10_seekTime_5 : decode cX10_seekTime 5 = .ok (.iload_n 1, 1) := by decide +kernel
theorem dX10_seekTime_6 : decode cX10_seekTime 6 = .ok (.iconst 0, 1) := by decide +kernel
theorem dX10_seekTime_7 : decode cX10_seekTime 7 = .ok (.bipush 63, 2) := by decide +kernel
theorem dX10_seekTime_9 : decode cX10_seekTime 9 = .ok (.invokestatic 42, 3) := by decide +kernel
theorem dX10_seekTime_12 : decode cX10_seekTime 12 = .ok (.ifCond .eq 22, 3) := by decide +kernel
theorem dX10_seekTime_15 : decode cX10_seekTime 15 = .ok (.iload_n 2, 1) := by decide +kernel
theorem dX10_seekTime_16 : decode cX10_seekTime 16 = .ok (.iconst 0, 1) := by decide +kernel
theorem dX10_seekTime_17 : decode cX10_seekTime 17 = .ok (.bipush 63, 2) := by decide +kernel
theorem dX10_seekTime_19 : decode cX10_seekTime 19 = .ok (.invokestatic 42, 3) := by decide +kernel
theorem dX10_seekTime_22 : decode cX10_seekTime 22 = .ok (.ifCond .eq 12, 3) := by decide +kernel
theorem dX10_seekTime_25 : decode cX10_seekTime 25 = .ok (.aload_n 0, 1) := by decide +kernel
theorem dX10_seekTime_26 : decode cX10_seekTime 26 = .ok (.iload_n 1, 1) := by decide +kernel
theorem dX10_seekTime_27 : decode cX10_seekTime 27 = .ok (.iload_n 2, 1) := by decide +kernel
theorem dX10_seekTime_28 : decode cX10_seekTime 28 = .ok (.invokevirtual 68, 3) := by decide +kernel
theorem dX10_seekTime_31 : decode cX10_seekTime 31 = .ok (.goto 8, 3) := by decide +kernel
theorem dX10_seekTime_34 : decode cX10_seekTime 34 = .ok (.aload_n 0, 1) := by decide +kernel
theorem dX10_seekTime_35 : decode cX10_seekTime 35 = .ok (.iconst 1, 1) := by decide +kernel
theorem dX10_seekTime_36 : decode cX10_seekTime 36 = .ok (.invokevirtual 78, 3) := by decide +kernel
theorem dX10_seekTime_39 : decode cX10_seekTime 39 = .ok (.ireturn, 1) := by decide +kernel
theorem dX10_placeOf_0 : decode cX10_placeOf 0 = .ok (.aload_n 0, 1) := by decide +kernel
theorem dX10_placeOf_1 : decode cX10_placeOf 1 = .ok (.iconst 0, 1) := by decide +kernel
theorem dX10_placeOf_2 : decode cX10_placeOf 2 = .ok (.putfield 39, 3) := by decide +kernel
theorem dX10_placeOf_5 : decode cX10_placeOf 5 = .ok (.iload_n 1, 1) := by decide +kernel
theorem dX10_placeOf_6 : decode cX10_placeOf 6 = .ok (.invokestatic 85, 3) := by decide +kernel
theorem dX10_placeOf_9 : decode cX10_placeOf 9 = .ok (.ifCond .eq 11, 3) := by decide +kernel
theorem dX10_placeOf_12 : decode cX10_placeOf 12 = .ok (.aload_n 0, 1) := by decide +kernel
theorem dX10_placeOf_13 : decode cX10_placeOf 13 = .ok (.iload_n 1, 1) := by decide +kernel
theorem dX10_placeOf_14 : decode cX10_placeOf 14 = .ok (.invokevirtual 89, 3) := by decide +kernel
theorem dX10_placeOf_17 : decode cX10_placeOf 17 = .ok (.goto 8, 3) := by decide +kernel
theorem dX10_placeOf_20 : decode cX10_placeOf 20 = .ok (.aload_n 0, 1) := by decide +kernel
theorem dX10_placeOf_21 : decode cX10_placeOf 21 = .ok (.iconst 1, 1) := by decide +kernel
theorem dX10_placeOf_22 : decode cX10_placeOf 22 = .ok (.invokevirtual 78, 3) := by decide +kernel
theorem dX10_placeOf_25 : decode cX10_placeOf 25 = .ok (.ireturn, 1) := by decide +kernel
theorem dX10_cylinderOf_0 : decode cX10_cylinderOf 0 = .ok (.aload_n 0, 1) := by decide +kernel
theorem dX10_cylinderOf_1 : decode cX10_cylinderOf 1 = .ok (.iconst 0, 1) := by decide +kernel
theorem dX10_cylinderOf_2 : decode cX10_cylinderOf 2 = .ok (.putfield 39, 3) := by decide +kernel
theorem dX10_cylinderOf_5 : decode cX10_cylinderOf 5 = .ok (.iload_n 1, 1) := by decide +kernel
theorem dX10_cylinderOf_6 : decode cX10_cylinderOf 6 = .ok (.invokestatic 85, 3) := by decide +kernel
theorem dX10_cylinderOf_9 : decode cX10_cylinderOf 9 = .ok (.ifCond .eq 14, 3) := by decide +kernel
theorem dX10_cylinderOf_12 : decode cX10_cylinderOf 12 = .ok (.aload_n 0, 1) := by decide +kernel
theorem dX10_cylinderOf_13 : decode cX10_cylinderOf 13 = .ok (.iload_n 1, 1) := by decide +kernel
theorem dX10_cylinderOf_14 : decode cX10_cylinderOf 14 = .ok (.invokevirtual 89, 3) := by decide +kernel
theorem dX10_cylinderOf_17 : decode cX10_cylinderOf 17 = .ok (.invokestatic 53, 3) := by decide +kernel
theorem dX10_cylinderOf_20 : decode cX10_cylinderOf 20 = .ok (.goto 8, 3) := by decide +kernel
theorem dX10_cylinderOf_23 : decode cX10_cylinderOf 23 = .ok (.aload_n 0, 1) := by decide +kernel
theorem dX10_cylinderOf_24 : decode cX10_cylinderOf 24 = .ok (.iconst 1, 1) := by decide +kernel
theorem dX10_cylinderOf_25 : decode cX10_cylinderOf 25 = .ok (.invokevirtual 78, 3) := by decide +kernel
theorem dX10_cylinderOf_28 : decode cX10_cylinderOf 28 = .ok (.ireturn, 1) := by decide +kernel
theorem dX10_sectorOf_0 : decode cX10_sectorOf 0 = .ok (.aload_n 0, 1) := by decide +kernel
theorem dX10_sectorOf_1 : decode cX10_sectorOf 1 = .ok (.iconst 0, 1) := by decide +kernel
theorem dX10_sectorOf_2 : decode cX10_sectorOf 2 = .ok (.putfield 39, 3) := by decide +kernel
theorem dX10_sectorOf_5 : decode cX10_sectorOf 5 = .ok (.iload_n 1, 1) := by decide +kernel
theorem dX10_sectorOf_6 : decode cX10_sectorOf 6 = .ok (.invokestatic 85, 3) := by decide +kernel
theorem dX10_sectorOf_9 : decode cX10_sectorOf 9 = .ok (.ifCond .eq 23, 3) := by decide +kernel
theorem dX10_sectorOf_12 : decode cX10_sectorOf 12 = .ok (.aload_n 0, 1) := by decide +kernel
theorem dX10_sectorOf_13 : decode cX10_sectorOf 13 = .ok (.iload_n 1, 1) := by decide +kernel
theorem dX10_sectorOf_14 : decode cX10_sectorOf 14 = .ok (.invokevirtual 89, 3) := by decide +kernel
theorem dX10_sectorOf_17 : decode cX10_sectorOf 17 = .ok (.aload_n 0, 1) := by decide +kernel
theorem dX10_sectorOf_18 : decode cX10_sectorOf 18 = .ok (.iload_n 1, 1) := by decide +kernel
theorem dX10_sectorOf_19 : decode cX10_sectorOf 19 = .ok (.invokevirtual 89, 3) := by decide +kernel
theorem dX10_sectorOf_22 : decode cX10_sectorOf 22 = .ok (.invokestatic 53, 3) := by decide +kernel
theorem dX10_sectorOf_25 : decode cX10_sectorOf 25 = .ok (.invokestatic 56, 3) := by decide +kernel
theorem dX10_sectorOf_28 : decode cX10_sectorOf 28 = .ok (.isub, 1) := by decide +kernel
theorem dX10_sectorOf_29 : decode cX10_sectorOf 29 = .ok (.goto 8, 3) := by decide +kernel
theorem dX10_sectorOf_32 : decode cX10_sectorOf 32 = .ok (.aload_n 0, 1) := by decide +kernel
theorem dX10_sectorOf_33 : decode cX10_sectorOf 33 = .ok (.iconst 1, 1) := by decide +kernel
theorem dX10_sectorOf_34 : decode cX10_sectorOf 34 = .ok (.invokevirtual 78, 3) := by decide +kernel
theorem dX10_sectorOf_37 : decode cX10_sectorOf 37 = .ok (.ireturn, 1) := by decide +kernel
theorem dX10_startAngle_0 : decode cX10_startAngle 0 = .ok (.aload_n 0, 1) := by decide +kernel
theorem dX10_startAngle_1 : decode cX10_startAngle 1 = .ok (.iconst 0, 1) := by decide +kernel
theorem dX10_startAngle_2 : decode cX10_startAngle 2 = .ok (.putfield 39, 3) := by decide +kernel
theorem dX10_startAngle_5 : decode cX10_startAngle 5 = .ok (.iload_n 1, 1) := by decide +kernel
theorem dX10_startAngle_6 : decode cX10_startAngle 6 = .ok (.invokestatic 85, 3) := by decide +kernel
theorem dX10_startAngle_9 : decode cX10_startAngle 9 = .ok (.ifCond .eq 15, 3) := by decide +kernel
theorem dX10_startAngle_12 : decode cX10_startAngle 12 = .ok (.aload_n 0, 1) := by decide +kernel
theorem dX10_startAngle_13 : decode cX10_startAngle 13 = .ok (.aload_n 0, 1) := by decide +kernel
theorem dX10_startAngle_14 : decode cX10_startAngle 14 = .ok (.iload_n 1, 1) := by decide +kernel
theorem dX10_startAngle_15 : decode cX10_startAngle 15 = .ok (.invokevirtual 89, 3) := by decide +kernel
theorem dX10_startAngle_18 : decode cX10_startAngle 18 = .ok (.invokevirtual 65, 3) := by decide +kernel
theorem dX10_startAngle_21 : decode cX10_startAngle 21 = .ok (.goto 8, 3) := by decide +kernel
theorem dX10_startAngle_24 : decode cX10_startAngle 24 = .ok (.aload_n 0, 1) := by decide +kernel
theorem dX10_startAngle_25 : decode cX10_startAngle 25 = .ok (.iconst 1, 1) := by decide +kernel
theorem dX10_startAngle_26 : decode cX10_startAngle 26 = .ok (.invokevirtual 78, 3) := by decide +kernel
theorem dX10_startAngle_29 : decode cX10_startAngle 29 = .ok (.ireturn, 1) := by decide +kernel
theorem dX10_takes_0 : decode cX10_takes 0 = .ok (.aload_n 0, 1) := by decide +kernel
theorem dX10_takes_1 : decode cX10_takes 1 = .ok (.aload_n 0, 1) := by decide +kernel
theorem dX10_takes_2 : decode cX10_takes 2 = .ok (.getfield 7, 3) := by decide +kernel
theorem dX10_takes_5 : decode cX10_takes 5 = .ok (.bipush 8, 2) := by decide +kernel
theorem dX10_takes_7 : decode cX10_takes 7 = .ok (.iaload, 1) := by decide +kernel
theorem dX10_takes_8 : decode cX10_takes 8 = .ok (.aload_n 0, 1) := by decide +kernel
theorem dX10_takes_9 : decode cX10_takes 9 = .ok (.getfield 7, 3) := by decide +kernel
theorem dX10_takes_12 : decode cX10_takes 12 = .ok (.bipush 9, 2) := by decide +kernel
theorem dX10_takes_14 : decode cX10_takes 14 = .ok (.iaload, 1) := by decide +kernel
theorem dX10_takes_15 : decode cX10_takes 15 = .ok (.aload_n 0, 1) := by decide +kernel
theorem dX10_takes_16 : decode cX10_takes 16 = .ok (.iload_n 1, 1) := by decide +kernel
theorem dX10_takes_17 : decode cX10_takes 17 = .ok (.invokevirtual 89, 3) := by decide +kernel
theorem dX10_takes_20 : decode cX10_takes 20 = .ok (.invokevirtual 92, 3) := by decide +kernel
theorem dX10_takes_23 : decode cX10_takes 23 = .ok (.aload_n 0, 1) := by decide +kernel
theorem dX10_takes_24 : decode cX10_takes 24 = .ok (.getfield 7, 3) := by decide +kernel
theorem dX10_takes_27 : decode cX10_takes 27 = .ok (.bipush 8, 2) := by decide +kernel
theorem dX10_takes_29 : decode cX10_takes 29 = .ok (.iaload, 1) := by decide +kernel
theorem dX10_takes_30 : decode cX10_takes 30 = .ok (.isub, 1) := by decide +kernel
theorem dX10_takes_31 : decode cX10_takes 31 = .ok (.ireturn, 1) := by decide +kernel
theorem dX10_accessTime_0 : decode cX10_accessTime 0 = .ok (.aload_n 0, 1) := by decide +kernel
theorem dX10_accessTime_1 : decode cX10_accessTime 1 = .ok (.iconst 0, 1) := by decide +kernel
theorem dX10_accessTime_2 : decode cX10_accessTime 2 = .ok (.putfield 39, 3) := by decide +kernel
theorem dX10_accessTime_5 : decode cX10_accessTime 5 = .ok (.iload_n 1, 1) := by decide +kernel
theorem dX10_accessTime_6 : decode cX10_accessTime 6 = .ok (.invokestatic 85, 3) := by decide +kernel
theorem dX10_accessTime_9 : decode cX10_accessTime 9 = .ok (.ifCond .eq 11, 3) := by decide +kernel
theorem dX10_accessTime_12 : decode cX10_accessTime 12 = .ok (.aload_n 0, 1) := by decide +kernel
theorem dX10_accessTime_13 : decode cX10_accessTime 13 = .ok (.iload_n 1, 1) := by decide +kernel
theorem dX10_accessTime_14 : decode cX10_accessTime 14 = .ok (.invokevirtual 96, 3) := by decide +kernel
theorem dX10_accessTime_17 : decode cX10_accessTime 17 = .ok (.goto 8, 3) := by decide +kernel
theorem dX10_accessTime_20 : decode cX10_accessTime 20 = .ok (.aload_n 0, 1) := by decide +kernel
theorem dX10_accessTime_21 : decode cX10_accessTime 21 = .ok (.iconst 1, 1) := by decide +kernel
theorem dX10_accessTime_22 : decode cX10_accessTime 22 = .ok (.invokevirtual 78, 3) := by decide +kernel
theorem dX10_accessTime_25 : decode cX10_accessTime 25 = .ok (.ireturn, 1) := by decide +kernel
theorem dX10_moveToSpare_0 : decode cX10_moveToSpare 0 = .ok (.aload_n 0, 1) := by decide +kernel
theorem dX10_moveToSpare_1 : decode cX10_moveToSpare 1 = .ok (.iconst 0, 1) := by decide +kernel
theorem dX10_moveToSpare_2 : decode cX10_moveToSpare 2 = .ok (.putfield 39, 3) := by decide +kernel
theorem dX10_moveToSpare_5 : decode cX10_moveToSpare 5 = .ok (.iload_n 1, 1) := by decide +kernel
theorem dX10_moveToSpare_6 : decode cX10_moveToSpare 6 = .ok (.invokestatic 85, 3) := by decide +kernel
theorem dX10_moveToSpare_9 : decode cX10_moveToSpare 9 = .ok (.ifCond .ne 9, 3) := by decide +kernel
theorem dX10_moveToSpare_12 : decode cX10_moveToSpare 12 = .ok (.aload_n 0, 1) := by decide +kernel
theorem dX10_moveToSpare_13 : decode cX10_moveToSpare 13 = .ok (.iconst 1, 1) := by decide +kernel
theorem dX10_moveToSpare_14 : decode cX10_moveToSpare 14 = .ok (.invokevirtual 78, 3) := by decide +kernel
theorem dX10_moveToSpare_17 : decode cX10_moveToSpare 17 = .ok (.ireturn, 1) := by decide +kernel
theorem dX10_moveToSpare_18 : decode cX10_moveToSpare 18 = .ok (.aload_n 0, 1) := by decide +kernel
theorem dX10_moveToSpare_19 : decode cX10_moveToSpare 19 = .ok (.iload_n 1, 1) := by decide +kernel
theorem dX10_moveToSpare_20 : decode cX10_moveToSpare 20 = .ok (.invokevirtual 89, 3) := by decide +kernel
theorem dX10_moveToSpare_23 : decode cX10_moveToSpare 23 = .ok (.sipush 572, 3) := by decide +kernel
theorem dX10_moveToSpare_26 : decode cX10_moveToSpare 26 = .ok (.if_icmp .lt 9, 3) := by decide +kernel
theorem dX10_moveToSpare_29 : decode cX10_moveToSpare 29 = .ok (.aload_n 0, 1) := by decide +kernel
theorem dX10_moveToSpare_30 : decode cX10_moveToSpare 30 = .ok (.iconst 2, 1) := by decide +kernel
theorem dX10_moveToSpare_31 : decode cX10_moveToSpare 31 = .ok (.invokevirtual 78, 3) := by decide +kernel
theorem dX10_moveToSpare_34 : decode cX10_moveToSpare 34 = .ok (.ireturn, 1) := by decide +kernel
theorem dX10_moveToSpare_35 : decode cX10_moveToSpare 35 = .ok (.aload_n 0, 1) := by decide +kernel
theorem dX10_moveToSpare_36 : decode cX10_moveToSpare 36 = .ok (.getfield 7, 3) := by decide +kernel
theorem dX10_moveToSpare_39 : decode cX10_moveToSpare 39 = .ok (.bipush 11, 2) := by decide +kernel
theorem dX10_moveToSpare_41 : decode cX10_moveToSpare 41 = .ok (.iaload, 1) := by decide +kernel
theorem dX10_moveToSpare_42 : decode cX10_moveToSpare 42 = .ok (.iconst 4, 1) := by decide +kernel
theorem dX10_moveToSpare_43 : decode cX10_moveToSpare 43 = .ok (.if_icmp .ne 9, 3) := by decide +kernel
theorem dX10_moveToSpare_46 : decode cX10_moveToSpare 46 = .ok (.aload_n 0, 1) := by decide +kernel
theorem dX10_moveToSpare_47 : decode cX10_moveToSpare 47 = .ok (.iconst 3, 1) := by decide +kernel
theorem dX10_moveToSpare_48 : decode cX10_moveToSpare 48 = .ok (.invokevirtual 78, 3) := by decide +kernel
theorem dX10_moveToSpare_51 : decode cX10_moveToSpare 51 = .ok (.ireturn, 1) := by decide +kernel
theorem dX10_moveToSpare_52 : decode cX10_moveToSpare 52 = .ok (.aload_n 0, 1) := by decide +kernel
theorem dX10_moveToSpare_53 : decode cX10_moveToSpare 53 = .ok (.getfield 7, 3) := by decide +kernel
theorem dX10_moveToSpare_56 : decode cX10_moveToSpare 56 = .ok (.bipush 20, 2) := by decide +kernel
theorem dX10_moveToSpare_58 : decode cX10_moveToSpare 58 = .ok (.aload_n 0, 1) := by decide +kernel
theorem dX10_moveToSpare_59 : decode cX10_moveToSpare 59 = .ok (.getfield 7, 3) := by decide +kernel
theorem dX10_moveToSpare_62 : decode cX10_moveToSpare 62 = .ok (.bipush 11, 2) := by decide +kernel
theorem dX10_moveToSpare_64 : decode cX10_moveToSpare 64 = .ok (.iaload, 1) := by decide +kernel
theorem dX10_moveToSpare_65 : decode cX10_moveToSpare 65 = .ok (.iadd, 1) := by decide +kernel
theorem dX10_moveToSpare_66 : decode cX10_moveToSpare 66 = .ok (.iload_n 1, 1) := by decide +kernel
theorem dX10_moveToSpare_67 : decode cX10_moveToSpare 67 = .ok (.iastore, 1) := by decide +kernel
theorem dX10_moveToSpare_68 : decode cX10_moveToSpare 68 = .ok (.aload_n 0, 1) := by decide +kernel
theorem dX10_moveToSpare_69 : decode cX10_moveToSpare 69 = .ok (.getfield 7, 3) := by decide +kernel
theorem dX10_moveToSpare_72 : decode cX10_moveToSpare 72 = .ok (.bipush 11, 2) := by decide +kernel
theorem dX10_moveToSpare_74 : decode cX10_moveToSpare 74 = .ok (.dup2, 1) := by decide +kernel
theorem dX10_moveToSpare_75 : decode cX10_moveToSpare 75 = .ok (.iaload, 1) := by decide +kernel
theorem dX10_moveToSpare_76 : decode cX10_moveToSpare 76 = .ok (.iconst 1, 1) := by decide +kernel
theorem dX10_moveToSpare_77 : decode cX10_moveToSpare 77 = .ok (.iadd, 1) := by decide +kernel
theorem dX10_moveToSpare_78 : decode cX10_moveToSpare 78 = .ok (.iastore, 1) := by decide +kernel
theorem dX10_moveToSpare_79 : decode cX10_moveToSpare 79 = .ok (.sipush 572, 3) := by decide +kernel
theorem dX10_moveToSpare_82 : decode cX10_moveToSpare 82 = .ok (.aload_n 0, 1) := by decide +kernel
theorem dX10_moveToSpare_83 : decode cX10_moveToSpare 83 = .ok (.getfield 7, 3) := by decide +kernel
theorem dX10_moveToSpare_86 : decode cX10_moveToSpare 86 = .ok (.bipush 11, 2) := by decide +kernel
theorem dX10_moveToSpare_88 : decode cX10_moveToSpare 88 = .ok (.iaload, 1) := by decide +kernel
theorem dX10_moveToSpare_89 : decode cX10_moveToSpare 89 = .ok (.iadd, 1) := by decide +kernel
theorem dX10_moveToSpare_90 : decode cX10_moveToSpare 90 = .ok (.iconst 1, 1) := by decide +kernel
theorem dX10_moveToSpare_91 : decode cX10_moveToSpare 91 = .ok (.isub, 1) := by decide +kernel
theorem dX10_moveToSpare_92 : decode cX10_moveToSpare 92 = .ok (.ireturn, 1) := by decide +kernel
theorem dX10_accessesOf_0 : decode cX10_accessesOf 0 = .ok (.aload_n 0, 1) := by decide +kernel
theorem dX10_accessesOf_1 : decode cX10_accessesOf 1 = .ok (.iconst 0, 1) := by decide +kernel
theorem dX10_accessesOf_2 : decode cX10_accessesOf 2 = .ok (.putfield 39, 3) := by decide +kernel
theorem dX10_accessesOf_5 : decode cX10_accessesOf 5 = .ok (.iload_n 1, 1) := by decide +kernel
theorem dX10_accessesOf_6 : decode cX10_accessesOf 6 = .ok (.invokestatic 85, 3) := by decide +kernel
theorem dX10_accessesOf_9 : decode cX10_accessesOf 9 = .ok (.ifCond .eq 20, 3) := by decide +kernel
theorem dX10_accessesOf_12 : decode cX10_accessesOf 12 = .ok (.aload_n 0, 1) := by decide +kernel
theorem dX10_accessesOf_13 : decode cX10_accessesOf 13 = .ok (.getfield 7, 3) := by decide +kernel
theorem dX10_accessesOf_16 : decode cX10_accessesOf 16 = .ok (.sipush 1100, 3) := by decide +kernel
theorem dX10_accessesOf_19 : decode cX10_accessesOf 19 = .ok (.aload_n 0, 1) := by decide +kernel
theorem dX10_accessesOf_20 : decode cX10_accessesOf 20 = .ok (.iload_n 1, 1) := by decide +kernel
theorem dX10_accessesOf_21 : decode cX10_accessesOf 21 = .ok (.invokevirtual 89, 3) := by decide +kernel
theorem dX10_accessesOf_24 : decode cX10_accessesOf 24 = .ok (.iadd, 1) := by decide +kernel
theorem dX10_accessesOf_25 : decode cX10_accessesOf 25 = .ok (.iaload, 1) := by decide +kernel
theorem dX10_accessesOf_26 : decode cX10_accessesOf 26 = .ok (.goto 8, 3) := by decide +kernel
theorem dX10_accessesOf_29 : decode cX10_accessesOf 29 = .ok (.aload_n 0, 1) := by decide +kernel
theorem dX10_accessesOf_30 : decode cX10_accessesOf 30 = .ok (.iconst 1, 1) := by decide +kernel
theorem dX10_accessesOf_31 : decode cX10_accessesOf 31 = .ok (.invokevirtual 78, 3) := by decide +kernel
theorem dX10_accessesOf_34 : decode cX10_accessesOf 34 = .ok (.ireturn, 1) := by decide +kernel
theorem dX10_clock_0 : decode cX10_clock 0 = .ok (.aload_n 0, 1) := by decide +kernel
theorem dX10_clock_1 : decode cX10_clock 1 = .ok (.iconst 0, 1) := by decide +kernel
theorem dX10_clock_2 : decode cX10_clock 2 = .ok (.putfield 39, 3) := by decide +kernel
theorem dX10_clock_5 : decode cX10_clock 5 = .ok (.aload_n 0, 1) := by decide +kernel
theorem dX10_clock_6 : decode cX10_clock 6 = .ok (.getfield 7, 3) := by decide +kernel
theorem dX10_clock_9 : decode cX10_clock 9 = .ok (.bipush 8, 2) := by decide +kernel
theorem dX10_clock_11 : decode cX10_clock 11 = .ok (.iaload, 1) := by decide +kernel
theorem dX10_clock_12 : decode cX10_clock 12 = .ok (.ireturn, 1) := by decide +kernel
theorem dX10_arm_0 : decode cX10_arm 0 = .ok (.aload_n 0, 1) := by decide +kernel
theorem dX10_arm_1 : decode cX10_arm 1 = .ok (.iconst 0, 1) := by decide +kernel
theorem dX10_arm_2 : decode cX10_arm 2 = .ok (.putfield 39, 3) := by decide +kernel
theorem dX10_arm_5 : decode cX10_arm 5 = .ok (.aload_n 0, 1) := by decide +kernel
theorem dX10_arm_6 : decode cX10_arm 6 = .ok (.getfield 7, 3) := by decide +kernel
theorem dX10_arm_9 : decode cX10_arm 9 = .ok (.bipush 9, 2) := by decide +kernel
theorem dX10_arm_11 : decode cX10_arm 11 = .ok (.iaload, 1) := by decide +kernel
theorem dX10_arm_12 : decode cX10_arm 12 = .ok (.ireturn, 1) := by decide +kernel
theorem dX10_isUpward_0 : decode cX10_isUpward 0 = .ok (.aload_n 0, 1) := by decide +kernel
theorem dX10_isUpward_1 : decode cX10_isUpward 1 = .ok (.iconst 0, 1) := by decide +kernel
theorem dX10_isUpward_2 : decode cX10_isUpward 2 = .ok (.putfield 39, 3) := by decide +kernel
theorem dX10_isUpward_5 : decode cX10_isUpward 5 = .ok (.aload_n 0, 1) := by decide +kernel
theorem dX10_isUpward_6 : decode cX10_isUpward 6 = .ok (.getfield 7, 3) := by decide +kernel
theorem dX10_isUpward_9 : decode cX10_isUpward 9 = .ok (.bipush 10, 2) := by decide +kernel
theorem dX10_isUpward_11 : decode cX10_isUpward 11 = .ok (.iaload, 1) := by decide +kernel
theorem dX10_isUpward_12 : decode cX10_isUpward 12 = .ok (.iconst 1, 1) := by decide +kernel
theorem dX10_isUpward_13 : decode cX10_isUpward 13 = .ok (.if_icmp .ne 7, 3) := by decide +kernel
theorem dX10_isUpward_16 : decode cX10_isUpward 16 = .ok (.iconst 1, 1) := by decide +kernel
theorem dX10_isUpward_17 : decode cX10_isUpward 17 = .ok (.goto 4, 3) := by decide +kernel
