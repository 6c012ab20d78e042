theorem dX0_init_0 : decode cX0_init 0 = .ok (.aload_n 0, 1) := by decide +kernel
theorem dX0_init_1 : decode cX0_init 1 = .ok (.invokespecial 3, 3) := by decide +kernel
theorem dX0_init_4 : decode cX0_init 4 = .ok (.aload_n 0, 1) := by decide +kernel
theorem dX0_init_5 : decode cX0_init 5 = .ok (.new 9, 3) := by decide +kernel
theorem dX0_init_8 : decode cX0_init 8 = .ok (.dup, 1) := by decide +kernel
theorem dX0_init_9 : decode cX0_init 9 = .ok (.invokespecial 11, 3) := by decide +kernel
theorem dX0_init_12 : decode cX0_init 12 = .ok (.putfield 12, 3) := by decide +kernel
theorem dX0_init_15 : decode cX0_init 15 = .ok (.aload_n 0, 1) := by decide +kernel
theorem dX0_init_16 : decode cX0_init 16 = .ok (.aconst_null, 1) := by decide +kernel
theorem dX0_init_17 : decode cX0_init 17 = .ok (.putfield 18, 3) := by decide +kernel
theorem dX0_init_20 : decode cX0_init 20 = .ok (.aload_n 0, 1) := by decide +kernel
theorem dX0_init_21 : decode cX0_init 21 = .ok (.iconst 0, 1) := by decide +kernel
theorem dX0_init_22 : decode cX0_init 22 = .ok (.putfield 22, 3) := by decide +kernel
theorem dX0_init_25 : decode cX0_init 25 = .ok (.aload_n 0, 1) := by decide +kernel
theorem dX0_init_26 : decode cX0_init 26 = .ok (.iconst 0, 1) := by decide +kernel
theorem dX0_init_27 : decode cX0_init 27 = .ok (.putfield 26, 3) := by decide +kernel
theorem dX0_init_30 : decode cX0_init 30 = .ok (.aload_n 0, 1) := by decide +kernel
theorem dX0_init_31 : decode cX0_init 31 = .ok (.iconst 0, 1) := by decide +kernel
theorem dX0_init_32 : decode cX0_init 32 = .ok (.putfield 29, 3) := by decide +kernel
theorem dX0_init_35 : decode cX0_init 35 = .ok (.aload_n 0, 1) := by decide +kernel
theorem dX0_init_36 : decode cX0_init 36 = .ok (.iconst 0, 1) := by decide +kernel
theorem dX0_init_37 : decode cX0_init 37 = .ok (.putfield 32, 3) := by decide +kernel
theorem dX0_init_40 : decode cX0_init 40 = .ok (.aload_n 0, 1) := by decide +kernel
theorem dX0_init_41 : decode cX0_init 41 = .ok (.iconst (-1), 1) := by decide +kernel
theorem dX0_init_42 : decode cX0_init 42 = .ok (.putfield 35, 3) := by decide +kernel
theorem dX0_init_45 : decode cX0_init 45 = .ok (.aload_n 0, 1) := by decide +kernel
theorem dX0_init_46 : decode cX0_init 46 = .ok (.iconst (-1), 1) := by decide +kernel
theorem dX0_init_47 : decode cX0_init 47 = .ok (.putfield 38, 3) := by decide +kernel
theorem dX0_init_50 : decode cX0_init 50 = .ok (.aload_n 0, 1) := by decide +kernel
theorem dX0_init_51 : decode cX0_init 51 = .ok (.iload_n 1, 1) := by decide +kernel
theorem dX0_init_52 : decode cX0_init 52 = .ok (.putfield 41, 3) := by decide +kernel
theorem dX0_init_55 : decode cX0_init 55 = .ok (.aload_n 0, 1) := by decide +kernel
theorem dX0_init_56 : decode cX0_init 56 = .ok (.iload_n 2, 1) := by decide +kernel
theorem dX0_init_57 : decode cX0_init 57 = .ok (.putfield 44, 3) := by decide +kernel
theorem dX0_init_60 : decode cX0_init 60 = .ok (.aload_n 0, 1) := by decide +kernel
theorem dX0_init_61 : decode cX0_init 61 = .ok (.aload_n 3, 1) := by decide +kernel
theorem dX0_init_62 : decode cX0_init 62 = .ok (.putfield 47, 3) := by decide +kernel
theorem dX0_init_65 : decode cX0_init 65 = .ok (.aload_n 0, 1) := by decide +kernel
theorem dX0_init_66 : decode cX0_init 66 = .ok (.aload 4, 2) := by decide +kernel
theorem dX0_init_68 : decode cX0_init 68 = .ok (.putfield 51, 3) := by decide +kernel
theorem dX0_init_71 : decode cX0_init 71 = .ok (.aload_n 0, 1) := by decide +kernel
theorem dX0_init_72 : decode cX0_init 72 = .ok (.aload 5, 2) := by decide +kernel
theorem dX0_init_74 : decode cX0_init 74 = .ok (.putfield 54, 3) := by decide +kernel
theorem dX0_init_77 : decode cX0_init 77 = .ok (.aload_n 0, 1) := by decide +kernel
theorem dX0_init_78 : decode cX0_init 78 = .ok (.iload 6, 2) := by decide +kernel
theorem dX0_init_80 : decode cX0_init 80 = .ok (.putfield 58, 3) := by decide +kernel
theorem dX0_init_83 : decode cX0_init 83 = .ok (.aload_n 0, 1) := by decide +kernel
theorem dX0_init_84 : decode cX0_init 84 = .ok (.iload 7, 2) := by decide +kernel
theorem dX0_init_86 : decode cX0_init 86 = .ok (.putfield 61, 3) := by decide +kernel
theorem dX0_init_89 : decode cX0_init 89 = .ok (.return_, 1) := by decide +kernel
theorem dX0_isClosed_0 : decode cX0_isClosed 0 = .ok (.aload_n 0, 1) := by decide +kernel
theorem dX0_isClosed_1 : decode cX0_isClosed 1 = .ok (.getfield 29, 3) := by decide +kernel
theorem dX0_isClosed_4 : decode cX0_isClosed 4 = .ok (.ifCond .eq 7, 3) := by decide +kernel
theorem dX0_isClosed_7 : decode cX0_isClosed 7 = .ok (.iconst 1, 1) := by decide +kernel
theorem dX0_isClosed_8 : decode cX0_isClosed 8 = .ok (.goto 4, 3) := by decide +kernel
theorem dX0_isClosed_11 : decode cX0_isClosed 11 = .ok (.iconst 0, 1) := by decide +kernel
theorem dX0_isClosed_12 : decode cX0_isClosed 12 = .ok (.ireturn, 1) := by decide +kernel
theorem dX0_hasAll_0 : decode cX0_hasAll 0 = .ok (.aload_n 0, 1) := by decide +kernel
theorem dX0_hasAll_1 : decode cX0_hasAll 1 = .ok (.getfield 22, 3) := by decide +kernel
theorem dX0_hasAll_4 : decode cX0_hasAll 4 = .ok (.iload_n 1, 1) := by decide +kernel
theorem dX0_hasAll_5 : decode cX0_hasAll 5 = .ok (.iand, 1) := by decide +kernel
theorem dX0_hasAll_6 : decode cX0_hasAll 6 = .ok (.iload_n 1, 1) := by decide +kernel
theorem dX0_hasAll_7 : decode cX0_hasAll 7 = .ok (.if_icmp .ne 7, 3) := by decide +kernel
theorem dX0_hasAll_10 : decode cX0_hasAll 10 = .ok (.iconst 1, 1) := by decide +kernel
theorem dX0_hasAll_11 : decode cX0_hasAll 11 = .ok (.goto 4, 3) := by decide +kernel
theorem dX0_hasAll_14 : decode cX0_hasAll 14 = .ok (.iconst 0, 1) := by decide +kernel
theorem dX0_hasAll_15 : decode cX0_hasAll 15 = .ok (.ireturn, 1) := by decide +kernel
theorem dX0_side_0 : decode cX0_side 0 = .ok (.iload_n 1, 1) := by decide +kernel
theorem dX0_side_1 : decode cX0_side 1 = .ok (.ifCond .eq 10, 3) := by decide +kernel
theorem dX0_side_4 : decode cX0_side 4 = .ok (.aload_n 0, 1) := by decide +kernel
theorem dX0_side_5 : decode cX0_side 5 = .ok (.getfield 47, 3) := by decide +kernel
theorem dX0_side_8 : decode cX0_side 8 = .ok (.goto 7, 3) := by decide +kernel
theorem dX0_side_11 : decode cX0_side 11 = .ok (.aload_n 0, 1) := by decide +kernel
theorem dX0_side_12 : decode cX0_side 12 = .ok (.getfield 51, 3) := by decide +kernel
theorem dX0_side_15 : decode cX0_side 15 = .ok (.areturn, 1) := by decide +kernel
theorem dX0_hasWitness_0 : decode cX0_hasWitness 0 = .ok (.aload_n 0, 1) := by decide +kernel
theorem dX0_hasWitness_1 : decode cX0_hasWitness 1 = .ok (.getfield 26, 3) := by decide +kernel
theorem dX0_hasWitness_4 : decode cX0_hasWitness 4 = .ok (.iconst 1, 1) := by decide +kernel
theorem dX0_hasWitness_5 : decode cX0_hasWitness 5 = .ok (.aload_n 1, 1) := by decide +kernel
theorem dX0_hasWitness_6 : decode cX0_hasWitness 6 = .ok (.getfield 64, 3) := by decide +kernel
theorem dX0_hasWitness_9 : decode cX0_hasWitness 9 = .ok (.ishl, 1) := by decide +kernel
theorem dX0_hasWitness_10 : decode cX0_hasWitness 10 = .ok (.iand, 1) := by decide +kernel
theorem dX0_hasWitness_11 : decode cX0_hasWitness 11 = .ok (.ifCond .eq 7, 3) := by decide +kernel
theorem dX0_hasWitness_14 : decode cX0_hasWitness 14 = .ok (.iconst 1, 1) := by decide +kernel
theorem dX0_hasWitness_15 : decode cX0_hasWitness 15 = .ok (.goto 4, 3) := by decide +kernel
theorem dX0_hasWitness_18 : decode cX0_hasWitness 18 = .ok (.iconst 0, 1) := by decide +kernel
theorem dX0_hasWitness_19 : decode cX0_hasWitness 19 = .ok (.ireturn, 1) := by decide +kernel
theorem dX0_addWitness_0 : decode cX0_addWitness 0 = .ok (.aload_n 0, 1) := by decide +kernel
theorem dX0_addWitness_1 : decode cX0_addWitness 1 = .ok (.dup, 1) := by decide +kernel
theorem dX0_addWitness_2 : decode cX0_addWitness 2 = .ok (.getfield 26, 3) := by decide +kernel
theorem dX0_addWitness_5 : decode cX0_addWitness 5 = .ok (.iconst 1, 1) := by decide +kernel
theorem dX0_addWitness_6 : decode cX0_addWitness 6 = .ok (.aload_n 1, 1) := by decide +kernel
theorem dX0_addWitness_7 : decode cX0_addWitness 7 = .ok (.getfield 64, 3) := by decide +kernel
theorem dX0_addWitness_10 : decode cX0_addWitness 10 = .ok (.ishl, 1) := by decide +kernel
theorem dX0_addWitness_11 : decode cX0_addWitness 11 = .ok (.ior, 1) := by decide +kernel
theorem dX0_addWitness_12 : decode cX0_addWitness 12 = .ok (.putfield 26, 3) := by decide +kernel
theorem dX0_addWitness_15 : decode cX0_addWitness 15 = .ok (.aload_n 0, 1) := by decide +kernel
theorem dX0_addWitness_16 : decode cX0_addWitness 16 = .ok (.getfield 26, 3) := by decide +kernel
theorem dX0_addWitness_19 : decode cX0_addWitness 19 = .ok (.invokestatic 67, 3) := by decide +kernel
theorem dX0_addWitness_22 : decode cX0_addWitness 22 = .ok (.iconst 2, 1) := by decide +kernel
theorem dX0_addWitness_23 : decode cX0_addWitness 23 = .ok (.if_icmp .lt 14, 3) := by decide +kernel
theorem dX0_addWitness_26 : decode cX0_addWitness 26 = .ok (.aload_n 0, 1) := by decide +kernel
theorem dX0_addWitness_27 : decode cX0_addWitness 27 = .ok (.dup, 1) := by decide +kernel
theorem dX0_addWitness_28 : decode cX0_addWitness 28 = .ok (.getfield 22, 3) := by decide +kernel
theorem dX0_addWitness_31 : decode cX0_addWitness 31 = .ok (.bipush 8, 2) := by decide +kernel
theorem dX0_addWitness_33 : decode cX0_addWitness 33 = .ok (.ior, 1) := by decide +kernel
theorem dX0_addWitness_34 : decode cX0_addWitness 34 = .ok (.putfield 22, 3) := by decide +kernel
theorem dX0_addWitness_37 : decode cX0_addWitness 37 = .ok (.return_, 1) := by decide +kernel
theorem dX1_init_0 : decode cX1_init 0 = .ok (.aload_n 0, 1) := by decide +kernel
theorem dX1_init_1 : decode cX1_init 1 = .ok (.invokespecial 1, 3) := by decide +kernel
theorem dX1_init_4 : decode cX1_init 4 = .ok (.aload_n 0, 1) := by decide +kernel
theorem dX1_init_5 : decode cX1_init 5 = .ok (.iload_n 1, 1) := by decide +kernel
theorem dX1_init_6 : decode cX1_init 6 = .ok (.putfield 7, 3) := by decide +kernel
theorem dX1_init_9 : decode cX1_init 9 = .ok (.aload_n 0, 1) := by decide +kernel
theorem dX1_init_10 : decode cX1_init 10 = .ok (.iload_n 2, 1) := by decide +kernel
theorem dX1_init_11 : decode cX1_init 11 = .ok (.putfield 13, 3) := by decide +kernel
theorem dX1_init_14 : decode cX1_init 14 = .ok (.aload_n 0, 1) := by decide +kernel
theorem dX1_init_15 : decode cX1_init 15 = .ok (.aload_n 3, 1) := by decide +kernel
theorem dX1_init_16 : decode cX1_init 16 = .ok (.putfield 16, 3) := by decide +kernel
theorem dX1_init_19 : decode cX1_init 19 = .ok (.aload_n 0, 1) := by decide +kernel
theorem dX1_init_20 : decode cX1_init 20 = .ok (.iload 4, 2) := by decide +kernel
theorem dX1_init_22 : decode cX1_init 22 = .ok (.putfield 20, 3) := by decide +kernel
theorem dX1_init_25 : decode cX1_init 25 = .ok (.aload_n 0, 1) := by decide +kernel
theorem dX1_init_26 : decode cX1_init 26 = .ok (.aload 5, 2) := by decide +kernel
theorem dX1_init_28 : decode cX1_init 28 = .ok (.putfield 23, 3) := by decide +kernel
theorem dX1_init_31 : decode cX1_init 31 = .ok (.return_, 1) := by decide +kernel
theorem dX2_init_0 : decode cX2_init 0 = .ok (.aload_n 0, 1) := by decide +kernel
theorem dX2_init_1 : decode cX2_init 1 = .ok (.invokespecial 1, 3) := by decide +kernel
theorem dX2_init_4 : decode cX2_init 4 = .ok (.aload_n 0, 1) := by decide +kernel
theorem dX2_init_5 : decode cX2_init 5 = .ok (.iconst 0, 1) := by decide +kernel
theorem dX2_init_6 : decode cX2_init 6 = .ok (.putfield 7, 3) := by decide +kernel
theorem dX2_init_9 : decode cX2_init 9 = .ok (.aload_n 0, 1) := by decide +kernel
theorem dX2_init_10 : decode cX2_init 10 = .ok (.iconst 0, 1) := by decide +kernel
theorem dX2_init_11 : decode cX2_init 11 = .ok (.putfield 13, 3) := by decide +kernel
theorem dX2_init_14 : decode cX2_init 14 = .ok (.aload_n 0, 1) := by decide +kernel
theorem dX2_init_15 : decode cX2_init 15 = .ok (.aconst_null, 1) := by decide +kernel
theorem dX2_init_16 : decode cX2_init 16 = .ok (.putfield 16, 3) := by decide +kernel
theorem dX2_init_19 : decode cX2_init 19 = .ok (.aload_n 0, 1) := by decide +kernel
theorem dX2_init_20 : decode cX2_init 20 = .ok (.iload_n 1, 1) := by decide +kernel
theorem dX2_init_21 : decode cX2_init 21 = .ok (.putfield 20, 3) := by decide +kernel
theorem dX2_init_24 : decode cX2_init 24 = .ok (.aload_n 0, 1) := by decide +kernel
theorem dX2_init_25 : decode cX2_init 25 = .ok (.iload_n 2, 1) := by decide +kernel
theorem dX2_init_26 : decode cX2_init 26 = .ok (.putfield 24, 3) := by decide +kernel
theorem dX2_init_29 : decode cX2_init 29 = .ok (.return_, 1) := by decide +kernel
theorem dX3_init_0 : decode cX3_init 0 = .ok (.aload_n 0, 1) := by decide +kernel
theorem dX3_init_1 : decode cX3_init 1 = .ok (.invokespecial 1, 3) := by decide +kernel
theorem dX3_init_4 : decode cX3_init 4 = .ok (.aload_n 0, 1) := by decide +kernel
theorem dX3_init_5 : decode cX3_init 5 = .ok (.iload_n 1, 1) := by decide +kernel
theorem dX3_init_6 : decode cX3_init 6 = .ok (.putfield 7, 3) := by decide +kernel
theorem dX3_init_9 : decode cX3_init 9 = .ok (.aload_n 0, 1) := by decide +kernel
theorem dX3_init_10 : decode cX3_init 10 = .ok (.iload_n 2, 1) := by decide +kernel
theorem dX3_init_11 : decode cX3_init 11 = .ok (.putfield 13, 3) := by decide +kernel
theorem dX3_init_14 : decode cX3_init 14 = .ok (.aload_n 0, 1) := by decide +kernel
theorem dX3_init_15 : decode cX3_init 15 = .ok (.iload_n 3, 1) := by decide +kernel
theorem dX3_init_16 : decode cX3_init 16 = .ok (.putfield 16, 3) := by decide +kernel
theorem dX3_init_19 : decode cX3_init 19 = .ok (.aload_n 0, 1) := by decide +kernel
theorem dX3_init_20 : decode cX3_init 20 = .ok (.iload 4, 2) := by decide +kernel
theorem dX3_init_22 : decode cX3_init 22 = .ok (.putfield 19, 3) := by decide +kernel
theorem dX3_init_25 : decode cX3_init 25 = .ok (.aload_n 0, 1) := by decide +kernel
theorem dX3_init_26 : decode cX3_init 26 = .ok (.iload 5, 2) := by decide +kernel
theorem dX3_init_28 : decode cX3_init 28 = .ok (.putfield 22, 3) := by decide +kernel
theorem dX3_init_31 : decode cX3_init 31 = .ok (.return_, 1) := by decide +kernel
theorem dX4_init_0 : decode cX4_init 0 = .ok (.aload_n 0, 1) := by decide +kernel
theorem dX4_init_1 : decode cX4_init 1 = .ok (.invokespecial 3, 3) := by decide +kernel
theorem dX4_init_4 : decode cX4_init 4 = .ok (.aload_n 0, 1) := by decide +kernel
theorem dX4_init_5 : decode cX4_init 5 = .ok (.iconst 4, 1) := by decide +kernel
theorem dX4_init_6 : decode cX4_init 6 = .ok (.newarray .int, 2) := by decide +kernel
theorem dX4_init_8 : decode cX4_init 8 = .ok (.putfield 9, 3) := by decide +kernel
theorem dX4_init_11 : decode cX4_init 11 = .ok (.aload_n 0, 1) := by decide +kernel
theorem dX4_init_12 : decode cX4_init 12 = .ok (.iconst 0, 1) := by decide +kernel
theorem dX4_init_13 : decode cX4_init 13 = .ok (.putfield 15, 3) := by decide +kernel
theorem dX4_init_16 : decode cX4_init 16 = .ok (.return_, 1) := by decide +kernel
theorem dX4_leastGrade_0 : decode cX4_leastGrade 0 = .ok (.aload_n 0, 1) := by decide +kernel
theorem dX4_leastGrade_1 : decode cX4_leastGrade 1 = .ok (.getfield 15, 3) := by decide +kernel
theorem dX4_leastGrade_4 : decode cX4_leastGrade 4 = .ok (.ifCond .ne 7, 3) := by decide +kernel
theorem dX4_leastGrade_7 : decode cX4_leastGrade 7 = .ok (.iconst (-1), 1) := by decide +kernel
theorem dX4_leastGrade_8 : decode cX4_leastGrade 8 = .ok (.goto 9, 3) := by decide +kernel
theorem dX4_leastGrade_11 : decode cX4_leastGrade 11 = .ok (.aload_n 0, 1) := by decide +kernel
theorem dX4_leastGrade_12 : decode cX4_leastGrade 12 = .ok (.getfield 9, 3) := by decide +kernel
theorem dX4_leastGrade_15 : decode cX4_leastGrade 15 = .ok (.iconst 0, 1) := by decide +kernel
theorem dX4_leastGrade_16 : decode cX4_leastGrade 16 = .ok (.iaload, 1) := by decide +kernel
theorem dX4_leastGrade_17 : decode cX4_leastGrade 17 = .ok (.ireturn, 1) := by decide +kernel
theorem dX4_append_0 : decode cX4_append 0 = .ok (.aload_n 0, 1) := by decide +kernel
theorem dX4_append_1 : decode cX4_append 1 = .ok (.getfield 15, 3) := by decide +kernel
theorem dX4_append_4 : decode cX4_append 4 = .ok (.aload_n 0, 1) := by decide +kernel
theorem dX4_append_5 : decode cX4_append 5 = .ok (.getfield 9, 3) := by decide +kernel
theorem dX4_append_8 : decode cX4_append 8 = .ok (.arraylength, 1) := by decide +kernel
theorem dX4_append_9 : decode cX4_append 9 = .ok (.if_icmp .ge 23, 3) := by decide +kernel
theorem dX4_append_12 : decode cX4_append 12 = .ok (.aload_n 0, 1) := by decide +kernel
theorem dX4_append_13 : decode cX4_append 13 = .ok (.getfield 9, 3) := by decide +kernel
theorem dX4_append_16 : decode cX4_append 16 = .ok (.aload_n 0, 1) := by decide +kernel
theorem dX4_append_17 : decode cX4_append 17 = .ok (.getfield 15, 3) := by decide +kernel
theorem dX4_append_20 : decode cX4_append 20 = .ok (.iload_n 1, 1) := by decide +kernel
theorem dX4_append_21 : decode cX4_append 21 = .ok (.iastore, 1) := by decide +kernel
theorem dX4_append_22 : decode cX4_append 22 = .ok (.aload_n 0, 1) := by decide +kernel
theorem dX4_append_23 : decode cX4_append 23 = .ok (.dup, 1) := by decide +kernel
theorem dX4_append_24 : decode cX4_append 24 = .ok (.getfield 15, 3) := by decide +kernel
theorem dX4_append_27 : decode cX4_append 27 = .ok (.iconst 1, 1) := by decide +kernel
theorem dX4_append_28 : decode cX4_append 28 = .ok (.iadd, 1) := by decide +kernel
theorem dX4_append_29 : decode cX4_append 29 = .ok (.putfield 15, 3) := by decide +kernel
theorem dX4_append_32 : decode cX4_append 32 = .ok (.return_, 1) := by decide +kernel
theorem dX4_dropFirst_0 : decode cX4_dropFirst 0 = .ok (.iconst 1, 1) := by decide +kernel
theorem dX4_dropFirst_1 : decode cX4_dropFirst 1 = .ok (.istore_n 1, 1) := by decide +kernel
theorem dX4_dropFirst_2 : decode cX4_dropFirst 2 = .ok (.iload_n 1, 1) := by decide +kernel
theorem dX4_dropFirst_3 : decode cX4_dropFirst 3 = .ok (.aload_n 0, 1) := by decide +kernel
theorem dX4_dropFirst_4 : decode cX4_dropFirst 4 = .ok (.getfield 15, 3) := by decide +kernel
theorem dX4_dropFirst_7 : decode cX4_dropFirst 7 = .ok (.if_icmp .ge 32, 3) := by decide +kernel
theorem dX4_dropFirst_10 : decode cX4_dropFirst 10 = .ok (.iload_n 1, 1) := by decide +kernel
theorem dX4_dropFirst_11 : decode cX4_dropFirst 11 = .ok (.aload_n 0, 1) := by decide +kernel
theorem dX4_dropFirst_12 : decode cX4_dropFirst 12 = .ok (.getfield 9, 3) := by decide +kernel
theorem dX4_dropFirst_15 : decode cX4_dropFirst 15 = .ok (.arraylength, 1) := by decide +kernel
theorem dX4_dropFirst_16 : decode cX4_dropFirst 16 = .ok (.if_icmp .ge 23, 3) := by decide +kernel
theorem dX4_dropFirst_19 : decode cX4_dropFirst 19 = .ok (.aload_n 0, 1) := by decide +kernel
theorem dX4_dropFirst_20 : decode cX4_dropFirst 20 = .ok (.getfield 9, 3) := by decide +kernel
theorem dX4_dropFirst_23 : decode cX4_dropFirst 23 = .ok (.iload_n 1, 1) := by decide +kernel
theorem dX4_dropFirst_24 : decode cX4_dropFirst 24 = .ok (.iconst 1, 1) := by decide +kernel
theorem dX4_dropFirst_25 : decode cX4_dropFirst 25 = .ok (.isub, 1) := by decide +kernel
theorem dX4_dropFirst_26 : decode cX4_dropFirst 26 = .ok (.aload_n 0, 1) := by decide +kernel
theorem dX4_dropFirst_27 : decode cX4_dropFirst 27 = .ok (.getfield 9, 3) := by decide +kernel
theorem dX4_dropFirst_30 : decode cX4_dropFirst 30 = .ok (.iload_n 1, 1) := by decide +kernel
theorem dX4_dropFirst_31 : decode cX4_dropFirst 31 = .ok (.iaload, 1) := by decide +kernel
theorem dX4_dropFirst_32 : decode cX4_dropFirst 32 = .ok (.iastore, 1) := by decide +kernel
theorem dX4_dropFirst_33 : decode cX4_dropFirst 33 = .ok (.iinc 1 1, 3) := by decide +kernel
theorem dX4_dropFirst_36 : decode cX4_dropFirst 36 = .ok (.goto (-34), 3) := by decide +kernel
theorem dX4_dropFirst_39 : decode cX4_dropFirst 39 = .ok (.aload_n 0, 1) := by decide +kernel
theorem dX4_dropFirst_40 : decode cX4_dropFirst 40 = .ok (.getfield 15, 3) := by decide +kernel
theorem dX4_dropFirst_43 : decode cX4_dropFirst 43 = .ok (.ifCond .le 13, 3) := by decide +kernel
theorem dX4_dropFirst_46 : decode cX4_dropFirst 46 = .ok (.aload_n 0, 1) := by decide +kernel
theorem dX4_dropFirst_47 : decode cX4_dropFirst 47 = .ok (.dup, 1) := by decide +kernel
theorem dX4_dropFirst_48 : decode cX4_dropFirst 48 = .ok (.getfield 15, 3) := by decide +kernel
theorem dX4_dropFirst_51 : decode cX4_dropFirst 51 = .ok (.iconst 1, 1) := by decide +kernel
theorem dX4_dropFirst_52 : decode cX4_dropFirst 52 = .ok (.isub, 1) := by decide +kernel
theorem dX4_dropFirst_53 : decode cX4_dropFirst 53 = .ok (.putfield 15, 3) := by decide +kernel
theorem dX4_dropFirst_56 : decode cX4_dropFirst 56 = .ok (.return_, 1) := by decide +kernel
theorem dX5_init_0 : decode cX5_init 0 = .ok (.aload_n 0, 1) := by decide +kernel
theorem dX5_init_1 : decode cX5_init 1 = .ok (.invokespecial 3, 3) := by decide +kernel
theorem dX5_init_4 : decode cX5_init 4 = .ok (.aload_n 0, 1) := by decide +kernel
theorem dX5_init_5 : decode cX5_init 5 = .ok (.iconst 1, 1) := by decide +kernel
theorem dX5_init_6 : decode cX5_init 6 = .ok (.putfield 9, 3) := by decide +kernel
theorem dX5_init_9 : decode cX5_init 9 = .ok (.aload_n 0, 1) := by decide +kernel
theorem dX5_init_10 : decode cX5_init 10 = .ok (.aconst_null, 1) := by decide +kernel
theorem dX5_init_11 : decode cX5_init 11 = .ok (.putfield 15, 3) := by decide +kernel
theorem dX5_init_14 : decode cX5_init 14 = .ok (.aload_n 0, 1) := by decide +kernel
theorem dX5_init_15 : decode cX5_init 15 = .ok (.iconst 0, 1) := by decide +kernel
theorem dX5_init_16 : decode cX5_init 16 = .ok (.putfield 19, 3) := by decide +kernel
theorem dX5_init_19 : decode cX5_init 19 = .ok (.aload_n 0, 1) := by decide +kernel
theorem dX5_init_20 : decode cX5_init 20 = .ok (.iload_n 1, 1) := by decide +kernel
theorem dX5_init_21 : decode cX5_init 21 = .ok (.putfield 23, 3) := by decide +kernel
theorem dX5_init_24 : decode cX5_init 24 = .ok (.aload_n 0, 1) := by decide +kernel
theorem dX5_init_25 : decode cX5_init 25 = .ok (.iload_n 2, 1) := by decide +kernel
theorem dX5_init_26 : decode cX5_init 26 = .ok (.putfield 26, 3) := by decide +kernel
theorem dX5_init_29 : decode cX5_init 29 = .ok (.aload_n 0, 1) := by decide +kernel
theorem dX5_init_30 : decode cX5_init 30 = .ok (.iload_n 3, 1) := by decide +kernel
theorem dX5_init_31 : decode cX5_init 31 = .ok (.putfield 29, 3) := by decide +kernel
theorem dX5_init_34 : decode cX5_init 34 = .ok (.aload_n 0, 1) := by decide +kernel
theorem dX5_init_35 : decode cX5_init 35 = .ok (.iload 4, 2) := by decide +kernel
theorem dX5_init_37 : decode cX5_init 37 = .ok (.putfield 32, 3) := by decide +kernel
theorem dX5_init_40 : decode cX5_init 40 = .ok (.return_, 1) := by decide +kernel
theorem dX5_isAbleOn_0 : decode cX5_isAbleOn 0 = .ok (.aload_n 0, 1) := by decide +kernel
theorem dX5_isAbleOn_1 : decode cX5_isAbleOn 1 = .ok (.getfield 26, 3) := by decide +kernel
theorem dX5_isAbleOn_4 : decode cX5_isAbleOn 4 = .ok (.iload_n 1, 1) := by decide +kernel
theorem dX5_isAbleOn_5 : decode cX5_isAbleOn 5 = .ok (.aload_n 0, 1) := by decide +kernel
theorem dX5_isAbleOn_6 : decode cX5_isAbleOn 6 = .ok (.getfield 29, 3) := by decide +kernel
theorem dX5_isAbleOn_9 : decode cX5_isAbleOn 9 = .ok (.isub, 1) := by decide +kernel
theorem dX5_isAbleOn_10 : decode cX5_isAbleOn 10 = .ok (.sipush 360, 3) := by decide +kernel
theorem dX5_isAbleOn_13 : decode cX5_isAbleOn 13 = .ok (.idiv, 1) := by decide +kernel
theorem dX5_isAbleOn_14 : decode cX5_isAbleOn 14 = .ok (.iadd, 1) := by decide +kernel
theorem dX5_isAbleOn_15 : decode cX5_isAbleOn 15 = .ok (.istore_n 2, 1) := by decide +kernel
theorem dX5_isAbleOn_16 : decode cX5_isAbleOn 16 = .ok (.aload_n 0, 1) := by decide +kernel
theorem dX5_isAbleOn_17 : decode cX5_isAbleOn 17 = .ok (.getfield 9, 3) := by decide +kernel
theorem dX5_isAbleOn_20 : decode cX5_isAbleOn 20 = .ok (.ifCond .eq 20, 3) := by decide +kernel
theorem dX5_isAbleOn_23 : decode cX5_isAbleOn 23 = .ok (.iload_n 2, 1) := by decide +kernel
theorem dX5_isAbleOn_24 : decode cX5_isAbleOn 24 = .ok (.bipush 18, 2) := by decide +kernel
theorem dX5_isAbleOn_26 : decode cX5_isAbleOn 26 = .ok (.if_icmp .lt 14, 3) := by decide +kernel
theorem dX5_isAbleOn_29 : decode cX5_isAbleOn 29 = .ok (.aload_n 0, 1) := by decide +kernel
theorem dX5_isAbleOn_30 : decode cX5_isAbleOn 30 = .ok (.getfield 15, 3) := by decide +kernel
theorem dX5_isAbleOn_33 : decode cX5_isAbleOn 33 = .ok (.ifnonnull 7, 3) := by decide +kernel
theorem dX5_isAbleOn_36 : decode cX5_isAbleOn 36 = .ok (.iconst 1, 1) := by decide +kernel
theorem dX5_isAbleOn_37 : decode cX5_isAbleOn 37 = .ok (.goto 4, 3) := by decide +kernel
theorem dX5_isAbleOn_40 : decode cX5_isAbleOn 40 = .ok (.iconst 0, 1) := by decide +kernel
theorem dX5_isAbleOn_41 : decode cX5_isAbleOn 41 = .ok (.ireturn, 1) := by decide +kernel
theorem dX5_isChildOf_0 : decode cX5_isChildOf 0 = .ok (.aload_n 0, 1) := by decide +kernel
theorem dX5_isChildOf_1 : decode cX5_isChildOf 1 = .ok (.getfield 19, 3) := by decide +kernel
theorem dX5_isChildOf_4 : decode cX5_isChildOf 4 = .ok (.iconst 1, 1) := by decide +kernel
theorem dX5_isChildOf_5 : decode cX5_isChildOf 5 = .ok (.aload_n 1, 1) := by decide +kernel
theorem dX5_isChildOf_6 : decode cX5_isChildOf 6 = .ok (.getfield 23, 3) := by decide +kernel
theorem dX5_isChildOf_9 : decode cX5_isChildOf 9 = .ok (.ishl, 1) := by decide +kernel
theorem dX5_isChildOf_10 : decode cX5_isChildOf 10 = .ok (.iand, 1) := by decide +kernel
theorem dX5_isChildOf_11 : decode cX5_isChildOf 11 = .ok (.ifCond .eq 7, 3) := by decide +kernel
theorem dX5_isChildOf_14 : decode cX5_isChildOf 14 = .ok (.iconst 1, 1) := by decide +kernel
theorem dX5_isChildOf_15 : decode cX5_isChildOf 15 = .ok (.goto 4, 3) := by decide +kernel
theorem dX5_isChildOf_18 : decode cX5_isChildOf 18 = .ok (.iconst 0, 1) := by decide +kernel
theorem dX5_isChildOf_19 : decode cX5_isChildOf 19 = .ok (.ireturn, 1) := by decide +kernel
theorem dX5_parentCount_0 : decode cX5_parentCount 0 = .ok (.aload_n 0, 1) := by decide +kernel
theorem dX5_parentCount_1 : decode cX5_parentCount 1 = .ok (.getfield 19, 3) := by decide +kernel
theorem dX5_parentCount_4 : decode cX5_parentCount 4 = .ok (.invokestatic 35, 3) := by decide +kernel
theorem dX5_parentCount_7 : decode cX5_parentCount 7 = .ok (.ireturn, 1) := by decide +kernel
theorem dX5_addParent_0 : decode cX5_addParent 0 = .ok (.aload_n 0, 1) := by decide +kernel
theorem dX5_addParent_1 : decode cX5_addParent 1 = .ok (.dup, 1) := by decide +kernel
theorem dX5_addParent_2 : decode cX5_addParent 2 = .ok (.getfield 19, 3) := by decide +kernel
theorem dX5_addParent_5 : decode cX5_addParent 5 = .ok (.iconst 1, 1) := by decide +kernel
theorem dX5_addParent_6 : decode cX5_addParent 6 = .ok (.aload_n 1, 1) := by decide +kernel
theorem dX5_addParent_7 : decode cX5_addParent 7 = .ok (.getfield 23, 3) := by decide +kernel
theorem dX5_addParent_10 : decode cX5_addParent 10 = .ok (.ishl, 1) := by decide +kernel
theorem dX5_addParent_11 : decode cX5_addParent 11 = .ok (.ior, 1) := by decide +kernel
theorem dX5_addParent_12 : decode cX5_addParent 12 = .ok (.putfield 19, 3) := by decide +kernel
theorem dX5_addParent_15 : decode cX5_addParent 15 = .ok (.return_, 1) := by decide +kernel
theorem dX6_init_0 : decode cX6_init 0 = .ok (.aload_n 0, 1) := by decide +kernel
theorem dX6_init_1 : decode cX6_init 1 = .ok (.invokespecial 3, 3) := by decide +kernel
theorem dX6_init_4 : decode cX6_init 4 = .ok (.aload_n 0, 1) := by decide +kernel
theorem dX6_init_5 : decode cX6_init 5 = .ok (.bipush 13, 2) := by decide +kernel
theorem dX6_init_7 : decode cX6_init 7 = .ok (.newarray .long, 2) := by decide +kernel
theorem dX6_init_9 : decode cX6_init 9 = .ok (.putfield 9, 3) := by decide +kernel
theorem dX6_init_12 : decode cX6_init 12 = .ok (.aload_n 0, 1) := by decide +kernel
theorem dX6_init_13 : decode cX6_init 13 = .ok (.bipush 13, 2) := by decide +kernel
theorem dX6_init_15 : decode cX6_init 15 = .ok (.newarray .long, 2) := by decide +kernel
theorem dX6_init_17 : decode cX6_init 17 = .ok (.putfield 15, 3) := by decide +kernel
theorem dX6_init_20 : decode cX6_init 20 = .ok (.return_, 1) := by decide +kernel
theorem dX6_isHolder_0 : decode cX6_isHolder 0 = .ok (.iload_n 0, 1) := by decide +kernel
theorem dX6_isHolder_1 : decode cX6_isHolder 1 = .ok (.ifCond .lt 13, 3) := by decide +kernel
theorem dX6_isHolder_4 : decode cX6_isHolder 4 = .ok (.iload_n 0, 1) := by decide +kernel
theorem dX6_isHolder_5 : decode cX6_isHolder 5 = .ok (.bipush 13, 2) := by decide +kernel
theorem dX6_isHolder_7 : decode cX6_isHolder 7 = .ok (.if_icmp .ge 7, 3) := by decide +kernel
theorem dX6_isHolder_10 : decode cX6_isHolder 10 = .ok (.iconst 1, 1) := by decide +kernel
theorem dX6_isHolder_11 : decode cX6_isHolder 11 = .ok (.goto 4, 3) := by decide +kernel
theorem dX6_isHolder_14 : decode cX6_isHolder 14 = .ok (.iconst 0, 1) := by decide +kernel
theorem dX6_isHolder_15 : decode cX6_isHolder 15 = .ok (.ireturn, 1) := by decide +kernel
theorem dX6_startWith_0 : decode cX6_startWith 0 = .ok (.iconst 0, 1) := by decide +kernel
theorem dX6_startWith_1 : decode cX6_startWith 1 = .ok (.istore_n 2, 1) := by decide +kernel
theorem dX6_startWith_2 : decode cX6_startWith 2 = .ok (.iload_n 2, 1) := by decide +kernel
theorem dX6_startWith_3 : decode cX6_startWith 3 = .ok (.bipush 13, 2) := by decide +kernel
theorem dX6_startWith_5 : decode cX6_startWith 5 = .ok (.if_icmp .ge 32, 3) := by decide +kernel
theorem dX6_startWith_8 : decode cX6_startWith 8 = .ok (.aload_n 0, 1) := by decide +kernel
theorem dX6_startWith_9 : decode cX6_startWith 9 = .ok (.getfield 9, 3) := by decide +kernel
theorem dX6_startWith_12 : decode cX6_startWith 12 = .ok (.iload_n 2, 1) := by decide +kernel
theorem dX6_startWith_13 : decode cX6_startWith 13 = .ok (.iload_n 2, 1) := by decide +kernel
theorem dX6_startWith_14 : decode cX6_startWith 14 = .ok (.iload_n 1, 1) := by decide +kernel
theorem dX6_startWith_15 : decode cX6_startWith 15 = .ok (.if_icmp .ne 7, 3) := by decide +kernel
theorem dX6_startWith_18 : decode cX6_startWith 18 = .ok (.lconst 1, 1) := by decide +kernel
theorem dX6_startWith_19 : decode cX6_startWith 19 = .ok (.goto 4, 3) := by decide +kernel
theorem dX6_startWith_22 : decode cX6_startWith 22 = .ok (.lconst 0, 1) := by decide +kernel
theorem dX6_startWith_23 : decode cX6_startWith 23 = .ok (.lastore, 1) := by decide +kernel
theorem dX6_startWith_24 : decode cX6_startWith 24 = .ok (.aload_n 0, 1) := by decide +kernel
theorem dX6_startWith_25 : decode cX6_startWith 25 = .ok (.getfield 15, 3) := by decide +kernel
theorem dX6_startWith_28 : decode cX6_startWith 28 = .ok (.iload_n 2, 1) := by decide +kernel
theorem dX6_startWith_29 : decode cX6_startWith 29 = .ok (.lconst 1, 1) := by decide +kernel
theorem dX6_startWith_30 : decode cX6_startWith 30 = .ok (.lastore, 1) := by decide +kernel
theorem dX6_startWith_31 : decode cX6_startWith 31 = .ok (.iinc 2 1, 3) := by decide +kernel
theorem dX6_startWith_34 : decode cX6_startWith 34 = .ok (.goto (-32), 3) := by decide +kernel
theorem dX6_startWith_37 : decode cX6_startWith 37 = .ok (.return_, 1) := by decide +kernel
theorem dX6_copyFrom_0 : decode cX6_copyFrom 0 = .ok (.iconst 0, 1) := by decide +kernel
theorem dX6_copyFrom_1 : decode cX6_copyFrom 1 = .ok (.istore_n 2, 1) := by decide +kernel
theorem dX6_copyFrom_2 : decode cX6_copyFrom 2 = .ok (.iload_n 2, 1) := by decide +kernel
theorem dX6_copyFrom_3 : decode cX6_copyFrom 3 = .ok (.bipush 13, 2) := by decide +kernel
theorem dX6_copyFrom_5 : decode cX6_copyFrom 5 = .ok (.if_icmp .ge 33, 3) := by decide +kernel
theorem dX6_copyFrom_8 : decode cX6_copyFrom 8 = .ok (.aload_n 0, 1) := by decide +kernel
theorem dX6_copyFrom_9 : decode cX6_copyFrom 9 = .ok (.getfield 9, 3) := by decide +kernel
theorem dX6_copyFrom_12 : decode cX6_copyFrom 12 = .ok (.iload_n 2, 1) := by decide +kernel
theorem dX6_copyFrom_13 : decode cX6_copyFrom 13 = .ok (.aload_n 1, 1) := by decide +kernel
theorem dX6_copyFrom_14 : decode cX6_copyFrom 14 = .ok (.getfield 9, 3) := by decide +kernel
theorem dX6_copyFrom_17 : decode cX6_copyFrom 17 = .ok (.iload_n 2, 1) := by decide +kernel
theorem dX6_copyFrom_18 : decode cX6_copyFrom 18 = .ok (.laload, 1) := by decide +kernel
theorem dX6_copyFrom_19 : decode cX6_copyFrom 19 = .ok (.lastore, 1) := by decide +kernel
theorem dX6_copyFrom_20 : decode cX6_copyFrom 20 = .ok (.aload_n 0, 1) := by decide +kernel
theorem dX6_copyFrom_21 : decode cX6_copyFrom 21 = .ok (.getfield 15, 3) := by decide +kernel
theorem dX6_copyFrom_24 : decode cX6_copyFrom 24 = .ok (.iload_n 2, 1) := by decide +kernel
theorem dX6_copyFrom_25 : decode cX6_copyFrom 25 = .ok (.aload_n 1, 1) := by decide +kernel
theorem dX6_copyFrom_26 : decode cX6_copyFrom 26 = .ok (.getfield 15, 3) := by decide +kernel
theorem dX6_copyFrom_29 : decode cX6_copyFrom 29 = .ok (.iload_n 2, 1) := by decide +kernel
theorem dX6_copyFrom_30 : decode cX6_copyFrom 30 = .ok (.laload, 1) := by decide +kernel
theorem dX6_copyFrom_31 : decode cX6_copyFrom 31 = .ok (.lastore, 1) := by decide +kernel
theorem dX6_copyFrom_32 : decode cX6_copyFrom 32 = .ok (.iinc 2 1, 3) := by decide +kernel
theorem dX6_copyFrom_35 : decode cX6_copyFrom 35 = .ok (.goto (-33), 3) := by decide +kernel
theorem dX6_copyFrom_38 : decode cX6_copyFrom 38 = .ok (.return_, 1) := by decide +kernel
theorem dX6_isEmptyOf_0 : decode cX6_isEmptyOf 0 = .ok (.iload_n 1, 1) := by decide +kernel
theorem dX6_isEmptyOf_1 : decode cX6_isEmptyOf 1 = .ok (.invokestatic 18, 3) := by decide +kernel
theorem dX6_isEmptyOf_4 : decode cX6_isEmptyOf 4 = .ok (.ifCond .eq 14, 3) := by decide +kernel
theorem dX6_isEmptyOf_7 : decode cX6_isEmptyOf 7 = .ok (.aload_n 0, 1) := by decide +kernel
theorem dX6_isEmptyOf_8 : decode cX6_isEmptyOf 8 = .ok (.getfield 9, 3) := by decide +kernel
theorem dX6_isEmptyOf_11 : decode cX6_isEmptyOf 11 = .ok (.iload_n 1, 1) := by decide +kernel
theorem dX6_isEmptyOf_12 : decode cX6_isEmptyOf 12 = .ok (.laload, 1) := by decide +kernel
theorem dX6_isEmptyOf_13 : decode cX6_isEmptyOf 13 = .ok (.lconst 0, 1) := by decide +kernel
theorem dX6_isEmptyOf_14 : decode cX6_isEmptyOf 14 = .ok (.lcmp, 1) := by decide +kernel
theorem dX6_isEmptyOf_15 : decode cX6_isEmptyOf 15 = .ok (.ifCond .ne 7, 3) := by decide +kernel
theorem dX6_isEmptyOf_18 : decode cX6_isEmptyOf 18 = .ok (.iconst 1, 1) := by decide +kernel
theorem dX6_isEmptyOf_19 : decode cX6_isEmptyOf 19 = .ok (.goto 4, 3) := by decide +kernel
theorem dX6_isEmptyOf_22 : decode cX6_isEmptyOf 22 = .ok (.iconst 0, 1) := by decide +kernel
theorem dX6_isEmptyOf_23 : decode cX6_isEmptyOf 23 = .ok (.ireturn, 1) := by decide +kernel
theorem dX6_has_0 : decode cX6_has 0 = .ok (.iload_n 1, 1) := by decide +kernel
theorem dX6_has_1 : decode cX6_has 1 = .ok (.invokestatic 18, 3) := by decide +kernel
theorem dX6_has_4 : decode cX6_has 4 = .ok (.ifCond .eq 29, 3) := by decide +kernel
theorem dX6_has_7 : decode cX6_has 7 = .ok (.aload_n 0, 1) := by decide +kernel
theorem dX6_has_8 : decode cX6_has 8 = .ok (.getfield 9, 3) := by decide +kernel
theorem dX6_has_11 : decode cX6_has 11 = .ok (.iload_n 1, 1) := by decide +kernel
theorem dX6_has_12 : decode cX6_has 12 = .ok (.laload, 1) := by decide +kernel
theorem dX6_has_13 : decode cX6_has 13 = .ok (.iload_n 3, 1) := by decide +kernel
theorem dX6_has_14 : decode cX6_has 14 = .ok (.i2l, 1) := by decide +kernel
theorem dX6_has_15 : decode cX6_has 15 = .ok (.lmul, 1) := by decide +kernel
theorem dX6_has_16 : decode cX6_has 16 = .ok (.iload_n 2, 1) := by decide +kernel
theorem dX6_has_17 : decode cX6_has 17 = .ok (.i2l, 1) := by decide +kernel
theorem dX6_has_18 : decode cX6_has 18 = .ok (.aload_n 0, 1) := by decide +kernel
theorem dX6_has_19 : decode cX6_has 19 = .ok (.getfield 15, 3) := by decide +kernel
theorem dX6_has_22 : decode cX6_has 22 = .ok (.iload_n 1, 1) := by decide +kernel
theorem dX6_has_23 : decode cX6_has 23 = .ok (.laload, 1) := by decide +kernel
theorem dX6_has_24 : decode cX6_has 24 = .ok (.lmul, 1) := by decide +kernel
theorem dX6_has_25 : decode cX6_has 25 = .ok (.lcmp, 1) := by decide +kernel
theorem dX6_has_26 : decode cX6_has 26 = .ok (.ifCond .lt 7, 3) := by decide +kernel
theorem dX6_has_29 : decode cX6_has 29 = .ok (.iconst 1, 1) := by decide +kernel
theorem dX6_has_30 : decode cX6_has 30 = .ok (.goto 4, 3) := by decide +kernel
theorem dX6_has_33 : decode cX6_has 33 = .ok (.iconst 0, 1) := by decide +kernel
theorem dX6_has_34 : decode cX6_has 34 = .ok (.ireturn, 1) := by decide +kernel
theorem dX6_areSmall_0 : decode cX6_areSmall 0 = .ok (.iconst 0, 1) := by decide +kernel
theorem dX6_areSmall_1 : decode cX6_areSmall 1 = .ok (.istore_n 1, 1) := by decide +kernel
theorem dX6_areSmall_2 : decode cX6_areSmall 2 = .ok (.iload_n 1, 1) := by decide +kernel
theorem dX6_areSmall_3 : decode cX6_areSmall 3 = .ok (.bipush 13, 2) := by decide +kernel
theorem dX6_areSmall_5 : decode cX6_areSmall 5 = .ok (.if_icmp .ge 24, 3) := by decide +kernel
theorem dX6_areSmall_8 : decode cX6_areSmall 8 = .ok (.aload_n 0, 1) := by decide +kernel
theorem dX6_areSmall_9 : decode cX6_areSmall 9 = .ok (.getfield 15, 3) := by decide +kernel
theorem dX6_areSmall_12 : decode cX6_areSmall 12 = .ok (.iload_n 1, 1) := by decide +kernel
theorem dX6_areSmall_13 : decode cX6_areSmall 13 = .ok (.laload, 1) := by decide +kernel
theorem dX6_areSmall_14 : decode cX6_areSmall 14 = .ok (.ldc2_w 22, 3) := by decide +kernel
theorem dX6_areSmall_17 : decode cX6_areSmall 17 = .ok (.lcmp, 1) := by decide +kernel
theorem dX6_areSmall_18 : decode cX6_areSmall 18 = .ok (.ifCond .le 5, 3) := by decide +kernel
theorem dX6_areSmall_21 : decode cX6_areSmall 21 = .ok (.iconst 0, 1) := by decide +kernel
theorem dX6_areSmall_22 : decode cX6_areSmall 22 = .ok (.ireturn, 1) := by decide +kernel
theorem dX6_areSmall_23 : decode cX6_areSmall 23 = .ok (.iinc 1 1, 3) := by decide +kernel
theorem dX6_areSmall_26 : decode cX6_areSmall 26 = .ok (.goto (-24), 3) := by decide +kernel
theorem dX6_areSmall_29 : decode cX6_areSmall 29 = .ok (.iconst 1, 1) := by decide +kernel
theorem dX6_areSmall_30 : decode cX6_areSmall 30 = .ok (.ireturn, 1) := by decide +kernel
theorem dX6_termOf_0 : decode cX6_termOf 0 = .ok (.iload_n 1, 1) := by decide +kernel
theorem dX6_termOf_1 : decode cX6_termOf 1 = .ok (.invokestatic 18, 3) := by decide +kernel
theorem dX6_termOf_4 : decode cX6_termOf 4 = .ok (.ifCond .ne 13, 3) := by decide +kernel
theorem dX6_termOf_7 : decode cX6_termOf 7 = .ok (.iload_n 2, 1) := by decide +kernel
theorem dX6_termOf_8 : decode cX6_termOf 8 = .ok (.ifCond .eq 7, 3) := by decide +kernel
theorem dX6_termOf_11 : decode cX6_termOf 11 = .ok (.iconst 1, 1) := by decide +kernel
theorem dX6_termOf_12 : decode cX6_termOf 12 = .ok (.goto 4, 3) := by decide +kernel
theorem dX6_termOf_15 : decode cX6_termOf 15 = .ok (.iconst 0, 1) := by decide +kernel
theorem dX6_termOf_16 : decode cX6_termOf 16 = .ok (.ireturn, 1) := by decide +kernel
theorem dX6_termOf_17 : decode cX6_termOf 17 = .ok (.iload_n 2, 1) := by decide +kernel
theorem dX6_termOf_18 : decode cX6_termOf 18 = .ok (.ifCond .eq 12, 3) := by decide +kernel
theorem dX6_termOf_21 : decode cX6_termOf 21 = .ok (.aload_n 0, 1) := by decide +kernel
theorem dX6_termOf_22 : decode cX6_termOf 22 = .ok (.getfield 15, 3) := by decide +kernel
theorem dX6_termOf_25 : decode cX6_termOf 25 = .ok (.iload_n 1, 1) := by decide +kernel
theorem dX6_termOf_26 : decode cX6_termOf 26 = .ok (.laload, 1) := by decide +kernel
theorem dX6_termOf_27 : decode cX6_termOf 27 = .ok (.goto 9, 3) := by decide +kernel
theorem dX6_termOf_30 : decode cX6_termOf 30 = .ok (.aload_n 0, 1) := by decide +kernel
theorem dX6_termOf_31 : decode cX6_termOf 31 = .ok (.getfield 9, 3) := by decide +kernel
theorem dX6_termOf_34 : decode cX6_termOf 34 = .ok (.iload_n 1, 1) := by decide +kernel
theorem dX6_termOf_35 : decode cX6_termOf 35 = .ok (.laload, 1) := by decide +kernel
theorem dX6_termOf_36 : decode cX6_termOf 36 = .ok (.l2i, 1) := by decide +kernel
theorem dX6_termOf_37 : decode cX6_termOf 37 = .ok (.ireturn, 1) := by decide +kernel
theorem dX6_carryOut_0 : decode cX6_carryOut 0 = .ok (.aload_n 1, 1) := by decide +kernel
theorem dX6_carryOut_1 : decode cX6_carryOut 1 = .ok (.ifnonnull 4, 3) := by decide +kernel
theorem dX6_carryOut_4 : decode cX6_carryOut 4 = .ok (.return_, 1) := by decide +kernel
theorem dX6_carryOut_5 : decode cX6_carryOut 5 = .ok (.aload_n 1, 1) := by decide +kernel
theorem dX6_carryOut_6 : decode cX6_carryOut 6 = .ok (.getfield 24, 3) := by decide +kernel
theorem dX6_carryOut_9 : decode cX6_carryOut 9 = .ok (.ifCond .ne 43, 3) := by decide +kernel
theorem dX6_carryOut_12 : decode cX6_carryOut 12 = .ok (.aload_n 0, 1) := by decide +kernel
theorem dX6_carryOut_13 : decode cX6_carryOut 13 = .ok (.aload_n 1, 1) := by decide +kernel
theorem dX6_carryOut_14 : decode cX6_carryOut 14 = .ok (.getfield 30, 3) := by decide +kernel
theorem dX6_carryOut_17 : decode cX6_carryOut 17 = .ok (.aload_n 1, 1) := by decide +kernel
theorem dX6_carryOut_18 : decode cX6_carryOut 18 = .ok (.getfield 33, 3) := by decide +kernel
theorem dX6_carryOut_21 : decode cX6_carryOut 21 = .ok (.ineg, 1) := by decide +kernel
theorem dX6_carryOut_22 : decode cX6_carryOut 22 = .ok (.i2l, 1) := by decide +kernel
theorem dX6_carryOut_23 : decode cX6_carryOut 23 = .ok (.aload_n 1, 1) := by decide +kernel
theorem dX6_carryOut_24 : decode cX6_carryOut 24 = .ok (.getfield 35, 3) := by decide +kernel
theorem dX6_carryOut_27 : decode cX6_carryOut 27 = .ok (.i2l, 1) := by decide +kernel
theorem dX6_carryOut_28 : decode cX6_carryOut 28 = .ok (.invokevirtual 37, 3) := by decide +kernel
theorem dX6_carryOut_31 : decode cX6_carryOut 31 = .ok (.aload_n 0, 1) := by decide +kernel
theorem dX6_carryOut_32 : decode cX6_carryOut 32 = .ok (.aload_n 1, 1) := by decide +kernel
theorem dX6_carryOut_33 : decode cX6_carryOut 33 = .ok (.getfield 41, 3) := by decide +kernel
theorem dX6_carryOut_36 : decode cX6_carryOut 36 = .ok (.aload_n 1, 1) := by decide +kernel
theorem dX6_carryOut_37 : decode cX6_carryOut 37 = .ok (.getfield 33, 3) := by decide +kernel
theorem dX6_carryOut_40 : decode cX6_carryOut 40 = .ok (.i2l, 1) := by decide +kernel
theorem dX6_carryOut_41 : decode cX6_carryOut 41 = .ok (.aload_n 1, 1) := by decide +kernel
theorem dX6_carryOut_42 : decode cX6_carryOut 42 = .ok (.getfield 35, 3) := by decide +kernel
theorem dX6_carryOut_45 : decode cX6_carryOut 45 = .ok (.i2l, 1) := by decide +kernel
theorem dX6_carryOut_46 : decode cX6_carryOut 46 = .ok (.invokevirtual 37, 3) := by decide +kernel
theorem dX6_carryOut_49 : decode cX6_carryOut 49 = .ok (.goto 36, 3) := by decide +kernel
theorem dX6_carryOut_52 : decode cX6_carryOut 52 = .ok (.aload_n 1, 1) := by decide +kernel
theorem dX6_carryOut_53 : decode cX6_carryOut 53 = .ok (.getfield 30, 3) := by decide +kernel
theorem dX6_carryOut_56 : decode cX6_carryOut 56 = .ok (.invokestatic 18, 3) := by decide +kernel
theorem dX6_carryOut_59 : decode cX6_carryOut 59 = .ok (.ifCond .eq 26, 3) := by decide +kernel
theorem dX6_carryOut_62 : decode cX6_carryOut 62 = .ok (.aload_n 0, 1) := by decide +kernel
theorem dX6_carryOut_63 : decode cX6_carryOut 63 = .ok (.aload_n 1, 1) := by decide +kernel
theorem dX6_carryOut_64 : decode cX6_carryOut 64 = .ok (.aload_n 0, 1) := by decide +kernel
theorem dX6_carryOut_65 : decode cX6_carryOut 65 = .ok (.getfield 9, 3) := by decide +kernel
theorem dX6_carryOut_68 : decode cX6_carryOut 68 = .ok (.aload_n 1, 1) := by decide +kernel
theorem dX6_carryOut_69 : decode cX6_carryOut 69 = .ok (.getfield 30, 3) := by decide +kernel
theorem dX6_carryOut_72 : decode cX6_carryOut 72 = .ok (.laload, 1) := by decide +kernel
theorem dX6_carryOut_73 : decode cX6_carryOut 73 = .ok (.aload_n 0, 1) := by decide +kernel
theorem dX6_carryOut_74 : decode cX6_carryOut 74 = .ok (.getfield 15, 3) := by decide +kernel
theorem dX6_carryOut_77 : decode cX6_carryOut 77 = .ok (.aload_n 1, 1) := by decide +kernel
theorem dX6_carryOut_78 : decode cX6_carryOut 78 = .ok (.getfield 30, 3) := by decide +kernel
theorem dX6_carryOut_81 : decode cX6_carryOut 81 = .ok (.laload, 1) := by decide +kernel
theorem dX6_carryOut_82 : decode cX6_carryOut 82 = .ok (.invokevirtual 44, 3) := by decide +kernel
theorem dX6_carryOut_85 : decode cX6_carryOut 85 = .ok (.return_, 1) := by decide +kernel
theorem dX6_bequeath_0 : decode cX6_bequeath 0 = .ok (.aload_n 0, 1) := by decide +kernel
theorem dX6_bequeath_1 : decode cX6_bequeath 1 = .ok (.aload_n 1, 1) := by decide +kernel
theorem dX6_bequeath_2 : decode cX6_bequeath 2 = .ok (.getfield 30, 3) := by decide +kernel
theorem dX6_bequeath_5 : decode cX6_bequeath 5 = .ok (.lload_n 2, 1) := by decide +kernel
theorem dX6_bequeath_6 : decode cX6_bequeath 6 = .ok (.lneg, 1) := by decide +kernel
theorem dX6_bequeath_7 : decode cX6_bequeath 7 = .ok (.lload 4, 2) := by decide +kernel
theorem dX6_bequeath_9 : decode cX6_bequeath 9 = .ok (.invokevirtual 37, 3) := by decide +kernel
theorem dX6_bequeath_12 : decode cX6_bequeath 12 = .ok (.aload_n 0, 1) := by decide +kernel
theorem dX6_bequeath_13 : decode cX6_bequeath 13 = .ok (.aload_n 1, 1) := by decide +kernel
theorem dX6_bequeath_14 : decode cX6_bequeath 14 = .ok (.getfield 41, 3) := by decide +kernel
theorem dX6_bequeath_17 : decode cX6_bequeath 17 = .ok (.lload_n 2, 1) := by decide +kernel
theorem dX6_bequeath_18 : decode cX6_bequeath 18 = .ok (.aload_n 1, 1) := by decide +kernel
theorem dX6_bequeath_19 : decode cX6_bequeath 19 = .ok (.getfield 33, 3) := by decide +kernel
theorem dX6_bequeath_22 : decode cX6_bequeath 22 = .ok (.i2l, 1) := by decide +kernel
theorem dX6_bequeath_23 : decode cX6_bequeath 23 = .ok (.lmul, 1) := by decide +kernel
theorem dX6_bequeath_24 : decode cX6_bequeath 24 = .ok (.lload 4, 2) := by decide +kernel
theorem dX6_bequeath_26 : decode cX6_bequeath 26 = .ok (.aload_n 1, 1) := by decide +kernel
theorem dX6_bequeath_27 : decode cX6_bequeath 27 = .ok (.getfield 35, 3) := by decide +kernel
theorem dX6_bequeath_30 : decode cX6_bequeath 30 = .ok (.i2l, 1) := by decide +kernel
theorem dX6_bequeath_31 : decode cX6_bequeath 31 = .ok (.lmul, 1) := by decide +kernel
theorem dX6_bequeath_32 : decode cX6_bequeath 32 = .ok (.invokevirtual 37, 3) := by decide +kernel
theorem dX6_bequeath_35 : decode cX6_bequeath 35 = .ok (.lload_n 2, 1) := by decide +kernel
theorem dX6_bequeath_36 : decode cX6_bequeath 36 = .ok (.aload_n 1, 1) := by decide +kernel
theorem dX6_bequeath_37 : decode cX6_bequeath 37 = .ok (.getfield 35, 3) := by decide +kernel
theorem dX6_bequeath_40 : decode cX6_bequeath 40 = .ok (.aload_n 1, 1) := by decide +kernel
theorem dX6_bequeath_41 : decode cX6_bequeath 41 = .ok (.getfield 33, 3) := by decide +kernel
theorem dX6_bequeath_44 : decode cX6_bequeath 44 = .ok (.isub, 1) := by decide +kernel
theorem dX6_bequeath_45 : decode cX6_bequeath 45 = .ok (.i2l, 1) := by decide +kernel
theorem dX6_bequeath_46 : decode cX6_bequeath 46 = .ok (.lmul, 1) := by decide +kernel
theorem dX6_bequeath_47 : decode cX6_bequeath 47 = .ok (.lstore 6, 2) := by decide +kernel
theorem dX6_bequeath_49 : decode cX6_bequeath 49 = .ok (.lload 4, 2) := by decide +kernel
theorem dX6_bequeath_51 : decode cX6_bequeath 51 = .ok (.aload_n 1, 1) := by decide +kernel
theorem dX6_bequeath_52 : decode cX6_bequeath 52 = .ok (.getfield 35, 3) := by decide +kernel
theorem dX6_bequeath_55 : decode cX6_bequeath 55 = .ok (.i2l, 1) := by decide +kernel
theorem dX6_bequeath_56 : decode cX6_bequeath 56 = .ok (.lmul, 1) := by decide +kernel
theorem dX6_bequeath_57 : decode cX6_bequeath 57 = .ok (.aload_n 1, 1) := by decide +kernel
theorem dX6_bequeath_58 : decode cX6_bequeath 58 = .ok (.getfield 24, 3) := by decide +kernel
theorem dX6_bequeath_61 : decode cX6_bequeath 61 = .ok (.invokestatic 48, 3) := by decide +kernel
theorem dX6_bequeath_64 : decode cX6_bequeath 64 = .ok (.i2l, 1) := by decide +kernel
theorem dX6_bequeath_65 : decode cX6_bequeath 65 = .ok (.lmul, 1) := by decide +kernel
theorem dX6_bequeath_66 : decode cX6_bequeath 66 = .ok (.lstore 8, 2) := by decide +kernel
theorem dX6_bequeath_68 : decode cX6_bequeath 68 = .ok (.iconst 0, 1) := by decide +kernel
theorem dX6_bequeath_69 : decode cX6_bequeath 69 = .ok (.istore 10, 2) := by decide +kernel
theorem dX6_bequeath_71 : decode cX6_bequeath 71 = .ok (.iload 10, 2) := by decide +kernel
theorem dX6_bequeath_73 : decode cX6_bequeath 73 = .ok (.bipush 13, 2) := by decide +kernel
theorem dX6_bequeath_75 : decode cX6_bequeath 75 = .ok (.if_icmp .ge 31, 3) := by decide +kernel
theorem dX6_bequeath_78 : decode cX6_bequeath 78 = .ok (.aload_n 1, 1) := by decide +kernel
theorem dX6_bequeath_79 : decode cX6_bequeath 79 = .ok (.getfield 24, 3) := by decide +kernel
theorem dX6_bequeath_82 : decode cX6_bequeath 82 = .ok (.iconst 1, 1) := by decide +kernel
theorem dX6_bequeath_83 : decode cX6_bequeath 83 = .ok (.iload 10, 2) := by decide +kernel
theorem dX6_bequeath_85 : decode cX6_bequeath 85 = .ok (.ishl, 1) := by decide +kernel
theorem dX6_bequeath_86 : decode cX6_bequeath 86 = .ok (.iand, 1) := by decide +kernel
theorem dX6_bequeath_87 : decode cX6_bequeath 87 = .ok (.ifCond .eq 13, 3) := by decide +kernel
theorem dX6_bequeath_90 : decode cX6_bequeath 90 = .ok (.aload_n 0, 1) := by decide +kernel
theorem dX6_bequeath_91 : decode cX6_bequeath 91 = .ok (.iload 10, 2) := by decide +kernel
theorem dX6_bequeath_93 : decode cX6_bequeath 93 = .ok (.lload 6, 2) := by decide +kernel
theorem dX6_bequeath_95 : decode cX6_bequeath 95 = .ok (.lload 8, 2) := by decide +kernel
theorem dX6_bequeath_97 : decode cX6_bequeath 97 = .ok (.invokevirtual 37, 3) := by decide +kernel
theorem dX6_bequeath_100 : decode cX6_bequeath 100 = .ok (.iinc 10 1, 3) := by decide +kernel
theorem dX6_bequeath_103 : decode cX6_bequeath 103 = .ok (.goto (-32), 3) := by decide +kernel
theorem dX6_bequeath_106 : decode cX6_bequeath 106 = .ok (.return_, 1) := by decide +kernel
theorem dX6_change_0 : decode cX6_change 0 = .ok (.iload_n 1, 1) := by decide +kernel
theorem dX6_change_1 : decode cX6_change 1 = .ok (.invokestatic 18, 3) := by decide +kernel
theorem dX6_change_4 : decode cX6_change 4 = .ok (.ifCond .ne 4, 3) := by decide +kernel
theorem dX6_change_7 : decode cX6_change 7 = .ok (.return_, 1) := by decide +kernel
theorem dX6_change_8 : decode cX6_change 8 = .ok (.aload_n 0, 1) := by decide +kernel
theorem dX6_change_9 : decode cX6_change 9 = .ok (.getfield 15, 3) := by decide +kernel
theorem dX6_change_12 : decode cX6_change 12 = .ok (.iload_n 1, 1) := by decide +kernel
theorem dX6_change_13 : decode cX6_change 13 = .ok (.laload, 1) := by decide +kernel
theorem dX6_change_14 : decode cX6_change 14 = .ok (.lload 4, 2) := by decide +kernel
theorem dX6_change_16 : decode cX6_change 16 = .ok (.invokestatic 54, 3) := by decide +kernel
theorem dX6_change_19 : decode cX6_change 19 = .ok (.lstore 6, 2) := by decide +kernel
theorem dX6_change_21 : decode cX6_change 21 = .ok (.aload_n 0, 1) := by decide +kernel
theorem dX6_change_22 : decode cX6_change 22 = .ok (.getfield 9, 3) := by decide +kernel
theorem dX6_change_25 : decode cX6_change 25 = .ok (.iload_n 1, 1) := by decide +kernel
theorem dX6_change_26 : decode cX6_change 26 = .ok (.laload, 1) := by decide +kernel
theorem dX6_change_27 : decode cX6_change 27 = .ok (.lload 4, 2) := by decide +kernel
theorem dX6_change_29 : decode cX6_change 29 = .ok (.lload 6, 2) := by decide +kernel
theorem dX6_change_31 : decode cX6_change 31 = .ok (.ldiv, 1) := by decide +kernel
theorem dX6_change_32 : decode cX6_change 32 = .ok (.lmul, 1) := by decide +kernel
theorem dX6_change_33 : decode cX6_change 33 = .ok (.lload_n 2, 1) := by decide +kernel
theorem dX6_change_34 : decode cX6_change 34 = .ok (.aload_n 0, 1) := by decide +kernel
theorem dX6_change_35 : decode cX6_change 35 = .ok (.getfield 15, 3) := by decide +kernel
theorem dX6_change_38 : decode cX6_change 38 = .ok (.iload_n 1, 1) := by decide +kernel
theorem dX6_change_39 : decode cX6_change 39 = .ok (.laload, 1) := by decide +kernel
theorem dX6_change_40 : decode cX6_change 40 = .ok (.lload 6, 2) := by decide +kernel
theorem dX6_change_42 : decode cX6_change 42 = .ok (.ldiv, 1) := by decide +kernel
theorem dX6_change_43 : decode cX6_change 43 = .ok (.lmul, 1) := by decide +kernel
theorem dX6_change_44 : decode cX6_change 44 = .ok (.ladd, 1) := by decide +kernel
theorem dX6_change_45 : decode cX6_change 45 = .ok (.lstore 8, 2) := by decide +kernel
theorem dX6_change_47 : decode cX6_change 47 = .ok (.aload_n 0, 1) := by decide +kernel
theorem dX6_change_48 : decode cX6_change 48 = .ok (.getfield 15, 3) := by decide +kernel
theorem dX6_change_51 : decode cX6_change 51 = .ok (.iload_n 1, 1) := by decide +kernel
theorem dX6_change_52 : decode cX6_change 52 = .ok (.laload, 1) := by decide +kernel
theorem dX6_change_53 : decode cX6_change 53 = .ok (.lload 6, 2) := by decide +kernel
theorem dX6_change_55 : decode cX6_change 55 = .ok (.ldiv, 1) := by decide +kernel
theorem dX6_change_56 : decode cX6_change 56 = .ok (.lload 4, 2) := by decide +kernel
theorem dX6_change_58 : decode cX6_change 58 = .ok (.lmul, 1) := by decide +kernel
theorem dX6_change_59 : decode cX6_change 59 = .ok (.lstore 10, 2) := by decide +kernel
theorem dX6_change_61 : decode cX6_change 61 = .ok (.lload 8, 2) := by decide +kernel
theorem dX6_change_63 : decode cX6_change 63 = .ok (.lload 10, 2) := by decide +kernel
theorem dX6_change_65 : decode cX6_change 65 = .ok (.invokestatic 54, 3) := by decide +kernel
theorem dX6_change_68 : decode cX6_change 68 = .ok (.lstore 12, 2) := by decide +kernel
theorem dX6_change_70 : decode cX6_change 70 = .ok (.aload_n 0, 1) := by decide +kernel
theorem dX6_change_71 : decode cX6_change 71 = .ok (.getfield 9, 3) := by decide +kernel
theorem dX6_change_74 : decode cX6_change 74 = .ok (.iload_n 1, 1) := by decide +kernel
theorem dX6_change_75 : decode cX6_change 75 = .ok (.lload 8, 2) := by decide +kernel
theorem dX6_change_77 : decode cX6_change 77 = .ok (.lload 12, 2) := by decide +kernel
theorem dX6_change_79 : decode cX6_change 79 = .ok (.ldiv, 1) := by decide +kernel
theorem dX6_change_80 : decode cX6_change 80 = .ok (.lastore, 1) := by decide +kernel
theorem dX6_change_81 : decode cX6_change 81 = .ok (.aload_n 0, 1) := by decide +kernel
theorem dX6_change_82 : decode cX6_change 82 = .ok (.getfield 15, 3) := by decide +kernel
theorem dX6_change_85 : decode cX6_change 85 = .ok (.iload_n 1, 1) := by decide +kernel
theorem dX6_change_86 : decode cX6_change 86 = .ok (.lload 10, 2) := by decide +kernel
theorem dX6_change_88 : decode cX6_change 88 = .ok (.lload 12, 2) := by decide +kernel
theorem dX6_change_90 : decode cX6_change 90 = .ok (.ldiv, 1) := by decide +kernel
theorem dX6_change_91 : decode cX6_change 91 = .ok (.lastore, 1) := by decide +kernel
theorem dX6_change_92 : decode cX6_change 92 = .ok (.return_, 1) := by decide +kernel
theorem dX6_commonDivisor_0 : decode cX6_commonDivisor 0 = .ok (.lload_n 0, 1) := by decide +kernel
theorem dX6_commonDivisor_1 : decode cX6_commonDivisor 1 = .ok (.lstore 4, 2) := by decide +kernel
theorem dX6_commonDivisor_3 : decode cX6_commonDivisor 3 = .ok (.lload_n 2, 1) := by decide +kernel
theorem dX6_commonDivisor_4 : decode cX6_commonDivisor 4 = .ok (.lstore 6, 2) := by decide +kernel
theorem dX6_commonDivisor_6 : decode cX6_commonDivisor 6 = .ok (.iconst 0, 1) := by decide +kernel
theorem dX6_commonDivisor_7 : decode cX6_commonDivisor 7 = .ok (.istore 8, 2) := by decide +kernel
theorem dX6_commonDivisor_9 : decode cX6_commonDivisor 9 = .ok (.iload 8, 2) := by decide +kernel
theorem dX6_commonDivisor_11 : decode cX6_commonDivisor 11 = .ok (.sipush 200, 3) := by decide +kernel
theorem dX6_commonDivisor_14 : decode cX6_commonDivisor 14 = .ok (.if_icmp .ge 31, 3) := by decide +kernel
theorem dX6_commonDivisor_17 : decode cX6_commonDivisor 17 = .ok (.lload 6, 2) := by decide +kernel
theorem dX6_commonDivisor_19 : decode cX6_commonDivisor 19 = .ok (.lconst 0, 1) := by decide +kernel
theorem dX6_commonDivisor_20 : decode cX6_commonDivisor 20 = .ok (.lcmp, 1) := by decide +kernel
theorem dX6_commonDivisor_21 : decode cX6_commonDivisor 21 = .ok (.ifCond .eq 24, 3) := by decide +kernel
theorem dX6_commonDivisor_24 : decode cX6_commonDivisor 24 = .ok (.lload 4, 2) := by decide +kernel
theorem dX6_commonDivisor_26 : decode cX6_commonDivisor 26 = .ok (.lload 6, 2) := by decide +kernel
theorem dX6_commonDivisor_28 : decode cX6_commonDivisor 28 = .ok (.lrem, 1) := by decide +kernel
theorem dX6_commonDivisor_29 : decode cX6_commonDivisor 29 = .ok (.lstore 9, 2) := by decide +kernel
theorem dX6_commonDivisor_31 : decode cX6_commonDivisor 31 = .ok (.lload 6, 2) := by decide +kernel
theorem dX6_commonDivisor_33 : decode cX6_commonDivisor 33 = .ok (.lstore 4, 2) := by decide +kernel
theorem dX6_commonDivisor_35 : decode cX6_commonDivisor 35 = .ok (.lload 9, 2) := by decide +kernel
theorem dX6_commonDivisor_37 : decode cX6_commonDivisor 37 = .ok (.lstore 6, 2) := by decide +kernel
theorem dX6_commonDivisor_39 : decode cX6_commonDivisor 39 = .ok (.iinc 8 1, 3) := by decide +kernel
theorem dX6_commonDivisor_42 : decode cX6_commonDivisor 42 = .ok (.goto (-33), 3) := by decide +kernel
theorem dX6_commonDivisor_45 : decode cX6_commonDivisor 45 = .ok (.lload 4, 2) := by decide +kernel
theorem dX6_commonDivisor_47 : decode cX6_commonDivisor 47 = .ok (.lconst 1, 1) := by decide +kernel
theorem dX6_commonDivisor_48 : decode cX6_commonDivisor 48 = .ok (.lcmp, 1) := by decide +kernel
theorem dX6_commonDivisor_49 : decode cX6_commonDivisor 49 = .ok (.ifCond .ge 7, 3) := by decide +kernel
theorem dX6_commonDivisor_52 : decode cX6_commonDivisor 52 = .ok (.lconst 1, 1) := by decide +kernel
theorem dX6_commonDivisor_53 : decode cX6_commonDivisor 53 = .ok (.goto 5, 3) := by decide +kernel
theorem dX6_commonDivisor_56 : decode cX6_commonDivisor 56 = .ok (.lload 4, 2) := by decide +kernel
theorem dX6_commonDivisor_58 : decode cX6_commonDivisor 58 = .ok (.lreturn, 1) := by decide +kernel
theorem dX7_init_0 : decode cX7_init 0 = .ok (.aload_n 0, 1) := by decide +kernel
theorem dX7_init_1 : decode cX7_init 1 = .ok (.invokespecial 1, 3) := by decide +kernel
theorem dX7_init_4 : decode cX7_init 4 = .ok (.aload_n 0, 1) := by decide +kernel
theorem dX7_init_5 : decode cX7_init 5 = .ok (.new 7, 3) := by decide +kernel
theorem dX7_init_8 : decode cX7_init 8 = .ok (.dup, 1) := by decide +kernel
theorem dX7_init_9 : decode cX7_init 9 = .ok (.invokespecial 9, 3) := by decide +kernel
theorem dX7_init_12 : decode cX7_init 12 = .ok (.putfield 10, 3) := by decide +kernel
theorem dX7_init_15 : decode cX7_init 15 = .ok (.aload_n 0, 1) := by decide +kernel
theorem dX7_init_16 : decode cX7_init 16 = .ok (.iload_n 1, 1) := by decide +kernel
theorem dX7_init_17 : decode cX7_init 17 = .ok (.putfield 16, 3) := by decide +kernel
theorem dX7_init_20 : decode cX7_init 20 = .ok (.aload_n 0, 1) := by decide +kernel
theorem dX7_init_21 : decode cX7_init 21 = .ok (.iload_n 2, 1) := by decide +kernel
theorem dX7_init_22 : decode cX7_init 22 = .ok (.putfield 20, 3) := by decide +kernel
theorem dX7_init_25 : decode cX7_init 25 = .ok (.aload_n 0, 1) := by decide +kernel
theorem dX7_init_26 : decode cX7_init 26 = .ok (.iload_n 3, 1) := by decide +kernel
theorem dX7_init_27 : decode cX7_init 27 = .ok (.putfield 23, 3) := by decide +kernel
theorem dX7_init_30 : decode cX7_init 30 = .ok (.aload_n 0, 1) := by decide +kernel
theorem dX7_init_31 : decode cX7_init 31 = .ok (.getfield 10, 3) := by decide +kernel
theorem dX7_init_34 : decode cX7_init 34 = .ok (.iload_n 2, 1) := by decide +kernel
theorem dX7_init_35 : decode cX7_init 35 = .ok (.invokevirtual 26, 3) := by decide +kernel
theorem dX7_init_38 : decode cX7_init 38 = .ok (.return_, 1) := by decide +kernel
theorem dX8_init_0 : decode cX8_init 0 = .ok (.aload_n 0, 1) := by decide +kernel
theorem dX8_init_1 : decode cX8_init 1 = .ok (.invokespecial 3, 3) := by decide +kernel
theorem dX8_init_4 : decode cX8_init 4 = .ok (.aload_n 0, 1) := by decide +kernel
theorem dX8_init_5 : decode cX8_init 5 = .ok (.new 9, 3) := by decide +kernel
theorem dX8_init_8 : decode cX8_init 8 = .ok (.dup, 1) := by decide +kernel
theorem dX8_init_9 : decode cX8_init 9 = .ok (.invokespecial 11, 3) := by decide +kernel
theorem dX8_init_12 : decode cX8_init 12 = .ok (.putfield 12, 3) := by decide +kernel
theorem dX8_init_15 : decode cX8_init 15 = .ok (.aload_n 0, 1) := by decide +kernel
theorem dX8_init_16 : decode cX8_init 16 = .ok (.new 9, 3) := by decide +kernel
theorem dX8_init_19 : decode cX8_init 19 = .ok (.dup, 1) := by decide +kernel
theorem dX8_init_20 : decode cX8_init 20 = .ok (.invokespecial 11, 3) := by decide +kernel
theorem dX8_init_23 : decode cX8_init 23 = .ok (.putfield 16, 3) := by decide +kernel
theorem dX8_init_26 : decode cX8_init 26 = .ok (.aload_n 0, 1) := by decide +kernel
theorem dX8_init_27 : decode cX8_init 27 = .ok (.new 9, 3) := by decide +kernel
theorem dX8_init_30 : decode cX8_init 30 = .ok (.dup, 1) := by decide +kernel
theorem dX8_init_31 : decode cX8_init 31 = .ok (.invokespecial 11, 3) := by decide +kernel
theorem dX8_init_34 : decode cX8_init 34 = .ok (.putfield 19, 3) := by decide +kernel
theorem dX8_init_37 : decode cX8_init 37 = .ok (.aload_n 0, 1) := by decide +kernel
theorem dX8_init_38 : decode cX8_init 38 = .ok (.new 9, 3) := by decide +kernel
theorem dX8_init_41 : decode cX8_init 41 = .ok (.dup, 1) := by decide +kernel
theorem dX8_init_42 : decode cX8_init 42 = .ok (.invokespecial 11, 3) := by decide +kernel
theorem dX8_init_45 : decode cX8_init 45 = .ok (.putfield 22, 3) := by decide +kernel
theorem dX8_init_48 : decode cX8_init 48 = .ok (.aload_n 0, 1) := by decide +kernel
theorem dX8_init_49 : decode cX8_init 49 = .ok (.new 25, 3) := by decide +kernel
theorem dX8_init_52 : decode cX8_init 52 = .ok (.dup, 1) := by decide +kernel
theorem dX8_init_53 : decode cX8_init 53 = .ok (.invokespecial 27, 3) := by decide +kernel
theorem dX8_init_56 : decode cX8_init 56 = .ok (.putfield 28, 3) := by decide +kernel
theorem dX8_init_59 : decode cX8_init 59 = .ok (.aload_n 0, 1) := by decide +kernel
theorem dX8_init_60 : decode cX8_init 60 = .ok (.iconst 0, 1) := by decide +kernel
theorem dX8_init_61 : decode cX8_init 61 = .ok (.putfield 32, 3) := by decide +kernel
theorem dX8_init_64 : decode cX8_init 64 = .ok (.aload_n 0, 1) := by decide +kernel
theorem dX8_init_65 : decode cX8_init 65 = .ok (.iconst 0, 1) := by decide +kernel
theorem dX8_init_66 : decode cX8_init 66 = .ok (.putfield 36, 3) := by decide +kernel
theorem dX8_init_69 : decode cX8_init 69 = .ok (.aload_n 0, 1) := by decide +kernel
theorem dX8_init_70 : decode cX8_init 70 = .ok (.lconst 0, 1) := by decide +kernel
theorem dX8_init_71 : decode cX8_init 71 = .ok (.putfield 39, 3) := by decide +kernel
theorem dX8_init_74 : decode cX8_init 74 = .ok (.return_, 1) := by decide +kernel
theorem dX8_person_0 : decode cX8_person 0 = .ok (.iload_n 1, 1) := by decide +kernel
theorem dX8_person_1 : decode cX8_person 1 = .ok (.ifCond .lt 9, 3) := by decide +kernel
theorem dX8_person_4 : decode cX8_person 4 = .ok (.iload_n 1, 1) := by decide +kernel
theorem dX8_person_5 : decode cX8_person 5 = .ok (.bipush 99, 2) := by decide +kernel
theorem dX8_person_7 : decode cX8_person 7 = .ok (.if_icmp .le 13, 3) := by decide +kernel
theorem dX8_person_10 : decode cX8_person 10 = .ok (.new 43, 3) := by decide +kernel
theorem dX8_person_13 : decode cX8_person 13 = .ok (.dup, 1) := by decide +kernel
theorem dX8_person_14 : decode cX8_person 14 = .ok (.ldc 45, 2) := by decide +kernel
theorem dX8_person_16 : decode cX8_person 16 = .ok (.invokespecial 47, 3) := by decide +kernel
theorem dX8_person_19 : decode cX8_person 19 = .ok (.athrow, 1) := by decide +kernel
theorem dX8_person_20 : decode cX8_person 20 = .ok (.aload_n 0, 1) := by decide +kernel
theorem dX8_person_21 : decode cX8_person 21 = .ok (.getfield 12, 3) := by decide +kernel
theorem dX8_person_24 : decode cX8_person 24 = .ok (.invokevirtual 50, 3) := by decide +kernel
theorem dX8_person_27 : decode cX8_person 27 = .ok (.bipush 12, 2) := by decide +kernel
theorem dX8_person_29 : decode cX8_person 29 = .ok (.if_icmp .lt 13, 3) := by decide +kernel
theorem dX8_person_32 : decode cX8_person 32 = .ok (.new 54, 3) := by decide +kernel
theorem dX8_person_35 : decode cX8_person 35 = .ok (.dup, 1) := by decide +kernel
theorem dX8_person_36 : decode cX8_person 36 = .ok (.ldc 56, 2) := by decide +kernel
theorem dX8_person_38 : decode cX8_person 38 = .ok (.invokespecial 58, 3) := by decide +kernel
theorem dX8_person_41 : decode cX8_person 41 = .ok (.athrow, 1) := by decide +kernel
theorem dX8_person_42 : decode cX8_person 42 = .ok (.new 59, 3) := by decide +kernel
theorem dX8_person_45 : decode cX8_person 45 = .ok (.dup, 1) := by decide +kernel
theorem dX8_person_46 : decode cX8_person 46 = .ok (.aload_n 0, 1) := by decide +kernel
theorem dX8_person_47 : decode cX8_person 47 = .ok (.getfield 12, 3) := by decide +kernel
theorem dX8_person_50 : decode cX8_person 50 = .ok (.invokevirtual 50, 3) := by decide +kernel
theorem dX8_person_53 : decode cX8_person 53 = .ok (.iload_n 1, 1) := by decide +kernel
theorem dX8_person_54 : decode cX8_person 54 = .ok (.aload_n 0, 1) := by decide +kernel
theorem dX8_person_55 : decode cX8_person 55 = .ok (.getfield 32, 3) := by decide +kernel
theorem dX8_person_58 : decode cX8_person 58 = .ok (.iload_n 2, 1) := by decide +kernel
theorem dX8_person_59 : decode cX8_person 59 = .ok (.invokespecial 61, 3) := by decide +kernel
theorem dX8_person_62 : decode cX8_person 62 = .ok (.astore_n 3, 1) := by decide +kernel
theorem dX8_person_63 : decode cX8_person 63 = .ok (.aload_n 0, 1) := by decide +kernel
theorem dX8_person_64 : decode cX8_person 64 = .ok (.getfield 12, 3) := by decide +kernel
theorem dX8_person_67 : decode cX8_person 67 = .ok (.aload_n 3, 1) := by decide +kernel
theorem dX8_person_68 : decode cX8_person 68 = .ok (.invokevirtual 64, 3) := by decide +kernel
theorem dX8_person_71 : decode cX8_person 71 = .ok (.pop, 1) := by decide +kernel
theorem dX8_person_72 : decode cX8_person 72 = .ok (.aload_n 3, 1) := by decide +kernel
theorem dX8_person_73 : decode cX8_person 73 = .ok (.getfield 68, 3) := by decide +kernel
theorem dX8_person_76 : decode cX8_person 76 = .ok (.ireturn, 1) := by decide +kernel
theorem dX8_child_0 : decode cX8_child 0 = .ok (.aload_n 0, 1) := by decide +kernel
theorem dX8_child_1 : decode cX8_child 1 = .ok (.iload_n 1, 1) := by decide +kernel
theorem dX8_child_2 : decode cX8_child 2 = .ok (.invokevirtual 71, 3) := by decide +kernel
theorem dX8_child_5 : decode cX8_child 5 = .ok (.astore_n 3, 1) := by decide +kernel
theorem dX8_child_6 : decode cX8_child 6 = .ok (.aload_n 0, 1) := by decide +kernel
theorem dX8_child_7 : decode cX8_child 7 = .ok (.iload_n 2, 1) := by decide +kernel
theorem dX8_child_8 : decode cX8_child 8 = .ok (.invokevirtual 71, 3) := by decide +kernel
theorem dX8_child_11 : decode cX8_child 11 = .ok (.astore 4, 2) := by decide +kernel
theorem dX8_child_13 : decode cX8_child 13 = .ok (.iload_n 2, 1) := by decide +kernel
theorem dX8_child_14 : decode cX8_child 14 = .ok (.iload_n 1, 1) := by decide +kernel
theorem dX8_child_15 : decode cX8_child 15 = .ok (.if_icmp .gt 13, 3) := by decide +kernel
theorem dX8_child_18 : decode cX8_child 18 = .ok (.new 43, 3) := by decide +kernel
theorem dX8_child_21 : decode cX8_child 21 = .ok (.dup, 1) := by decide +kernel
theorem dX8_child_22 : decode cX8_child 22 = .ok (.ldc 75, 2) := by decide +kernel
theorem dX8_child_24 : decode cX8_child 24 = .ok (.invokespecial 47, 3) := by decide +kernel
theorem dX8_child_27 : decode cX8_child 27 = .ok (.athrow, 1) := by decide +kernel
theorem dX8_child_28 : decode cX8_child 28 = .ok (.aload 4, 2) := by decide +kernel
theorem dX8_child_30 : decode cX8_child 30 = .ok (.invokevirtual 77, 3) := by decide +kernel
theorem dX8_child_33 : decode cX8_child 33 = .ok (.iconst 2, 1) := by decide +kernel
theorem dX8_child_34 : decode cX8_child 34 = .ok (.if_icmp .ge 12, 3) := by decide +kernel
theorem dX8_child_37 : decode cX8_child 37 = .ok (.aload 4, 2) := by decide +kernel
theorem dX8_child_39 : decode cX8_child 39 = .ok (.aload_n 3, 1) := by decide +kernel
theorem dX8_child_40 : decode cX8_child 40 = .ok (.invokevirtual 80, 3) := by decide +kernel
theorem dX8_child_43 : decode cX8_child 43 = .ok (.ifCond .eq 13, 3) := by decide +kernel
theorem dX8_child_46 : decode cX8_child 46 = .ok (.new 54, 3) := by decide +kernel
theorem dX8_child_49 : decode cX8_child 49 = .ok (.dup, 1) := by decide +kernel
theorem dX8_child_50 : decode cX8_child 50 = .ok (.ldc 84, 2) := by decide +kernel
theorem dX8_child_52 : decode cX8_child 52 = .ok (.invokespecial 58, 3) := by decide +kernel
theorem dX8_child_55 : decode cX8_child 55 = .ok (.athrow, 1) := by decide +kernel
theorem dX8_child_56 : decode cX8_child 56 = .ok (.aload_n 3, 1) := by decide +kernel
theorem dX8_child_57 : decode cX8_child 57 = .ok (.aload 4, 2) := by decide +kernel
theorem dX8_child_59 : decode cX8_child 59 = .ok (.invokestatic 86, 3) := by decide +kernel
theorem dX8_child_62 : decode cX8_child 62 = .ok (.aload 4, 2) := by decide +kernel
theorem dX8_child_64 : decode cX8_child 64 = .ok (.aload_n 3, 1) := by decide +kernel
theorem dX8_child_65 : decode cX8_child 65 = .ok (.invokevirtual 90, 3) := by decide +kernel
theorem dX8_child_68 : decode cX8_child 68 = .ok (.aload 4, 2) := by decide +kernel
theorem dX8_child_70 : decode cX8_child 70 = .ok (.invokevirtual 77, 3) := by decide +kernel
theorem dX8_child_73 : decode cX8_child 73 = .ok (.ireturn, 1) := by decide +kernel
theorem dX8_guard_0 : decode cX8_guard 0 = .ok (.aload_n 0, 1) := by decide +kernel
theorem dX8_guard_1 : decode cX8_guard 1 = .ok (.iload_n 1, 1) := by decide +kernel
theorem dX8_guard_2 : decode cX8_guard 2 = .ok (.invokevirtual 71, 3) := by decide +kernel
theorem dX8_guard_5 : decode cX8_guard 5 = .ok (.astore_n 3, 1) := by decide +kernel
theorem dX8_guard_6 : decode cX8_guard 6 = .ok (.iload_n 2, 1) := by decide +kernel
theorem dX8_guard_7 : decode cX8_guard 7 = .ok (.iconst (-1), 1) := by decide +kernel
theorem dX8_guard_8 : decode cX8_guard 8 = .ok (.if_icmp .ne 7, 3) := by decide +kernel
theorem dX8_guard_11 : decode cX8_guard 11 = .ok (.aconst_null, 1) := by decide +kernel
theorem dX8_guard_12 : decode cX8_guard 12 = .ok (.goto 8, 3) := by decide +kernel
theorem dX8_guard_15 : decode cX8_guard 15 = .ok (.aload_n 0, 1) := by decide +kernel
theorem dX8_guard_16 : decode cX8_guard 16 = .ok (.iload_n 2, 1) := by decide +kernel
theorem dX8_guard_17 : decode cX8_guard 17 = .ok (.invokevirtual 71, 3) := by decide +kernel
theorem dX8_guard_20 : decode cX8_guard 20 = .ok (.astore 4, 2) := by decide +kernel
theorem dX8_guard_22 : decode cX8_guard 22 = .ok (.iload_n 1, 1) := by decide +kernel
theorem dX8_guard_23 : decode cX8_guard 23 = .ok (.iload_n 2, 1) := by decide +kernel
theorem dX8_guard_24 : decode cX8_guard 24 = .ok (.if_icmp .ne 13, 3) := by decide +kernel
theorem dX8_guard_27 : decode cX8_guard 27 = .ok (.new 43, 3) := by decide +kernel
theorem dX8_guard_30 : decode cX8_guard 30 = .ok (.dup, 1) := by decide +kernel
theorem dX8_guard_31 : decode cX8_guard 31 = .ok (.ldc 94, 2) := by decide +kernel
theorem dX8_guard_33 : decode cX8_guard 33 = .ok (.invokespecial 47, 3) := by decide +kernel
theorem dX8_guard_36 : decode cX8_guard 36 = .ok (.athrow, 1) := by decide +kernel
theorem dX8_guard_37 : decode cX8_guard 37 = .ok (.aload_n 3, 1) := by decide +kernel
theorem dX8_guard_38 : decode cX8_guard 38 = .ok (.getfield 96, 3) := by decide +kernel
theorem dX8_guard_41 : decode cX8_guard 41 = .ok (.ifCond .eq 16, 3) := by decide +kernel
theorem dX8_guard_44 : decode cX8_guard 44 = .ok (.aload 4, 2) := by decide +kernel
theorem dX8_guard_46 : decode cX8_guard 46 = .ok (.ifnull 21, 3) := by decide +kernel
theorem dX8_guard_49 : decode cX8_guard 49 = .ok (.aload 4, 2) := by decide +kernel
theorem dX8_guard_51 : decode cX8_guard 51 = .ok (.getfield 96, 3) := by decide +kernel
theorem dX8_guard_54 : decode cX8_guard 54 = .ok (.ifCond .ne 13, 3) := by decide +kernel
theorem dX8_guard_57 : decode cX8_guard 57 = .ok (.new 54, 3) := by decide +kernel
theorem dX8_guard_60 : decode cX8_guard 60 = .ok (.dup, 1) := by decide +kernel
theorem dX8_guard_61 : decode cX8_guard 61 = .ok (.ldc 100, 2) := by decide +kernel
theorem dX8_guard_63 : decode cX8_guard 63 = .ok (.invokespecial 58, 3) := by decide +kernel
theorem dX8_guard_66 : decode cX8_guard 66 = .ok (.athrow, 1) := by decide +kernel
theorem dX8_guard_67 : decode cX8_guard 67 = .ok (.aload_n 3, 1) := by decide +kernel
theorem dX8_guard_68 : decode cX8_guard 68 = .ok (.getfield 102, 3) := by decide +kernel
theorem dX8_guard_71 : decode cX8_guard 71 = .ok (.astore 5, 2) := by decide +kernel
theorem dX8_guard_73 : decode cX8_guard 73 = .ok (.aload_n 3, 1) := by decide +kernel
theorem dX8_guard_74 : decode cX8_guard 74 = .ok (.aload 4, 2) := by decide +kernel
theorem dX8_guard_76 : decode cX8_guard 76 = .ok (.putfield 102, 3) := by decide +kernel
theorem dX8_guard_79 : decode cX8_guard 79 = .ok (.aload 5, 2) := by decide +kernel
theorem dX8_guard_81 : decode cX8_guard 81 = .ok (.ifnonnull 7, 3) := by decide +kernel
theorem dX8_guard_84 : decode cX8_guard 84 = .ok (.iconst (-1), 1) := by decide +kernel
theorem dX8_guard_85 : decode cX8_guard 85 = .ok (.goto 8, 3) := by decide +kernel
theorem dX8_guard_88 : decode cX8_guard 88 = .ok (.aload 5, 2) := by decide +kernel
theorem dX8_guard_90 : decode cX8_guard 90 = .ok (.getfield 68, 3) := by decide +kernel
theorem dX8_guard_93 : decode cX8_guard 93 = .ok (.ireturn, 1) := by decide +kernel
theorem dX8_thing_0 : decode cX8_thing 0 = .ok (.aload_n 0, 1) := by decide +kernel
theorem dX8_thing_1 : decode cX8_thing 1 = .ok (.iload_n 1, 1) := by decide +kernel
theorem dX8_thing_2 : decode cX8_thing 2 = .ok (.invokevirtual 71, 3) := by decide +kernel
theorem dX8_thing_5 : decode cX8_thing 5 = .ok (.astore_n 3, 1) := by decide +kernel
theorem dX8_thing_6 : decode cX8_thing 6 = .ok (.iload_n 2, 1) := by decide +kernel
theorem dX8_thing_7 : decode cX8_thing 7 = .ok (.iconst 1, 1) := by decide +kernel
theorem dX8_thing_8 : decode cX8_thing 8 = .ok (.if_icmp .lt 9, 3) := by decide +kernel
theorem dX8_thing_11 : decode cX8_thing 11 = .ok (.iload_n 2, 1) := by decide +kernel
theorem dX8_thing_12 : decode cX8_thing 12 = .ok (.ldc 106, 2) := by decide +kernel
theorem dX8_thing_14 : decode cX8_thing 14 = .ok (.if_icmp .le 13, 3) := by decide +kernel
theorem dX8_thing_17 : decode cX8_thing 17 = .ok (.new 43, 3) := by decide +kernel
theorem dX8_thing_20 : decode cX8_thing 20 = .ok (.dup, 1) := by decide +kernel
theorem dX8_thing_21 : decode cX8_thing 21 = .ok (.ldc 107, 2) := by decide +kernel
theorem dX8_thing_23 : decode cX8_thing 23 = .ok (.invokespecial 47, 3) := by decide +kernel
theorem dX8_thing_26 : decode cX8_thing 26 = .ok (.athrow, 1) := by decide +kernel
theorem dX8_thing_27 : decode cX8_thing 27 = .ok (.aload_n 0, 1) := by decide +kernel
theorem dX8_thing_28 : decode cX8_thing 28 = .ok (.getfield 16, 3) := by decide +kernel
theorem dX8_thing_31 : decode cX8_thing 31 = .ok (.invokevirtual 50, 3) := by decide +kernel
theorem dX8_thing_34 : decode cX8_thing 34 = .ok (.bipush 8, 2) := by decide +kernel
theorem dX8_thing_36 : decode cX8_thing 36 = .ok (.if_icmp .ge 10, 3) := by decide +kernel
theorem dX8_thing_39 : decode cX8_thing 39 = .ok (.aload_n 3, 1) := by decide +kernel
theorem dX8_thing_40 : decode cX8_thing 40 = .ok (.getfield 96, 3) := by decide +kernel
theorem dX8_thing_43 : decode cX8_thing 43 = .ok (.ifCond .ne 13, 3) := by decide +kernel
theorem dX8_thing_46 : decode cX8_thing 46 = .ok (.new 54, 3) := by decide +kernel
theorem dX8_thing_49 : decode cX8_thing 49 = .ok (.dup, 1) := by decide +kernel
theorem dX8_thing_50 : decode cX8_thing 50 = .ok (.ldc 109, 2) := by decide +kernel
theorem dX8_thing_52 : decode cX8_thing 52 = .ok (.invokespecial 58, 3) := by decide +kernel
theorem dX8_thing_55 : decode cX8_thing 55 = .ok (.athrow, 1) := by decide +kernel
theorem dX8_thing_56 : decode cX8_thing 56 = .ok (.new 111, 3) := by decide +kernel
theorem dX8_thing_59 : decode cX8_thing 59 = .ok (.dup, 1) := by decide +kernel
theorem dX8_thing_60 : decode cX8_thing 60 = .ok (.aload_n 0, 1) := by decide +kernel
theorem dX8_thing_61 : decode cX8_thing 61 = .ok (.getfield 16, 3) := by decide +kernel
theorem dX8_thing_64 : decode cX8_thing 64 = .ok (.invokevirtual 50, 3) := by decide +kernel
theorem dX8_thing_67 : decode cX8_thing 67 = .ok (.aload_n 3, 1) := by decide +kernel
theorem dX8_thing_68 : decode cX8_thing 68 = .ok (.getfield 68, 3) := by decide +kernel
theorem dX8_thing_71 : decode cX8_thing 71 = .ok (.iload_n 2, 1) := by decide +kernel
theorem dX8_thing_72 : decode cX8_thing 72 = .ok (.invokespecial 113, 3) := by decide +kernel
theorem dX8_thing_75 : decode cX8_thing 75 = .ok (.astore 4, 2) := by decide +kernel
theorem dX8_thing_77 : decode cX8_thing 77 = .ok (.aload_n 0, 1) := by decide +kernel
theorem dX8_thing_78 : decode cX8_thing 78 = .ok (.getfield 16, 3) := by decide +kernel
theorem dX8_thing_81 : decode cX8_thing 81 = .ok (.aload 4, 2) := by decide +kernel
theorem dX8_thing_83 : decode cX8_thing 83 = .ok (.invokevirtual 64, 3) := by decide +kernel
theorem dX8_thing_86 : decode cX8_thing 86 = .ok (.pop, 1) := by decide +kernel
theorem dX8_thing_87 : decode cX8_thing 87 = .ok (.aload 4, 2) := by decide +kernel
theorem dX8_thing_89 : decode cX8_thing 89 = .ok (.getfield 116, 3) := by decide +kernel
theorem dX8_thing_92 : decode cX8_thing 92 = .ok (.ireturn, 1) := by decide +kernel
theorem dX8_isAble_0 : decode cX8_isAble 0 = .ok (.aload_n 0, 1) := by decide +kernel
theorem dX8_isAble_1 : decode cX8_isAble 1 = .ok (.iload_n 1, 1) := by decide +kernel
theorem dX8_isAble_2 : decode cX8_isAble 2 = .ok (.invokevirtual 71, 3) := by decide +kernel
theorem dX8_isAble_5 : decode cX8_isAble 5 = .ok (.aload_n 0, 1) := by decide +kernel
theorem dX8_isAble_6 : decode cX8_isAble 6 = .ok (.getfield 32, 3) := by decide +kernel
theorem dX8_isAble_9 : decode cX8_isAble 9 = .ok (.invokevirtual 117, 3) := by decide +kernel
theorem dX8_isAble_12 : decode cX8_isAble 12 = .ok (.ireturn, 1) := by decide +kernel
theorem dX8_draft_0 : decode cX8_draft 0 = .ok (.aload_n 0, 1) := by decide +kernel
theorem dX8_draft_1 : decode cX8_draft 1 = .ok (.iload_n 2, 1) := by decide +kernel
theorem dX8_draft_2 : decode cX8_draft 2 = .ok (.invokevirtual 71, 3) := by decide +kernel
theorem dX8_draft_5 : decode cX8_draft 5 = .ok (.astore 7, 2) := by decide +kernel
theorem dX8_draft_7 : decode cX8_draft 7 = .ok (.aload_n 0, 1) := by decide +kernel
theorem dX8_draft_8 : decode cX8_draft 8 = .ok (.iload_n 3, 1) := by decide +kernel
theorem dX8_draft_9 : decode cX8_draft 9 = .ok (.invokevirtual 71, 3) := by decide +kernel
theorem dX8_draft_12 : decode cX8_draft 12 = .ok (.astore 8, 2) := by decide +kernel
theorem dX8_draft_14 : decode cX8_draft 14 = .ok (.aload_n 0, 1) := by decide +kernel
theorem dX8_draft_15 : decode cX8_draft 15 = .ok (.iload 4, 2) := by decide +kernel
theorem dX8_draft_17 : decode cX8_draft 17 = .ok (.invokevirtual 121, 3) := by decide +kernel
theorem dX8_draft_20 : decode cX8_draft 20 = .ok (.astore 9, 2) := by decide +kernel
theorem dX8_draft_22 : decode cX8_draft 22 = .ok (.iload_n 1, 1) := by decide +kernel
theorem dX8_draft_23 : decode cX8_draft 23 = .ok (.invokestatic 125, 3) := by decide +kernel
theorem dX8_draft_26 : decode cX8_draft 26 = .ok (.ifCond .eq 18, 3) := by decide +kernel
theorem dX8_draft_29 : decode cX8_draft 29 = .ok (.iload 5, 2) := by decide +kernel
theorem dX8_draft_31 : decode cX8_draft 31 = .ok (.iload 6, 2) := by decide +kernel
theorem dX8_draft_33 : decode cX8_draft 33 = .ok (.invokestatic 128, 3) := by decide +kernel
theorem dX8_draft_36 : decode cX8_draft 36 = .ok (.ifCond .eq 8, 3) := by decide +kernel
theorem dX8_draft_39 : decode cX8_draft 39 = .ok (.iload_n 2, 1) := by decide +kernel
theorem dX8_draft_40 : decode cX8_draft 40 = .ok (.iload_n 3, 1) := by decide +kernel
theorem dX8_draft_41 : decode cX8_draft 41 = .ok (.if_icmp .ne 13, 3) := by decide +kernel
theorem dX8_draft_44 : decode cX8_draft 44 = .ok (.new 43, 3) := by decide +kernel
theorem dX8_draft_47 : decode cX8_draft 47 = .ok (.dup, 1) := by decide +kernel
theorem dX8_draft_48 : decode cX8_draft 48 = .ok (.ldc 132, 2) := by decide +kernel
theorem dX8_draft_50 : decode cX8_draft 50 = .ok (.invokespecial 47, 3) := by decide +kernel
theorem dX8_draft_53 : decode cX8_draft 53 = .ok (.athrow, 1) := by decide +kernel
theorem dX8_draft_54 : decode cX8_draft 54 = .ok (.aload_n 0, 1) := by decide +kernel
theorem dX8_draft_55 : decode cX8_draft 55 = .ok (.aload 7, 2) := by decide +kernel
theorem dX8_draft_57 : decode cX8_draft 57 = .ok (.aload 8, 2) := by decide +kernel
theorem dX8_draft_59 : decode cX8_draft 59 = .ok (.invokevirtual 134, 3) := by decide +kernel
theorem dX8_draft_62 : decode cX8_draft 62 = .ok (.aload_n 0, 1) := by decide +kernel
theorem dX8_draft_63 : decode cX8_draft 63 = .ok (.new 137, 3) := by decide +kernel
theorem dX8_draft_66 : decode cX8_draft 66 = .ok (.dup, 1) := by decide +kernel
theorem dX8_draft_67 : decode cX8_draft 67 = .ok (.aload_n 0, 1) := by decide +kernel
theorem dX8_draft_68 : decode cX8_draft 68 = .ok (.getfield 19, 3) := by decide +kernel
theorem dX8_draft_71 : decode cX8_draft 71 = .ok (.invokevirtual 50, 3) := by decide +kernel
theorem dX8_draft_74 : decode cX8_draft 74 = .ok (.iload_n 1, 1) := by decide +kernel
theorem dX8_draft_75 : decode cX8_draft 75 = .ok (.aload 7, 2) := by decide +kernel
theorem dX8_draft_77 : decode cX8_draft 77 = .ok (.aload 8, 2) := by decide +kernel
theorem dX8_draft_79 : decode cX8_draft 79 = .ok (.aload 9, 2) := by decide +kernel
theorem dX8_draft_81 : decode cX8_draft 81 = .ok (.iload 5, 2) := by decide +kernel
theorem dX8_draft_83 : decode cX8_draft 83 = .ok (.iload 6, 2) := by decide +kernel
theorem dX8_draft_85 : decode cX8_draft 85 = .ok (.invokespecial 139, 3) := by decide +kernel
theorem dX8_draft_88 : decode cX8_draft 88 = .ok (.invokevirtual 142, 3) := by decide +kernel
theorem dX8_draft_91 : decode cX8_draft 91 = .ok (.ireturn, 1) := by decide +kernel
theorem dX8_power_0 : decode cX8_power 0 = .ok (.aload_n 0, 1) := by decide +kernel
theorem dX8_power_1 : decode cX8_power 1 = .ok (.iload_n 1, 1) := by decide +kernel
theorem dX8_power_2 : decode cX8_power 2 = .ok (.invokevirtual 71, 3) := by decide +kernel
theorem dX8_power_5 : decode cX8_power 5 = .ok (.astore 6, 2) := by decide +kernel
theorem dX8_power_7 : decode cX8_power 7 = .ok (.aload_n 0, 1) := by decide +kernel
theorem dX8_power_8 : decode cX8_power 8 = .ok (.iload_n 2, 1) := by decide +kernel
theorem dX8_power_9 : decode cX8_power 9 = .ok (.invokevirtual 71, 3) := by decide +kernel
theorem dX8_power_12 : decode cX8_power 12 = .ok (.astore 7, 2) := by decide +kernel
theorem dX8_power_14 : decode cX8_power 14 = .ok (.iload_n 3, 1) := by decide +kernel
theorem dX8_power_15 : decode cX8_power 15 = .ok (.iconst (-1), 1) := by decide +kernel
theorem dX8_power_16 : decode cX8_power 16 = .ok (.if_icmp .ne 7, 3) := by decide +kernel
theorem dX8_power_19 : decode cX8_power 19 = .ok (.aconst_null, 1) := by decide +kernel
theorem dX8_power_20 : decode cX8_power 20 = .ok (.goto 8, 3) := by decide +kernel
theorem dX8_power_23 : decode cX8_power 23 = .ok (.aload_n 0, 1) := by decide +kernel
theorem dX8_power_24 : decode cX8_power 24 = .ok (.iload_n 3, 1) := by decide +kernel
theorem dX8_power_25 : decode cX8_power 25 = .ok (.invokevirtual 121, 3) := by decide +kernel
theorem dX8_power_28 : decode cX8_power 28 = .ok (.astore 8, 2) := by decide +kernel
theorem dX8_power_30 : decode cX8_power 30 = .ok (.iload 4, 2) := by decide +kernel
theorem dX8_power_32 : decode cX8_power 32 = .ok (.iconst 1, 1) := by decide +kernel
theorem dX8_power_33 : decode cX8_power 33 = .ok (.if_icmp .lt 16, 3) := by decide +kernel
theorem dX8_power_36 : decode cX8_power 36 = .ok (.iload 4, 2) := by decide +kernel
theorem dX8_power_38 : decode cX8_power 38 = .ok (.sipush 1000, 3) := by decide +kernel
theorem dX8_power_41 : decode cX8_power 41 = .ok (.if_icmp .gt 8, 3) := by decide +kernel
theorem dX8_power_44 : decode cX8_power 44 = .ok (.iload_n 1, 1) := by decide +kernel
theorem dX8_power_45 : decode cX8_power 45 = .ok (.iload_n 2, 1) := by decide +kernel
theorem dX8_power_46 : decode cX8_power 46 = .ok (.if_icmp .ne 13, 3) := by decide +kernel
theorem dX8_power_49 : decode cX8_power 49 = .ok (.new 43, 3) := by decide +kernel
theorem dX8_power_52 : decode cX8_power 52 = .ok (.dup, 1) := by decide +kernel
theorem dX8_power_53 : decode cX8_power 53 = .ok (.ldc 146, 2) := by decide +kernel
theorem dX8_power_55 : decode cX8_power 55 = .ok (.invokespecial 47, 3) := by decide +kernel
theorem dX8_power_58 : decode cX8_power 58 = .ok (.athrow, 1) := by decide +kernel
theorem dX8_power_59 : decode cX8_power 59 = .ok (.aload_n 0, 1) := by decide +kernel
theorem dX8_power_60 : decode cX8_power 60 = .ok (.aload 6, 2) := by decide +kernel
theorem dX8_power_62 : decode cX8_power 62 = .ok (.aload 7, 2) := by decide +kernel
theorem dX8_power_64 : decode cX8_power 64 = .ok (.invokevirtual 134, 3) := by decide +kernel
theorem dX8_power_67 : decode cX8_power 67 = .ok (.new 137, 3) := by decide +kernel
theorem dX8_power_70 : decode cX8_power 70 = .ok (.dup, 1) := by decide +kernel
theorem dX8_power_71 : decode cX8_power 71 = .ok (.aload_n 0, 1) := by decide +kernel
theorem dX8_power_72 : decode cX8_power 72 = .ok (.getfield 19, 3) := by decide +kernel
theorem dX8_power_75 : decode cX8_power 75 = .ok (.invokevirtual 50, 3) := by decide +kernel
theorem dX8_power_78 : decode cX8_power 78 = .ok (.iconst 3, 1) := by decide +kernel
theorem dX8_power_79 : decode cX8_power 79 = .ok (.aload 6, 2) := by decide +kernel
theorem dX8_power_81 : decode cX8_power 81 = .ok (.aload 7, 2) := by decide +kernel
theorem dX8_power_83 : decode cX8_power 83 = .ok (.aload 8, 2) := by decide +kernel
theorem dX8_power_85 : decode cX8_power 85 = .ok (.iconst 0, 1) := by decide +kernel
theorem dX8_power_86 : decode cX8_power 86 = .ok (.iconst 1, 1) := by decide +kernel
theorem dX8_power_87 : decode cX8_power 87 = .ok (.invokespecial 139, 3) := by decide +kernel
theorem dX8_power_90 : decode cX8_power 90 = .ok (.astore 9, 2) := by decide +kernel
theorem dX8_power_92 : decode cX8_power 92 = .ok (.aload 9, 2) := by decide +kernel
theorem dX8_power_94 : decode cX8_power 94 = .ok (.new 148, 3) := by decide +kernel
theorem dX8_power_97 : decode cX8_power 97 = .ok (.dup, 1) := by decide +kernel
theorem dX8_power_98 : decode cX8_power 98 = .ok (.aload_n 0, 1) := by decide +kernel
theorem dX8_power_99 : decode cX8_power 99 = .ok (.getfield 32, 3) := by decide +kernel
theorem dX8_power_102 : decode cX8_power 102 = .ok (.iload 4, 2) := by decide +kernel
theorem dX8_power_104 : decode cX8_power 104 = .ok (.iadd, 1) := by decide +kernel
theorem dX8_power_105 : decode cX8_power 105 = .ok (.iload 5, 2) := by decide +kernel
theorem dX8_power_107 : decode cX8_power 107 = .ok (.invokespecial 150, 3) := by decide +kernel
theorem dX8_power_110 : decode cX8_power 110 = .ok (.putfield 153, 3) := by decide +kernel
theorem dX8_power_113 : decode cX8_power 113 = .ok (.aload_n 0, 1) := by decide +kernel
theorem dX8_power_114 : decode cX8_power 114 = .ok (.aload 9, 2) := by decide +kernel
theorem dX8_power_116 : decode cX8_power 116 = .ok (.invokevirtual 142, 3) := by decide +kernel
theorem dX8_power_119 : decode cX8_power 119 = .ok (.ireturn, 1) := by decide +kernel
theorem dX8_will_0 : decode cX8_will 0 = .ok (.aload_n 0, 1) := by decide +kernel
theorem dX8_will_1 : decode cX8_will 1 = .ok (.iload_n 1, 1) := by decide +kernel
theorem dX8_will_2 : decode cX8_will 2 = .ok (.invokevirtual 71, 3) := by decide +kernel
theorem dX8_will_5 : decode cX8_will 5 = .ok (.astore 5, 2) := by decide +kernel
theorem dX8_will_7 : decode cX8_will 7 = .ok (.aload_n 0, 1) := by decide +kernel
theorem dX8_will_8 : decode cX8_will 8 = .ok (.iload_n 2, 1) := by decide +kernel
theorem dX8_will_9 : decode cX8_will 9 = .ok (.invokevirtual 71, 3) := by decide +kernel
theorem dX8_will_12 : decode cX8_will 12 = .ok (.astore 6, 2) := by decide +kernel
theorem dX8_will_14 : decode cX8_will 14 = .ok (.iload_n 3, 1) := by decide +kernel
theorem dX8_will_15 : decode cX8_will 15 = .ok (.iload 4, 2) := by decide +kernel
theorem dX8_will_17 : decode cX8_will 17 = .ok (.invokestatic 128, 3) := by decide +kernel
theorem dX8_will_20 : decode cX8_will 20 = .ok (.ifCond .eq 8, 3) := by decide +kernel
theorem dX8_will_23 : decode cX8_will 23 = .ok (.iload_n 1, 1) := by decide +kernel
theorem dX8_will_24 : decode cX8_will 24 = .ok (.iload_n 2, 1) := by decide +kernel
theorem dX8_will_25 : decode cX8_will 25 = .ok (.if_icmp .ne 13, 3) := by decide +kernel
theorem dX8_will_28 : decode cX8_will 28 = .ok (.new 43, 3) := by decide +kernel
theorem dX8_will_31 : decode cX8_will 31 = .ok (.dup, 1) := by decide +kernel
theorem dX8_will_32 : decode cX8_will 32 = .ok (.ldc 157, 2) := by decide +kernel
theorem dX8_will_34 : decode cX8_will 34 = .ok (.invokespecial 47, 3) := by decide +kernel
theorem dX8_will_37 : decode cX8_will 37 = .ok (.athrow, 1) := by decide +kernel
theorem dX8_will_38 : decode cX8_will 38 = .ok (.aload_n 0, 1) := by decide +kernel
theorem dX8_will_39 : decode cX8_will 39 = .ok (.aload 5, 2) := by decide +kernel
theorem dX8_will_41 : decode cX8_will 41 = .ok (.aload 6, 2) := by decide +kernel
theorem dX8_will_43 : decode cX8_will 43 = .ok (.invokevirtual 134, 3) := by decide +kernel
theorem dX8_will_46 : decode cX8_will 46 = .ok (.aload_n 0, 1) := by decide +kernel
theorem dX8_will_47 : decode cX8_will 47 = .ok (.new 137, 3) := by decide +kernel
theorem dX8_will_50 : decode cX8_will 50 = .ok (.dup, 1) := by decide +kernel
theorem dX8_will_51 : decode cX8_will 51 = .ok (.aload_n 0, 1) := by decide +kernel
theorem dX8_will_52 : decode cX8_will 52 = .ok (.getfield 19, 3) := by decide +kernel
theorem dX8_will_55 : decode cX8_will 55 = .ok (.invokevirtual 50, 3) := by decide +kernel
theorem dX8_will_58 : decode cX8_will 58 = .ok (.iconst 4, 1) := by decide +kernel
theorem dX8_will_59 : decode cX8_will 59 = .ok (.aload 5, 2) := by decide +kernel
theorem dX8_will_61 : decode cX8_will 61 = .ok (.aload 6, 2) := by decide +kernel
theorem dX8_will_63 : decode cX8_will 63 = .ok (.aconst_null, 1) := by decide +kernel
theorem dX8_will_64 : decode cX8_will 64 = .ok (.iload_n 3, 1) := by decide +kernel
theorem dX8_will_65 : decode cX8_will 65 = .ok (.iload 4, 2) := by decide +kernel
theorem dX8_will_67 : decode cX8_will 67 = .ok (.invokespecial 139, 3) := by decide +kernel
theorem dX8_will_70 : decode cX8_will 70 = .ok (.invokevirtual 142, 3) := by decide +kernel
theorem dX8_will_73 : decode cX8_will 73 = .ok (.ireturn, 1) := by decide +kernel
theorem dX8_sign_0 : decode cX8_sign 0 = .ok (.aload_n 0, 1) := by decide +kernel
theorem dX8_sign_1 : decode cX8_sign 1 = .ok (.iload_n 1, 1) := by decide +kernel
theorem dX8_sign_2 : decode cX8_sign 2 = .ok (.invokevirtual 159, 3) := by decide +kernel
theorem dX8_sign_5 : decode cX8_sign 5 = .ok (.astore 5, 2) := by decide +kernel
theorem dX8_sign_7 : decode cX8_sign 7 = .ok (.aload_n 0, 1) := by decide +kernel
theorem dX8_sign_8 : decode cX8_sign 8 = .ok (.iload_n 2, 1) := by decide +kernel
theorem dX8_sign_9 : decode cX8_sign 9 = .ok (.invokevirtual 71, 3) := by decide +kernel
theorem dX8_sign_12 : decode cX8_sign 12 = .ok (.astore 6, 2) := by decide +kernel
theorem dX8_sign_14 : decode cX8_sign 14 = .ok (.iload 4, 2) := by decide +kernel
theorem dX8_sign_16 : decode cX8_sign 16 = .ok (.iconst (-1), 1) := by decide +kernel
theorem dX8_sign_17 : decode cX8_sign 17 = .ok (.if_icmp .ne 7, 3) := by decide +kernel
theorem dX8_sign_20 : decode cX8_sign 20 = .ok (.aconst_null, 1) := by decide +kernel
theorem dX8_sign_21 : decode cX8_sign 21 = .ok (.goto 9, 3) := by decide +kernel
theorem dX8_sign_24 : decode cX8_sign 24 = .ok (.aload_n 0, 1) := by decide +kernel
theorem dX8_sign_25 : decode cX8_sign 25 = .ok (.iload 4, 2) := by decide +kernel
theorem dX8_sign_27 : decode cX8_sign 27 = .ok (.invokevirtual 159, 3) := by decide +kernel
theorem dX8_sign_30 : decode cX8_sign 30 = .ok (.astore 7, 2) := by decide +kernel
theorem dX8_sign_32 : decode cX8_sign 32 = .ok (.iload_n 3, 1) := by decide +kernel
theorem dX8_sign_33 : decode cX8_sign 33 = .ok (.ifCond .eq 7, 3) := by decide +kernel
theorem dX8_sign_36 : decode cX8_sign 36 = .ok (.iconst 1, 1) := by decide +kernel
theorem dX8_sign_37 : decode cX8_sign 37 = .ok (.goto 4, 3) := by decide +kernel
theorem dX8_sign_40 : decode cX8_sign 40 = .ok (.iconst 2, 1) := by decide +kernel
theorem dX8_sign_41 : decode cX8_sign 41 = .ok (.istore 8, 2) := by decide +kernel
theorem dX8_sign_43 : decode cX8_sign 43 = .ok (.aload 5, 2) := by decide +kernel
theorem dX8_sign_45 : decode cX8_sign 45 = .ok (.iload 8, 2) := by decide +kernel
theorem dX8_sign_47 : decode cX8_sign 47 = .ok (.invokestatic 163, 3) := by decide +kernel
theorem dX8_sign_50 : decode cX8_sign 50 = .ok (.aload_n 0, 1) := by decide +kernel
theorem dX8_sign_51 : decode cX8_sign 51 = .ok (.aload 5, 2) := by decide +kernel
theorem dX8_sign_53 : decode cX8_sign 53 = .ok (.aload 6, 2) := by decide +kernel
theorem dX8_sign_55 : decode cX8_sign 55 = .ok (.iload_n 3, 1) := by decide +kernel
theorem dX8_sign_56 : decode cX8_sign 56 = .ok (.invokevirtual 167, 3) := by decide +kernel
theorem dX8_sign_59 : decode cX8_sign 59 = .ok (.ifCond .eq 18, 3) := by decide +kernel
theorem dX8_sign_62 : decode cX8_sign 62 = .ok (.aload 5, 2) := by decide +kernel
theorem dX8_sign_64 : decode cX8_sign 64 = .ok (.dup, 1) := by decide +kernel
theorem dX8_sign_65 : decode cX8_sign 65 = .ok (.getfield 171, 3) := by decide +kernel
theorem dX8_sign_68 : decode cX8_sign 68 = .ok (.iload 8, 2) := by decide +kernel
theorem dX8_sign_70 : decode cX8_sign 70 = .ok (.ior, 1) := by decide +kernel
theorem dX8_sign_71 : decode cX8_sign 71 = .ok (.putfield 171, 3) := by decide +kernel
theorem dX8_sign_74 : decode cX8_sign 74 = .ok (.goto 64, 3) := by decide +kernel
theorem dX8_sign_77 : decode cX8_sign 77 = .ok (.aload_n 0, 1) := by decide +kernel
theorem dX8_sign_78 : decode cX8_sign 78 = .ok (.aload 5, 2) := by decide +kernel
theorem dX8_sign_80 : decode cX8_sign 80 = .ok (.aload 6, 2) := by decide +kernel
theorem dX8_sign_82 : decode cX8_sign 82 = .ok (.iload_n 3, 1) := by decide +kernel
theorem dX8_sign_83 : decode cX8_sign 83 = .ok (.aload 7, 2) := by decide +kernel
theorem dX8_sign_85 : decode cX8_sign 85 = .ok (.invokevirtual 174, 3) := by decide +kernel
theorem dX8_sign_88 : decode cX8_sign 88 = .ok (.ifCond .eq 40, 3) := by decide +kernel
theorem dX8_sign_91 : decode cX8_sign 91 = .ok (.aload 5, 2) := by decide +kernel
theorem dX8_sign_93 : decode cX8_sign 93 = .ok (.dup, 1) := by decide +kernel
theorem dX8_sign_94 : decode cX8_sign 94 = .ok (.getfield 171, 3) := by decide +kernel
theorem dX8_sign_97 : decode cX8_sign 97 = .ok (.iload 8, 2) := by decide +kernel
theorem dX8_sign_99 : decode cX8_sign 99 = .ok (.ior, 1) := by decide +kernel
theorem dX8_sign_100 : decode cX8_sign 100 = .ok (.putfield 171, 3) := by decide +kernel
theorem dX8_sign_103 : decode cX8_sign 103 = .ok (.iload_n 3, 1) := by decide +kernel
theorem dX8_sign_104 : decode cX8_sign 104 = .ok (.ifCond .eq 34, 3) := by decide +kernel
theorem dX8_sign_107 : decode cX8_sign 107 = .ok (.aload 5, 2) := by decide +kernel
theorem dX8_sign_109 : decode cX8_sign 109 = .ok (.getfield 153, 3) := by decide +kernel
theorem dX8_sign_112 : decode cX8_sign 112 = .ok (.ifnull 26, 3) := by decide +kernel
theorem dX8_sign_115 : decode cX8_sign 115 = .ok (.aload 5, 2) := by decide +kernel
theorem dX8_sign_117 : decode cX8_sign 117 = .ok (.getfield 153, 3) := by decide +kernel
theorem dX8_sign_120 : decode cX8_sign 120 = .ok (.aload 7, 2) := by decide +kernel
theorem dX8_sign_122 : decode cX8_sign 122 = .ok (.putfield 178, 3) := by decide +kernel
theorem dX8_sign_125 : decode cX8_sign 125 = .ok (.goto 13, 3) := by decide +kernel
theorem dX8_sign_128 : decode cX8_sign 128 = .ok (.new 54, 3) := by decide +kernel
theorem dX8_sign_131 : decode cX8_sign 131 = .ok (.dup, 1) := by decide +kernel
theorem dX8_sign_132 : decode cX8_sign 132 = .ok (.ldc 182, 2) := by decide +kernel
theorem dX8_sign_134 : decode cX8_sign 134 = .ok (.invokespecial 58, 3) := by decide +kernel
theorem dX8_sign_137 : decode cX8_sign 137 = .ok (.athrow, 1) := by decide +kernel
theorem dX8_sign_138 : decode cX8_sign 138 = .ok (.aload 5, 2) := by decide +kernel
theorem dX8_sign_140 : decode cX8_sign 140 = .ok (.getfield 171, 3) := by decide +kernel
theorem dX8_sign_143 : decode cX8_sign 143 = .ok (.ireturn, 1) := by decide +kernel
theorem dX8_add_0 : decode cX8_add 0 = .ok (.aload_n 0, 1) := by decide +kernel
theorem dX8_add_1 : decode cX8_add 1 = .ok (.iload_n 1, 1) := by decide +kernel
theorem dX8_add_2 : decode cX8_add 2 = .ok (.invokevirtual 159, 3) := by decide +kernel
theorem dX8_add_5 : decode cX8_add 5 = .ok (.astore_n 3, 1) := by decide +kernel
theorem dX8_add_6 : decode cX8_add 6 = .ok (.iload_n 2, 1) := by decide +kernel
theorem dX8_add_7 : decode cX8_add 7 = .ok (.iconst 4, 1) := by decide +kernel
theorem dX8_add_8 : decode cX8_add 8 = .ok (.if_icmp .eq 19, 3) := by decide +kernel
theorem dX8_add_11 : decode cX8_add 11 = .ok (.iload_n 2, 1) := by decide +kernel
theorem dX8_add_12 : decode cX8_add 12 = .ok (.bipush 16, 2) := by decide +kernel
theorem dX8_add_14 : decode cX8_add 14 = .ok (.if_icmp .eq 13, 3) := by decide +kernel
theorem dX8_add_17 : decode cX8_add 17 = .ok (.new 43, 3) := by decide +kernel
theorem dX8_add_20 : decode cX8_add 20 = .ok (.dup, 1) := by decide +kernel
theorem dX8_add_21 : decode cX8_add 21 = .ok (.ldc 184, 2) := by decide +kernel
theorem dX8_add_23 : decode cX8_add 23 = .ok (.invokespecial 47, 3) := by decide +kernel
theorem dX8_add_26 : decode cX8_add 26 = .ok (.athrow, 1) := by decide +kernel
theorem dX8_add_27 : decode cX8_add 27 = .ok (.aload_n 3, 1) := by decide +kernel
theorem dX8_add_28 : decode cX8_add 28 = .ok (.iload_n 2, 1) := by decide +kernel
theorem dX8_add_29 : decode cX8_add 29 = .ok (.invokestatic 163, 3) := by decide +kernel
theorem dX8_add_32 : decode cX8_add 32 = .ok (.aload_n 3, 1) := by decide +kernel
theorem dX8_add_33 : decode cX8_add 33 = .ok (.dup, 1) := by decide +kernel
theorem dX8_add_34 : decode cX8_add 34 = .ok (.getfield 171, 3) := by decide +kernel
theorem dX8_add_37 : decode cX8_add 37 = .ok (.iload_n 2, 1) := by decide +kernel
theorem dX8_add_38 : decode cX8_add 38 = .ok (.ior, 1) := by decide +kernel
theorem dX8_add_39 : decode cX8_add 39 = .ok (.putfield 171, 3) := by decide +kernel
theorem dX8_add_42 : decode cX8_add 42 = .ok (.aload_n 3, 1) := by decide +kernel
theorem dX8_add_43 : decode cX8_add 43 = .ok (.getfield 171, 3) := by decide +kernel
theorem dX8_add_46 : decode cX8_add 46 = .ok (.ireturn, 1) := by decide +kernel
theorem dX8_witness_0 : decode cX8_witness 0 = .ok (.aload_n 0, 1) := by decide +kernel
theorem dX8_witness_1 : decode cX8_witness 1 = .ok (.iload_n 1, 1) := by decide +kernel
theorem dX8_witness_2 : decode cX8_witness 2 = .ok (.invokevirtual 159, 3) := by decide +kernel
theorem dX8_witness_5 : decode cX8_witness 5 = .ok (.astore_n 3, 1) := by decide +kernel
theorem dX8_witness_6 : decode cX8_witness 6 = .ok (.aload_n 0, 1) := by decide +kernel
theorem dX8_witness_7 : decode cX8_witness 7 = .ok (.iload_n 2, 1) := by decide +kernel
theorem dX8_witness_8 : decode cX8_witness 8 = .ok (.invokevirtual 71, 3) := by decide +kernel
theorem dX8_witness_11 : decode cX8_witness 11 = .ok (.astore 4, 2) := by decide +kernel
theorem dX8_witness_13 : decode cX8_witness 13 = .ok (.aload_n 3, 1) := by decide +kernel
theorem dX8_witness_14 : decode cX8_witness 14 = .ok (.invokevirtual 186, 3) := by decide +kernel
theorem dX8_witness_17 : decode cX8_witness 17 = .ok (.ifCond .ne 12, 3) := by decide +kernel
theorem dX8_witness_20 : decode cX8_witness 20 = .ok (.aload_n 3, 1) := by decide +kernel
theorem dX8_witness_21 : decode cX8_witness 21 = .ok (.aload 4, 2) := by decide +kernel
theorem dX8_witness_23 : decode cX8_witness 23 = .ok (.invokevirtual 190, 3) := by decide +kernel
theorem dX8_witness_26 : decode cX8_witness 26 = .ok (.ifCond .eq 13, 3) := by decide +kernel
theorem dX8_witness_29 : decode cX8_witness 29 = .ok (.new 54, 3) := by decide +kernel
theorem dX8_witness_32 : decode cX8_witness 32 = .ok (.dup, 1) := by decide +kernel
theorem dX8_witness_33 : decode cX8_witness 33 = .ok (.ldc 193, 2) := by decide +kernel
theorem dX8_witness_35 : decode cX8_witness 35 = .ok (.invokespecial 58, 3) := by decide +kernel
theorem dX8_witness_38 : decode cX8_witness 38 = .ok (.athrow, 1) := by decide +kernel
theorem dX8_witness_39 : decode cX8_witness 39 = .ok (.aload_n 0, 1) := by decide +kernel
theorem dX8_witness_40 : decode cX8_witness 40 = .ok (.aload_n 3, 1) := by decide +kernel
theorem dX8_witness_41 : decode cX8_witness 41 = .ok (.aload 4, 2) := by decide +kernel
theorem dX8_witness_43 : decode cX8_witness 43 = .ok (.invokevirtual 195, 3) := by decide +kernel
theorem dX8_witness_46 : decode cX8_witness 46 = .ok (.ifCond .ne 13, 3) := by decide +kernel
theorem dX8_witness_49 : decode cX8_witness 49 = .ok (.new 54, 3) := by decide +kernel
theorem dX8_witness_52 : decode cX8_witness 52 = .ok (.dup, 1) := by decide +kernel
theorem dX8_witness_53 : decode cX8_witness 53 = .ok (.ldc 199, 2) := by decide +kernel
theorem dX8_witness_55 : decode cX8_witness 55 = .ok (.invokespecial 58, 3) := by decide +kernel
theorem dX8_witness_58 : decode cX8_witness 58 = .ok (.athrow, 1) := by decide +kernel
theorem dX8_witness_59 : decode cX8_witness 59 = .ok (.aload_n 3, 1) := by decide +kernel
theorem dX8_witness_60 : decode cX8_witness 60 = .ok (.aload 4, 2) := by decide +kernel
theorem dX8_witness_62 : decode cX8_witness 62 = .ok (.invokevirtual 201, 3) := by decide +kernel
theorem dX8_witness_65 : decode cX8_witness 65 = .ok (.aload_n 3, 1) := by decide +kernel
theorem dX8_witness_66 : decode cX8_witness 66 = .ok (.getfield 171, 3) := by decide +kernel
theorem dX8_witness_69 : decode cX8_witness 69 = .ok (.ireturn, 1) := by decide +kernel
theorem dX8_close_0 : decode cX8_close 0 = .ok (.aload_n 0, 1) := by decide +kernel
theorem dX8_close_1 : decode cX8_close 1 = .ok (.iload_n 1, 1) := by decide +kernel
theorem dX8_close_2 : decode cX8_close 2 = .ok (.invokevirtual 159, 3) := by decide +kernel
theorem dX8_close_5 : decode cX8_close 5 = .ok (.astore_n 2, 1) := by decide +kernel
theorem dX8_close_6 : decode cX8_close 6 = .ok (.aload_n 2, 1) := by decide +kernel
theorem dX8_close_7 : decode cX8_close 7 = .ok (.invokevirtual 186, 3) := by decide +kernel
theorem dX8_close_10 : decode cX8_close 10 = .ok (.ifCond .eq 13, 3) := by decide +kernel
theorem dX8_close_13 : decode cX8_close 13 = .ok (.new 54, 3) := by decide +kernel
theorem dX8_close_16 : decode cX8_close 16 = .ok (.dup, 1) := by decide +kernel
theorem dX8_close_17 : decode cX8_close 17 = .ok (.ldc 204, 2) := by decide +kernel
theorem dX8_close_19 : decode cX8_close 19 = .ok (.invokespecial 58, 3) := by decide +kernel
theorem dX8_close_22 : decode cX8_close 22 = .ok (.athrow, 1) := by decide +kernel
theorem dX8_close_23 : decode cX8_close 23 = .ok (.aload_n 2, 1) := by decide +kernel
theorem dX8_close_24 : decode cX8_close 24 = .ok (.getfield 206, 3) := by decide +kernel
theorem dX8_close_27 : decode cX8_close 27 = .ok (.aload_n 2, 1) := by decide +kernel
theorem dX8_close_28 : decode cX8_close 28 = .ok (.getfield 209, 3) := by decide +kernel
theorem dX8_close_31 : decode cX8_close 31 = .ok (.invokestatic 86, 3) := by decide +kernel
theorem dX8_close_34 : decode cX8_close 34 = .ok (.aload_n 0, 1) := by decide +kernel
theorem dX8_close_35 : decode cX8_close 35 = .ok (.dup, 1) := by decide +kernel
theorem dX8_close_36 : decode cX8_close 36 = .ok (.getfield 36, 3) := by decide +kernel
theorem dX8_close_39 : decode cX8_close 39 = .ok (.iconst 1, 1) := by decide +kernel
theorem dX8_close_40 : decode cX8_close 40 = .ok (.iadd, 1) := by decide +kernel
theorem dX8_close_41 : decode cX8_close 41 = .ok (.putfield 36, 3) := by decide +kernel
theorem dX8_close_44 : decode cX8_close 44 = .ok (.aload_n 2, 1) := by decide +kernel
theorem dX8_close_45 : decode cX8_close 45 = .ok (.aload_n 0, 1) := by decide +kernel
theorem dX8_close_46 : decode cX8_close 46 = .ok (.getfield 36, 3) := by decide +kernel
theorem dX8_close_49 : decode cX8_close 49 = .ok (.putfield 212, 3) := by decide +kernel
theorem dX8_close_52 : decode cX8_close 52 = .ok (.aload_n 2, 1) := by decide +kernel
theorem dX8_close_53 : decode cX8_close 53 = .ok (.aload_n 0, 1) := by decide +kernel
theorem dX8_close_54 : decode cX8_close 54 = .ok (.getfield 32, 3) := by decide +kernel
theorem dX8_close_57 : decode cX8_close 57 = .ok (.putfield 215, 3) := by decide +kernel
theorem dX8_close_60 : decode cX8_close 60 = .ok (.aload_n 2, 1) := by decide +kernel
theorem dX8_close_61 : decode cX8_close 61 = .ok (.aload_n 2, 1) := by decide +kernel
theorem dX8_close_62 : decode cX8_close 62 = .ok (.invokestatic 218, 3) := by decide +kernel
theorem dX8_close_65 : decode cX8_close 65 = .ok (.putfield 221, 3) := by decide +kernel
theorem dX8_close_68 : decode cX8_close 68 = .ok (.aload_n 2, 1) := by decide +kernel
theorem dX8_close_69 : decode cX8_close 69 = .ok (.getfield 224, 3) := by decide +kernel
theorem dX8_close_72 : decode cX8_close 72 = .ok (.iconst 0, 1) := by decide +kernel
theorem dX8_close_73 : decode cX8_close 73 = .ok (.invokevirtual 228, 3) := by decide +kernel
theorem dX8_close_76 : decode cX8_close 76 = .ok (.aload_n 2, 1) := by decide +kernel
theorem dX8_close_77 : decode cX8_close 77 = .ok (.getfield 221, 3) := by decide +kernel
theorem dX8_close_80 : decode cX8_close 80 = .ok (.ireturn, 1) := by decide +kernel
theorem dX8_deed_0 : decode cX8_deed 0 = .ok (.aload_n 0, 1) := by decide +kernel
theorem dX8_deed_1 : decode cX8_deed 1 = .ok (.iload_n 1, 1) := by decide +kernel
theorem dX8_deed_2 : decode cX8_deed 2 = .ok (.invokevirtual 159, 3) := by decide +kernel
theorem dX8_deed_5 : decode cX8_deed 5 = .ok (.astore_n 3, 1) := by decide +kernel
theorem dX8_deed_6 : decode cX8_deed 6 = .ok (.iload_n 2, 1) := by decide +kernel
theorem dX8_deed_7 : decode cX8_deed 7 = .ok (.ifCond .lt 8, 3) := by decide +kernel
theorem dX8_deed_10 : decode cX8_deed 10 = .ok (.iload_n 2, 1) := by decide +kernel
theorem dX8_deed_11 : decode cX8_deed 11 = .ok (.iconst 5, 1) := by decide +kernel
theorem dX8_deed_12 : decode cX8_deed 12 = .ok (.if_icmp .le 13, 3) := by decide +kernel
theorem dX8_deed_15 : decode cX8_deed 15 = .ok (.new 43, 3) := by decide +kernel
theorem dX8_deed_18 : decode cX8_deed 18 = .ok (.dup, 1) := by decide +kernel
theorem dX8_deed_19 : decode cX8_deed 19 = .ok (.ldc 234, 2) := by decide +kernel
theorem dX8_deed_21 : decode cX8_deed 21 = .ok (.invokespecial 47, 3) := by decide +kernel
theorem dX8_deed_24 : decode cX8_deed 24 = .ok (.athrow, 1) := by decide +kernel
theorem dX8_deed_25 : decode cX8_deed 25 = .ok (.iload_n 2, 1) := by decide +kernel
theorem dX8_deed_26 : decode cX8_deed 26 = .ok (.tableswitch 59 0 4 #[34, 39, 44, 49, 54], 34) := by decide +kernel
theorem dX8_deed_60 : decode cX8_deed 60 = .ok (.aload_n 3, 1) := by decide +kernel
theorem dX8_deed_61 : decode cX8_deed 61 = .ok (.getfield 221, 3) := by decide +kernel
theorem dX8_deed_64 : decode cX8_deed 64 = .ok (.ireturn, 1) := by decide +kernel
theorem dX8_deed_65 : decode cX8_deed 65 = .ok (.aload_n 3, 1) := by decide +kernel
theorem dX8_deed_66 : decode cX8_deed 66 = .ok (.getfield 236, 3) := by decide +kernel
theorem dX8_deed_69 : decode cX8_deed 69 = .ok (.ireturn, 1) := by decide +kernel
theorem dX8_deed_70 : decode cX8_deed 70 = .ok (.aload_n 3, 1) := by decide +kernel
theorem dX8_deed_71 : decode cX8_deed 71 = .ok (.getfield 171, 3) := by decide +kernel
theorem dX8_deed_74 : decode cX8_deed 74 = .ok (.ireturn, 1) := by decide +kernel
theorem dX8_deed_75 : decode cX8_deed 75 = .ok (.aload_n 3, 1) := by decide +kernel
theorem dX8_deed_76 : decode cX8_deed 76 = .ok (.getfield 212, 3) := by decide +kernel
theorem dX8_deed_79 : decode cX8_deed 79 = .ok (.ireturn, 1) := by decide +kernel
theorem dX8_deed_80 : decode cX8_deed 80 = .ok (.aload_n 3, 1) := by decide +kernel
theorem dX8_deed_81 : decode cX8_deed 81 = .ok (.getfield 215, 3) := by decide +kernel
theorem dX8_deed_84 : decode cX8_deed 84 = .ok (.ireturn, 1) := by decide +kernel
theorem dX8_deed_85 : decode cX8_deed 85 = .ok (.aload_n 3, 1) := by decide +kernel
theorem dX8_deed_86 : decode cX8_deed 86 = .ok (.getfield 239, 3) := by decide +kernel
theorem dX8_deed_89 : decode cX8_deed 89 = .ok (.ireturn, 1) := by decide +kernel
theorem dX8_label_0 : decode cX8_label 0 = .ok (.aload_n 0, 1) := by decide +kernel
theorem dX8_label_1 : decode cX8_label 1 = .ok (.iload_n 1, 1) := by decide +kernel
theorem dX8_label_2 : decode cX8_label 2 = .ok (.invokevirtual 159, 3) := by decide +kernel
theorem dX8_label_5 : decode cX8_label 5 = .ok (.astore_n 3, 1) := by decide +kernel
theorem dX8_label_6 : decode cX8_label 6 = .ok (.iload_n 2, 1) := by decide +kernel
theorem dX8_label_7 : decode cX8_label 7 = .ok (.ifCond .ge 13, 3) := by decide +kernel
theorem dX8_label_10 : decode cX8_label 10 = .ok (.new 242, 3) := by decide +kernel
theorem dX8_label_13 : decode cX8_label 13 = .ok (.dup, 1) := by decide +kernel
theorem dX8_label_14 : decode cX8_label 14 = .ok (.ldc 244, 2) := by decide +kernel
theorem dX8_label_16 : decode cX8_label 16 = .ok (.invokespecial 246, 3) := by decide +kernel
theorem dX8_label_19 : decode cX8_label 19 = .ok (.athrow, 1) := by decide +kernel
theorem dX8_label_20 : decode cX8_label 20 = .ok (.new 247, 3) := by decide +kernel
theorem dX8_label_23 : decode cX8_label 23 = .ok (.dup, 1) := by decide +kernel
theorem dX8_label_24 : decode cX8_label 24 = .ok (.invokespecial 249, 3) := by decide +kernel
theorem dX8_label_27 : decode cX8_label 27 = .ok (.astore 4, 2) := by decide +kernel
theorem dX8_label_29 : decode cX8_label 29 = .ok (.aload 4, 2) := by decide +kernel
theorem dX8_label_31 : decode cX8_label 31 = .ok (.aload_n 3, 1) := by decide +kernel
theorem dX8_label_32 : decode cX8_label 32 = .ok (.getfield 236, 3) := by decide +kernel
theorem dX8_label_35 : decode cX8_label 35 = .ok (.invokestatic 250, 3) := by decide +kernel
theorem dX8_label_38 : decode cX8_label 38 = .ok (.invokevirtual 254, 3) := by decide +kernel
theorem dX8_label_41 : decode cX8_label 41 = .ok (.pop, 1) := by decide +kernel
theorem dX8_label_42 : decode cX8_label 42 = .ok (.aload 4, 2) := by decide +kernel
theorem dX8_label_44 : decode cX8_label 44 = .ok (.aload_n 3, 1) := by decide +kernel
theorem dX8_label_45 : decode cX8_label 45 = .ok (.getfield 212, 3) := by decide +kernel
theorem dX8_label_48 : decode cX8_label 48 = .ok (.invokevirtual 257, 3) := by decide +kernel
theorem dX8_label_51 : decode cX8_label 51 = .ok (.pop, 1) := by decide +kernel
theorem dX8_label_52 : decode cX8_label 52 = .ok (.aload_n 3, 1) := by decide +kernel
theorem dX8_label_53 : decode cX8_label 53 = .ok (.invokevirtual 186, 3) := by decide +kernel
theorem dX8_label_56 : decode cX8_label 56 = .ok (.ifCond .eq 24, 3) := by decide +kernel
theorem dX8_label_59 : decode cX8_label 59 = .ok (.aload 4, 2) := by decide +kernel
theorem dX8_label_61 : decode cX8_label 61 = .ok (.bipush 44, 2) := by decide +kernel
theorem dX8_label_63 : decode cX8_label 63 = .ok (.invokevirtual 254, 3) := by decide +kernel
theorem dX8_label_66 : decode cX8_label 66 = .ok (.pop, 1) := by decide +kernel
theorem dX8_label_67 : decode cX8_label 67 = .ok (.aload 4, 2) := by decide +kernel
theorem dX8_label_69 : decode cX8_label 69 = .ok (.aload_n 3, 1) := by decide +kernel
theorem dX8_label_70 : decode cX8_label 70 = .ok (.getfield 221, 3) := by decide +kernel
theorem dX8_label_73 : decode cX8_label 73 = .ok (.invokestatic 260, 3) := by decide +kernel
theorem dX8_label_76 : decode cX8_label 76 = .ok (.invokevirtual 254, 3) := by decide +kernel
theorem dX8_label_79 : decode cX8_label 79 = .ok (.pop, 1) := by decide +kernel
theorem dX8_label_80 : decode cX8_label 80 = .ok (.iload_n 2, 1) := by decide +kernel
theorem dX8_label_81 : decode cX8_label 81 = .ok (.aload 4, 2) := by decide +kernel
theorem dX8_label_83 : decode cX8_label 83 = .ok (.invokevirtual 263, 3) := by decide +kernel
theorem dX8_label_86 : decode cX8_label 86 = .ok (.if_icmp .ge 12, 3) := by decide +kernel
theorem dX8_label_89 : decode cX8_label 89 = .ok (.aload 4, 2) := by decide +kernel
theorem dX8_label_91 : decode cX8_label 91 = .ok (.iload_n 2, 1) := by decide +kernel
theorem dX8_label_92 : decode cX8_label 92 = .ok (.invokevirtual 266, 3) := by decide +kernel
theorem dX8_label_95 : decode cX8_label 95 = .ok (.goto 5, 3) := by decide +kernel
theorem dX8_label_98 : decode cX8_label 98 = .ok (.bipush 46, 2) := by decide +kernel
theorem dX8_label_100 : decode cX8_label 100 = .ok (.ireturn, 1) := by decide +kernel
theorem dX8_revoke_0 : decode cX8_revoke 0 = .ok (.aload_n 0, 1) := by decide +kernel
theorem dX8_revoke_1 : decode cX8_revoke 1 = .ok (.iload_n 1, 1) := by decide +kernel
theorem dX8_revoke_2 : decode cX8_revoke 2 = .ok (.invokevirtual 159, 3) := by decide +kernel
theorem dX8_revoke_5 : decode cX8_revoke 5 = .ok (.astore_n 3, 1) := by decide +kernel
theorem dX8_revoke_6 : decode cX8_revoke 6 = .ok (.aload_n 3, 1) := by decide +kernel
theorem dX8_revoke_7 : decode cX8_revoke 7 = .ok (.getfield 153, 3) := by decide +kernel
theorem dX8_revoke_10 : decode cX8_revoke 10 = .ok (.astore 4, 2) := by decide +kernel
theorem dX8_revoke_12 : decode cX8_revoke 12 = .ok (.aload 4, 2) := by decide +kernel
theorem dX8_revoke_14 : decode cX8_revoke 14 = .ok (.ifnull 10, 3) := by decide +kernel
theorem dX8_revoke_17 : decode cX8_revoke 17 = .ok (.aload_n 3, 1) := by decide +kernel
theorem dX8_revoke_18 : decode cX8_revoke 18 = .ok (.invokevirtual 186, 3) := by decide +kernel
theorem dX8_revoke_21 : decode cX8_revoke 21 = .ok (.ifCond .ne 14, 3) := by decide +kernel
theorem dX8_revoke_24 : decode cX8_revoke 24 = .ok (.new 54, 3) := by decide +kernel
theorem dX8_revoke_27 : decode cX8_revoke 27 = .ok (.dup, 1) := by decide +kernel
theorem dX8_revoke_28 : decode cX8_revoke 28 = .ok (.ldc_w 269, 3) := by decide +kernel
theorem dX8_revoke_31 : decode cX8_revoke 31 = .ok (.invokespecial 58, 3) := by decide +kernel
theorem dX8_revoke_34 : decode cX8_revoke 34 = .ok (.athrow, 1) := by decide +kernel
theorem dX8_revoke_35 : decode cX8_revoke 35 = .ok (.aload 4, 2) := by decide +kernel
theorem dX8_revoke_37 : decode cX8_revoke 37 = .ok (.getfield 271, 3) := by decide +kernel
theorem dX8_revoke_40 : decode cX8_revoke 40 = .ok (.istore 5, 2) := by decide +kernel
theorem dX8_revoke_42 : decode cX8_revoke 42 = .ok (.aload 4, 2) := by decide +kernel
theorem dX8_revoke_44 : decode cX8_revoke 44 = .ok (.iconst 1, 1) := by decide +kernel
theorem dX8_revoke_45 : decode cX8_revoke 45 = .ok (.putfield 271, 3) := by decide +kernel
theorem dX8_revoke_48 : decode cX8_revoke 48 = .ok (.aload 4, 2) := by decide +kernel
theorem dX8_revoke_50 : decode cX8_revoke 50 = .ok (.aload 4, 2) := by decide +kernel
theorem dX8_revoke_52 : decode cX8_revoke 52 = .ok (.getfield 274, 3) := by decide +kernel
theorem dX8_revoke_55 : decode cX8_revoke 55 = .ok (.ifCond .ne 7, 3) := by decide +kernel
theorem dX8_revoke_58 : decode cX8_revoke 58 = .ok (.iload_n 2, 1) := by decide +kernel
theorem dX8_revoke_59 : decode cX8_revoke 59 = .ok (.ifCond .eq 7, 3) := by decide +kernel
theorem dX8_revoke_62 : decode cX8_revoke 62 = .ok (.iconst 1, 1) := by decide +kernel
theorem dX8_revoke_63 : decode cX8_revoke 63 = .ok (.goto 4, 3) := by decide +kernel
theorem dX8_revoke_66 : decode cX8_revoke 66 = .ok (.iconst 0, 1) := by decide +kernel
theorem dX8_revoke_67 : decode cX8_revoke 67 = .ok (.putfield 274, 3) := by decide +kernel
theorem dX8_revoke_70 : decode cX8_revoke 70 = .ok (.iload 5, 2) := by decide +kernel
theorem dX8_revoke_72 : decode cX8_revoke 72 = .ok (.ireturn, 1) := by decide +kernel
theorem dX8_isGood_0 : decode cX8_isGood 0 = .ok (.aload_n 0, 1) := by decide +kernel
theorem dX8_isGood_1 : decode cX8_isGood 1 = .ok (.aload_n 0, 1) := by decide +kernel
theorem dX8_isGood_2 : decode cX8_isGood 2 = .ok (.iload_n 1, 1) := by decide +kernel
theorem dX8_isGood_3 : decode cX8_isGood 3 = .ok (.invokevirtual 159, 3) := by decide +kernel
theorem dX8_isGood_6 : decode cX8_isGood 6 = .ok (.invokevirtual 277, 3) := by decide +kernel
theorem dX8_isGood_9 : decode cX8_isGood 9 = .ok (.ireturn, 1) := by decide +kernel
theorem dX8_copy_0 : decode cX8_copy 0 = .ok (.aload_n 0, 1) := by decide +kernel
theorem dX8_copy_1 : decode cX8_copy 1 = .ok (.iload_n 1, 1) := by decide +kernel
theorem dX8_copy_2 : decode cX8_copy 2 = .ok (.invokevirtual 159, 3) := by decide +kernel
theorem dX8_copy_5 : decode cX8_copy 5 = .ok (.getfield 224, 3) := by decide +kernel
theorem dX8_copy_8 : decode cX8_copy 8 = .ok (.astore_n 2, 1) := by decide +kernel
theorem dX8_copy_9 : decode cX8_copy 9 = .ok (.aload_n 2, 1) := by decide +kernel
theorem dX8_copy_10 : decode cX8_copy 10 = .ok (.getfield 281, 3) := by decide +kernel
theorem dX8_copy_13 : decode cX8_copy 13 = .ok (.ifCond .eq 11, 3) := by decide +kernel
theorem dX8_copy_16 : decode cX8_copy 16 = .ok (.aload_n 2, 1) := by decide +kernel
theorem dX8_copy_17 : decode cX8_copy 17 = .ok (.getfield 281, 3) := by decide +kernel
theorem dX8_copy_20 : decode cX8_copy 20 = .ok (.iconst 4, 1) := by decide +kernel
theorem dX8_copy_21 : decode cX8_copy 21 = .ok (.if_icmp .lt 14, 3) := by decide +kernel
theorem dX8_copy_24 : decode cX8_copy 24 = .ok (.new 54, 3) := by decide +kernel
theorem dX8_copy_27 : decode cX8_copy 27 = .ok (.dup, 1) := by decide +kernel
theorem dX8_copy_28 : decode cX8_copy 28 = .ok (.ldc_w 284, 3) := by decide +kernel
theorem dX8_copy_31 : decode cX8_copy 31 = .ok (.invokespecial 58, 3) := by decide +kernel
theorem dX8_copy_34 : decode cX8_copy 34 = .ok (.athrow, 1) := by decide +kernel
theorem dX8_copy_35 : decode cX8_copy 35 = .ok (.aload_n 2, 1) := by decide +kernel
theorem dX8_copy_36 : decode cX8_copy 36 = .ok (.invokevirtual 286, 3) := by decide +kernel
theorem dX8_copy_39 : decode cX8_copy 39 = .ok (.iconst 1, 1) := by decide +kernel
theorem dX8_copy_40 : decode cX8_copy 40 = .ok (.iadd, 1) := by decide +kernel
theorem dX8_copy_41 : decode cX8_copy 41 = .ok (.istore_n 3, 1) := by decide +kernel
theorem dX8_copy_42 : decode cX8_copy 42 = .ok (.aload_n 2, 1) := by decide +kernel
theorem dX8_copy_43 : decode cX8_copy 43 = .ok (.iload_n 3, 1) := by decide +kernel
theorem dX8_copy_44 : decode cX8_copy 44 = .ok (.invokevirtual 228, 3) := by decide +kernel
theorem dX8_copy_47 : decode cX8_copy 47 = .ok (.iload_n 3, 1) := by decide +kernel
theorem dX8_copy_48 : decode cX8_copy 48 = .ok (.ireturn, 1) := by decide +kernel
theorem dX8_lose_0 : decode cX8_lose 0 = .ok (.aload_n 0, 1) := by decide +kernel
theorem dX8_lose_1 : decode cX8_lose 1 = .ok (.iload_n 1, 1) := by decide +kernel
theorem dX8_lose_2 : decode cX8_lose 2 = .ok (.invokevirtual 159, 3) := by decide +kernel
theorem dX8_lose_5 : decode cX8_lose 5 = .ok (.getfield 224, 3) := by decide +kernel
theorem dX8_lose_8 : decode cX8_lose 8 = .ok (.astore_n 2, 1) := by decide +kernel
theorem dX8_lose_9 : decode cX8_lose 9 = .ok (.aload_n 2, 1) := by decide +kernel
theorem dX8_lose_10 : decode cX8_lose 10 = .ok (.getfield 281, 3) := by decide +kernel
theorem dX8_lose_13 : decode cX8_lose 13 = .ok (.ifCond .ne 14, 3) := by decide +kernel
theorem dX8_lose_16 : decode cX8_lose 16 = .ok (.new 54, 3) := by decide +kernel
theorem dX8_lose_19 : decode cX8_lose 19 = .ok (.dup, 1) := by decide +kernel
theorem dX8_lose_20 : decode cX8_lose 20 = .ok (.ldc_w 289, 3) := by decide +kernel
theorem dX8_lose_23 : decode cX8_lose 23 = .ok (.invokespecial 58, 3) := by decide +kernel
theorem dX8_lose_26 : decode cX8_lose 26 = .ok (.athrow, 1) := by decide +kernel
theorem dX8_lose_27 : decode cX8_lose 27 = .ok (.aload_n 2, 1) := by decide +kernel
theorem dX8_lose_28 : decode cX8_lose 28 = .ok (.invokevirtual 291, 3) := by decide +kernel
theorem dX8_lose_31 : decode cX8_lose 31 = .ok (.aload_n 2, 1) := by decide +kernel
theorem dX8_lose_32 : decode cX8_lose 32 = .ok (.invokevirtual 286, 3) := by decide +kernel
theorem dX8_lose_35 : decode cX8_lose 35 = .ok (.ireturn, 1) := by decide +kernel
theorem dX8_proof_0 : decode cX8_proof 0 = .ok (.aload_n 0, 1) := by decide +kernel
theorem dX8_proof_1 : decode cX8_proof 1 = .ok (.iload_n 1, 1) := by decide +kernel
theorem dX8_proof_2 : decode cX8_proof 2 = .ok (.invokevirtual 159, 3) := by decide +kernel
theorem dX8_proof_5 : decode cX8_proof 5 = .ok (.getfield 224, 3) := by decide +kernel
theorem dX8_proof_8 : decode cX8_proof 8 = .ok (.invokevirtual 286, 3) := by decide +kernel
theorem dX8_proof_11 : decode cX8_proof 11 = .ok (.ireturn, 1) := by decide +kernel
theorem dX8_enter_0 : decode cX8_enter 0 = .ok (.aload_n 0, 1) := by decide +kernel
theorem dX8_enter_1 : decode cX8_enter 1 = .ok (.iload_n 1, 1) := by decide +kernel
theorem dX8_enter_2 : decode cX8_enter 2 = .ok (.invokevirtual 159, 3) := by decide +kernel
theorem dX8_enter_5 : decode cX8_enter 5 = .ok (.astore_n 2, 1) := by decide +kernel
theorem dX8_enter_6 : decode cX8_enter 6 = .ok (.aload_n 2, 1) := by decide +kernel
theorem dX8_enter_7 : decode cX8_enter 7 = .ok (.getfield 294, 3) := by decide +kernel
theorem dX8_enter_10 : decode cX8_enter 10 = .ok (.astore_n 3, 1) := by decide +kernel
theorem dX8_enter_11 : decode cX8_enter 11 = .ok (.aload_n 3, 1) := by decide +kernel
theorem dX8_enter_12 : decode cX8_enter 12 = .ok (.ifnull 22, 3) := by decide +kernel
theorem dX8_enter_15 : decode cX8_enter 15 = .ok (.aload_n 0, 1) := by decide +kernel
theorem dX8_enter_16 : decode cX8_enter 16 = .ok (.getfield 22, 3) := by decide +kernel
theorem dX8_enter_19 : decode cX8_enter 19 = .ok (.invokevirtual 50, 3) := by decide +kernel
theorem dX8_enter_22 : decode cX8_enter 22 = .ok (.bipush 100, 2) := by decide +kernel
theorem dX8_enter_24 : decode cX8_enter 24 = .ok (.if_icmp .ge 10, 3) := by decide +kernel
theorem dX8_enter_27 : decode cX8_enter 27 = .ok (.aload_n 2, 1) := by decide +kernel
theorem dX8_enter_28 : decode cX8_enter 28 = .ok (.invokestatic 298, 3) := by decide +kernel
theorem dX8_enter_31 : decode cX8_enter 31 = .ok (.ifCond .ne 14, 3) := by decide +kernel
theorem dX8_enter_34 : decode cX8_enter 34 = .ok (.new 54, 3) := by decide +kernel
theorem dX8_enter_37 : decode cX8_enter 37 = .ok (.dup, 1) := by decide +kernel
theorem dX8_enter_38 : decode cX8_enter 38 = .ok (.ldc_w 301, 3) := by decide +kernel
theorem dX8_enter_41 : decode cX8_enter 41 = .ok (.invokespecial 58, 3) := by decide +kernel
theorem dX8_enter_44 : decode cX8_enter 44 = .ok (.athrow, 1) := by decide +kernel
theorem dX8_enter_45 : decode cX8_enter 45 = .ok (.aload_n 2, 1) := by decide +kernel
theorem dX8_enter_46 : decode cX8_enter 46 = .ok (.invokestatic 303, 3) := by decide +kernel
theorem dX8_enter_49 : decode cX8_enter 49 = .ok (.astore 4, 2) := by decide +kernel
theorem dX8_enter_51 : decode cX8_enter 51 = .ok (.aload_n 3, 1) := by decide +kernel
theorem dX8_enter_52 : decode cX8_enter 52 = .ok (.getfield 307, 3) := by decide +kernel
theorem dX8_enter_55 : decode cX8_enter 55 = .ok (.aload_n 2, 1) := by decide +kernel
theorem dX8_enter_56 : decode cX8_enter 56 = .ok (.getfield 206, 3) := by decide +kernel
theorem dX8_enter_59 : decode cX8_enter 59 = .ok (.getfield 68, 3) := by decide +kernel
theorem dX8_enter_62 : decode cX8_enter 62 = .ok (.aload_n 2, 1) := by decide +kernel
theorem dX8_enter_63 : decode cX8_enter 63 = .ok (.getfield 310, 3) := by decide +kernel
theorem dX8_enter_66 : decode cX8_enter 66 = .ok (.aload_n 2, 1) := by decide +kernel
theorem dX8_enter_67 : decode cX8_enter 67 = .ok (.getfield 313, 3) := by decide +kernel
theorem dX8_enter_70 : decode cX8_enter 70 = .ok (.invokevirtual 316, 3) := by decide +kernel
theorem dX8_enter_73 : decode cX8_enter 73 = .ok (.ifCond .eq 13, 3) := by decide +kernel
theorem dX8_enter_76 : decode cX8_enter 76 = .ok (.aload_n 0, 1) := by decide +kernel
theorem dX8_enter_77 : decode cX8_enter 77 = .ok (.aload_n 3, 1) := by decide +kernel
theorem dX8_enter_78 : decode cX8_enter 78 = .ok (.aload 4, 2) := by decide +kernel
theorem dX8_enter_80 : decode cX8_enter 80 = .ok (.invokevirtual 320, 3) := by decide +kernel
theorem dX8_enter_83 : decode cX8_enter 83 = .ok (.ifCond .ne 14, 3) := by decide +kernel
theorem dX8_enter_86 : decode cX8_enter 86 = .ok (.new 54, 3) := by decide +kernel
theorem dX8_enter_89 : decode cX8_enter 89 = .ok (.dup, 1) := by decide +kernel
theorem dX8_enter_90 : decode cX8_enter 90 = .ok (.ldc_w 324, 3) := by decide +kernel
theorem dX8_enter_93 : decode cX8_enter 93 = .ok (.invokespecial 58, 3) := by decide +kernel
theorem dX8_enter_96 : decode cX8_enter 96 = .ok (.athrow, 1) := by decide +kernel
theorem dX8_enter_97 : decode cX8_enter 97 = .ok (.aload_n 2, 1) := by decide +kernel
theorem dX8_enter_98 : decode cX8_enter 98 = .ok (.aload_n 0, 1) := by decide +kernel
theorem dX8_enter_99 : decode cX8_enter 99 = .ok (.getfield 22, 3) := by decide +kernel
theorem dX8_enter_102 : decode cX8_enter 102 = .ok (.invokevirtual 50, 3) := by decide +kernel
theorem dX8_enter_105 : decode cX8_enter 105 = .ok (.putfield 239, 3) := by decide +kernel
theorem dX8_enter_108 : decode cX8_enter 108 = .ok (.aload_n 0, 1) := by decide +kernel
theorem dX8_enter_109 : decode cX8_enter 109 = .ok (.dup, 1) := by decide +kernel
theorem dX8_enter_110 : decode cX8_enter 110 = .ok (.getfield 39, 3) := by decide +kernel
theorem dX8_enter_113 : decode cX8_enter 113 = .ok (.aload_n 2, 1) := by decide +kernel
theorem dX8_enter_114 : decode cX8_enter 114 = .ok (.aload_n 3, 1) := by decide +kernel
theorem dX8_enter_115 : decode cX8_enter 115 = .ok (.invokestatic 326, 3) := by decide +kernel
theorem dX8_enter_118 : decode cX8_enter 118 = .ok (.ladd, 1) := by decide +kernel
theorem dX8_enter_119 : decode cX8_enter 119 = .ok (.putfield 39, 3) := by decide +kernel
theorem dX8_enter_122 : decode cX8_enter 122 = .ok (.aload_n 0, 1) := by decide +kernel
theorem dX8_enter_123 : decode cX8_enter 123 = .ok (.new 330, 3) := by decide +kernel
theorem dX8_enter_126 : decode cX8_enter 126 = .ok (.dup, 1) := by decide +kernel
theorem dX8_enter_127 : decode cX8_enter 127 = .ok (.aload_n 2, 1) := by decide +kernel
theorem dX8_enter_128 : decode cX8_enter 128 = .ok (.getfield 236, 3) := by decide +kernel
theorem dX8_enter_131 : decode cX8_enter 131 = .ok (.aload_n 2, 1) := by decide +kernel
theorem dX8_enter_132 : decode cX8_enter 132 = .ok (.getfield 332, 3) := by decide +kernel
theorem dX8_enter_135 : decode cX8_enter 135 = .ok (.aload_n 3, 1) := by decide +kernel
theorem dX8_enter_136 : decode cX8_enter 136 = .ok (.aload_n 0, 1) := by decide +kernel
theorem dX8_enter_137 : decode cX8_enter 137 = .ok (.getfield 32, 3) := by decide +kernel
theorem dX8_enter_140 : decode cX8_enter 140 = .ok (.aload 4, 2) := by decide +kernel
theorem dX8_enter_142 : decode cX8_enter 142 = .ok (.invokespecial 333, 3) := by decide +kernel
theorem dX8_enter_145 : decode cX8_enter 145 = .ok (.invokevirtual 336, 3) := by decide +kernel
theorem dX8_enter_148 : decode cX8_enter 148 = .ok (.aload_n 2, 1) := by decide +kernel
theorem dX8_enter_149 : decode cX8_enter 149 = .ok (.getfield 239, 3) := by decide +kernel
theorem dX8_enter_152 : decode cX8_enter 152 = .ok (.ireturn, 1) := by decide +kernel
theorem dX8_die_0 : decode cX8_die 0 = .ok (.aload_n 0, 1) := by decide +kernel
theorem dX8_die_1 : decode cX8_die 1 = .ok (.iload_n 1, 1) := by decide +kernel
theorem dX8_die_2 : decode cX8_die 2 = .ok (.invokevirtual 71, 3) := by decide +kernel
theorem dX8_die_5 : decode cX8_die 5 = .ok (.astore_n 2, 1) := by decide +kernel
theorem dX8_die_6 : decode cX8_die 6 = .ok (.aload_n 2, 1) := by decide +kernel
theorem dX8_die_7 : decode cX8_die 7 = .ok (.getfield 96, 3) := by decide +kernel
theorem dX8_die_10 : decode cX8_die 10 = .ok (.ifCond .ne 14, 3) := by decide +kernel
theorem dX8_die_13 : decode cX8_die 13 = .ok (.new 54, 3) := by decide +kernel
theorem dX8_die_16 : decode cX8_die 16 = .ok (.dup, 1) := by decide +kernel
theorem dX8_die_17 : decode cX8_die 17 = .ok (.ldc_w 340, 3) := by decide +kernel
theorem dX8_die_20 : decode cX8_die 20 = .ok (.invokespecial 58, 3) := by decide +kernel
theorem dX8_die_23 : decode cX8_die 23 = .ok (.athrow, 1) := by decide +kernel
theorem dX8_die_24 : decode cX8_die 24 = .ok (.aload_n 0, 1) := by decide +kernel
theorem dX8_die_25 : decode cX8_die 25 = .ok (.aload_n 2, 1) := by decide +kernel
theorem dX8_die_26 : decode cX8_die 26 = .ok (.invokevirtual 342, 3) := by decide +kernel
theorem dX8_die_29 : decode cX8_die 29 = .ok (.astore_n 3, 1) := by decide +kernel
theorem dX8_die_30 : decode cX8_die 30 = .ok (.aload_n 0, 1) := by decide +kernel
theorem dX8_die_31 : decode cX8_die 31 = .ok (.aload_n 2, 1) := by decide +kernel
theorem dX8_die_32 : decode cX8_die 32 = .ok (.aload_n 3, 1) := by decide +kernel
theorem dX8_die_33 : decode cX8_die 33 = .ok (.invokevirtual 346, 3) := by decide +kernel
theorem dX8_die_36 : decode cX8_die 36 = .ok (.istore 4, 2) := by decide +kernel
theorem dX8_die_38 : decode cX8_die 38 = .ok (.aload_n 0, 1) := by decide +kernel
theorem dX8_die_39 : decode cX8_die 39 = .ok (.getfield 22, 3) := by decide +kernel
theorem dX8_die_42 : decode cX8_die 42 = .ok (.invokevirtual 50, 3) := by decide +kernel
theorem dX8_die_45 : decode cX8_die 45 = .ok (.iload 4, 2) := by decide +kernel
theorem dX8_die_47 : decode cX8_die 47 = .ok (.iadd, 1) := by decide +kernel
theorem dX8_die_48 : decode cX8_die 48 = .ok (.bipush 100, 2) := by decide +kernel
theorem dX8_die_50 : decode cX8_die 50 = .ok (.if_icmp .le 14, 3) := by decide +kernel
theorem dX8_die_53 : decode cX8_die 53 = .ok (.new 54, 3) := by decide +kernel
theorem dX8_die_56 : decode cX8_die 56 = .ok (.dup, 1) := by decide +kernel
theorem dX8_die_57 : decode cX8_die 57 = .ok (.ldc_w 350, 3) := by decide +kernel
theorem dX8_die_60 : decode cX8_die 60 = .ok (.invokespecial 58, 3) := by decide +kernel
theorem dX8_die_63 : decode cX8_die 63 = .ok (.athrow, 1) := by decide +kernel
theorem dX8_die_64 : decode cX8_die 64 = .ok (.aload_n 2, 1) := by decide +kernel
theorem dX8_die_65 : decode cX8_die 65 = .ok (.iconst 0, 1) := by decide +kernel
theorem dX8_die_66 : decode cX8_die 66 = .ok (.putfield 96, 3) := by decide +kernel
theorem dX8_die_69 : decode cX8_die 69 = .ok (.aload_n 0, 1) := by decide +kernel
theorem dX8_die_70 : decode cX8_die 70 = .ok (.aload_n 2, 1) := by decide +kernel
theorem dX8_die_71 : decode cX8_die 71 = .ok (.invokevirtual 352, 3) := by decide +kernel
theorem dX8_die_74 : decode cX8_die 74 = .ok (.iconst 0, 1) := by decide +kernel
theorem dX8_die_75 : decode cX8_die 75 = .ok (.istore 5, 2) := by decide +kernel
theorem dX8_die_77 : decode cX8_die 77 = .ok (.iload 5, 2) := by decide +kernel
theorem dX8_die_79 : decode cX8_die 79 = .ok (.aload_n 0, 1) := by decide +kernel
theorem dX8_die_80 : decode cX8_die 80 = .ok (.getfield 16, 3) := by decide +kernel
theorem dX8_die_83 : decode cX8_die 83 = .ok (.invokevirtual 50, 3) := by decide +kernel
theorem dX8_die_86 : decode cX8_die 86 = .ok (.if_icmp .ge 61, 3) := by decide +kernel
theorem dX8_die_89 : decode cX8_die 89 = .ok (.aload_n 0, 1) := by decide +kernel
theorem dX8_die_90 : decode cX8_die 90 = .ok (.getfield 16, 3) := by decide +kernel
theorem dX8_die_93 : decode cX8_die 93 = .ok (.iload 5, 2) := by decide +kernel
theorem dX8_die_95 : decode cX8_die 95 = .ok (.invokevirtual 355, 3) := by decide +kernel
theorem dX8_die_98 : decode cX8_die 98 = .ok (.checkcast 111, 3) := by decide +kernel
theorem dX8_die_101 : decode cX8_die 101 = .ok (.astore 6, 2) := by decide +kernel
theorem dX8_die_103 : decode cX8_die 103 = .ok (.aload 6, 2) := by decide +kernel
theorem dX8_die_105 : decode cX8_die 105 = .ok (.getfield 307, 3) := by decide +kernel
theorem dX8_die_108 : decode cX8_die 108 = .ok (.aload_n 2, 1) := by decide +kernel
theorem dX8_die_109 : decode cX8_die 109 = .ok (.getfield 68, 3) := by decide +kernel
theorem dX8_die_112 : decode cX8_die 112 = .ok (.invokevirtual 359, 3) := by decide +kernel
theorem dX8_die_115 : decode cX8_die 115 = .ok (.ifCond .ne 26, 3) := by decide +kernel
theorem dX8_die_118 : decode cX8_die 118 = .ok (.aload_n 0, 1) := by decide +kernel
theorem dX8_die_119 : decode cX8_die 119 = .ok (.new 330, 3) := by decide +kernel
theorem dX8_die_122 : decode cX8_die 122 = .ok (.dup, 1) := by decide +kernel
theorem dX8_die_123 : decode cX8_die 123 = .ok (.iconst 5, 1) := by decide +kernel
theorem dX8_die_124 : decode cX8_die 124 = .ok (.aload_n 2, 1) := by decide +kernel
theorem dX8_die_125 : decode cX8_die 125 = .ok (.getfield 68, 3) := by decide +kernel
theorem dX8_die_128 : decode cX8_die 128 = .ok (.aload 6, 2) := by decide +kernel
theorem dX8_die_130 : decode cX8_die 130 = .ok (.aload_n 0, 1) := by decide +kernel
theorem dX8_die_131 : decode cX8_die 131 = .ok (.getfield 32, 3) := by decide +kernel
theorem dX8_die_134 : decode cX8_die 134 = .ok (.aload_n 3, 1) := by decide +kernel
theorem dX8_die_135 : decode cX8_die 135 = .ok (.invokespecial 333, 3) := by decide +kernel
theorem dX8_die_138 : decode cX8_die 138 = .ok (.invokevirtual 336, 3) := by decide +kernel
theorem dX8_die_141 : decode cX8_die 141 = .ok (.iinc 5 1, 3) := by decide +kernel
theorem dX8_die_144 : decode cX8_die 144 = .ok (.goto (-67), 3) := by decide +kernel
theorem dX8_die_147 : decode cX8_die 147 = .ok (.iload 4, 2) := by decide +kernel
theorem dX8_die_149 : decode cX8_die 149 = .ok (.ireturn, 1) := by decide +kernel
theorem dX8_entry_0 : decode cX8_entry 0 = .ok (.iload_n 1, 1) := by decide +kernel
theorem dX8_entry_1 : decode cX8_entry 1 = .ok (.ifCond .lt 14, 3) := by decide +kernel
theorem dX8_entry_4 : decode cX8_entry 4 = .ok (.iload_n 1, 1) := by decide +kernel
theorem dX8_entry_5 : decode cX8_entry 5 = .ok (.aload_n 0, 1) := by decide +kernel
theorem dX8_entry_6 : decode cX8_entry 6 = .ok (.getfield 22, 3) := by decide +kernel
theorem dX8_entry_9 : decode cX8_entry 9 = .ok (.invokevirtual 50, 3) := by decide +kernel
theorem dX8_entry_12 : decode cX8_entry 12 = .ok (.if_icmp .lt 14, 3) := by decide +kernel
theorem dX8_entry_15 : decode cX8_entry 15 = .ok (.new 242, 3) := by decide +kernel
theorem dX8_entry_18 : decode cX8_entry 18 = .ok (.dup, 1) := by decide +kernel
theorem dX8_entry_19 : decode cX8_entry 19 = .ok (.ldc_w 362, 3) := by decide +kernel
theorem dX8_entry_22 : decode cX8_entry 22 = .ok (.invokespecial 246, 3) := by decide +kernel
theorem dX8_entry_25 : decode cX8_entry 25 = .ok (.athrow, 1) := by decide +kernel
theorem dX8_entry_26 : decode cX8_entry 26 = .ok (.iload_n 2, 1) := by decide +kernel
theorem dX8_entry_27 : decode cX8_entry 27 = .ok (.ifCond .lt 8, 3) := by decide +kernel
theorem dX8_entry_30 : decode cX8_entry 30 = .ok (.iload_n 2, 1) := by decide +kernel
theorem dX8_entry_31 : decode cX8_entry 31 = .ok (.iconst 3, 1) := by decide +kernel
theorem dX8_entry_32 : decode cX8_entry 32 = .ok (.if_icmp .le 13, 3) := by decide +kernel
theorem dX8_entry_35 : decode cX8_entry 35 = .ok (.new 43, 3) := by decide +kernel
theorem dX8_entry_38 : decode cX8_entry 38 = .ok (.dup, 1) := by decide +kernel
theorem dX8_entry_39 : decode cX8_entry 39 = .ok (.ldc 234, 2) := by decide +kernel
theorem dX8_entry_41 : decode cX8_entry 41 = .ok (.invokespecial 47, 3) := by decide +kernel
theorem dX8_entry_44 : decode cX8_entry 44 = .ok (.athrow, 1) := by decide +kernel
theorem dX8_entry_45 : decode cX8_entry 45 = .ok (.aload_n 0, 1) := by decide +kernel
theorem dX8_entry_46 : decode cX8_entry 46 = .ok (.getfield 22, 3) := by decide +kernel
theorem dX8_entry_49 : decode cX8_entry 49 = .ok (.iload_n 1, 1) := by decide +kernel
theorem dX8_entry_50 : decode cX8_entry 50 = .ok (.invokevirtual 355, 3) := by decide +kernel
theorem dX8_entry_53 : decode cX8_entry 53 = .ok (.checkcast 330, 3) := by decide +kernel
theorem dX8_entry_56 : decode cX8_entry 56 = .ok (.astore_n 3, 1) := by decide +kernel
theorem dX8_entry_57 : decode cX8_entry 57 = .ok (.iload_n 2, 1) := by decide +kernel
theorem dX8_entry_58 : decode cX8_entry 58 = .ok (.tableswitch 44 0 2 #[26, 31, 36], 26) := by decide +kernel
theorem dX8_entry_84 : decode cX8_entry 84 = .ok (.aload_n 3, 1) := by decide +kernel
theorem dX8_entry_85 : decode cX8_entry 85 = .ok (.getfield 364, 3) := by decide +kernel
theorem dX8_entry_88 : decode cX8_entry 88 = .ok (.ireturn, 1) := by decide +kernel
theorem dX8_entry_89 : decode cX8_entry 89 = .ok (.aload_n 3, 1) := by decide +kernel
theorem dX8_entry_90 : decode cX8_entry 90 = .ok (.getfield 365, 3) := by decide +kernel
theorem dX8_entry_93 : decode cX8_entry 93 = .ok (.ireturn, 1) := by decide +kernel
theorem dX8_entry_94 : decode cX8_entry 94 = .ok (.aload_n 3, 1) := by decide +kernel
theorem dX8_entry_95 : decode cX8_entry 95 = .ok (.getfield 368, 3) := by decide +kernel
theorem dX8_entry_98 : decode cX8_entry 98 = .ok (.getfield 116, 3) := by decide +kernel
theorem dX8_entry_101 : decode cX8_entry 101 = .ok (.ireturn, 1) := by decide +kernel
theorem dX8_entry_102 : decode cX8_entry 102 = .ok (.aload_n 3, 1) := by decide +kernel
theorem dX8_entry_103 : decode cX8_entry 103 = .ok (.getfield 369, 3) := by decide +kernel
theorem dX8_entry_106 : decode cX8_entry 106 = .ok (.ireturn, 1) := by decide +kernel
theorem dX8_entries_0 : decode cX8_entries 0 = .ok (.aload_n 0, 1) := by decide +kernel
theorem dX8_entries_1 : decode cX8_entries 1 = .ok (.getfield 22, 3) := by decide +kernel
theorem dX8_entries_4 : decode cX8_entries 4 = .ok (.invokevirtual 50, 3) := by decide +kernel
theorem dX8_entries_7 : decode cX8_entries 7 = .ok (.ireturn, 1) := by decide +kernel
theorem dX8_pledge_0 : decode cX8_pledge 0 = .ok (.aload_n 0, 1) := by decide +kernel
theorem dX8_pledge_1 : decode cX8_pledge 1 = .ok (.iload_n 1, 1) := by decide +kernel
theorem dX8_pledge_2 : decode cX8_pledge 2 = .ok (.invokevirtual 121, 3) := by decide +kernel
theorem dX8_pledge_5 : decode cX8_pledge 5 = .ok (.astore_n 3, 1) := by decide +kernel
theorem dX8_pledge_6 : decode cX8_pledge 6 = .ok (.iload_n 2, 1) := by decide +kernel
theorem dX8_pledge_7 : decode cX8_pledge 7 = .ok (.ifCond .ge 14, 3) := by decide +kernel
theorem dX8_pledge_10 : decode cX8_pledge 10 = .ok (.new 242, 3) := by decide +kernel
theorem dX8_pledge_13 : decode cX8_pledge 13 = .ok (.dup, 1) := by decide +kernel
theorem dX8_pledge_14 : decode cX8_pledge 14 = .ok (.ldc_w 374, 3) := by decide +kernel
theorem dX8_pledge_17 : decode cX8_pledge 17 = .ok (.invokespecial 246, 3) := by decide +kernel
theorem dX8_pledge_20 : decode cX8_pledge 20 = .ok (.athrow, 1) := by decide +kernel
theorem dX8_pledge_21 : decode cX8_pledge 21 = .ok (.iconst 0, 1) := by decide +kernel
theorem dX8_pledge_22 : decode cX8_pledge 22 = .ok (.istore 4, 2) := by decide +kernel
theorem dX8_pledge_24 : decode cX8_pledge 24 = .ok (.iconst 0, 1) := by decide +kernel
theorem dX8_pledge_25 : decode cX8_pledge 25 = .ok (.istore 5, 2) := by decide +kernel
theorem dX8_pledge_27 : decode cX8_pledge 27 = .ok (.iload 5, 2) := by decide +kernel
theorem dX8_pledge_29 : decode cX8_pledge 29 = .ok (.aload_n 0, 1) := by decide +kernel
theorem dX8_pledge_30 : decode cX8_pledge 30 = .ok (.getfield 22, 3) := by decide +kernel
theorem dX8_pledge_33 : decode cX8_pledge 33 = .ok (.invokevirtual 50, 3) := by decide +kernel
theorem dX8_pledge_36 : decode cX8_pledge 36 = .ok (.if_icmp .ge 56, 3) := by decide +kernel
theorem dX8_pledge_39 : decode cX8_pledge 39 = .ok (.aload_n 0, 1) := by decide +kernel
theorem dX8_pledge_40 : decode cX8_pledge 40 = .ok (.getfield 22, 3) := by decide +kernel
theorem dX8_pledge_43 : decode cX8_pledge 43 = .ok (.iload 5, 2) := by decide +kernel
theorem dX8_pledge_45 : decode cX8_pledge 45 = .ok (.invokevirtual 355, 3) := by decide +kernel
theorem dX8_pledge_48 : decode cX8_pledge 48 = .ok (.checkcast 330, 3) := by decide +kernel
theorem dX8_pledge_51 : decode cX8_pledge 51 = .ok (.astore 6, 2) := by decide +kernel
theorem dX8_pledge_53 : decode cX8_pledge 53 = .ok (.aload 6, 2) := by decide +kernel
theorem dX8_pledge_55 : decode cX8_pledge 55 = .ok (.getfield 364, 3) := by decide +kernel
theorem dX8_pledge_58 : decode cX8_pledge 58 = .ok (.iconst 2, 1) := by decide +kernel
theorem dX8_pledge_59 : decode cX8_pledge 59 = .ok (.if_icmp .ne 27, 3) := by decide +kernel
theorem dX8_pledge_62 : decode cX8_pledge 62 = .ok (.aload 6, 2) := by decide +kernel
theorem dX8_pledge_64 : decode cX8_pledge 64 = .ok (.getfield 368, 3) := by decide +kernel
theorem dX8_pledge_67 : decode cX8_pledge 67 = .ok (.aload_n 3, 1) := by decide +kernel
theorem dX8_pledge_68 : decode cX8_pledge 68 = .ok (.if_acmp .ne 18, 3) := by decide +kernel
theorem dX8_pledge_71 : decode cX8_pledge 71 = .ok (.iload 4, 2) := by decide +kernel
theorem dX8_pledge_73 : decode cX8_pledge 73 = .ok (.iload_n 2, 1) := by decide +kernel
theorem dX8_pledge_74 : decode cX8_pledge 74 = .ok (.if_icmp .ne 9, 3) := by decide +kernel
theorem dX8_pledge_77 : decode cX8_pledge 77 = .ok (.aload 6, 2) := by decide +kernel
theorem dX8_pledge_79 : decode cX8_pledge 79 = .ok (.getfield 365, 3) := by decide +kernel
theorem dX8_pledge_82 : decode cX8_pledge 82 = .ok (.ireturn, 1) := by decide +kernel
theorem dX8_pledge_83 : decode cX8_pledge 83 = .ok (.iinc 4 1, 3) := by decide +kernel
theorem dX8_pledge_86 : decode cX8_pledge 86 = .ok (.iinc 5 1, 3) := by decide +kernel
theorem dX8_pledge_89 : decode cX8_pledge 89 = .ok (.goto (-62), 3) := by decide +kernel
theorem dX8_pledge_92 : decode cX8_pledge 92 = .ok (.iconst (-1), 1) := by decide +kernel
theorem dX8_pledge_93 : decode cX8_pledge 93 = .ok (.ireturn, 1) := by decide +kernel
theorem dX8_share_0 : decode cX8_share 0 = .ok (.aload_n 0, 1) := by decide +kernel
theorem dX8_share_1 : decode cX8_share 1 = .ok (.iload_n 1, 1) := by decide +kernel
theorem dX8_share_2 : decode cX8_share 2 = .ok (.invokevirtual 121, 3) := by decide +kernel
theorem dX8_share_5 : decode cX8_share 5 = .ok (.astore 4, 2) := by decide +kernel
theorem dX8_share_7 : decode cX8_share 7 = .ok (.aload 4, 2) := by decide +kernel
theorem dX8_share_9 : decode cX8_share 9 = .ok (.getfield 307, 3) := by decide +kernel
theorem dX8_share_12 : decode cX8_share 12 = .ok (.aload_n 0, 1) := by decide +kernel
theorem dX8_share_13 : decode cX8_share 13 = .ok (.iload_n 2, 1) := by decide +kernel
theorem dX8_share_14 : decode cX8_share 14 = .ok (.invokevirtual 376, 3) := by decide +kernel
theorem dX8_share_17 : decode cX8_share 17 = .ok (.iload_n 3, 1) := by decide +kernel
theorem dX8_share_18 : decode cX8_share 18 = .ok (.invokevirtual 380, 3) := by decide +kernel
theorem dX8_share_21 : decode cX8_share 21 = .ok (.ireturn, 1) := by decide +kernel
theorem dX8_duties_0 : decode cX8_duties 0 = .ok (.aload_n 0, 1) := by decide +kernel
theorem dX8_duties_1 : decode cX8_duties 1 = .ok (.getfield 39, 3) := by decide +kernel
theorem dX8_duties_4 : decode cX8_duties 4 = .ok (.lreturn, 1) := by decide +kernel
theorem dX8_pass_0 : decode cX8_pass 0 = .ok (.iload_n 1, 1) := by decide +kernel
theorem dX8_pass_1 : decode cX8_pass 1 = .ok (.iconst 1, 1) := by decide +kernel
theorem dX8_pass_2 : decode cX8_pass 2 = .ok (.if_icmp .lt 10, 3) := by decide +kernel
theorem dX8_pass_5 : decode cX8_pass 5 = .ok (.iload_n 1, 1) := by decide +kernel
theorem dX8_pass_6 : decode cX8_pass 6 = .ok (.sipush 10000, 3) := by decide +kernel
theorem dX8_pass_9 : decode cX8_pass 9 = .ok (.if_icmp .le 14, 3) := by decide +kernel
theorem dX8_pass_12 : decode cX8_pass 12 = .ok (.new 43, 3) := by decide +kernel
theorem dX8_pass_15 : decode cX8_pass 15 = .ok (.dup, 1) := by decide +kernel
theorem dX8_pass_16 : decode cX8_pass 16 = .ok (.ldc_w 398, 3) := by decide +kernel
theorem dX8_pass_19 : decode cX8_pass 19 = .ok (.invokespecial 47, 3) := by decide +kernel
theorem dX8_pass_22 : decode cX8_pass 22 = .ok (.athrow, 1) := by decide +kernel
theorem dX8_pass_23 : decode cX8_pass 23 = .ok (.aload_n 0, 1) := by decide +kernel
theorem dX8_pass_24 : decode cX8_pass 24 = .ok (.dup, 1) := by decide +kernel
theorem dX8_pass_25 : decode cX8_pass 25 = .ok (.getfield 32, 3) := by decide +kernel
theorem dX8_pass_28 : decode cX8_pass 28 = .ok (.iload_n 1, 1) := by decide +kernel
theorem dX8_pass_29 : decode cX8_pass 29 = .ok (.iadd, 1) := by decide +kernel
theorem dX8_pass_30 : decode cX8_pass 30 = .ok (.putfield 32, 3) := by decide +kernel
theorem dX8_pass_33 : decode cX8_pass 33 = .ok (.aload_n 0, 1) := by decide +kernel
theorem dX8_pass_34 : decode cX8_pass 34 = .ok (.getfield 32, 3) := by decide +kernel
theorem dX8_pass_37 : decode cX8_pass 37 = .ok (.ireturn, 1) := by decide +kernel
theorem dX8_personAt_0 : decode cX8_personAt 0 = .ok (.iload_n 1, 1) := by decide +kernel
theorem dX8_personAt_1 : decode cX8_personAt 1 = .ok (.ifCond .lt 14, 3) := by decide +kernel
theorem dX8_personAt_4 : decode cX8_personAt 4 = .ok (.iload_n 1, 1) := by decide +kernel
theorem dX8_personAt_5 : decode cX8_personAt 5 = .ok (.aload_n 0, 1) := by decide +kernel
theorem dX8_personAt_6 : decode cX8_personAt 6 = .ok (.getfield 12, 3) := by decide +kernel
theorem dX8_personAt_9 : decode cX8_personAt 9 = .ok (.invokevirtual 50, 3) := by decide +kernel
theorem dX8_personAt_12 : decode cX8_personAt 12 = .ok (.if_icmp .lt 14, 3) := by decide +kernel
theorem dX8_personAt_15 : decode cX8_personAt 15 = .ok (.new 242, 3) := by decide +kernel
theorem dX8_personAt_18 : decode cX8_personAt 18 = .ok (.dup, 1) := by decide +kernel
theorem dX8_personAt_19 : decode cX8_personAt 19 = .ok (.ldc_w 400, 3) := by decide +kernel
theorem dX8_personAt_22 : decode cX8_personAt 22 = .ok (.invokespecial 246, 3) := by decide +kernel
theorem dX8_personAt_25 : decode cX8_personAt 25 = .ok (.athrow, 1) := by decide +kernel
theorem dX8_personAt_26 : decode cX8_personAt 26 = .ok (.aload_n 0, 1) := by decide +kernel
theorem dX8_personAt_27 : decode cX8_personAt 27 = .ok (.getfield 12, 3) := by decide +kernel
theorem dX8_personAt_30 : decode cX8_personAt 30 = .ok (.iload_n 1, 1) := by decide +kernel
theorem dX8_personAt_31 : decode cX8_personAt 31 = .ok (.invokevirtual 355, 3) := by decide +kernel
theorem dX8_personAt_34 : decode cX8_personAt 34 = .ok (.checkcast 59, 3) := by decide +kernel
theorem dX8_personAt_37 : decode cX8_personAt 37 = .ok (.areturn, 1) := by decide +kernel
theorem dX8_thingAt_0 : decode cX8_thingAt 0 = .ok (.iload_n 1, 1) := by decide +kernel
theorem dX8_thingAt_1 : decode cX8_thingAt 1 = .ok (.ifCond .lt 14, 3) := by decide +kernel
theorem dX8_thingAt_4 : decode cX8_thingAt 4 = .ok (.iload_n 1, 1) := by decide +kernel
theorem dX8_thingAt_5 : decode cX8_thingAt 5 = .ok (.aload_n 0, 1) := by decide +kernel
theorem dX8_thingAt_6 : decode cX8_thingAt 6 = .ok (.getfield 16, 3) := by decide +kernel
theorem dX8_thingAt_9 : decode cX8_thingAt 9 = .ok (.invokevirtual 50, 3) := by decide +kernel
theorem dX8_thingAt_12 : decode cX8_thingAt 12 = .ok (.if_icmp .lt 14, 3) := by decide +kernel
theorem dX8_thingAt_15 : decode cX8_thingAt 15 = .ok (.new 242, 3) := by decide +kernel
theorem dX8_thingAt_18 : decode cX8_thingAt 18 = .ok (.dup, 1) := by decide +kernel
theorem dX8_thingAt_19 : decode cX8_thingAt 19 = .ok (.ldc_w 402, 3) := by decide +kernel
theorem dX8_thingAt_22 : decode cX8_thingAt 22 = .ok (.invokespecial 246, 3) := by decide +kernel
theorem dX8_thingAt_25 : decode cX8_thingAt 25 = .ok (.athrow, 1) := by decide +kernel
theorem dX8_thingAt_26 : decode cX8_thingAt 26 = .ok (.aload_n 0, 1) := by decide +kernel
theorem dX8_thingAt_27 : decode cX8_thingAt 27 = .ok (.getfield 16, 3) := by decide +kernel
theorem dX8_thingAt_30 : decode cX8_thingAt 30 = .ok (.iload_n 1, 1) := by decide +kernel
theorem dX8_thingAt_31 : decode cX8_thingAt 31 = .ok (.invokevirtual 355, 3) := by decide +kernel
theorem dX8_thingAt_34 : decode cX8_thingAt 34 = .ok (.checkcast 111, 3) := by decide +kernel
theorem dX8_thingAt_37 : decode cX8_thingAt 37 = .ok (.areturn, 1) := by decide +kernel
theorem dX8_deedAt_0 : decode cX8_deedAt 0 = .ok (.iload_n 1, 1) := by decide +kernel
theorem dX8_deedAt_1 : decode cX8_deedAt 1 = .ok (.ifCond .lt 14, 3) := by decide +kernel
theorem dX8_deedAt_4 : decode cX8_deedAt 4 = .ok (.iload_n 1, 1) := by decide +kernel
theorem dX8_deedAt_5 : decode cX8_deedAt 5 = .ok (.aload_n 0, 1) := by decide +kernel
theorem dX8_deedAt_6 : decode cX8_deedAt 6 = .ok (.getfield 19, 3) := by decide +kernel
theorem dX8_deedAt_9 : decode cX8_deedAt 9 = .ok (.invokevirtual 50, 3) := by decide +kernel
theorem dX8_deedAt_12 : decode cX8_deedAt 12 = .ok (.if_icmp .lt 14, 3) := by decide +kernel
theorem dX8_deedAt_15 : decode cX8_deedAt 15 = .ok (.new 242, 3) := by decide +kernel
theorem dX8_deedAt_18 : decode cX8_deedAt 18 = .ok (.dup, 1) := by decide +kernel
theorem dX8_deedAt_19 : decode cX8_deedAt 19 = .ok (.ldc_w 404, 3) := by decide +kernel
theorem dX8_deedAt_22 : decode cX8_deedAt 22 = .ok (.invokespecial 246, 3) := by decide +kernel
theorem dX8_deedAt_25 : decode cX8_deedAt 25 = .ok (.athrow, 1) := by decide +kernel
theorem dX8_deedAt_26 : decode cX8_deedAt 26 = .ok (.aload_n 0, 1) := by decide +kernel
theorem dX8_deedAt_27 : decode cX8_deedAt 27 = .ok (.getfield 19, 3) := by decide +kernel
theorem dX8_deedAt_30 : decode cX8_deedAt 30 = .ok (.iload_n 1, 1) := by decide +kernel
theorem dX8_deedAt_31 : decode cX8_deedAt 31 = .ok (.invokevirtual 355, 3) := by decide +kernel
theorem dX8_deedAt_34 : decode cX8_deedAt 34 = .ok (.checkcast 137, 3) := by decide +kernel
theorem dX8_deedAt_37 : decode cX8_deedAt 37 = .ok (.areturn, 1) := by decide +kernel
theorem dX8_holderAt_0 : decode cX8_holderAt 0 = .ok (.iload_n 1, 1) := by decide +kernel
theorem dX8_holderAt_1 : decode cX8_holderAt 1 = .ok (.iconst (-1), 1) := by decide +kernel
theorem dX8_holderAt_2 : decode cX8_holderAt 2 = .ok (.if_icmp .ne 8, 3) := by decide +kernel
theorem dX8_holderAt_5 : decode cX8_holderAt 5 = .ok (.bipush 12, 2) := by decide +kernel
theorem dX8_holderAt_7 : decode cX8_holderAt 7 = .ok (.goto 11, 3) := by decide +kernel
theorem dX8_holderAt_10 : decode cX8_holderAt 10 = .ok (.aload_n 0, 1) := by decide +kernel
theorem dX8_holderAt_11 : decode cX8_holderAt 11 = .ok (.iload_n 1, 1) := by decide +kernel
