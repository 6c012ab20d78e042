theorem dX0_init_0 : decode cX0_init 0 = .ok (.aload_n 0, 1) := by decide +kernel
theorem dX0_init_1 : decode cX0_init 1 = .ok (.invokespecial 3, 3) := by decide +kernel
theorem dX0_init_4 : decode cX0_init 4 = .ok (.aload_n 0, 1) := by decide +kernel
theorem dX0_init_5 : decode cX0_init 5 = .ok (.new 9, 3) := by decide +kernel
theorem dX0_init_8 : decode cX0_init 8 = .ok (.dup, 1) := by decide +kernel
theorem dX0_init_9 : decode cX0_init 9 = .ok (.invokespecial 11, 3) := by decide +kernel
theorem dX0_init_12 : decode cX0_init 12 = .ok (.putfield 12, 3) := by decide +kernel
theorem dX0_init_15 : decode cX0_init 15 = .ok (.aload_n 0, 1) := by decide +kernel
theorem dX0_init_16 : decode cX0_init 16 = .ok (.aconst_null, 1) := by decide +kernel
theorem dX0_init_17 : decode cX0_init 17 = .ok (.putfield 18, 3) := by decide +kernel
theorem dX0_init_20 : decode cX0_init 20 = .ok (.aload_n 0, 1) := by decide +kernel
theorem dX0_init_21 : decode cX0_init 21 = .ok (.iconst 0, 1) := by decide +kernel
theorem dX0_init_22 : decode cX0_init 22 = .ok (.putfield 22, 3) := by decide +kernel
theorem dX0_init_25 : decode cX0_init 25 = .ok (.aload_n 0, 1) := by decide +kernel
theorem dX0_init_26 : decode cX0_init 26 = .ok (.iconst 0, 1) := by decide +kernel
theorem dX0_init_27 : decode cX0_init 27 = .ok (.putfield 26, 3) := by decide +kernel
theorem dX0_init_30 : decode cX0_init 30 = .ok (.aload_n 0, 1) := by decide +kernel
theorem dX0_init_31 : decode cX0_init 31 = .ok (.iconst 0, 1) := by decide +kernel
theorem dX0_init_32 : decode cX0_init 32 = .ok (.putfield 29, 3) := by decide +kernel
theorem dX0_init_35 : decode cX0_init 35 = .ok (.aload_n 0, 1) := by decide +kernel
theorem dX0_init_36 : decode cX0_init 36 = .ok (.iconst 0, 1) := by decide +kernel
theorem dX0_init_37 : decode cX0_init 37 = .ok (.putfield 32, 3) := by decide +kernel
theorem dX0_init_40 : decode cX0_init 40 = .ok (.aload_n 0, 1) := by decide +kernel
theorem dX0_init_41 : decode cX0_init 41 = .ok (.iconst (-1), 1) := by decide +kernel
theorem dX0_init_42 : decode cX0_init 42 = .ok (.putfield 35, 3) := by decide +kernel
theorem dX0_init_45 : decode cX0_init 45 = .ok (.aload_n 0, 1) := by decide +kernel
theorem dX0_init_46 : decode cX0_init 46 = .ok (.iconst (-1), 1) := by decide +kernel
theorem dX0_init_47 : decode cX0_init 47 = .ok (.putfield 38, 3) := by decide +kernel
theorem dX0_init_50 : decode cX0_init 50 = .ok (.aload_n 0, 1) := by decide +kernel
theorem dX0_init_51 : decode cX0_init 51 = .ok (.iload_n 1, 1) := by decide +kernel
theorem dX0_init_52 : decode cX0_init 52 = .ok (.putfield 41, 3) := by decide +kernel
theorem dX0_init_55 : decode cX0_init 55 = .ok (.aload_n 0, 1) := by decide +kernel
theorem dX0_init_56 : decode cX0_init 56 = .ok (.iload_n 2, 1) := by decide +kernel
theorem dX0_init_57 : decode cX0_init 57 = .ok (.putfield 44, 3) := by decide +kernel
theorem dX0_init_60 : decode cX0_init 60 = .ok (.aload_n 0, 1) := by decide +kernel
theorem dX0_init_61 : decode cX0_init 61 = .ok (.aload_n 3, 1) := by decide +kernel
theorem dX0_init_62 : decode cX0_init 62 = .ok (.putfield 47, 3) := by decide +kernel
theorem dX0_init_65 : decode cX0_init 65 = .ok (.aload_n 0, 1) := by decide +kernel
theorem dX0_init_66 : decode cX0_init 66 = .ok (.aload 4, 2) := by decide +kernel
theorem dX0_init_68 : decode cX0_init 68 = .ok (.putfield 51, 3) := by decide +kernel
theorem dX0_init_71 : decode cX0_init 71 = .ok (.aload_n 0, 1) := by decide +kernel
theorem dX0_init_72 : decode cX0_init 72 = .ok (.aload 5, 2) := by decide +kernel
theorem dX0_init_74 : decode cX0_init 74 = .ok (.putfield 54, 3) := by decide +kernel
theorem dX0_init_77 : decode cX0_init 77 = .ok (.aload_n 0, 1) := by decide +kernel
theorem dX0_init_78 : decode cX0_init 78 = .ok (.iload 6, 2) := by decide +kernel
theorem dX0_init_80 : decode cX0_init 80 = .ok (.putfield 58, 3) := by decide +kernel
theorem dX0_init_83 : decode cX0_init 83 = .ok (.aload_n 0, 1) := by decide +kernel
theorem dX0_init_84 : decode cX0_init 84 = .ok (.iload 7, 2) := by decide +kernel
theorem dX0_init_86 : decode cX0_init 86 = .ok (.putfield 61, 3) := by decide +kernel
theorem dX0_init_89 : decode cX0_init 89 = .ok (.return_, 1) := by decide +kernel
theorem dX0_isClosed_0 : decode cX0_isClosed 0 = .ok (.aload_n 0, 1) := by decide +kernel
theorem dX0_isClosed_1 : decode cX0_isClosed 1 = .ok (.getfield 29, 3) := by decide +kernel
theorem dX0_isClosed_4 : decode cX0_isClosed 4 = .ok (.ifCond .eq 7, 3) := by decide +kernel
theorem dX0_isClosed_7 : decode cX0_isClosed 7 = .ok (.iconst 1, 1) := by decide +kernel
theorem dX0_isClosed_8 : decode cX0_isClosed 8 = .ok (.goto 4, 3) := by decide +kernel
theorem dX0_isClosed_11 : decode cX0_isClosed 11 = .ok (.iconst 0, 1) := by decide +kernel
theorem dX0_isClosed_12 : decode cX0_isClosed 12 = .ok (.ireturn, 1) := by decide +kernel
theorem dX0_hasAll_0 : decode cX0_hasAll 0 = .ok (.aload_n 0, 1) := by decide +kernel
theorem dX0_hasAll_1 : decode cX0_hasAll 1 = .ok (.getfield 22, 3) := by decide +kernel
theorem dX0_hasAll_4 : decode cX0_hasAll 4 = .ok (.iload_n 1, 1) := by decide +kernel
theorem dX0_hasAll_5 : decode cX0_hasAll 5 = .ok (.iand, 1) := by decide +kernel
theorem dX0_hasAll_6 : decode cX0_hasAll 6 = .ok (.iload_n 1, 1) := by decide +kernel
theorem dX0_hasAll_7 : decode cX0_hasAll 7 = .ok (.if_icmp .ne 7, 3) := by decide +kernel
theorem dX0_hasAll_10 : decode cX0_hasAll 10 = .ok (.iconst 1, 1) := by decide +kernel
theorem dX0_hasAll_11 : decode cX0_hasAll 11 = .ok (.goto 4, 3) := by decide +kernel
theorem dX0_hasAll_14 : decode cX0_hasAll 14 = .ok (.iconst 0, 1) := by decide +kernel
theorem dX0_hasAll_15 : decode cX0_hasAll 15 = .ok (.ireturn, 1) := by decide +kernel
theorem dX0_side_0 : decode cX0_side 0 = .ok (.iload_n 1, 1) := by decide +kernel
theorem dX0_side_1 : decode cX0_side 1 = .ok (.ifCond .eq 10, 3) := by decide +kernel
theorem dX0_side_4 : decode cX0_side 4 = .ok (.aload_n 0, 1) := by decide +kernel
theorem dX0_side_5 : decode cX0_side 5 = .ok (.getfield 47, 3) := by decide +kernel
theorem dX0_side_8 : decode cX0_side 8 = .ok (.goto 7, 3) := by decide +kernel
theorem dX0_side_11 : decode cX0_side 11 = .ok (.aload_n 0, 1) := by decide +kernel
theorem dX0_side_12 : decode cX0_side 12 = .ok (.getfield 51, 3) := by decide +kernel
theorem dX0_side_15 : decode cX0_side 15 = .ok (.areturn, 1) := by decide +kernel
theorem dX0_hasWitness_0 : decode cX0_hasWitness 0 = .ok (.aload_n 0, 1) := by decide +kernel
theorem dX0_hasWitness_1 : decode cX0_hasWitness 1 = .ok (.getfield 26, 3) := by decide +kernel
theorem dX0_hasWitness_4 : decode cX0_hasWitness 4 = .ok (.iconst 1, 1) := by decide +kernel
theorem dX0_hasWitness_5 : decode cX0_hasWitness 5 = .ok (.aload_n 1, 1) := by decide +kernel
theorem dX0_hasWitness_6 : decode cX0_hasWitness 6 = .ok (.getfield 64, 3) := by decide +kernel
theorem dX0_hasWitness_9 : decode cX0_hasWitness 9 = .ok (.ishl, 1) := by decide +kernel
theorem dX0_hasWitness_10 : decode cX0_hasWitness 10 = .ok (.iand, 1) := by decide +kernel
theorem dX0_hasWitness_11 : decode cX0_hasWitness 11 = .ok (.ifCond .eq 7, 3) := by decide +kernel
theorem dX0_hasWitness_14 : decode cX0_hasWitness 14 = .ok (.iconst 1, 1) := by decide +kernel
theorem dX0_hasWitness_15 : decode cX0_hasWitness 15 = .ok (.goto 4, 3) := by decide +kernel
theorem dX0_hasWitness_18 : decode cX0_hasWitness 18 = .ok (.iconst 0, 1) := by decide +kernel
theorem dX0_hasWitness_19 : decode cX0_hasWitness 19 = .ok (.ireturn, 1) := by decide +kernel
theorem dX0_addWitness_0 : decode cX0_addWitness 0 = .ok (.aload_n 0, 1) := by decide +kernel
theorem dX0_addWitness_1 : decode cX0_addWitness 1 = .ok (.dup, 1) := by decide +kernel
theorem dX0_addWitness_2 : decode cX0_addWitness 2 = .ok (.getfield 26, 3) := by decide +kernel
theorem dX0_addWitness_5 : decode cX0_addWitness 5 = .ok (.iconst 1, 1) := by decide +kernel
theorem dX0_addWitness_6 : decode cX0_addWitness 6 = .ok (.aload_n 1, 1) := by decide +kernel
theorem dX0_addWitness_7 : decode cX0_addWitness 7 = .ok (.getfield 64, 3) := by decide +kernel
theorem dX0_addWitness_10 : decode cX0_addWitness 10 = .ok (.ishl, 1) := by decide +kernel
theorem dX0_addWitness_11 : decode cX0_addWitness 11 = .ok (.ior, 1) := by decide +kernel
theorem dX0_addWitness_12 : decode cX0_addWitness 12 = .ok (.putfield 26, 3) := by decide +kernel
theorem dX0_addWitness_15 : decode cX0_addWitness 15 = .ok (.aload_n 0, 1) := by decide +kernel
theorem dX0_addWitness_16 : decode cX0_addWitness 16 = .ok (.getfield 26, 3) := by decide +kernel
theorem dX0_addWitness_19 : decode cX0_addWitness 19 = .ok (.invokestatic 67, 3) := by decide +kernel
theorem dX0_addWitness_22 : decode cX0_addWitness 22 = .ok (.iconst 2, 1) := by decide +kernel
theorem dX0_addWitness_23 : decode cX0_addWitness 23 = .ok (.if_icmp .lt 14, 3) := by decide +kernel
theorem dX0_addWitness_26 : decode cX0_addWitness 26 = .ok (.aload_n 0, 1) := by decide +kernel
theorem dX0_addWitness_27 : decode cX0_addWitness 27 = .ok (.dup, 1) := by decide +kernel
theorem dX0_addWitness_28 : decode cX0_addWitness 28 = .ok (.getfield 22, 3) := by decide +kernel
theorem dX0_addWitness_31 : decode cX0_addWitness 31 = .ok (.bipush 8, 2) := by decide +kernel
theorem dX0_addWitness_33 : decode cX0_addWitness 33 = .ok (.ior, 1) := by decide +kernel
theorem dX0_addWitness_34 : decode cX0_addWitness 34 = .ok (.putfield 22, 3) := by decide +kernel
theorem dX0_addWitness_37 : decode cX0_addWitness 37 = .ok (.return_, 1) := by decide +kernel
theorem dX1_init_0 : decode cX1_init 0 = .ok (.aload_n 0, 1) := by decide +kernel
theorem dX1_init_1 : decode cX1_init 1 = .ok (.invokespecial 1, 3) := by decide +kernel
theorem dX1_init_4 : decode cX1_init 4 = .ok (.aload_n 0, 1) := by decide +kernel
theorem dX1_init_5 : decode cX1_init 5 = .ok (.iload_n 1, 1) := by decide +kernel
theorem dX1_init_6 : decode cX1_init 6 = .ok (.putfield 7, 3) := by decide +kernel
theorem dX1_init_9 : decode cX1_init 9 = .ok (.aload_n 0, 1) := by decide +kernel
theorem dX1_init_10 : decode cX1_init 10 = .ok (.iload_n 2, 1) := by decide +kernel
theorem dX1_init_11 : decode cX1_init 11 = .ok (.putfield 13, 3) := by decide +kernel
theorem dX1_init_14 : decode cX1_init 14 = .ok (.aload_n 0, 1) := by decide +kernel
theorem dX1_init_15 : decode cX1_init 15 = .ok (.aload_n 3, 1) := by decide +kernel
theorem dX1_init_16 : decode cX1_init 16 = .ok (.putfield 16, 3) := by decide +kernel
theorem dX1_init_19 : decode cX1_init 19 = .ok (.aload_n 0, 1) := by decide +kernel
theorem dX1_init_20 : decode cX1_init 20 = .ok (.iload 4, 2) := by decide +kernel
theorem dX1_init_22 : decode cX1_init 22 = .ok (.putfield 20, 3) := by decide +kernel
theorem dX1_init_25 : decode cX1_init 25 = .ok (.aload_n 0, 1) := by decide +kernel
theorem dX1_init_26 : decode cX1_init 26 = .ok (.aload 5, 2) := by decide +kernel
theorem dX1_init_28 : decode cX1_init 28 = .ok (.putfield 23, 3) := by decide +kernel
theorem dX1_init_31 : decode cX1_init 31 = .ok (.return_, 1) := by decide +kernel
theorem dX2_init_0 : decode cX2_init 0 = .ok (.aload_n 0, 1) := by decide +kernel
theorem dX2_init_1 : decode cX2_init 1 = .ok (.invokespecial 1, 3) := by decide +kernel
theorem dX2_init_4 : decode cX2_init 4 = .ok (.aload_n 0, 1) := by decide +kernel
theorem dX2_init_5 : decode cX2_init 5 = .ok (.iconst 0, 1) := by decide +kernel
theorem dX2_init_6 : decode cX2_init 6 = .ok (.putfield 7, 3) := by decide +kernel
theorem dX2_init_9 : decode cX2_init 9 = .ok (.aload_n 0, 1) := by decide +kernel
theorem dX2_init_10 : decode cX2_init 10 = .ok (.iconst 0, 1) := by decide +kernel
theorem dX2_init_11 : decode cX2_init 11 = .ok (.putfield 13, 3) := by decide +kernel
theorem dX2_init_14 : decode cX2_init 14 = .ok (.aload_n 0, 1) := by decide +kernel
theorem dX2_init_15 : decode cX2_init 15 = .ok (.aconst_null, 1) := by decide +kernel
theorem dX2_init_16 : decode cX2_init 16 = .ok (.putfield 16, 3) := by decide +kernel
theorem dX2_init_19 : decode cX2_init 19 = .ok (.aload_n 0, 1) := by decide +kernel
theorem dX2_init_20 : decode cX2_init 20 = .ok (.iload_n 1, 1) := by decide +kernel
theorem dX2_init_21 : decode cX2_init 21 = .ok (.putfield 20, 3) := by decide +kernel
theorem dX2_init_24 : decode cX2_init 24 = .ok (.aload_n 0, 1) := by decide +kernel
theorem dX2_init_25 : decode cX2_init 25 = .ok (.iload_n 2, 1) := by decide +kernel
theorem dX2_init_26 : decode cX2_init 26 = .ok (.putfield 24, 3) := by decide +kernel
theorem dX2_init_29 : decode cX2_init 29 = .ok (.return_, 1) := by decide +kernel
theorem dX3_init_0 : decode cX3_init 0 = .ok (.aload_n 0, 1) := by decide +kernel
theorem dX3_init_1 : decode cX3_init 1 = .ok (.invokespecial 1, 3) := by decide +kernel
theorem dX3_init_4 : decode cX3_init 4 = .ok (.aload_n 0, 1) := by decide +kernel
theorem dX3_init_5 : decode cX3_init 5 = .ok (.iload_n 1, 1) := by decide +kernel
theorem dX3_init_6 : decode cX3_init 6 = .ok (.putfield 7, 3) := by decide +kernel
theorem dX3_init_9 : decode cX3_init 9 = .ok (.aload_n 0, 1) := by decide +kernel
theorem dX3_init_10 : decode cX3_init 10 = .ok (.iload_n 2, 1) := by decide +kernel
theorem dX3_init_11 : decode cX3_init 11 = .ok (.putfield 13, 3) := by decide +kernel
theorem dX3_init_14 : decode cX3_init 14 = .ok (.aload_n 0, 1) := by decide +kernel
theorem dX3_init_15 : decode cX3_init 15 = .ok (.iload_n 3, 1) := by decide +kernel
theorem dX3_init_16 : decode cX3_init 16 = .ok (.putfield 16, 3) := by decide +kernel
theorem dX3_init_19 : decode cX3_init 19 = .ok (.aload_n 0, 1) := by decide +kernel
theorem dX3_init_20 : decode cX3_init 20 = .ok (.iload 4, 2) := by decide +kernel
theorem dX3_init_22 : decode cX3_init 22 = .ok (.putfield 19, 3) := by decide +kernel
theorem dX3_init_25 : decode cX3_init 25 = .ok (.aload_n 0, 1) := by decide +kernel
theorem dX3_init_26 : decode cX3_init 26 = .ok (.iload 5, 2) := by decide +kernel
theorem dX3_init_28 : decode cX3_init 28 = .ok (.putfield 22, 3) := by decide +kernel
theorem dX3_init_31 : decode cX3_init 31 = .ok (.return_, 1) := by decide +kernel
theorem dX4_init_0 : decode cX4_init 0 = .ok (.aload_n 0, 1) := by decide +kernel
theorem dX4_init_1 : decode cX4_init 1 = .ok (.invokespecial 3, 3) := by decide +kernel
theorem dX4_init_4 : decode cX4_init 4 = .ok (.aload_n 0, 1) := by decide +kernel
theorem dX4_init_5 : decode cX4_init 5 = .ok (.iconst 4, 1) := by decide +kernel
theorem dX4_init_6 : decode cX4_init 6 = .ok (.newarray .int, 2) := by decide +kernel
theorem dX4_init_8 : decode cX4_init 8 = .ok (.putfield 9, 3) := by decide +kernel
theorem dX4_init_11 : decode cX4_init 11 = .ok (.aload_n 0, 1) := by decide +kernel
theorem dX4_init_12 : decode cX4_init 12 = .ok (.iconst 0, 1) := by decide +kernel
theorem dX4_init_13 : decode cX4_init 13 = .ok (.putfield 15, 3) := by decide +kernel
theorem dX4_init_16 : decode cX4_init 16 = .ok (.return_, 1) := by decide +kernel
theorem dX4_leastGrade_0 : decode cX4_leastGrade 0 = .ok (.aload_n 0, 1) := by decide +kernel
theorem dX4_leastGrade_1 : decode cX4_leastGrade 1 = .ok (.getfield 15, 3) := by decide +kernel
theorem dX4_leastGrade_4 : decode cX4_leastGrade 4 = .ok (.ifCond .ne 7, 3) := by decide +kernel
theorem dX4_leastGrade_7 : decode cX4_leastGrade 7 = .ok (.iconst (-1), 1) := by decide +kernel
theorem dX4_leastGrade_8 : decode cX4_leastGrade 8 = .ok (.goto 9, 3) := by decide +kernel
theorem dX4_leastGrade_11 : decode cX4_leastGrade 11 = .ok (.aload_n 0, 1) := by decide +kernel
theorem dX4_leastGrade_12 : decode cX4_leastGrade 12 = .ok (.getfield 9, 3) := by decide +kernel
theorem dX4_leastGrade_15 : decode cX4_leastGrade 15 = .ok (.iconst 0, 1) := by decide +kernel
theorem dX4_leastGrade_16 : decode cX4_leastGrade 16 = .ok (.iaload, 1) := by decide +kernel
theorem dX4_leastGrade_17 : decode cX4_leastGrade 17 = .ok (.ireturn, 1) := by decide +kernel
theorem dX4_append_0 : decode cX4_append 0 = .ok (.aload_n 0, 1) := by decide +kernel
theorem dX4_append_1 : decode cX4_append 1 = .ok (.getfield 15, 3) := by decide +kernel
theorem dX4_append_4 : decode cX4_append 4 = .ok (.aload_n 0, 1) := by decide +kernel
theorem dX4_append_5 : decode cX4_append 5 = .ok (.getfield 9, 3) := by decide +kernel
theorem dX4_append_8 : decode cX4_append 8 = .ok (.arraylength, 1) := by decide +kernel
theorem dX4_append_9 : decode cX4_append 9 = .ok (.if_icmp .ge 23, 3) := by decide +kernel
theorem dX4_append_12 : decode cX4_append 12 = .ok (.aload_n 0, 1) := by decide +kernel
theorem dX4_append_13 : decode cX4_append 13 = .ok (.getfield 9, 3) := by decide +kernel
theorem dX4_append_16 : decode cX4_append 16 = .ok (.aload_n 0, 1) := by decide +kernel
theorem dX4_append_17 : decode cX4_append 17 = .ok (.getfield 15, 3) := by decide +kernel
theorem dX4_append_20 : decode cX4_append 20 = .ok (.iload_n 1, 1) := by decide +kernel
theorem dX4_append_21 : decode cX4_append 21 = .ok (.iastore, 1) := by decide +kernel
theorem dX4_append_22 : decode cX4_append 22 = .ok (.aload_n 0, 1) := by decide +kernel
theorem dX4_append_23 : decode cX4_append 23 = .ok (.dup, 1) := by decide +kernel
theorem dX4_append_24 : decode cX4_append 24 = .ok (.getfield 15, 3) := by decide +kernel
theorem dX4_append_27 : decode cX4_append 27 = .ok (.iconst 1, 1) := by decide +kernel
theorem dX4_append_28 : decode cX4_append 28 = .ok (.iadd, 1) := by decide +kernel
theorem dX4_append_29 : decode cX4_append 29 = .ok (.putfield 15, 3) := by decide +kernel
theorem dX4_append_32 : decode cX4_append 32 = .ok (.return_, 1) := by decide +kernel
theorem dX4_dropFirst_0 : decode cX4_dropFirst 0 = .ok (.iconst 1, 1) := by decide +kernel
theorem dX4_dropFirst_1 : decode cX4_dropFirst 1 = .ok (.istore_n 1, 1) := by decide +kernel
theorem dX4_dropFirst_2 : decode cX4_dropFirst 2 = .ok (.iload_n 1, 1) := by decide +kernel
theorem dX4_dropFirst_3 : decode cX4_dropFirst 3 = .ok (.aload_n 0, 1) := by decide +kernel
theorem dX4_dropFirst_4 : decode cX4_dropFirst 4 = .ok (.getfield 15, 3) := by decide +kernel
theorem dX4_dropFirst_7 : decode cX4_dropFirst 7 = .ok (.if_icmp .ge 32, 3) := by decide +kernel
theorem dX4_dropFirst_10 : decode cX4_dropFirst 10 = .ok (.iload_n 1, 1) := by decide +kernel
theorem dX4_dropFirst_11 : decode cX4_dropFirst 11 = .ok (.aload_n 0, 1) := by decide +kernel
theorem dX4_dropFirst_12 : decode cX4_dropFirst 12 = .ok (.getfield 9, 3) := by decide +kernel
theorem dX4_dropFirst_15 : decode cX4_dropFirst 15 = .ok (.arraylength, 1) := by decide +kernel
theorem dX4_dropFirst_16 : decode cX4_dropFirst 16 = .ok (.if_icmp .ge 23, 3) := by decide +kernel
theorem dX4_dropFirst_19 : decode cX4_dropFirst 19 = .ok (.aload_n 0, 1) := by decide +kernel
theorem dX4_dropFirst_20 : decode cX4_dropFirst 20 = .ok (.getfield 9, 3) := by decide +kernel
theorem dX4_dropFirst_23 : decode cX4_dropFirst 23 = .ok (.iload_n 1, 1) := by decide +kernel
theorem dX4_dropFirst_24 : decode cX4_dropFirst 24 = .ok (.iconst 1, 1) := by decide +kernel
theorem dX4_dropFirst_25 : decode cX4_dropFirst 25 = .ok (.isub, 1) := by decide +kernel
theorem dX4_dropFirst_26 : decode cX4_dropFirst 26 = .ok (.aload_n 0, 1) := by decide +kernel
theorem dX4_dropFirst_27 : decode cX4_dropFirst 27 = .ok (.getfield 9, 3) := by decide +kernel
theorem dX4_dropFirst_30 : decode cX4_dropFirst 30 = .ok (.iload_n 1, 1) := by decide +kernel
theorem dX4_dropFirst_31 : decode cX4_dropFirst 31 = .ok (.iaload, 1) := by decide +kernel
theorem dX4_dropFirst_32 : decode cX4_dropFirst 32 = .ok (.iastore, 1) := by decide +kernel
theorem dX4_dropFirst_33 : decode cX4_dropFirst 33 = .ok (.iinc 1 1, 3) := by decide +kernel
theorem dX4_dropFirst_36 : decode cX4_dropFirst 36 = .ok (.goto (-34), 3) := by decide +kernel
theorem dX4_dropFirst_39 : decode cX4_dropFirst 39 = .ok (.aload_n 0, 1) := by decide +kernel
theorem dX4_dropFirst_40 : decode cX4_dropFirst 40 = .ok (.getfield 15, 3) := by decide +kernel
theorem dX4_dropFirst_43 : decode cX4_dropFirst 43 = .ok (.ifCond .le 13, 3) := by decide +kernel
theorem dX4_dropFirst_46 : decode cX4_dropFirst 46 = .ok (.aload_n 0, 1) := by decide +kernel
theorem dX4_dropFirst_47 : decode cX4_dropFirst 47 = .ok (.dup, 1) := by decide +kernel
theorem dX4_dropFirst_48 : decode cX4_dropFirst 48 = .ok (.getfield 15, 3) := by decide +kernel
theorem dX4_dropFirst_51 : decode cX4_dropFirst 51 = .ok (.iconst 1, 1) := by decide +kernel
theorem dX4_dropFirst_52 : decode cX4_dropFirst 52 = .ok (.isub, 1) := by decide +kernel
theorem dX4_dropFirst_53 : decode cX4_dropFirst 53 = .ok (.putfield 15, 3) := by decide +kernel
theorem dX4_dropFirst_56 : decode cX4_dropFirst 56 = .ok (.return_, 1) := by decide +kernel
theorem dX5_init_0 : decode cX5_init 0 = .ok (.aload_n 0, 1) := by decide +kernel
theorem dX5_init_1 : decode cX5_init 1 = .ok (.invokespecial 3, 3) := by decide +kernel
theorem dX5_init_4 : decode cX5_init 4 = .ok (.aload_n 0, 1) := by decide +kernel
theorem dX5_init_5 : decode cX5_init 5 = .ok (.iconst 1, 1) := by decide +kernel
theorem dX5_init_6 : decode cX5_init 6 = .ok (.putfield 9, 3) := by decide +kernel
theorem dX5_init_9 : decode cX5_init 9 = .ok (.aload_n 0, 1) := by decide +kernel
theorem dX5_init_10 : decode cX5_init 10 = .ok (.aconst_null, 1) := by decide +kernel
theorem dX5_init_11 : decode cX5_init 11 = .ok (.putfield 15, 3) := by decide +kernel
theorem dX5_init_14 : decode cX5_init 14 = .ok (.aload_n 0, 1) := by decide +kernel
theorem dX5_init_15 : decode cX5_init 15 = .ok (.iconst 0, 1) := by decide +kernel
theorem dX5_init_16 : decode cX5_init 16 = .ok (.putfield 19, 3) := by decide +kernel
theorem dX5_init_19 : decode cX5_init 19 = .ok (.aload_n 0, 1) := by decide +kernel
theorem dX5_init_20 : decode cX5_init 20 = .ok (.iload_n 1, 1) := by decide +kernel
theorem dX5_init_21 : decode cX5_init 21 = .ok (.putfield 23, 3) := by decide +kernel
theorem dX5_init_24 : decode cX5_init 24 = .ok (.aload_n 0, 1) := by decide +kernel
theorem dX5_init_25 : decode cX5_init 25 = .ok (.iload_n 2, 1) := by decide +kernel
theorem dX5_init_26 : decode cX5_init 26 = .ok (.putfield 26, 3) := by decide +kernel
theorem dX5_init_29 : decode cX5_init 29 = .ok (.aload_n 0, 1) := by decide +kernel
theorem dX5_init_30 : decode cX5_init 30 = .ok (.iload_n 3, 1) := by decide +kernel
theorem dX5_init_31 : decode cX5_init 31 = .ok (.putfield 29, 3) := by decide +kernel
theorem dX5_init_34 : decode cX5_init 34 = .ok (.aload_n 0, 1) := by decide +kernel
theorem dX5_init_35 : decode cX5_init 35 = .ok (.iload 4, 2) := by decide +kernel
theorem dX5_init_37 : decode cX5_init 37 = .ok (.putfield 32, 3) := by decide +kernel
theorem dX5_init_40 : decode cX5_init 40 = .ok (.return_, 1) := by decide +kernel
theorem dX5_isAbleOn_0 : decode cX5_isAbleOn 0 = .ok (.aload_n 0, 1) := by decide +kernel
theorem dX5_isAbleOn_1 : decode cX5_isAbleOn 1 = .ok (.getfield 26, 3) := by decide +kernel
theorem dX5_isAbleOn_4 : decode cX5_isAbleOn 4 = .ok (.iload_n 1, 1) := by decide +kernel
theorem dX5_isAbleOn_5 : decode cX5_isAbleOn 5 = .ok (.aload_n 0, 1) := by decide +kernel
theorem dX5_isAbleOn_6 : decode cX5_isAbleOn 6 = .ok (.getfield 29, 3) := by decide +kernel
theorem dX5_isAbleOn_9 : decode cX5_isAbleOn 9 = .ok (.isub, 1) := by decide +kernel
theorem dX5_isAbleOn_10 : decode cX5_isAbleOn 10 = .ok (.sipush 360, 3) := by decide +kernel
theorem dX5_isAbleOn_13 : decode cX5_isAbleOn 13 = .ok (.idiv, 1) := by decide +kernel
theorem dX5_isAbleOn_14 : decode cX5_isAbleOn 14 = .ok (.iadd, 1) := by decide +kernel
theorem dX5_isAbleOn_15 : decode cX5_isAbleOn 15 = .ok (.istore_n 2, 1) := by decide +kernel
theorem dX5_isAbleOn_16 : decode cX5_isAbleOn 16 = .ok (.aload_n 0, 1) := by decide +kernel
theorem dX5_isAbleOn_17 : decode cX5_isAbleOn 17 = .ok (.getfield 9, 3) := by decide +kernel
theorem dX5_isAbleOn_20 : decode cX5_isAbleOn 20 = .ok (.ifCond .eq 20, 3) := by decide +kernel
theorem dX5_isAbleOn_23 : decode cX5_isAbleOn 23 = .ok (.iload_n 2, 1) := by decide +kernel
theorem dX5_isAbleOn_24 : decode cX5_isAbleOn 24 = .ok (.bipush 18, 2) := by decide +kernel
theorem dX5_isAbleOn_26 : decode cX5_isAbleOn 26 = .ok (.if_icmp .lt 14, 3) := by decide +kernel
theorem dX5_isAbleOn_29 : decode cX5_isAbleOn 29 = .ok (.aload_n 0, 1) := by decide +kernel
theorem dX5_isAbleOn_30 : decode cX5_isAbleOn 30 = .ok (.getfield 15, 3) := by decide +kernel
theorem dX5_isAbleOn_33 : decode cX5_isAbleOn 33 = .ok (.ifnonnull 7, 3) := by decide +kernel
theorem dX5_isAbleOn_36 : decode cX5_isAbleOn 36 = .ok (.iconst 1, 1) := by decide +kernel
theorem dX5_isAbleOn_37 : decode cX5_isAbleOn 37 = .ok (.goto 4, 3) := by decide +kernel
theorem dX5_isAbleOn_40 : decode cX5_isAbleOn 40 = .ok (.iconst 0, 1) := by decide +kernel
theorem dX5_isAbleOn_41 : decode cX5_isAbleOn 41 = .ok (.ireturn, 1) := by decide +kernel
theorem dX5_isChildOf_0 : decode cX5_isChildOf 0 = .ok (.aload_n 0, 1) := by decide +kernel
theorem dX5_isChildOf_1 : decode cX5_isChildOf 1 = .ok (.getfield 19, 3) := by decide +kernel
theorem dX5_isChildOf_4 : decode cX5_isChildOf 4 = .ok (.iconst 1, 1) := by decide +kernel
theorem dX5_isChildOf_5 : decode cX5_isChildOf 5 = .ok (.aload_n 1, 1) := by decide +kernel
theorem dX5_isChildOf_6 : decode cX5_isChildOf 6 = .ok (.getfield 23, 3) := by decide +kernel
theorem dX5_isChildOf_9 : decode cX5_isChildOf 9 = .ok (.ishl, 1) := by decide +kernel
theorem dX5_isChildOf_10 : decode cX5_isChildOf 10 = .ok (.iand, 1) := by decide +kernel
theorem dX5_isChildOf_11 : decode cX5_isChildOf 11 = .ok (.ifCond .eq 7, 3) := by decide +kernel
theorem dX5_isChildOf_14 : decode cX5_isChildOf 14 = .ok (.iconst 1, 1) := by decide +kernel
theorem dX5_isChildOf_15 : decode cX5_isChildOf 15 = .ok (.goto 4, 3) := by decide +kernel
theorem dX5_isChildOf_18 : decode cX5_isChildOf 18 = .ok (.iconst 0, 1) := by decide +kernel
theorem dX5_isChildOf_19 : decode cX5_isChildOf 19 = .ok (.ireturn, 1) := by decide +kernel
theorem dX5_parentCount_0 : decode cX5_parentCount 0 = .ok (.aload_n 0, 1) := by decide +kernel
theorem dX5_parentCount_1 : decode cX5_parentCount 1 = .ok (.getfield 19, 3) := by decide +kernel
theorem dX5_parentCount_4 : decode cX5_parentCount 4 = .ok (.invokestatic 35, 3) := by decide +kernel
theorem dX5_parentCount_7 : decode cX5_parentCount 7 = .ok (.ireturn, 1) := by decide +kernel
theorem dX5_addParent_0 : decode cX5_addParent 0 = .ok (.aload_n 0, 1) := by decide +kernel
theorem dX5_addParent_1 : decode cX5_addParent 1 = .ok (.dup, 1) := by decide +kernel
theorem dX5_addParent_2 : decode cX5_addParent 2 = .ok (.getfield 19, 3) := by decide +kernel
theorem dX5_addParent_5 : decode cX5_addParent 5 = .ok (.iconst 1, 1) := by decide +kernel
theorem dX5_addParent_6 : decode cX5_addParent 6 = .ok (.aload_n 1, 1) := by decide +kernel
theorem dX5_addParent_7 : decode cX5_addParent 7 = .ok (.getfield 23, 3) := by decide +kernel
theorem dX5_addParent_10 : decode cX5_addParent 10 = .ok (.ishl, 1) := by decide +kernel
theorem dX5_addParent_11 : decode cX5_addParent 11 = .ok (.ior, 1) := by decide +kernel
theorem dX5_addParent_12 : decode cX5_addParent 12 = .ok (.putfield 19, 3) := by decide +kernel
theorem dX5_addParent_15 : decode cX5_addParent 15 = .ok (.return_, 1) := by decide +kernel
theorem dX6_init_0 : decode cX6_init 0 = .ok (.aload_n 0, 1) := by decide +kernel
theorem dX6_init_1 : decode cX6_init 1 = .ok (.invokespecial 3, 3) := by decide +kernel
theorem dX6_init_4 : decode cX6_init 4 = .ok (.aload_n 0, 1) := by decide +kernel
theorem dX6_init_5 : decode cX6_init 5 = .ok (.bipush 13, 2) := by decide +kernel
theorem dX6_init_7 : decode cX6_init 7 = .ok (.newarray .long, 2) := by decide +kernel
theorem dX6_init_9 : decode cX6_init 9 = .ok (.putfield 9, 3) := by decide +kernel
theorem dX6_init_12 : decode cX6_init 12 = .ok (.aload_n 0, 1) := by decide +kernel
theorem dX6_init_13 : decode cX6_init 13 = .ok (.bipush 13, 2) := by decide +kernel
theorem dX6_init_15 : decode cX6_init 15 = .ok (.newarray .long, 2) := by decide +kernel
theorem dX6_init_17 : decode cX6_init 17 = .ok (.putfield 15, 3) := by decide +kernel
theorem dX6_init_20 : decode cX6_init 20 = .ok (.return_, 1) := by decide +kernel
theorem dX6_isHolder_0 : decode cX6_isHolder 0 = .ok (.iload_n 0, 1) := by decide +kernel
theorem dX6_isHolder_1 : decode cX6_isHolder 1 = .ok (.ifCond .lt 13, 3) := by decide +kernel
theorem dX6_isHolder_4 : decode cX6_isHolder 4 = .ok (.iload_n 0, 1) := by decide +kernel
theorem dX6_isHolder_5 : decode cX6_isHolder 5 = .ok (.bipush 13, 2) := by decide +kernel
theorem dX6_isHolder_7 : decode cX6_isHolder 7 = .ok (.if_icmp .ge 7, 3) := by decide +kernel
theorem dX6_isHolder_10 : decode cX6_isHolder 10 = .ok (.iconst 1, 1) := by decide +kernel
theorem dX6_isHolder_11 : decode cX6_isHolder 11 = .ok (.goto 4, 3) := by decide +kernel
theorem dX6_isHolder_14 : decode cX6_isHolder 14 = .ok (.iconst 0, 1) := by decide +kernel
theorem dX6_isHolder_15 : decode cX6_isHolder 15 = .ok (.ireturn, 1) := by decide +kernel
theorem dX6_startWith_0 : decode cX6_startWith 0 = .ok (.iconst 0, 1) := by decide +kernel
theorem dX6_startWith_1 : decode cX6_startWith 1 = .ok (.istore_n 2, 1) := by decide +kernel
theorem dX6_startWith_2 : decode cX6_startWith 2 = .ok (.iload_n 2, 1) := by decide +kernel
theorem dX6_startWith_3 : decode cX6_startWith 3 = .ok (.bipush 13, 2) := by decide +kernel
theorem dX6_startWith_5 : decode cX6_startWith 5 = .ok (.if_icmp .ge 32, 3) := by decide +kernel
theorem dX6_startWith_8 : decode cX6_startWith 8 = .ok (.aload_n 0, 1) := by decide +kernel
theorem dX6_startWith_9 : decode cX6_startWith 9 = .ok (.getfield 9, 3) := by decide +kernel
theorem dX6_startWith_12 : decode cX6_startWith 12 = .ok (.iload_n 2, 1) := by decide +kernel
theorem dX6_startWith_13 : decode cX6_startWith 13 = .ok (.iload_n 2, 1) := by decide +kernel
theorem dX6_startWith_14 : decode cX6_startWith 14 = .ok (.iload_n 1, 1) := by decide +kernel
theorem dX6_startWith_15 : decode cX6_startWith 15 = .ok (.if_icmp .ne 7, 3) := by decide +kernel
theorem dX6_startWith_18 : decode cX6_startWith 18 = .ok (.lconst 1, 1) := by decide +kernel
theorem dX6_startWith_19 : decode cX6_startWith 19 = .ok (.goto 4, 3) := by decide +kernel
theorem dX6_startWith_22 : decode cX6_startWith 22 = .ok (.lconst 0, 1) := by decide +kernel
theorem dX6_startWith_23 : decode cX6_startWith 23 = .ok (.lastore, 1) := by decide +kernel
theorem dX6_startWith_24 : decode cX6_startWith 24 = .ok (.aload_n 0, 1) := by decide +kernel
theorem dX6_startWith_25 : decode cX6_startWith 25 = .ok (.getfield 15, 3) := by decide +kernel
theorem dX6_startWith_28 : decode cX6_startWith 28 = .ok (.iload_n 2, 1) := by decide +kernel
theorem dX6_startWith_29 : decode cX6_startWith 29 = .ok (.lconst 1, 1) := by decide +kernel
theorem dX6_startWith_30 : decode cX6_startWith 30 = .ok (.lastore, 1) := by decide +kernel
theorem dX6_startWith_31 : decode cX6_startWith 31 = .ok (.iinc 2 1, 3) := by decide +kernel
theorem dX6_startWith_34 : decode cX6_startWith 34 = .ok (.goto (-32), 3) := by decide +kernel
theorem dX6_startWith_37 : decode cX6_startWith 37 = .ok (.return_, 1) := by decide +kernel
theorem dX6_copyFrom_0 : decode cX6_copyFrom 0 = .ok (.iconst 0, 1) := by decide +kernel
theorem dX6_copyFrom_1 : decode cX6_copyFrom 1 = .ok (.istore_n 2, 1) := by decide +kernel
theorem dX6_copyFrom_2 : decode cX6_copyFrom 2 = .ok (.iload_n 2, 1) := by decide +kernel
theorem dX6_copyFrom_3 : decode cX6_copyFrom 3 = .ok (.bipush 13, 2) := by decide +kernel
theorem dX6_copyFrom_5 : decode cX6_copyFrom 5 = .ok (.if_icmp .ge 33, 3) := by decide +kernel
theorem dX6_copyFrom_8 : decode cX6_copyFrom 8 = .ok (.aload_n 0, 1) := by decide +kernel
theorem dX6_copyFrom_9 : decode cX6_copyFrom 9 = .ok (.getfield 9, 3) := by decide +kernel
theorem dX6_copyFrom_12 : decode cX6_copyFrom 12 = .ok (.iload_n 2, 1) := by decide +kernel
theorem dX6_copyFrom_13 : decode cX6_copyFrom 13 = .ok (.aload_n 1, 1) := by decide +kernel
theorem dX6_copyFrom_14 : decode cX6_copyFrom 14 = .ok (.getfield 9, 3) := by decide +kernel
theorem dX6_copyFrom_17 : decode cX6_copyFrom 17 = .ok (.iload_n 2, 1) := by decide +kernel
theorem dX6_copyFrom_18 : decode cX6_copyFrom 18 = .ok (.laload, 1) := by decide +kernel
theorem dX6_copyFrom_19 : decode cX6_copyFrom 19 = .ok (.lastore, 1) := by decide +kernel
theorem dX6_copyFrom_20 : decode cX6_copyFrom 20 = .ok (.aload_n 0, 1) := by decide +kernel
theorem dX6_copyFrom_21 : decode cX6_copyFrom 21 = .ok (.getfield 15, 3) := by decide +kernel
theorem dX6_copyFrom_24 : decode cX6_copyFrom 24 = .ok (.iload_n 2, 1) := by decide +kernel
theorem dX6_copyFrom_25 : decode cX6_copyFrom 25 = .ok (.aload_n 1, 1) := by decide +kernel
theorem dX6_copyFrom_26 : decode cX6_copyFrom 26 = .ok (.getfield 15, 3) := by decide +kernel
theorem dX6_copyFrom_29 : decode cX6_copyFrom 29 = .ok (.iload_n 2, 1) := by decide +kernel
theorem dX6_copyFrom_30 : decode cX6_copyFrom 30 = .ok (.laload, 1) := by decide +kernel
theorem dX6_copyFrom_31 : decode cX6_copyFrom 31 = .ok (.lastore, 1) := by decide +kernel
theorem dX6_copyFrom_32 : decode cX6_copyFrom 32 = .ok (.iinc 2 1, 3) := by decide +kernel
theorem dX6_copyFrom_35 : decode cX6_copyFrom 35 = .ok (.goto (-33), 3) := by decide +kernel
theorem dX6_copyFrom_38 : decode cX6_copyFrom 38 = .ok (.return_, 1) := by decide +kernel
theorem dX6_isEmptyOf_0 : decode cX6_isEmptyOf 0 = .ok (.iload_n 1, 1) := by decide +kernel
theorem dX6_isEmptyOf_1 : decode cX6_isEmptyOf 1 = .ok (.invokestatic 18, 3) := by decide +kernel
theorem dX6_isEmptyOf_4 : decode cX6_isEmptyOf 4 = .ok (.ifCond .eq 14, 3) := by decide +kernel
theorem dX6_isEmptyOf_7 : decode cX6_isEmptyOf 7 = .ok (.aload_n 0, 1) := by decide +kernel
theorem dX6_isEmptyOf_8 : decode cX6_isEmptyOf 8 = .ok (.getfield 9, 3) := by decide +kernel
theorem dX6_isEmptyOf_11 : decode cX6_isEmptyOf 11 = .ok (.iload_n 1, 1) := by decide +kernel
theorem dX6_isEmptyOf_12 : decode cX6_isEmptyOf 12 = .ok (.laload, 1) := by decide +kernel
theorem dX6_isEmptyOf_13 : decode cX6_isEmptyOf 13 = .ok (.lconst 0, 1) := by decide +kernel
theorem dX6_isEmptyOf_14 : decode cX6_isEmptyOf 14 = .ok (.lcmp, 1) := by decide +kernel
theorem dX6_isEmptyOf_15 : decode cX6_isEmptyOf 15 = .ok (.ifCond .ne 7, 3) := by decide +kernel
theorem dX6_isEmptyOf_18 : decode cX6_isEmptyOf 18 = .ok (.iconst 1, 1) := by decide +kernel
theorem dX6_isEmptyOf_19 : decode cX6_isEmptyOf 19 = .ok (.goto 4, 3) := by decide +kernel
theorem dX6_isEmptyOf_22 : decode cX6_isEmptyOf 22 = .ok (.iconst 0, 1) := by decide +kernel
theorem dX6_isEmptyOf_23 : decode cX6_isEmptyOf 23 = .ok (.ireturn, 1) := by decide +kernel
theorem dX6_has_0 : decode cX6_has 0 = .ok (.iload_n 1, 1) := by decide +kernel
theorem dX6_has_1 : decode cX6_has 1 = .ok (.invokestatic 18, 3) := by decide +kernel
theorem dX6_has_4 : decode cX6_has 4 = .ok (.ifCond .eq 29, 3) := by decide +kernel
theorem dX6_has_7 : decode cX6_has 7 = .ok (.aload_n 0, 1) := by decide +kernel
theorem dX6_has_8 : decode cX6_has 8 = .ok (.getfield 9, 3) := by decide +kernel
theorem dX6_has_11 : decode cX6_has 11 = .ok (.iload_n 1, 1) := by decide +kernel
theorem dX6_has_12 : decode cX6_has 12 = .ok (.laload, 1) := by decide +kernel
theorem dX6_has_13 : decode cX6_has 13 = .ok (.iload_n 3, 1) := by decide +kernel
theorem dX6_has_14 : decode cX6_has 14 = .ok (.i2l, 1) := by decide +kernel
theorem dX6_has_15 : decode cX6_has 15 = .ok (.lmul, 1) := by decide +kernel
theorem dX6_has_16 : decode cX6_has 16 = .ok (.iload_n 2, 1) := by decide +kernel
theorem dX6_has_17 : decode cX6_has 17 = .ok (.i2l, 1) := by decide +kernel
theorem dX6_has_18 : decode cX6_has 18 = .ok (.aload_n 0, 1) := by decide +kernel
theorem dX6_has_19 : decode cX6_has 19 = .ok (.getfield 15, 3) := by decide +kernel
theorem dX6_has_22 : decode cX6_has 22 = .ok (.iload_n 1, 1) := by decide +kernel
theorem dX6_has_23 : decode cX6_has 23 = .ok (.laload, 1) := by decide +kernel
theorem dX6_has_24 : decode cX6_has 24 = .ok (.lmul, 1) := by decide +kernel
theorem dX6_has_25 : decode cX6_has 25 = .ok (.lcmp, 1) := by decide +kernel
theorem dX6_has_26 : decode cX6_has 26 = .ok (.ifCond .lt 7, 3) := by decide +kernel
theorem dX6_has_29 : decode cX6_has 29 = .ok (.iconst 1, 1) := by decide +kernel
theorem dX6_has_30 : decode cX6_has 30 = .ok (.goto 4, 3) := by decide +kernel
theorem dX6_has_33 : decode cX6_has 33 = .ok (.iconst 0, 1) := by decide +kernel
theorem dX6_has_34 : decode cX6_has 34 = .ok (.ireturn, 1) := by decide +kernel
theorem dX6_areSmall_0 : decode cX6_areSmall 0 = .ok (.iconst 0, 1) := by decide +kernel
theorem dX6_areSmall_1 : decode cX6_areSmall 1 = .ok (.istore_n 1, 1) := by decide +kernel
theorem dX6_areSmall_2 : decode cX6_areSmall 2 = .ok (.iload_n 1, 1) := by decide +kernel
theorem dX6_areSmall_3 : decode cX6_areSmall 3 = .ok (.bipush 13, 2) := by decide +kernel
theorem dX6_areSmall_5 : decode cX6_areSmall 5 = .ok (.if_icmp .ge 24, 3) := by decide +kernel
theorem dX6_areSmall_8 : decode cX6_areSmall 8 = .ok (.aload_n 0, 1) := by decide +kernel
theorem dX6_areSmall_9 : decode cX6_areSmall 9 = .ok (.getfield 15, 3) := by decide +kernel
theorem dX6_areSmall_12 : decode cX6_areSmall 12 = .ok (.iload_n 1, 1) := by decide +kernel
theorem dX6_areSmall_13 : decode cX6_areSmall 13 = .ok (.laload, 1) := by decide +kernel
theorem dX6_areSmall_14 : decode cX6_areSmall 14 = .ok (.ldc2_w 22, 3) := by decide +kernel
theorem dX6_areSmall_17 : decode cX6_areSmall 17 = .ok (.lcmp, 1) := by decide +kernel
theorem dX6_areSmall_18 : decode cX6_areSmall 18 = .ok (.ifCond .le 5, 3) := by decide +kernel
theorem dX6_areSmall_21 : decode cX6_areSmall 21 = .ok (.iconst 0, 1) := by decide +kernel
theorem dX6_areSmall_22 : decode cX6_areSmall 22 = .ok (.ireturn, 1) := by decide +kernel
theorem dX6_areSmall_23 : decode cX6_areSmall 23 = .ok (.iinc 1 1, 3) := by decide +kernel
theorem dX6_areSmall_26 : decode cX6_areSmall 26 = .ok (.goto (-24), 3) := by decide +kernel
theorem dX6_areSmall_29 : decode cX6_areSmall 29 = .ok (.iconst 1, 1) := by decide +kernel
theorem dX6_areSmall_30 : decode cX6_areSmall 30 = .ok (.ireturn, 1) := by decide +kernel
theorem dX6_termOf_0 : decode cX6_termOf 0 = .ok (.iload_n 1, 1) := by decide +kernel
theorem dX6_termOf_1 : decode cX6_termOf 1 = .ok (.invokestatic 18, 3) := by decide +kernel
theorem dX6_termOf_4 : decode cX6_termOf 4 = .ok (.ifCond .ne 13, 3) := by decide +kernel
theorem dX6_termOf_7 : decode cX6_termOf 7 = .ok (.iload_n 2, 1) := by decide +kernel
theorem dX6_termOf_8 : decode cX6_termOf 8 = .ok (.ifCond .eq 7, 3) := by decide +kernel
theorem dX6_termOf_11 : decode cX6_termOf 11 = .ok (.iconst 1, 1) := by decide +kernel
theorem dX6_termOf_12 : decode cX6_termOf 12 = .ok (.goto 4, 3) := by decide +kernel
theorem dX6_termOf_15 : decode cX6_termOf 15 = .ok (.iconst 0, 1) := by decide +kernel
theorem dX6_termOf_16 : decode cX6_termOf 16 = .ok (.ireturn, 1) := by decide +kernel
theorem dX6_termOf_17 : decode cX6_termOf 17 = .ok (.iload_n 2, 1) := by decide +kernel
theorem dX6_termOf_18 : decode cX6_termOf 18 = .ok (.ifCond .eq 12, 3) := by decide +kernel
theorem dX6_termOf_21 : decode cX6_termOf 21 = .ok (.aload_n 0, 1) := by decide +kernel
theorem dX6_termOf_22 : decode cX6_termOf 22 = .ok (.getfield 15, 3) := by decide +kernel
theorem dX6_termOf_25 : decode cX6_termOf 25 = .ok (.iload_n 1, 1) := by decide +kernel
theorem dX6_termOf_26 : decode cX6_termOf 26 = .ok (.laload, 1) := by decide +kernel
theorem dX6_termOf_27 : decode cX6_termOf 27 = .ok (.goto 9, 3) := by decide +kernel
theorem dX6_termOf_30 : decode cX6_termOf 30 = .ok (.aload_n 0, 1) := by decide +kernel
theorem dX6_termOf_31 : decode cX6_termOf 31 = .ok (.getfield 9, 3) := by decide +kernel
theorem dX6_termOf_34 : decode cX6_termOf 34 = .ok (.iload_n 1, 1) := by decide +kernel
theorem dX6_termOf_35 : decode cX6_termOf 35 = .ok (.laload, 1) := by decide +kernel
theorem dX6_termOf_36 : decode cX6_termOf 36 = .ok (.l2i, 1) := by decide +kernel
theorem dX6_termOf_37 : decode cX6_termOf 37 = .ok (.ireturn, 1) := by decide +kernel
theorem dX6_carryOut_0 : decode cX6_carryOut 0 = .ok (.aload_n 1, 1) := by decide +kernel
theorem dX6_carryOut_1 : decode cX6_carryOut 1 = .ok (.ifnonnull 4, 3) := by decide +kernel
theorem dX6_carryOut_4 : decode cX6_carryOut 4 = .ok (.return_, 1) := by decide +kernel
theorem dX6_carryOut_5 : decode cX6_carryOut 5 = .ok (.aload_n 1, 1) := by decide +kernel
theorem dX6_carryOut_6 : decode cX6_carryOut 6 = .ok (.getfield 24, 3) := by decide +kernel
theorem dX6_carryOut_9 : decode cX6_carryOut 9 = .ok (.ifCond .ne 43, 3) := by decide +kernel
theorem dX6_carryOut_12 : decode cX6_carryOut 12 = .ok (.aload_n 0, 1) := by decide +kernel
theorem dX6_carryOut_13 : decode cX6_carryOut 13 = .ok (.aload_n 1, 1) := by decide +kernel
theorem dX6_carryOut_14 : decode cX6_carryOut 14 = .ok (.getfield 30, 3) := by decide +kernel
theorem dX6_carryOut_17 : decode cX6_carryOut 17 = .ok (.aload_n 1, 1) := by decide +kernel
theorem dX6_carryOut_18 : decode cX6_carryOut 18 = .ok (.getfield 33, 3) := by decide +kernel
theorem dX6_carryOut_21 : decode cX6_carryOut 21 = .ok (.ineg, 1) := by decide +kernel
theorem dX6_carryOut_22 : decode cX6_carryOut 22 = .ok (.i2l, 1) := by decide +kernel
theorem dX6_carryOut_23 : decode cX6_carryOut 23 = .ok (.aload_n 1, 1) := by decide +kernel
theorem dX6_carryOut_24 : decode cX6_carryOut 24 = .ok (.getfield 35, 3) := by decide +kernel
theorem dX6_carryOut_27 : decode cX6_carryOut 27 = .ok (.i2l, 1) := by decide +kernel
theorem dX6_carryOut_28 : decode cX6_carryOut 28 = .ok (.invokevirtual 37, 3) := by decide +kernel
theorem dX6_carryOut_31 : decode cX6_carryOut 31 = .ok (.aload_n 0, 1) := by decide +kernel
theorem dX6_carryOut_32 : decode cX6_carryOut 32 = .ok (.aload_n 1, 1) := by decide +kernel
theorem dX6_carryOut_33 : decode cX6_carryOut 33 = .ok (.getfield 41, 3) := by decide +kernel
theorem dX6_carryOut_36 : decode cX6_carryOut 36 = .ok (.aload_n 1, 1) := by decide +kernel
theorem dX6_carryOut_37 : decode cX6_carryOut 37 = .ok (.getfield 33, 3) := by decide +kernel
theorem dX6_carryOut_40 : decode cX6_carryOut 40 = .ok (.i2l, 1) := by decide +kernel
theorem dX6_carryOut_41 : decode cX6_carryOut 41 = .ok (.aload_n 1, 1) := by decide +kernel
theorem dX6_carryOut_42 : decode cX6_carryOut 42 = .ok (.getfield 35, 3) := by decide +kernel
theorem dX6_carryOut_45 : decode cX6_carryOut 45 = .ok (.i2l, 1) := by decide +kernel
theorem dX6_carryOut_46 : decode cX6_carryOut 46 = .ok (.invokevirtual 37, 3) := by decide +kernel
theorem dX6_carryOut_49 : decode cX6_carryOut 49 = .ok (.goto 36, 3) := by decide +kernel
theorem dX6_carryOut_52 : decode cX6_carryOut 52 = .ok (.aload_n 1, 1) := by decide +kernel
theorem dX6_carryOut_53 : decode cX6_carryOut 53 = .ok (.getfield 30, 3) := by decide +kernel
theorem dX6_carryOut_56 : decode cX6_carryOut 56 = .ok (.invokestatic 18, 3) := by decide +kernel
theorem dX6_carryOut_59 : decode cX6_carryOut 59 = .ok (.ifCond .eq 26, 3) := by decide +kernel
theorem dX6_carryOut_62 : decode cX6_carryOut 62 = .ok (.aload_n 0, 1) := by decide +kernel
theorem dX6_carryOut_63 : decode cX6_carryOut 63 = .ok (.aload_n 1, 1) := by decide +kernel
theorem dX6_carryOut_64 : decode cX6_carryOut 64 = .ok (.aload_n 0, 1) := by decide +kernel
theorem dX6_carryOut_65 : decode cX6_carryOut 65 = .ok (.getfield 9, 3) := by decide +kernel
theorem dX6_carryOut_68 : decode cX6_carryOut 68 = .ok (.aload_n 1, 1) := by decide +kernel
theorem dX6_carryOut_69 : decode cX6_carryOut 69 = .ok (.getfield 30, 3) := by decide +kernel
theorem dX6_carryOut_72 : decode cX6_carryOut 72 = .ok (.laload, 1) := by decide +kernel
theorem dX6_carryOut_73 : decode cX6_carryOut 73 = .ok (.aload_n 0, 1) := by decide +kernel
theorem dX6_carryOut_74 : decode cX6_carryOut 74 = .ok (.getfield 15, 3) := by decide +kernel
theorem dX6_carryOut_77 : decode cX6_carryOut 77 = .ok (.aload_n 1, 1) := by decide +kernel
theorem dX6_carryOut_78 : decode cX6_carryOut 78 = .ok (.getfield 30, 3) := by decide +kernel
theorem dX6_carryOut_81 : decode cX6_carryOut 81 = .ok (.laload, 1) := by decide +kernel
theorem dX6_carryOut_82 : decode cX6_carryOut 82 = .ok (.invokevirtual 44, 3) := by decide +kernel
theorem dX6_carryOut_85 : decode cX6_carryOut 85 = .ok (.return_, 1) := by decide +kernel
theorem dX6_bequeath_0 : decode cX6_bequeath 0 = .ok (.aload_n 0, 1) := by decide +kernel
theorem dX6_bequeath_1 : decode cX6_bequeath 1 = .ok (.aload_n 1, 1) := by decide +kernel
theorem dX6_bequeath_2 : decode cX6_bequeath 2 = .ok (.getfield 30, 3) := by decide +kernel
theorem dX6_bequeath_5 : decode cX6_bequeath 5 = .ok (.lload_n 2, 1) := by decide +kernel
theorem dX6_bequeath_6 : decode cX6_bequeath 6 = .ok (.lneg, 1) := by decide +kernel
theorem dX6_bequeath_7 : decode cX6_bequeath 7 = .ok (.lload 4, 2) := by decide +kernel
theorem dX6_bequeath_9 : decode cX6_bequeath 9 = .ok (.invokevirtual 37, 3) := by decide +kernel
theorem dX6_bequeath_12 : decode cX6_bequeath 12 = .ok (.aload_n 0, 1) := by decide +kernel
theorem dX6_bequeath_13 : decode cX6_bequeath 13 = .ok (.aload_n 1, 1) := by decide +kernel
theorem dX6_bequeath_14 : decode cX6_bequeath 14 = .ok (.getfield 41, 3) := by decide +kernel
theorem dX6_bequeath_17 : decode cX6_bequeath 17 = .ok (.lload_n 2, 1) := by decide +kernel
theorem dX6_bequeath_18 : decode cX6_bequeath 18 = .ok (.aload_n 1, 1) := by decide +kernel
theorem dX6_bequeath_19 : decode cX6_bequeath 19 = .ok (.getfield 33, 3) := by decide +kernel
theorem dX6_bequeath_22 : decode cX6_bequeath 22 = .ok (.i2l, 1) := by decide +kernel
theorem dX6_bequeath_23 : decode cX6_bequeath 23 = .ok (.lmul, 1) := by decide +kernel
theorem dX6_bequeath_24 : decode cX6_bequeath 24 = .ok (.lload 4, 2) := by decide +kernel
theorem dX6_bequeath_26 : decode cX6_bequeath 26 = .ok (.aload_n 1, 1) := by decide +kernel
theorem dX6_bequeath_27 : decode cX6_bequeath 27 = .ok (.getfield 35, 3) := by decide +kernel
theorem dX6_bequeath_30 : decode cX6_bequeath 30 = .ok (.i2l, 1) := by decide +kernel
theorem dX6_bequeath_31 : decode cX6_bequeath 31 = .ok (.lmul, 1) := by decide +kernel
theorem dX6_bequeath_32 : decode cX6_bequeath 32 = .ok (.invokevirtual 37, 3) := by decide +kernel
theorem dX6_bequeath_35 : decode cX6_bequeath 35 = .ok (.lload_n 2, 1) := by decide +kernel
theorem dX6_bequeath_36 : decode cX6_bequeath 36 = .ok (.aload_n 1, 1) := by decide +kernel
theorem dX6_bequeath_37 : decode cX6_bequeath 37 = .ok (.getfield 35, 3) := by decide +kernel
theorem dX6_bequeath_40 : decode cX6_bequeath 40 = .ok (.aload_n 1, 1) := by decide +kernel
theorem dX6_bequeath_41 : decode cX6_bequeath 41 = .ok (.getfield 33, 3) := by decide +kernel
theorem dX6_bequeath_44 : decode cX6_bequeath 44 = .ok (.isub, 1) := by decide +kernel
theorem dX6_bequeath_45 : decode cX6_bequeath 45 = .ok (.i2l, 1) := by decide +kernel
theorem dX6_bequeath_46 : decode cX6_bequeath 46 = .ok (.lmul, 1) := by decide +kernel
theorem dX6_bequeath_47 : decode cX6_bequeath 47 = .ok (.lstore 6, 2) := by decide +kernel
theorem dX6_bequeath_49 : decode cX6_bequeath 49 = .ok (.lload 4, 2) := by decide +kernel
theorem dX6_bequeath_51 : decode cX6_bequeath 51 = .ok (.aload_n 1, 1) := by decide +kernel
theorem dX6_bequeath_52 : decode cX6_bequeath 52 = .ok (.getfield 35, 3) := by decide +kernel
theorem dX6_bequeath_55 : decode cX6_bequeath 55 = .ok (.i2l, 1) := by decide +kernel
theorem dX6_bequeath_56 : decode cX6_bequeath 56 = .ok (.lmul, 1) := by decide +kernel
theorem dX6_bequeath_57 : decode cX6_bequeath 57 = .ok (.aload_n 1, 1) := by decide +kernel
theorem dX6_bequeath_58 : decode cX6_bequeath 58 = .ok (.getfield 24, 3) := by decide +kernel
theorem dX6_bequeath_61 : decode cX6_bequeath 61 = .ok (.invokestatic 48, 3) := by decide +kernel
theorem dX6_bequeath_64 : decode cX6_bequeath 64 = .ok (.i2l, 1) := by decide +kernel
theorem dX6_bequeath_65 : decode cX6_bequeath 65 = .ok (.lmul, 1) := by decide +kernel
theorem dX6_bequeath_66 : decode cX6_bequeath 66 = .ok (.lstore 8, 2) := by decide +kernel
theorem dX6_bequeath_68 : decode cX6_bequeath 68 = .ok (.iconst 0, 1) := by decide +kernel
theorem dX6_bequeath_69 : decode cX6_bequeath 69 = .ok (.istore 10, 2) := by decide +kernel
theorem dX6_bequeath_71 : decode cX6_bequeath 71 = .ok (.iload 10, 2) := by decide +kernel
theorem dX6_bequeath_73 : decode cX6_bequeath 73 = .ok (.bipush 13, 2) := by decide +kernel
theorem dX6_bequeath_75 : decode cX6_bequeath 75 = .ok (.if_icmp .ge 31, 3) := by decide +kernel
theorem dX6_bequeath_78 : decode cX6_bequeath 78 = .ok (.aload_n 1, 1) := by decide +kernel
theorem dX6_bequeath_79 : decode cX6_bequeath 79 = .ok (.getfield 24, 3) := by decide +kernel
theorem dX6_bequeath_82 : decode cX6_bequeath 82 = .ok (.iconst 1, 1) := by decide +kernel
theorem dX6_bequeath_83 : decode cX6_bequeath 83 = .ok (.iload 10, 2) := by decide +kernel
theorem dX6_bequeath_85 : decode cX6_bequeath 85 = .ok (.ishl, 1) := by decide +kernel
theorem dX6_bequeath_86 : decode cX6_bequeath 86 = .ok (.iand, 1) := by decide +kernel
theorem dX6_bequeath_87 : decode cX6_bequeath 87 = .ok (.ifCond .eq 13, 3) := by decide +kernel
theorem dX6_bequeath_90 : decode cX6_bequeath 90 = .ok (.aload_n 0, 1) := by decide +kernel
theorem dX6_bequeath_91 : decode cX6_bequeath 91 = .ok (.iload 10, 2) := by decide +kernel
theorem dX6_bequeath_93 : decode cX6_bequeath 93 = .ok (.lload 6, 2) := by decide +kernel
theorem dX6_bequeath_95 : decode cX6_bequeath 95 = .ok (.lload 8, 2) := by decide +kernel
theorem dX6_bequeath_97 : decode cX6_bequeath 97 = .ok (.invokevirtual 37, 3) := by decide +kernel
theorem dX6_bequeath_100 : decode cX6_bequeath 100 = .ok (.iinc 10 1, 3) := by decide +kernel
theorem dX6_bequeath_103 : decode cX6_bequeath 103 = .ok (.goto (-32), 3) := by decide +kernel
theorem dX6_bequeath_106 : decode cX6_bequeath 106 = .ok (.return_, 1) := by decide +kernel
theorem dX6_change_0 : decode cX6_change 0 = .ok (.iload_n 1, 1) := by decide +kernel
theorem dX6_change_1 : decode cX6_change 1 = .ok (.invokestatic 18, 3) := by decide +kernel
theorem dX6_change_4 : decode cX6_change 4 = .ok (.ifCond .ne 4, 3) := by decide +kernel
theorem dX6_change_7 : decode cX6_change 7 = .ok (.return_, 1) := by decide +kernel
theorem dX6_change_8 : decode cX6_change 8 = .ok (.aload_n 0, 1) := by decide +kernel
theorem dX6_change_9 : decode cX6_change 9 = .ok (.getfield 15, 3) := by decide +kernel
theorem dX6_change_12 : decode cX6_change 12 = .ok (.iload_n 1, 1) := by decide +kernel
theorem dX6_change_13 : decode cX6_change 13 = .ok (.laload, 1) := by decide +kernel
theorem dX6_change_14 : decode cX6_change 14 = .ok (.lload 4, 2) := by decide +kernel
theorem dX6_change_16 : decode cX6_change 16 = .ok (.invokestatic 54, 3) := by decide +kernel
theorem dX6_change_19 : decode cX6_change 19 = .ok (.lstore 6, 2) := by decide +kernel
theorem dX6_change_21 : decode cX6_change 21 = .ok (.aload_n 0, 1) := by decide +kernel
theorem dX6_change_22 : decode cX6_change 22 = .ok (.getfield 9, 3) := by decide +kernel
theorem dX6_change_25 : decode cX6_change 25 = .ok (.iload_n 1, 1) := by decide +kernel
theorem dX6_change_26 : decode cX6_change 26 = .ok (.laload, 1) := by decide +kernel
theorem dX6_change_27 : decode cX6_change 27 = .ok (.lload 4, 2) := by decide +kernel
theorem dX6_change_29 : decode cX6_change 29 = .ok (.lload 6, 2) := by decide +kernel
theorem dX6_change_31 : decode cX6_change 31 = .ok (.ldiv, 1) := by decide +kernel
theorem dX6_change_32 : decode cX6_change 32 = .ok (.lmul, 1) := by decide +kernel
theorem dX6_change_33 : decode cX6_change 33 = .ok (.lload_n 2, 1) := by decide +kernel
theorem dX6_change_34 : decode cX6_change 34 = .ok (.aload_n 0, 1) := by decide +kernel
theorem dX6_change_35 : decode cX6_change 35 = .ok (.getfield 15, 3) := by decide +kernel
theorem dX6_change_38 : decode cX6_change 38 = .ok (.iload_n 1, 1) := by decide +kernel
theorem dX6_change_39 : decode cX6_change 39 = .ok (.laload, 1) := by decide +kernel
theorem dX6_change_40 : decode cX6_change 40 = .ok (.lload 6, 2) := by decide +kernel
theorem dX6_change_42 : decode cX6_change 42 = .ok (.ldiv, 1) := by decide +kernel
theorem dX6_change_43 : decode cX6_change 43 = .ok (.lmul, 1) := by decide +kernel
theorem dX6_change_44 : decode cX6_change 44 = .ok (.ladd, 1) := by decide +kernel
theorem dX6_change_45 : decode cX6_change 45 = .ok (.lstore 8, 2) := by decide +kernel
theorem dX6_change_47 : decode cX6_change 47 = .ok (.aload_n 0, 1) := by decide +kernel
theorem dX6_change_48 : decode cX6_change 48 = .ok (.getfield 15, 3) := by decide +kernel
theorem dX6_change_51 : decode cX6_change 51 = .ok (.iload_n 1, 1) := by decide +kernel
theorem dX6_change_52 : decode cX6_change 52 = .ok (.laload, 1) := by decide +kernel
theorem dX6_change_53 : decode cX6_change 53 = .ok (.lload 6, 2) := by decide +kernel
theorem dX6_change_55 : decode cX6_change 55 = .ok (.ldiv, 1) := by decide +kernel
theorem dX6_change_56 : decode cX6_change 56 = .ok (.lload 4, 2) := by decide +kernel
theorem dX6_change_58 : decode cX6_change 58 = .ok (.lmul, 1) := by decide +kernel
theorem dX6_change_59 : decode cX6_change 59 = .ok (.lstore 10, 2) := by decide +kernel
theorem dX6_change_61 : decode cX6_change 61 = .ok (.lload 8, 2) := by decide +kernel
theorem dX6_change_63 : decode cX6_change 63 = .ok (.lload 10, 2) := by decide +kernel
theorem dX6_change_65 : decode cX6_change 65 = .ok (.invokestatic 54, 3) := by decide +kernel
theorem dX6_change_68 : decode cX6_change 68 = .ok (.lstore 12, 2) := by decide +kernel
theorem dX6_change_70 : decode cX6_change 70 = .ok (.aload_n 0, 1) := by decide +kernel
theorem dX6_change_71 : decode cX6_change 71 = .ok (.getfield 9, 3) := by decide +kernel
theorem dX6_change_74 : decode cX6_change 74 = .ok (.iload_n 1, 1) := by decide +kernel
theorem dX6_change_75 : decode cX6_change 75 = .ok (.lload 8, 2) := by decide +kernel
theorem dX6_change_77 : decode cX6_change 77 = .ok (.lload 12, 2) := by decide +kernel
theorem dX6_change_79 : decode cX6_change 79 = .ok (.ldiv, 1) := by decide +kernel
theorem dX6_change_80 : decode cX6_change 80 = .ok (.lastore, 1) := by decide +kernel
theorem dX6_change_81 : decode cX6_change 81 = .ok (.aload_n 0, 1) := by decide +kernel
theorem dX6_change_82 : decode cX6_change 82 = .ok (.getfield 15, 3) := by decide +kernel
theorem dX6_change_85 : decode cX6_change 85 = .ok (.iload_n 1, 1) := by decide +kernel
theorem dX6_change_86 : decode cX6_change 86 = .ok (.lload 10, 2) := by decide +kernel
theorem dX6_change_88 : decode cX6_change 88 = .ok (.lload 12, 2) := by decide +kernel
theorem dX6_change_90 : decode cX6_change 90 = .ok (.ldiv, 1) := by decide +kernel
theorem dX6_change_91 : decode cX6_change 91 = .ok (.lastore, 1) := by decide +kernel
theorem dX6_change_92 : decode cX6_change 92 = .ok (.return_, 1) := by decide +kernel
theorem dX6_commonDivisor_0 : decode cX6_commonDivisor 0 = .ok (.lload_n 0, 1) := by decide +kernel
theorem dX6_commonDivisor_1 : decode cX6_commonDivisor 1 = .ok (.lstore 4, 2) := by decide +kernel
theorem dX6_commonDivisor_3 : decode cX6_commonDivisor 3 = .ok (.lload_n 2, 1) := by decide +kernel
theorem dX6_commonDivisor_4 : decode cX6_commonDivisor 4 = .ok (.lstore 6, 2) := by decide +kernel
theorem dX6_commonDivisor_6 : decode cX6_commonDivisor 6 = .ok (.iconst 0, 1) := by decide +kernel
theorem dX6_commonDivisor_7 : decode cX6_commonDivisor 7 = .ok (.istore 8, 2) := by decide +kernel
theorem dX6_commonDivisor_9 : decode cX6_commonDivisor 9 = .ok (.iload 8, 2) := by decide +kernel
theorem dX6_commonDivisor_11 : decode cX6_commonDivisor 11 = .ok (.sipush 200, 3) := by decide +kernel
theorem dX6_commonDivisor_14 : decode cX6_commonDivisor 14 = .ok (.if_icmp .ge 31, 3) := by decide +kernel
theorem dX6_commonDivisor_17 : decode cX6_commonDivisor 17 = .ok (.lload 6, 2) := by decide +kernel
theorem dX6_commonDivisor_19 : decode cX6_commonDivisor 19 = .ok (.lconst 0, 1) := by decide +kernel
theorem dX6_commonDivisor_20 : decode cX6_commonDivisor 20 = .ok (.lcmp, 1) := by decide +kernel
theorem dX6_commonDivisor_21 : decode cX6_commonDivisor 21 = .ok (.ifCond .eq 24, 3) := by decide +kernel
theorem dX6_commonDivisor_24 : decode cX6_commonDivisor 24 = .ok (.lload 4, 2) := by decide +kernel
theorem dX6_commonDivisor_26 : decode cX6_commonDivisor 26 = .ok (.lload 6, 2) := by decide +kernel
theorem dX6_commonDivisor_28 : decode cX6_commonDivisor 28 = .ok (.lrem, 1) := by decide +kernel
theorem dX6_commonDivisor_29 : decode cX6_commonDivisor 29 = .ok (.lstore 9, 2) := by decide +kernel
theorem dX6_commonDivisor_31 : decode cX6_commonDivisor 31 = .ok (.lload 6, 2) := by decide +kernel
theorem dX6_commonDivisor_33 : decode cX6_commonDivisor 33 = .ok (.lstore 4, 2) := by decide +kernel
theorem dX6_commonDivisor_35 : decode cX6_commonDivisor 35 = .ok (.lload 9, 2) := by decide +kernel
theorem dX6_commonDivisor_37 : decode cX6_commonDivisor 37 = .ok (.lstore 6, 2) := by decide +kernel
theorem dX6_commonDivisor_39 : decode cX6_commonDivisor 39 = .ok (.iinc 8 1, 3) := by decide +kernel
theorem dX6_commonDivisor_42 : decode cX6_commonDivisor 42 = .ok (.goto (-33), 3) := by decide +kernel
theorem dX6_commonDivisor_45 : decode cX6_commonDivisor 45 = .ok (.lload 4, 2) := by decide +kernel
theorem dX6_commonDivisor_47 : decode cX6_commonDivisor 47 = .ok (.lconst 1, 1) := by decide +kernel
theorem dX6_commonDivisor_48 : decode cX6_commonDivisor 48 = .ok (.lcmp, 1) := by decide +kernel
theorem dX6_commonDivisor_49 : decode cX6_commonDivisor 49 = .ok (.ifCond .ge 7, 3) := by decide +kernel
theorem dX6_commonDivisor_52 : decode cX6_commonDivisor 52 = .ok (.lconst 1, 1) := by decide +kernel
theorem dX6_commonDivisor_53 : decode cX6_commonDivisor 53 = .ok (.goto 5, 3) := by decide +kernel
theorem dX6_commonDivisor_56 : decode cX6_commonDivisor 56 = .ok (.lload 4, 2) := by decide +kernel
theorem dX6_commonDivisor_58 : decode cX6_commonDivisor 58 = .ok (.lreturn, 1) := by decide +kernel
theorem dX7_init_0 : decode cX7_init 0 = .ok (.aload_n 0, 1) := by decide +kernel
theorem dX7_init_1 : decode cX7_init 1 = .ok (.invokespecial 1, 3) := by decide +kernel
theorem dX7_init_4 : decode cX7_init 4 = .ok (.aload_n 0, 1) := by decide +kernel
theorem dX7_init_5 : decode cX7_init 5 = .ok (.new 7, 3) := by decide +kernel
theorem dX7_init_8 : decode cX7_init 8 = .ok (.dup, 1) := by decide +kernel
theorem dX7_init_9 : decode cX7_init 9 = .ok (.invokespecial 9, 3) := by decide +kernel
theorem dX7_init_12 : decode cX7_init 12 = .ok (.putfield 10, 3) := by decide +kernel
theorem dX7_init_15 : decode cX7_init 15 = .ok (.aload_n 0, 1) := by decide +kernel
theorem dX7_init_16 : decode cX7_init 16 = .ok (.iload_n 1, 1) := by decide +kernel
theorem dX7_init_17 : decode cX7_init 17 = .ok (.putfield 16, 3) := by decide +kernel
theorem dX7_init_20 : decode cX7_init 20 = .ok (.aload_n 0, 1) := by decide +kernel
theorem dX7_init_21 : decode cX7_init 21 = .ok (.iload_n 2, 1) := by decide +kernel
theorem dX7_init_22 : decode cX7_init 22 = .ok (.putfield 20, 3) := by decide +kernel
theorem dX7_init_25 : decode cX7_init 25 = .ok (.aload_n 0, 1) := by decide +kernel
theorem dX7_init_26 : decode cX7_init 26 = .ok (.iload_n 3, 1) := by decide +kernel
theorem dX7_init_27 : decode cX7_init 27 = .ok (.putfield 23, 3) := by decide +kernel
theorem dX7_init_30 : decode cX7_init 30 = .ok (.aload_n 0, 1) := by decide +kernel
theorem dX7_init_31 : decode cX7_init 31 = .ok (.getfield 10, 3) := by decide +kernel
theorem dX7_init_34 : decode cX7_init 34 = .ok (.iload_n 2, 1) := by decide +kernel
theorem dX7_init_35 : decode cX7_init 35 = .ok (.invokevirtual 26, 3) := by decide +kernel
theorem dX7_init_38 : decode cX7_init 38 = .ok (.return_, 1) := by decide +kernel
theorem dX8_init_0 : decode cX8_init 0 = .ok (.aload_n 0, 1) := by decide +kernel
theorem dX8_init_1 : decode cX8_init 1 = .ok (.invokespecial 3, 3) := by decide +kernel
theorem dX8_init_4 : decode cX8_init 4 = .ok (.aload_n 0, 1) := by decide +kernel
theorem dX8_init_5 : decode cX8_init 5 = .ok (.new 9, 3) := by decide +kernel
theorem dX8_init_8 : decode cX8_init 8 = .ok (.dup, 1) := by decide +kernel
theorem dX8_init_9 : decode cX8_init 9 = .ok (.invokespecial 11, 3) := by decide +kernel
theorem dX8_init_12 : decode cX8_init 12 = .ok (.putfield 12, 3) := by decide +kernel
theorem dX8_init_15 : decode cX8_init 15 = .ok (.aload_n 0, 1) := by decide +kernel
theorem dX8_init_16 : decode cX8_init 16 = .ok (.new 9, 3) := by decide +kernel
theorem dX8_init_19 : decode cX8_init 19 = .ok (.dup, 1) := by decide +kernel
theorem dX8_init_20 : decode cX8_init 20 = .ok (.invokespecial 11, 3) := by decide +kernel
theorem dX8_init_23 : decode cX8_init 23 = .ok (.putfield 16, 3) := by decide +kernel
theorem dX8_init_26 : decode cX8_init 26 = .ok (.aload_n 0, 1) := by decide +kernel
theorem dX8_init_27 : decode cX8_init 27 = .ok (.new 9, 3) := by decide +kernel
theorem dX8_init_30 : decode cX8_init 30 = .ok (.dup, 1) := by decide +kernel
theorem dX8_init_31 : decode cX8_init 31 = .ok (.invokespecial 11, 3) := by decide +kernel
theorem dX8_init_34 : decode cX8_init 34 = .ok (.putfield 19, 3) := by decide +kernel
theorem dX8_init_37 : decode cX8_init 37 = .ok (.aload_n 0, 1) := by decide +kernel
theorem dX8_init_38 : decode cX8_init 38 = .ok (.new 9, 3) := by decide +kernel
theorem dX8_init_41 : decode cX8_init 41 = .ok (.dup, 1) := by decide +kernel
theorem dX8_init_42 : decode cX8_init 42 = .ok (.invokespecial 11, 3) := by decide +kernel
theorem dX8_init_45 : decode cX8_init 45 = .ok (.putfield 22, 3) := by decide +kernel
theorem dX8_init_48 : decode cX8_init 48 = .ok (.aload_n 0, 1) := by decide +kernel
theorem dX8_init_49 : decode cX8_init 49 = .ok (.new 25, 3) := by decide +kernel
theorem dX8_init_52 : decode cX8_init 52 = .ok (.dup, 1) := by decide +kernel
theorem dX8_init_53 : decode cX8_init 53 = .ok (.invokespecial 27, 3) := by decide +kernel
theorem dX8_init_56 : decode cX8_init 56 = .ok (.putfield 28, 3) := by decide +kernel
theorem dX8_init_59 : decode cX8_init 59 = .ok (.aload_n 0, 1) := by decide +kernel
theorem dX8_init_60 : decode cX8_init 60 = .ok (.iconst 0, 1) := by decide +kernel
theorem dX8_init_61 : decode cX8_init 61 = .ok (.putfield 32, 3) := by decide +kernel
theorem dX8_init_64 : decode cX8_init 64 = .ok (.aload_n 0, 1) := by decide +kernel
theorem dX8_init_65 : decode cX8_init 65 = .ok (.iconst 0, 1) := by decide +kernel
theorem dX8_init_66 : decode cX8_init 66 = .ok (.putfield 36, 3) := by decide +kernel
theorem dX8_init_69 : decode cX8_init 69 = .ok (.aload_n 0, 1) := by decide +kernel
theorem dX8_init_70 : decode cX8_init 70 = .ok (.lconst 0, 1) := by decide +kernel
theorem dX8_init_71 : decode cX8_init 71 = .ok (.putfield 39, 3) := by decide +kernel
theorem dX8_init_74 : decode cX8_init 74 = .ok (.return_, 1) := by decide +kernel
theorem dX8_person_0 : decode cX8_person 0 = .ok (.iload_n 1, 1) := by decide +kernel
theorem dX8_person_1 : decode cX8_person 1 = .ok (.ifCond .lt 9, 3) := by decide +kernel
theorem dX8_person_4 : decode cX8_person 4 = .ok (.iload_n 1, 1) := by decide +kernel
theorem dX8_person_5 : decode cX8_person 5 = .ok (.bipush 99, 2) := by decide +kernel
theorem dX8_person_7 : decode cX8_person 7 = .ok (.if_icmp .le 13, 3) := by decide +kernel
theorem dX8_person_10 : decode cX8_person 10 = .ok (.new 43, 3) := by decide +kernel
theorem dX8_person_13 : decode cX8_person 13 = .ok (.dup, 1) := by decide +kernel
theorem dX8_person_14 : decode cX8_person 14 = .ok (.ldc 45, 2) := by decide +kernel
theorem dX8_person_16 : decode cX8_person 16 = .ok (.invokespecial 47, 3) := by decide +kernel
theorem dX8_person_19 : decode cX8_person 19 = .ok (.athrow, 1) := by decide +kernel
theorem dX8_person_20 : decode cX8_person 20 = .ok (.aload_n 0, 1) := by decide +kernel
theorem dX8_person_21 : decode cX8_person 21 = .ok (.getfield 12, 3) := by decide +kernel
theorem dX8_person_24 : decode cX8_person 24 = .ok (.invokevirtual 50, 3) := by decide +kernel
theorem dX8_person_27 : decode cX8_person 27 = .ok (.bipush 12, 2) := by decide +kernel
theorem dX8_person_29 : decode cX8_person 29 = .ok (.if_icmp .lt 13, 3) := by decide +kernel
theorem dX8_person_32 : decode cX8_person 32 = .ok (.new 54, 3) := by decide +kernel
theorem dX8_person_35 : decode cX8_person 35 = .ok (.dup, 1) := by decide +kernel
theorem dX8_person_36 : decode cX8_person 36 = .ok (.ldc 56, 2) := by decide +kernel
theorem dX8_person_38 : decode cX8_person 38 = .ok (.invokespecial 58, 3) := by decide +kernel
theorem dX8_person_41 : decode cX8_person 41 = .ok (.athrow, 1) := by decide +kernel
theorem dX8_person_42 : decode cX8_person 42 = .ok (.new 59, 3) := by decide +kernel
theorem dX8_person_45 : decode cX8_person 45 = .ok (.dup, 1) := by decide +kernel
theorem dX8_person_46 : decode cX8_person 46 = .ok (.aload_n 0, 1) := by decide +kernel
theorem dX8_person_47 : decode cX8_person 47 = .ok (.getfield 12, 3) := by decide +kernel
theorem dX8_person_50 : decode cX8_person 50 = .ok (.invokevirtual 50, 3) := by decide +kernel
theorem dX8_person_53 : decode cX8_person 53 = .ok (.iload_n 1, 1) := by decide +kernel
theorem dX8_person_54 : decode cX8_person 54 = .ok (.aload_n 0, 1) := by decide +kernel
theorem dX8_person_55 : decode cX8_person 55 = .ok (.getfield 32, 3) := by decide +kernel
theorem dX8_person_58 : decode cX8_person 58 = .ok (.iload_n 2, 1) := by decide +kernel
theorem dX8_person_59 : decode cX8_person 59 = .ok (.invokespecial 61, 3) := by decide +kernel
theorem dX8_person_62 : decode cX8_person 62 = .ok (.astore_n 3, 1) := by decide +kernel
theorem dX8_person_63 : decode cX8_person 63 = .ok (.aload_n 0, 1) := by decide +kernel
theorem dX8_person_64 : decode cX8_person 64 = .ok (.getfield 12, 3) := by decide +kernel
theorem dX8_person_67 : decode cX8_person 67 = .ok (.aload_n 3, 1) := by decide +kernel
theorem dX8_person_68 : decode cX8_person 68 = .ok (.invokevirtual 64, 3) := by decide +kernel
theorem dX8_person_71 : decode cX8_person 71 = .ok (.pop, 1) := by decide +kernel
theorem dX8_person_72 : decode cX8_person 72 = .ok (.aload_n 3, 1) := by decide +kernel
theorem dX8_person_73 : decode cX8_person 73 = .ok (.getfield 68, 3) := by decide +kernel
theorem dX8_person_76 : decode cX8_person 76 = .ok (.ireturn, 1) := by decide +kernel
theorem dX8_child_0 : decode cX8_child 0 = .ok (.aload_n 0, 1) := by decide +kernel
theorem dX8_child_1 : decode cX8_child 1 = .ok (.iload_n 1, 1) := by decide +kernel
theorem dX8_child_2 : decode cX8_child 2 = .ok (.invokevirtual 71, 3) := by decide +kernel
theorem dX8_child_5 : decode cX8_child 5 = .ok (.astore_n 3, 1) := by decide +kernel
theorem dX8_child_6 : decode cX8_child 6 = .ok (.aload_n 0, 1) := by decide +kernel
theorem dX8_child_7 : decode cX8_child 7 = .ok (.iload_n 2, 1) := by decide +kernel
theorem dX8_child_8 : decode cX8_child 8 = .ok (.invokevirtual 71, 3) := by decide +kernel
theorem dX8_child_11 : decode cX8_child 11 = .ok (.astore 4, 2) := by decide +kernel
theorem dX8_child_13 : decode cX8_child 13 = .ok (.iload_n 2, 1) := by decide +kernel
theorem dX8_child_14 : decode cX8_child 14 = .ok (.iload_n 1, 1) := by decide +kernel
theorem dX8_child_15 : decode cX8_child 15 = .ok (.if_icmp .gt 13, 3) := by decide +kernel
theorem dX8_child_18 : decode cX8_child 18 = .ok (.new 43, 3) := by decide +kernel
theorem dX8_child_21 : decode cX8_child 21 = .ok (.dup, 1) := by decide +kernel
theorem dX8_child_22 : decode cX8_child 22 = .ok (.ldc 75, 2) := by decide +kernel
theorem dX8_child_24 : decode cX8_child 24 = .ok (.invokespecial 47, 3) := by decide +kernel
theorem dX8_child_27 : decode cX8_child 27 = .ok (.athrow, 1) := by decide +kernel
theorem dX8_child_28 : decode cX8_child 28 = .ok (.aload 4, 2) := by decide +kernel
theorem dX8_child_30 : decode cX8_child 30 = .ok (.invokevirtual 77, 3) := by decide +kernel
theorem dX8_child_33 : decode cX8_child 33 = .ok (.iconst 2, 1) := by decide +kernel
theorem dX8_child_34 : decode cX8_child 34 = .ok (.if_icmp .ge 12, 3) := by decide +kernel
theorem dX8_child_37 : decode cX8_child 37 = .ok (.aload 4, 2) := by decide +kernel
theorem dX8_child_39 : decode cX8_child 39 = .ok (.aload_n 3, 1) := by decide +kernel
theorem dX8_child_40 : decode cX8_child 40 = .ok (.invokevirtual 80, 3) := by decide +kernel
theorem dX8_child_43 : decode cX8_child 43 = .ok (.ifCond .eq 13, 3) := by decide +kernel
theorem dX8_child_46 : decode cX8_child 46 = .ok (.new 54, 3) := by decide +kernel
theorem dX8_child_49 : decode cX8_child 49 = .ok (.dup, 1) := by decide +kernel
theorem dX8_child_50 : decode cX8_child 50 = .ok (.ldc 84, 2) := by decide +kernel
theorem dX8_child_52 : decode cX8_child 52 = .ok (.invokespecial 58, 3) := by decide +kernel
theorem dX8_child_55 : decode cX8_child 55 = .ok (.athrow, 1) := by decide +kernel
theorem dX8_child_56 : decode cX8_child 56 = .ok (.aload_n 3, 1) := by decide +kernel
theorem dX8_child_57 : decode cX8_child 57 = .ok (.aload 4, 2) := by decide +kernel
theorem dX8_child_59 : decode cX8_child 59 = .ok (.invokestatic 86, 3) := by decide +kernel
theorem dX8_child_62 : decode cX8_child 62 = .ok (.aload 4, 2) := by decide +kernel
theorem dX8_child_64 : decode cX8_child 64 = .ok (.aload_n 3, 1) := by decide +kernel
theorem dX8_child_65 : decode cX8_child 65 = .ok (.invokevirtual 90, 3) := by decide +kernel
theorem dX8_child_68 : decode cX8_child 68 = .ok (.aload 4, 2) := by decide +kernel
theorem dX8_child_70 : decode cX8_child 70 = .ok (.invokevirtual 77, 3) := by decide +kernel
theorem dX8_child_73 : decode cX8_child 73 = .ok (.ireturn, 1) := by decide +kernel
theorem dX8_guard_0 : decode cX8_guard 0 = .ok (.aload_n 0, 1) := by decide +kernel
theorem dX8_guard_1 : decode cX8_guard 1 = .ok (.iload_n 1, 1) := by decide +kernel
theorem dX8_guard_2 : decode cX8_guard 2 = .ok (.invokevirtual 71, 3) := by decide +kernel
theorem dX8_guard_5 : decode cX8_guard 5 = .ok (.astore_n 3, 1) := by decide +kernel
theorem dX8_guard_6 : decode cX8_guard 6 = .ok (.iload_n 2, 1) := by decide +kernel
theorem dX8_guard_7 : decode cX8_guard 7 = .ok (.iconst (-1), 1) := by decide +kernel
theorem dX8_guard_8 : decode cX8_guard 8 = .ok (.if_icmp .ne 7, 3) := by decide +kernel
theorem dX8_guard_11 : decode cX8_guard 11 = .ok (.aconst_null, 1) := by decide +kernel
theorem dX8_guard_12 : decode cX8_guard 12 = .ok (.goto 8, 3) := by decide +kernel
theorem dX8_guard_15 : decode cX8_guard 15 = .ok (.aload_n 0, 1) := by decide +kernel
theorem dX8_guard_16 : decode cX8_guard 16 = .ok (.iload_n 2, 1) := by decide +kernel
theorem dX8_guard_17 : decode cX8_guard 17 = .ok (.invokevirtual 71, 3) := by decide +kernel
theorem dX8_guard_20 : decode cX8_guard 20 = .ok (.astore 4, 2) := by decide +kernel
theorem dX8_guard_22 : decode cX8_guard 22 = .ok (.iload_n 1, 1) := by decide +kernel
theorem dX8_guard_23 : decode cX8_guard 23 = .ok (.iload_n 2, 1) := by decide +kernel
theorem dX8_guard_24 : decode cX8_guard 24 = .ok (.if_icmp .ne 13, 3) := by decide +kernel
theorem dX8_guard_27 : decode cX8_guard 27 = .ok (.new 43, 3) := by decide +kernel
theorem dX8_guard_30 : decode cX8_guard 30 = .ok (.dup, 1) := by decide +kernel
theorem dX8_guard_31 : decode cX8_guard 31 = .ok (.ldc 94, 2) := by decide +kernel
theorem dX8_guard_33 : decode cX8_guard 33 = .ok (.invokespecial 47, 3) := by decide +kernel
theorem dX8_guard_36 : decode cX8_guard 36 = .ok (.athrow, 1) := by decide +kernel
theorem dX8_guard_37 : decode cX8_guard 37 = .ok (.aload_n 3, 1) := by decide +kernel
theorem dX8_guard_38 : decode cX8_guard 38 = .ok (.getfield 96, 3) := by decide +kernel
theorem dX8_guard_41 : decode cX8_guard 41 = .ok (.ifCond .eq 16, 3) := by decide +kernel
theorem dX8_guard_44 : decode cX8_guard 44 = .ok (.aload 4, 2) := by decide +kernel
theorem dX8_guard_46 : decode cX8_guard 46 = .ok (.ifnull 21, 3) := by decide +kernel
theorem dX8_guard_49 : decode cX8_guard 49 = .ok (.aload 4, 2) := by decide +kernel
theorem dX8_guard_51 : decode cX8_guard 51 = .ok (.getfield 96, 3) := by decide +kernel
theorem dX8_guard_54 : decode cX8_guard 54 = .ok (.ifCond .ne 13, 3) := by decide +kernel
theorem dX8_guard_57 : decode cX8_guard 57 = .ok (.new 54, 3) := by decide +kernel
theorem dX8_guard_60 : decode cX8_guard 60 = .ok (.dup, 1) := by decide +kernel
theorem dX8_guard_61 : decode cX8_guard 61 = .ok (.ldc 100, 2) := by decide +kernel
theorem dX8_guard_63 : decode cX8_guard 63 = .ok (.invokespecial 58, 3) := by decide +kernel
theorem dX8_guard_66 : decode cX8_guard 66 = .ok (.athrow, 1) := by decide +kernel
theorem dX8_guard_67 : decode cX8_guard 67 = .ok (.aload_n 3, 1) := by decide +kernel
theorem dX8_guard_68 : decode cX8_guard 68 = .ok (.getfield 102, 3) := by decide +kernel
theorem dX8_guard_71 : decode cX8_guard 71 = .ok (.astore 5, 2) := by decide +kernel
theorem dX8_guard_73 : decode cX8_guard 73 = .ok (.aload_n 3, 1) := by decide +kernel
theorem dX8_guard_74 : decode cX8_guard 74 = .ok (.aload 4, 2) := by decide +kernel
theorem dX8_guard_76 : decode cX8_guard 76 = .ok (.putfield 102, 3) := by decide +kernel
theorem dX8_guard_79 : decode cX8_guard 79 = .ok (.aload 5, 2) := by decide +kernel
theorem dX8_guard_81 : decode cX8_guard 81 = .ok (.ifnonnull 7, 3) := by decide +kernel
theorem dX8_guard_84 : decode cX8_guard 84 = .ok (.iconst (-1), 1) := by decide +kernel
theorem dX8_guard_85 : decode cX8_guard 85 = .ok (.goto 8, 3) := by decide +kernel
theorem dX8_guard_88 : decode cX8_guard 88 = .ok (.aload 5, 2) := by decide +kernel
theorem dX8_guard_90 : decode cX8_guard 90 = .ok (.getfield 68, 3) := by decide +kernel
theorem dX8_guard_93 : decode cX8_guard 93 = .ok (.ireturn, 1) := by decide +kernel
theorem dX8_thing_0 : decode cX8_thing 0 = .ok (.aload_n 0, 1) := by decide +kernel
theorem dX8_thing_1 : decode cX8_thing 1 = .ok (.iload_n 1, 1) := by decide +kernel
theorem dX8_thing_2 : decode cX8_thing 2 = .ok (.invokevirtual 71, 3) := by decide +kernel
theorem dX8_thing_5 : decode cX8_thing 5 = .ok (.astore_n 3, 1) := by decide +kernel
theorem dX8_thing_6 : decode cX8_thing 6 = .ok (.iload_n 2, 1) := by decide +kernel
theorem dX8_thing_7 : decode cX8_thing 7 = .ok (.iconst 1, 1) := by decide +kernel
theorem dX8_thing_8 : decode cX8_thing 8 = .ok (.if_icmp .lt 9, 3) := by decide +kernel
theorem dX8_thing_11 : decode cX8_thing 11 = .ok (.iload_n 2, 1) := by decide +kernel
theorem dX8_thing_12 : decode cX8_thing 12 = .ok (.ldc 106, 2) := by decide +kernel
theorem dX8_thing_14 : decode cX8_thing 14 = .ok (.if_icmp .le 13, 3) := by decide +kernel
theorem dX8_thing_17 : decode cX8_thing 17 = .ok (.new 43, 3) := by decide +kernel
theorem dX8_thing_20 : decode cX8_thing 20 = .ok (.dup, 1) := by decide +kernel
theorem dX8_thing_21 : decode cX8_thing 21 = .ok (.ldc 107, 2) := by decide +kernel
theorem dX8_thing_23 : decode cX8_thing 23 = .ok (.invokespecial 47, 3) := by decide +kernel
theorem dX8_thing_26 : decode cX8_thing 26 = .ok (.athrow, 1) := by decide +kernel
theorem dX8_thing_27 : decode cX8_thing 27 = .ok (.aload_n 0, 1) := by decide +kernel
theorem dX8_thing_28 : decode cX8_thing 28 = .ok (.getfield 16, 3) := by decide +kernel
theorem dX8_thing_31 : decode cX8_thing 31 = .ok (.invokevirtual 50, 3) := by decide +kernel
theorem dX8_thing_34 : decode cX8_thing 34 = .ok (.bipush 8, 2) := by decide +kernel
theorem dX8_thing_36 : decode cX8_thing 36 = .ok (.if_icmp .ge 10, 3) := by decide +kernel
theorem dX8_thing_39 : decode cX8_thing 39 = .ok (.aload_n 3, 1) := by decide +kernel
theorem dX8_thing_40 : decode cX8_thing 40 = .ok (.getfield 96, 3) := by decide +kernel
theorem dX8_thing_43 : decode cX8_thing 43 = .ok (.ifCond .ne 13, 3) := by decide +kernel
theorem dX8_thing_46 : decode cX8_thing 46 = .ok (.new 54, 3) := by decide +kernel
theorem dX8_thing_49 : decode cX8_thing 49 = .ok (.dup, 1) := by decide +kernel
theorem dX8_thing_50 : decode cX8_thing 50 = .ok (.ldc 109, 2) := by decide +kernel
theorem dX8_thing_52 : decode cX8_thing 52 = .ok (.invokespecial 58, 3) := by decide +kernel
theorem dX8_thing_55 : decode cX8_thing 55 = .ok (.athrow, 1) := by decide +kernel
theorem dX8_thing_56 : decode cX8_thing 56 = .ok (.new 111, 3) := by decide +kernel
theorem dX8_thing_59 : decode cX8_thing 59 = .ok (.dup, 1) := by decide +kernel
theorem dX8_thing_60 : decode cX8_thing 60 = .ok (.aload_n 0, 1) := by decide +kernel
theorem dX8_thing_61 : decode cX8_thing 61 = .ok (.getfield 16, 3) := by decide +kernel
theorem dX8_thing_64 : decode cX8_thing 64 = .ok (.invokevirtual 50, 3) := by decide +kernel
theorem dX8_thing_67 : decode cX8_thing 67 = .ok (.aload_n 3, 1) := by decide +kernel
theorem dX8_thing_68 : decode cX8_thing 68 = .ok (.getfield 68, 3) := by decide +kernel
theorem dX8_thing_71 : decode cX8_thing 71 = .ok (.iload_n 2, 1) := by decide +kernel
theorem dX8_thing_72 : decode cX8_thing 72 = .ok (.invokespecial 113, 3) := by decide +kernel
theorem dX8_thing_75 : decode cX8_thing 75 = .ok (.astore 4, 2) := by decide +kernel
theorem dX8_thing_77 : decode cX8_thing 77 = .ok (.aload_n 0, 1) := by decide +kernel
theorem dX8_thing_78 : decode cX8_thing 78 = .ok (.getfield 16, 3) := by decide +kernel
theorem dX8_thing_81 : decode cX8_thing 81 = .ok (.aload 4, 2) := by decide +kernel
theorem dX8_thing_83 : decode cX8_thing 83 = .ok (.invokevirtual 64, 3) := by decide +kernel
theorem dX8_thing_86 : decode cX8_thing 86 = .ok (.pop, 1) := by decide +kernel
theorem dX8_thing_87 : decode cX8_thing 87 = .ok (.aload 4, 2) := by decide +kernel
theorem dX8_thing_89 : decode cX8_thing 89 = .ok (.getfield 116, 3) := by decide +kernel
theorem dX8_thing_92 : decode cX8_thing 92 = .ok (.ireturn, 1) := by decide +kernel
theorem dX8_isAble_0 : decode cX8_isAble 0 = .ok (.aload_n 0, 1) := by decide +kernel
theorem dX8_isAble_1 : decode cX8_isAble 1 = .ok (.iload_n 1, 1) := by decide +kernel
theorem dX8_isAble_2 : decode cX8_isAble 2 = .ok (.invokevirtual 71, 3) := by decide +kernel
theorem dX8_isAble_5 : decode cX8_isAble 5 = .ok (.aload_n 0, 1) := by decide +kernel
theorem dX8_isAble_6 : decode cX8_isAble 6 = .ok (.getfield 32, 3) := by decide +kernel
theorem dX8_isAble_9 : decode cX8_isAble 9 = .ok (.invokevirtual 117, 3) := by decide +kernel
theorem dX8_isAble_12 : decode cX8_isAble 12 = .ok (.ireturn, 1) := by decide +kernel
theorem dX8_draft_0 : decode cX8_draft 0 = .ok (.aload_n 0, 1) := by decide +kernel
theorem dX8_draft_1 : decode cX8_draft 1 = .ok (.iload_n 2, 1) := by decide +kernel
theorem dX8_draft_2 : decode cX8_draft 2 = .ok (.invokevirtual 71, 3) := by decide +kernel
theorem dX8_draft_5 : decode cX8_draft 5 = .ok (.astore 7, 2) := by decide +kernel
theorem dX8_draft_7 : decode cX8_draft 7 = .ok (.aload_n 0, 1) := by decide +kernel
theorem dX8_draft_8 : decode cX8_draft 8 = .ok (.iload_n 3, 1) := by decide +kernel
theorem dX8_draft_9 : decode cX8_draft 9 = .ok (.invokevirtual 71, 3) := by decide +kernel
theorem dX8_draft_12 : decode cX8_draft 12 = .ok (.astore 8, 2) := by decide +kernel
theorem dX8_draft_14 : decode cX8_draft 14 = .ok (.aload_n 0, 1) := by decide +kernel
theorem dX8_draft_15 : decode cX8_draft 15 = .ok (.iload 4, 2) := by decide +kernel
theorem dX8_draft_17 : decode cX8_draft 17 = .ok (.invokevirtual 121, 3) := by decide +kernel
theorem dX8_draft_20 : decode cX8_draft 20 = .ok (.astore 9, 2) := by decide +kernel
theorem dX8_draft_22 : decode cX8_draft 22 = .ok (.iload_n 1, 1) := by decide +kernel
theorem dX8_draft_23 : decode cX8_draft 23 = .ok (.invokestatic 125, 3) := by decide +kernel
theorem dX8_draft_26 : decode cX8_draft 26 = .ok (.ifCond .eq 18, 3) := by decide +kernel
theorem dX8_draft_29 : decode cX8_draft 29 = .ok (.iload 5, 2) := by decide +kernel
theorem dX8_draft_31 : decode cX8_draft 31 = .ok (.iload 6, 2) := by decide +kernel
theorem dX8_draft_33 : decode cX8_draft 33 = .ok (.invokestatic 128, 3) := by decide +kernel
theorem dX8_draft_36 : decode cX8_draft 36 = .ok (.ifCond .eq 8, 3) := by decide +kernel
theorem dX8_draft_39 : decode cX8_draft 39 = .ok (.iload_n 2, 1) := by decide +kernel
theorem dX8_draft_40 : decode cX8_draft 40 = .ok (.iload_n 3, 1) := by decide +kernel
theorem dX8_draft_41 : decode cX8_draft 41 = .ok (.if_icmp .ne 13, 3) := by decide +kernel
theorem dX8_draft_44 : decode cX8_draft 44 = .ok (.new 43, 3) := by decide +kernel
theorem dX8_draft_47 : decode cX8_draft 47 = .ok (.dup, 1) := by decide +kernel
theorem dX8_draft_48 : decode cX8_draft 48 = .ok (.ldc 132, 2) := by decide +kernel
theorem dX8_draft_50 : decode cX8_draft 50 = .ok (.invokespecial 47, 3) := by decide +kernel
theorem dX8_draft_53 : decode cX8_draft 53 = .ok (.athrow, 1) := by decide +kernel
theorem dX8_draft_54 : decode cX8_draft 54 = .ok (.aload_n 0, 1) := by decide +kernel
theorem dX8_draft_55 : decode cX8_draft 55 = .ok (.aload 7, 2) := by decide +kernel
theorem dX8_draft_57 : decode cX8_draft 57 = .ok (.aload 8, 2) := by decide +kernel
theorem dX8_draft_59 : decode cX8_draft 59 = .ok (.invokevirtual 134, 3) := by decide +kernel
theorem dX8_draft_62 : decode cX8_draft 62 = .ok (.aload_n 0, 1) := by decide +kernel
theorem dX8_draft_63 : decode cX8_draft 63 = .ok (.new 137, 3) := by decide +kernel
theorem dX8_draft_66 : decode cX8_draft 66 = .ok (.dup, 1) := by decide +kernel
theorem dX8_draft_67 : decode cX8_draft 67 = .ok (.aload_n 0, 1) := by decide +kernel
theorem dX8_draft_68 : decode cX8_draft 68 = .ok (.getfield 19, 3) := by decide +kernel
theorem dX8_draft_71 : decode cX8_draft 71 = .ok (.invokevirtual 50, 3) := by decide +kernel
theorem dX8_draft_74 : decode cX8_draft 74 = .ok (.iload_n 1, 1) := by decide +kernel
theorem dX8_draft_75 : decode cX8_draft 75 = .ok (.aload 7, 2) := by decide +kernel
theorem dX8_draft_77 : decode cX8_draft 77 = .ok (.aload 8, 2) := by decide +kernel
theorem dX8_draft_79 : decode cX8_draft 79 = .ok (.aload 9, 2) := by decide +kernel
theorem dX8_draft_81 : decode cX8_draft 81 = .ok (.iload 5, 2) := by decide +kernel
theorem dX8_draft_83 : decode cX8_draft 83 = .ok (.iload 6, 2) := by decide +kernel
theorem dX8_draft_85 : decode cX8_draft 85 = .ok (.invokespecial 139, 3) := by decide +kernel
theorem dX8_draft_88 : decode cX8_draft 88 = .ok (.invokevirtual 142, 3) := by decide +kernel
theorem dX8_draft_91 : decode cX8_draft 91 = .ok (.ireturn, 1) := by decide +kernel
theorem dX8_power_0 : decode cX8_power 0 = .ok (.aload_n 0, 1) := by decide +kernel
theorem dX8_power_1 : decode cX8_power 1 = .ok (.iload_n 1, 1) := by decide +kernel
theorem dX8_power_2 : decode cX8_power 2 = .ok (.invokevirtual 71, 3) := by decide +kernel
theorem dX8_power_5 : decode cX8_power 5 = .ok (.astore 6, 2) := by decide +kernel
theorem dX8_power_7 : decode cX8_power 7 = .ok (.aload_n 0, 1) := by decide +kernel
theorem dX8_power_8 : decode cX8_power 8 = .ok (.iload_n 2, 1) := by decide +kernel
theorem dX8_power_9 : decode cX8_power 9 = .ok (.invokevirtual 71, 3) := by decide +kernel
theorem dX8_power_12 : decode cX8_power 12 = .ok (.astore 7, 2) := by decide +kernel
theorem dX8_power_14 : decode cX8_power 14 = .ok (.iload_n 3, 1) := by decide +kernel
theorem dX8_power_15 : decode cX8_power 15 = .ok (.iconst (-1), 1) := by decide +kernel
theorem dX8_power_16 : decode cX8_power 16 = .ok (.if_icmp .ne 7, 3) := by decide +kernel
theorem dX8_power_19 : decode cX8_power 19 = .ok (.aconst_null, 1) := by decide +kernel
theorem dX8_power_20 : decode cX8_power 20 = .ok (.goto 8, 3) := by decide +kernel
theorem dX8_power_23 : decode cX8_power 23 = .ok (.aload_n 0, 1) := by decide +kernel
theorem dX8_power_24 : decode cX8_power 24 = .ok (.iload_n 3, 1) := by decide +kernel
theorem dX8_power_25 : decode cX8_power 25 = .ok (.invokevirtual 121, 3) := by decide +kernel
theorem dX8_power_28 : decode cX8_power 28 = .ok (.astore 8, 2) := by decide +kernel
theorem dX8_power_30 : decode cX8_power 30 = .ok (.iload 4, 2) := by decide +kernel
theorem dX8_power_32 : decode cX8_power 32 = .ok (.iconst 1, 1) := by decide +kernel
theorem dX8_power_33 : decode cX8_power 33 = .ok (.if_icmp .lt 16, 3) := by decide +kernel
theorem dX8_power_36 : decode cX8_power 36 = .ok (.iload 4, 2) := by decide +kernel
theorem dX8_power_38 : decode cX8_power 38 = .ok (.sipush 1000, 3) := by decide +kernel
theorem dX8_power_41 : decode cX8_power 41 = .ok (.if_icmp .gt 8, 3) := by decide +kernel
theorem dX8_power_44 : decode cX8_power 44 = .ok (.iload_n 1, 1) := by decide +kernel
theorem dX8_power_45 : decode cX8_power 45 = .ok (.iload_n 2, 1) := by decide +kernel
theorem dX8_power_46 : decode cX8_power 46 = .ok (.if_icmp .ne 13, 3) := by decide +kernel
theorem dX8_power_49 : decode cX8_power 49 = .ok (.new 43, 3) := by decide +kernel
theorem dX8_power_52 : decode cX8_power 52 = .ok (.dup, 1) := by decide +kernel
theorem dX8_power_53 : decode cX8_power 53 = .ok (.ldc 146, 2) := by decide +kernel
theorem dX8_power_55 : decode cX8_power 55 = .ok (.invokespecial 47, 3) := by decide +kernel
theorem dX8_power_58 : decode cX8_power 58 = .ok (.athrow, 1) := by decide +kernel
theorem dX8_power_59 : decode cX8_power 59 = .ok (.aload_n 0, 1) := by decide +kernel
theorem dX8_power_60 : decode cX8_power 60 = .ok (.aload 6, 2) := by decide +kernel
theorem dX8_power_62 : decode cX8_power 62 = .ok (.aload 7, 2) := by decide +kernel
theorem dX8_power_64 : decode cX8_power 64 = .ok (.invokevirtual 134, 3) := by decide +kernel
theorem dX8_power_67 : decode cX8_power 67 = .ok (.new 137, 3) := by decide +kernel
theorem dX8_power_70 : decode cX8_power 70 = .ok (.dup, 1) := by decide +kernel
theorem dX8_power_71 : decode cX8_power 71 = .ok (.aload_n 0, 1) := by decide +kernel
theorem dX8_power_72 : decode cX8_power 72 = .ok (.getfield 19, 3) := by decide +kernel
theorem dX8_power_75 : decode cX8_power 75 = .ok (.invokevirtual 50, 3) := by decide +kernel
theorem dX8_power_78 : decode cX8_power 78 = .ok (.iconst 3, 1) := by decide +kernel
theorem dX8_power_79 : decode cX8_power 79 = .ok (.aload 6, 2) := by decide +kernel
theorem dX8_power_81 : decode cX8_power 81 = .ok (.aload 7, 2) := by decide +kernel
theorem dX8_power_83 : decode cX8_power 83 = .ok (.aload 8, 2) := by decide +kernel
theorem dX8_power_85 : decode cX8_power 85 = .ok (.iconst 0, 1) := by decide +kernel
theorem dX8_power_86 : decode cX8_power 86 = .ok (.iconst 1, 1) := by decide +kernel
theorem dX8_power_87 : decode cX8_power 87 = .ok (.invokespecial 139, 3) := by decide +kernel
theorem dX8_power_90 : decode cX8_power 90 = .ok (.astore 9, 2) := by decide +kernel
theorem dX8_power_92 : decode cX8_power 92 = .ok (.aload 9, 2) := by decide +kernel
theorem dX8_power_94 : decode cX8_power 94 = .ok (.new 148, 3) := by decide +kernel
theorem dX8_power_97 : decode cX8_power 97 = .ok (.dup, 1) := by decide +kernel
theorem dX8_power_98 : decode cX8_power 98 = .ok (.aload_n 0, 1) := by decide +kernel
theorem dX8_power_99 : decode cX8_power 99 = .ok (.getfield 32, 3) := by decide +kernel
theorem dX8_power_102 : decode cX8_power 102 = .ok (.iload 4, 2) := by decide +kernel
theorem dX8_power_104 : decode cX8_power 104 = .ok (.iadd, 1) := by decide +kernel
theorem dX8_power_105 : decode cX8_power 105 = .ok (.iload 5, 2) := by decide +kernel
theorem dX8_power_107 : decode cX8_power 107 = .ok (.invokespecial 150, 3) := by decide +kernel
theorem dX8_power_110 : decode cX8_power 110 = .ok (.putfield 153, 3) := by decide +kernel
theorem dX8_power_113 : decode cX8_power 113 = .ok (.aload_n 0, 1) := by decide +kernel
theorem dX8_power_114 : decode cX8_power 114 = .ok (.aload 9, 2) := by decide +kernel
theorem dX8_power_116 : decode cX8_power 116 = .ok (.invokevirtual 142, 3) := by decide +kernel
theorem dX8_power_119 : decode cX8_power 119 = .ok (.ireturn, 1) := by decide +kernel
theorem dX8_will_0 : decode cX8_will 0 = .ok (.aload_n 0, 1) := by decide +kernel
theorem dX8_will_1 : decode cX8_will 1 = .ok (.iload_n 1, 1) := by decide +kernel
theorem dX8_will_2 : decode cX8_will 2 = .ok (.invokevirtual 71, 3) := by decide +kernel
theorem dX8_will_5 : decode cX8_will 5 = .ok (.astore 5, 2) := by decide +kernel
theorem dX8_will_7 : decode cX8_will 7 = .ok (.aload_n 0, 1) := by decide +kernel
theorem dX8_will_8 : decode cX8_will 8 = .ok (.iload_n 2, 1) := by decide +kernel
theorem dX8_will_9 : decode cX8_will 9 = .ok (.invokevirtual 71, 3) := by decide +kernel
theorem dX8_will_12 : decode cX8_will 12 = .ok (.astore 6, 2) := by decide +kernel
theorem dX8_will_14 : decode cX8_will 14 = .ok (.iload_n 3, 1) := by decide +kernel
theorem dX8_will_15 : decode cX8_will 15 = .ok (.iload 4, 2) := by decide +kernel
theorem dX8_will_17 : decode cX8_will 17 = .ok (.invokestatic 128, 3) := by decide +kernel
theorem dX8_will_20 : decode cX8_will 20 = .ok (.ifCond .eq 8, 3) := by decide +kernel
theorem dX8_will_23 : decode cX8_will 23 = .ok (.iload_n 1, 1) := by decide +kernel
theorem dX8_will_24 : decode cX8_will 24 = .ok (.iload_n 2, 1) := by decide +kernel
theorem dX8_will_25 : decode cX8_will 25 = .ok (.if_icmp .ne 13, 3) := by decide +kernel
theorem dX8_will_28 : decode cX8_will 28 = .ok (.new 43, 3) := by decide +kernel
theorem dX8_will_31 : decode cX8_will 31 = .ok (.dup, 1) := by decide +kernel
theorem dX8_will_32 : decode cX8_will 32 = .ok (.ldc 157, 2) := by decide +kernel
theorem dX8_will_34 : decode cX8_will 34 = .ok (.invokespecial 47, 3) := by decide +kernel
theorem dX8_will_37 : decode cX8_will 37 = .ok (.athrow, 1) := by decide +kernel
theorem dX8_will_38 : decode cX8_will 38 = .ok (.aload_n 0, 1) := by decide +kernel
theorem dX8_will_39 : decode cX8_will 39 = .ok (.aload 5, 2) := by decide +kernel
theorem dX8_will_41 : decode cX8_will 41 = .ok (.aload 6, 2) := by decide +kernel
theorem dX8_will_43 : decode cX8_will 43 = .ok (.invokevirtual 134, 3) := by decide +kernel
theorem dX8_will_46 : decode cX8_will 46 = .ok (.aload_n 0, 1) := by decide +kernel
theorem dX8_will_47 : decode cX8_will 47 = .ok (.new 137, 3) := by decide +kernel
theorem dX8_will_50 : decode cX8_will 50 = .ok (.dup, 1) := by decide +kernel
theorem dX8_will_51 : decode cX8_will 51 = .ok (.aload_n 0, 1) := by decide +kernel
theorem dX8_will_52 : decode cX8_will 52 = .ok (.getfield 19, 3) := by decide +kernel
theorem dX8_will_55 : decode cX8_will 55 = .ok (.invokevirtual 50, 3) := by decide +kernel
theorem dX8_will_58 : decode cX8_will 58 = .ok (.iconst 4, 1) := by decide +kernel
theorem dX8_will_59 : decode cX8_will 59 = .ok (.aload 5, 2) := by decide +kernel
theorem dX8_will_61 : decode cX8_will 61 = .ok (.aload 6, 2) := by decide +kernel
theorem dX8_will_63 : decode cX8_will 63 = .ok (.aconst_null, 1) := by decide +kernel
theorem dX8_will_64 : decode cX8_will 64 = .ok (.iload_n 3, 1) := by decide +kernel
theorem dX8_will_65 : decode cX8_will 65 = .ok (.iload 4, 2) := by decide +kernel
theorem dX8_will_67 : decode cX8_will 67 = .ok (.invokespecial 139, 3) := by decide +kernel
theorem dX8_will_70 : decode cX8_will 70 = .ok (.invokevirtual 142, 3) := by decide +kernel
theorem dX8_will_73 : decode cX8_will 73 = .ok (.ireturn, 1) := by decide +kernel
theorem dX8_sign_0 : decode cX8_sign 0 = .ok (.aload_n 0, 1) := by decide +kernel
theorem dX8_sign_1 : decode cX8_sign 1 = .ok (.iload_n 1, 1) := by decide +kernel
theorem dX8_sign_2 : decode cX8_sign 2 = .ok (.invokevirtual 159, 3) := by decide +kernel
theorem dX8_sign_5 : decode cX8_sign 5 = .ok (.astore 5, 2) := by decide +kernel
theorem dX8_sign_7 : decode cX8_sign 7 = .ok (.aload_n 0, 1) := by decide +kernel
theorem dX8_sign_8 : decode cX8_sign 8 = .ok (.iload_n 2, 1) := by decide +kernel
theorem dX8_sign_9 : decode cX8_sign 9 = .ok (.invokevirtual 71, 3) := by decide +kernel
theorem dX8_sign_12 : decode cX8_sign 12 = .ok (.astore 6, 2) := by decide +kernel
theorem dX8_sign_14 : decode cX8_sign 14 = .ok (.iload 4, 2) := by decide +kernel
theorem dX8_sign_16 : decode cX8_sign 16 = .ok (.iconst (-1), 1) := by decide +kernel
theorem dX8_sign_17 : decode cX8_sign 17 = .ok (.if_icmp .ne 7, 3) := by decide +kernel
theorem dX8_sign_20 : decode cX8_sign 20 = .ok (.aconst_null, 1) := by decide +kernel
theorem dX8_sign_21 : decode cX8_sign 21 = .ok (.goto 9, 3) := by decide +kernel
theorem dX8_sign_24 : decode cX8_sign 24 = .ok (.aload_n 0, 1) := by decide +kernel
theorem dX8_sign_25 : decode cX8_sign 25 = .ok (.iload 4, 2) := by decide +kernel
theorem dX8_sign_27 : decode cX8_sign 27 = .ok (.invokevirtual 159, 3) := by decide +kernel
theorem dX8_sign_30 : decode cX8_sign 30 = .ok (.astore 7, 2) := by decide +kernel
theorem dX8_sign_32 : decode cX8_sign 32 = .ok (.iload_n 3, 1) := by decide +kernel
theorem dX8_sign_33 : decode cX8_sign 33 = .ok (.ifCond .eq 7, 3) := by decide +kernel
theorem dX8_sign_36 : decode cX8_sign 36 = .ok (.iconst 1, 1) := by decide +kernel
theorem dX8_sign_37 : decode cX8_sign 37 = .ok (.goto 4, 3) := by decide +kernel
theorem dX8_sign_40 : decode cX8_sign 40 = .ok (.iconst 2, 1) := by decide +kernel
theorem dX8_sign_41 : decode cX8_sign 41 = .ok (.istore 8, 2) := by decide +kernel
theorem dX8_sign_43 : decode cX8_sign 43 = .ok (.aload 5, 2) := by decide +kernel
theorem dX8_sign_45 : decode cX8_sign 45 = .ok (.iload 8, 2) := by decide +kernel
theorem dX8_sign_47 : decode cX8_sign 47 = .ok (.invokestatic 163, 3) := by decide +kernel
theorem dX8_sign_50 : decode cX8_sign 50 = .ok (.aload_n 0, 1) := by decide +kernel
theorem dX8_sign_51 : decode cX8_sign 51 = .ok (.aload 5, 2) := by decide +kernel
theorem dX8_sign_53 : decode cX8_sign 53 = .ok (.aload 6, 2) := by decide +kernel
theorem dX8_sign_55 : decode cX8_sign 55 = .ok (.iload_n 3, 1) := by decide +kernel
theorem dX8_sign_56 : decode cX8_sign 56 = .ok (.invokevirtual 167, 3) := by decide +kernel
theorem dX8_sign_59 : decode cX8_sign 59 = .ok (.ifCond .eq 18, 3) := by decide +kernel
theorem dX8_sign_62 : decode cX8_sign 62 = .ok (.aload 5, 2) := by decide +kernel
theorem dX8_sign_64 : decode cX8_sign 64 = .ok (.dup, 1) := by decide +kernel
theorem dX8_sign_65 : decode cX8_sign 65 = .ok (.getfield 171, 3) := by decide +kernel
theorem dX8_sign_68 : decode cX8_sign 68 = .ok (.iload 8, 2) := by decide +kernel
theorem dX8_sign_70 : decode cX8_sign 70 = .ok (.ior, 1) := by decide +kernel
theorem dX8_sign_71 : decode cX8_sign 71 = .ok (.putfield 171, 3) := by decide +kernel
theorem dX8_sign_74 : decode cX8_sign 74 = .ok (.goto 64, 3) := by decide +kernel
theorem dX8_sign_77 : decode cX8_sign 77 = .ok (.aload_n 0, 1) := by decide +kernel
theorem dX8_sign_78 : decode cX8_sign 78 = .ok (.aload 5, 2) := by decide +kernel
theorem dX8_sign_80 : decode cX8_sign 80 = .ok (.aload 6, 2) := by decide +kernel
theorem dX8_sign_82 : decode cX8_sign 82 = .ok (.iload_n 3, 1) := by decide +kernel
theorem dX8_sign_83 : decode cX8_sign 83 = .ok (.aload 7, 2) := by decide +kernel
theorem dX8_sign_85 : decode cX8_sign 85 = .ok (.invokevirtual 174, 3) := by decide +kernel
theorem dX8_sign_88 : decode cX8_sign 88 = .ok (.ifCond .eq 40, 3) := by decide +kernel
theorem dX8_sign_91 : decode cX8_sign 91 = .ok (.aload 5, 2) := by decide +kernel
theorem dX8_sign_93 : decode cX8_sign 93 = .ok (.dup, 1) := by decide +kernel
theorem dX8_sign_94 : decode cX8_sign 94 = .ok (.getfield 171, 3) := by decide +kernel
theorem dX8_sign_97 : decode cX8_sign 97 = .ok (.iload 8, 2) := by decide +kernel
theorem dX8_sign_99 : decode cX8_sign 99 = .ok (.ior, 1) := by decide +kernel
theorem dX8_sign_100 : decode cX8_sign 100 = .ok (.putfield 171, 3) := by decide +kernel
theorem dX8_sign_103 : decode cX8_sign 103 = .ok (.iload_n 3, 1) := by decide +kernel
theorem dX8_sign_104 : decode cX8_sign 104 = .ok (.ifCond .eq 34, 3) := by decide +kernel
theorem dX8_sign_107 : decode cX8_sign 107 = .ok (.aload 5, 2) := by decide +kernel
theorem dX8_sign_109 : decode cX8_sign 109 = .ok (.getfield 153, 3) := by decide +kernel
theorem dX8_sign_112 : decode cX8_sign 112 = .ok (.ifnull 26, 3) := by decide +kernel
theorem dX8_sign_115 : decode cX8_sign 115 = .ok (.aload 5, 2) := by decide +kernel
theorem dX8_sign_117 : decode cX8_sign 117 = .ok (.getfield 153, 3) := by decide +kernel
theorem dX8_sign_120 : decode cX8_sign 120 = .ok (.aload 7, 2) := by decide +kernel
theorem dX8_sign_122 : decode cX8_sign 122 = .ok (.putfield 178, 3) := by decide +kernel
theorem dX8_sign_125 : decode cX8_sign 125 = .ok (.goto 13, 3) := by decide +kernel
theorem dX8_sign_128 : decode cX8_sign 128 = .ok (.new 54, 3) := by decide +kernel
theorem dX8_sign_131 : decode cX8_sign 131 = .ok (.dup, 1) := by decide +kernel
theorem dX8_sign_132 : decode cX8_sign 132 = .ok (.ldc 182, 2) := by decide +kernel
theorem dX8_sign_134 : decode cX8_sign 134 = .ok (.invokespecial 58, 3) := by decide +kernel
theorem dX8_sign_137 : decode cX8_sign 137 = .ok (.athrow, 1) := by decide +kernel
theorem dX8_sign_138 : decode cX8_sign 138 = .ok (.aload 5, 2) := by decide +kernel
theorem dX8_sign_140 : decode cX8_sign 140 = .ok (.getfield 171, 3) := by decide +kernel
theorem dX8_sign_143 : decode cX8_sign 143 = .ok (.ireturn, 1) := by decide +kernel
theorem dX8_add_0 : decode cX8_add 0 = .ok (.aload_n 0, 1) := by decide +kernel
theorem dX8_add_1 : decode cX8_add 1 = .ok (.iload_n 1, 1) := by decide +kernel
theorem dX8_add_2 : decode cX8_add 2 = .ok (.invokevirtual 159, 3) := by decide +kernel
theorem dX8_add_5 : decode cX8_add 5 = .ok (.astore_n 3, 1) := by decide +kernel
theorem dX8_add_6 : decode cX8_add 6 = .ok (.iload_n 2, 1) := by decide +kernel
theorem dX8_add_7 : decode cX8_add 7 = .ok (.iconst 4, 1) := by decide +kernel
theorem dX8_add_8 : decode cX8_add 8 = .ok (.if_icmp .eq 19, 3) := by decide +kernel
theorem dX8_add_11 : decode cX8_add 11 = .ok (.iload_n 2, 1) := by decide +kernel
theorem dX8_add_12 : decode cX8_add 12 = .ok (.bipush 16, 2) := by decide +kernel
theorem dX8_add_14 : decode cX8_add 14 = .ok (.if_icmp .eq 13, 3) := by decide +kernel
theorem dX8_add_17 : decode cX8_add 17 = .ok (.new 43, 3) := by decide +kernel
theorem dX8_add_20 : decode cX8_add 20 = .ok (.dup, 1) := by decide +kernel
theorem dX8_add_21 : decode cX8_add 21 = .ok (.ldc 184, 2) := by decide +kernel
theorem dX8_add_23 : decode cX8_add 23 = .ok (.invokespecial 47, 3) := by decide +kernel
theorem dX8_add_26 : decode cX8_add 26 = .ok (.athrow, 1) := by decide +kernel
theorem dX8_add_27 : decode cX8_add 27 = .ok (.aload_n 3, 1) := by decide +kernel
theorem dX8_add_28 : decode cX8_add 28 = .ok (.iload_n 2, 1) := by decide +kernel
theorem dX8_add_29 : decode cX8_add 29 = .ok (.invokestatic 163, 3) := by decide +kernel
theorem dX8_add_32 : decode cX8_add 32 = .ok (.aload_n 3, 1) := by decide +kernel
theorem dX8_add_33 : decode cX8_add 33 = .ok (.dup, 1) := by decide +kernel
theorem dX8_add_34 : decode cX8_add 34 = .ok (.getfield 171, 3) := by decide +kernel
theorem dX8_add_37 : decode cX8_add 37 = .ok (.iload_n 2, 1) := by decide +kernel
theorem dX8_add_38 : decode cX8_add 38 = .ok (.ior, 1) := by decide +kernel
theorem dX8_add_39 : decode cX8_add 39 = .ok (.putfield 171, 3) := by decide +kernel
theorem dX8_add_42 : decode cX8_add 42 = .ok (.aload_n 3, 1) := by decide +kernel
theorem dX8_add_43 : decode cX8_add 43 = .ok (.getfield 171, 3) := by decide +kernel
theorem dX8_add_46 : decode cX8_add 46 = .ok (.ireturn, 1) := by decide +kernel
theorem dX8_witness_0 : decode cX8_witness 0 = .ok (.aload_n 0, 1) := by decide +kernel
theorem dX8_witness_1 : decode cX8_witness 1 = .ok (.iload_n 1, 1) := by decide +kernel
theorem dX8_witness_2 : decode cX8_witness 2 = .ok (.invokevirtual 159, 3) := by decide +kernel
theorem dX8_witness_5 : decode cX8_witness 5 = .ok (.astore_n 3, 1) := by decide +kernel
theorem dX8_witness_6 : decode cX8_witness 6 = .ok (.aload_n 0, 1) := by decide +kernel
theorem dX8_witness_7 : decode cX8_witness 7 = .ok (.iload_n 2, 1) := by decide +kernel
theorem dX8_witness_8 : decode cX8_witness 8 = .ok (.invokevirtual 71, 3) := by decide +kernel
theorem dX8_witness_11 : decode cX8_witness 11 = .ok (.astore 4, 2) := by decide +kernel
theorem dX8_witness_13 : decode cX8_witness 13 = .ok (.aload_n 3, 1) := by decide +kernel
theorem dX8_witness_14 : decode cX8_witness 14 = .ok (.invokevirtual 186, 3) := by decide +kernel
theorem dX8_witness_17 : decode cX8_witness 17 = .ok (.ifCond .ne 12, 3) := by decide +kernel
theorem dX8_witness_20 : decode cX8_witness 20 = .ok (.aload_n 3, 1) := by decide +kernel
theorem dX8_witness_21 : decode cX8_witness 21 = .ok (.aload 4, 2) := by decide +kernel
theorem dX8_witness_23 : decode cX8_witness 23 = .ok (.invokevirtual 190, 3) := by decide +kernel
theorem dX8_witness_26 : decode cX8_witness 26 = .ok (.ifCond .eq 13, 3) := by decide +kernel
theorem dX8_witness_29 : decode cX8_witness 29 = .ok (.new 54, 3) := by decide +kernel
theorem dX8_witness_32 : decode cX8_witness 32 = .ok (.dup, 1) := by decide +kernel
theorem dX8_witness_33 : decode cX8_witness 33 = .ok (.ldc 193, 2) := by decide +kernel
theorem dX8_witness_35 : decode cX8_witness 35 = .ok (.invokespecial 58, 3) := by decide +kernel
theorem dX8_witness_38 : decode cX8_witness 38 = .ok (.athrow, 1) := by decide +kernel
theorem dX8_witness_39 : decode cX8_witness 39 = .ok (.aload_n 0, 1) := by decide +kernel
theorem dX8_witness_40 : decode cX8_witness 40 = .ok (.aload_n 3, 1) := by decide +kernel
theorem dX8_witness_41 : decode cX8_witness 41 = .ok (.aload 4, 2) := by decide +kernel
theorem dX8_witness_43 : decode cX8_witness 43 = .ok (.invokevirtual 195, 3) := by decide +kernel
theorem dX8_witness_46 : decode cX8_witness 46 = .ok (.ifCond .ne 13, 3) := by decide +kernel
theorem dX8_witness_49 : decode cX8_witness 49 = .ok (.new 54, 3) := by decide +kernel
theorem dX8_witness_52 : decode cX8_witness 52 = .ok (.dup, 1) := by decide +kernel
theorem dX8_witness_53 : decode cX8_witness 53 = .ok (.ldc 199, 2) := by decide +kernel
theorem dX8_witness_55 : decode cX8_witness 55 = .ok (.invokespecial 58, 3) := by decide +kernel
theorem dX8_witness_58 : decode cX8_witness 58 = .ok (.athrow, 1) := by decide +kernel
theorem dX8_witness_59 : decode cX8_witness 59 = .ok (.aload_n 3, 1) := by decide +kernel
theorem dX8_witness_60 : decode cX8_witness 60 = .ok (.aload 4, 2) := by decide +kernel
theorem dX8_witness_62 : decode cX8_witness 62 = .ok (.invokevirtual 201, 3) := by decide +kernel
theorem dX8_witness_65 : decode cX8_witness 65 = .ok (.aload_n 3, 1) := by decide +kernel
theorem dX8_witness_66 : decode cX8_witness 66 = .ok (.getfield 171, 3) := by decide +kernel
theorem dX8_witness_69 : decode cX8_witness 69 = .ok (.ireturn, 1) := by decide +kernel
theorem dX8_close_0 : decode cX8_close 0 = .ok (.aload_n 0, 1) := by decide +kernel
theorem dX8_close_1 : decode cX8_close 1 = .ok (.iload_n 1, 1) := by decide +kernel
theorem dX8_close_2 : decode cX8_close 2 = .ok (.invokevirtual 159, 3) := by decide +kernel
theorem dX8_close_5 : decode cX8_close 5 = .ok (.astore_n 2, 1) := by decide +kernel
theorem dX8_close_6 : decode cX8_close 6 = .ok (.aload_n 2, 1) := by decide +kernel
theorem dX8_close_7 : decode cX8_close 7 = .ok (.invokevirtual 186, 3) := by decide +kernel
theorem dX8_close_10 : decode cX8_close 10 = .ok (.ifCond .eq 13, 3) := by decide +kernel
theorem dX8_close_13 : decode cX8_close 13 = .ok (.new 54, 3) := by decide +kernel
theorem dX8_close_16 : decode cX8_close 16 = .ok (.dup, 1) := by decide +kernel
theorem dX8_close_17 : decode cX8_close 17 = .ok (.ldc 204, 2) := by decide +kernel
theorem dX8_close_19 : decode cX8_close 19 = .ok (.invokespecial 58, 3) := by decide +kernel
theorem dX8_close_22 : decode cX8_close 22 = .ok (.athrow, 1) := by decide +kernel
theorem dX8_close_23 : decode cX8_close 23 = .ok (.aload_n 2, 1) := by decide +kernel
theorem dX8_close_24 : decode cX8_close 24 = .ok (.getfield 206, 3) := by decide +kernel
theorem dX8_close_27 : decode cX8_close 27 = .ok (.aload_n 2, 1) := by decide +kernel
theorem dX8_close_28 : decode cX8_close 28 = .ok (.getfield 209, 3) := by decide +kernel
theorem dX8_close_31 : decode cX8_close 31 = .ok (.invokestatic 86, 3) := by decide +kernel
theorem dX8_close_34 : decode cX8_close 34 = .ok (.aload_n 0, 1) := by decide +kernel
theorem dX8_close_35 : decode cX8_close 35 = .ok (.dup, 1) := by decide +kernel
theorem dX8_close_36 : decode cX8_close 36 = .ok (.getfield 36, 3) := by decide +kernel
theorem dX8_close_39 : decode cX8_close 39 = .ok (.iconst 1, 1) := by decide +kernel
theorem dX8_close_40 : decode cX8_close 40 = .ok (.iadd, 1) := by decide +kernel
theorem dX8_close_41 : decode cX8_close 41 = .ok (.putfield 36, 3) := by decide +kernel
theorem dX8_close_44 : decode cX8_close 44 = .ok (.aload_n 2, 1) := by decide +kernel
theorem dX8_close_45 : decode cX8_close 45 = .ok (.aload_n 0, 1) := by decide +kernel
theorem dX8_close_46 : decode cX8_close 46 = .ok (.getfield 36, 3) := by decide +kernel
theorem dX8_close_49 : decode cX8_close 49 = .ok (.putfield 212, 3) := by decide +kernel
theorem dX8_close_52 : decode cX8_close 52 = .ok (.aload_n 2, 1) := by decide +kernel
theorem dX8_close_53 : decode cX8_close 53 = .ok (.aload_n 0, 1) := by decide +kernel
theorem dX8_close_54 : decode cX8_close 54 = .ok (.getfield 32, 3) := by decide +kernel
theorem dX8_close_57 : decode cX8_close 57 = .ok (.putfield 215, 3) := by decide +kernel
theorem dX8_close_60 : decode cX8_close 60 = .ok (.aload_n 2, 1) := by decide +kernel
theorem dX8_close_61 : decode cX8_close 61 = .ok (.aload_n 2, 1) := by decide +kernel
theorem dX8_close_62 : decode cX8_close 62 = .ok (.invokestatic 218, 3) := by decide +kernel
theorem dX8_close_65 : decode cX8_close 65 = .ok (.putfield 221, 3) := by decide +kernel
theorem dX8_close_68 : decode cX8_close 68 = .ok (.aload_n 2, 1) := by decide +kernel
theorem dX8_close_69 : decode cX8_close 69 = .ok (.getfield 224, 3) := by decide +kernel
theorem dX8_close_72 : decode cX8_close 72 = .ok (.iconst 0, 1) := by decide +kernel
theorem dX8_close_73 : decode cX8_close 73 = .ok (.invokevirtual 228, 3) := by decide +kernel
theorem dX8_close_76 : decode cX8_close 76 = .ok (.aload_n 2, 1) := by decide +kernel
theorem dX8_close_77 : decode cX8_close 77 = .ok (.getfield 221, 3) := by decide +kernel
theorem dX8_close_80 : decode cX8_close 80 = .ok (.ireturn, 1) := by decide +kernel
theorem dX8_deed_0 : decode cX8_deed 0 = .ok (.aload_n 0, 1) := by decide +kernel
theorem dX8_deed_1 : decode cX8_deed 1 = .ok (.iload_n 1, 1) := by decide +kernel
theorem dX8_deed_2 : decode cX8_deed 2 = .ok (.invokevirtual 159, 3) := by decide +kernel
theorem dX8_deed_5 : decode cX8_deed 5 = .ok (.astore_n 3, 1) := by decide +kernel
theorem dX8_deed_6 : decode cX8_deed 6 = .ok (.iload_n 2, 1) := by decide +kernel
theorem dX8_deed_7 : decode cX8_deed 7 = .ok (.ifCond .lt 8, 3) := by decide +kernel
theorem dX8_deed_10 : decode cX8_deed 10 = .ok (.iload_n 2, 1) := by decide +kernel
theorem dX8_deed_11 : decode cX8_deed 11 = .ok (.iconst 5, 1) := by decide +kernel
theorem dX8_deed_12 : decode cX8_deed 12 = .ok (.if_icmp .le 13, 3) := by decide +kernel
theorem dX8_deed_15 : decode cX8_deed 15 = .ok (.new 43, 3) := by decide +kernel
theorem dX8_deed_18 : decode cX8_deed 18 = .ok (.dup, 1) := by decide +kernel
theorem dX8_deed_19 : decode cX8_deed 19 = .ok (.ldc 234, 2) := by decide +kernel
theorem dX8_deed_21 : decode cX8_deed 21 = .ok (.invokespecial 47, 3) := by decide +kernel
theorem dX8_deed_24 : decode cX8_deed 24 = .ok (.athrow, 1) := by decide +kernel
theorem dX8_deed_25 : decode cX8_deed 25 = .ok (.iload_n 2, 1) := by decide +kernel
theorem dX8_deed_26 : decode cX8_deed 26 = .ok (.tableswitch 59 0 4 #[34, 39, 44, 49, 54], 34) := by decide +kernel
theorem dX8_deed_60 : decode cX8_deed 60 = .ok (.aload_n 3, 1) := by decide +kernel
theorem dX8_deed_61 : decode cX8_deed 61 = .ok (.getfield 221, 3) := by decide +kernel
theorem dX8_deed_64 : decode cX8_deed 64 = .ok (.ireturn, 1) := by decide +kernel
theorem dX8_deed_65 : decode cX8_deed 65 = .ok (.aload_n 3, 1) := by decide +kernel
theorem dX8_deed_66 : decode cX8_deed 66 = .ok (.getfield 236, 3) := by decide +kernel
theorem dX8_deed_69 : decode cX8_deed 69 = .ok (.ireturn, 1) := by decide +kernel
theorem dX8_deed_70 : decode cX8_deed 70 = .ok (.aload_n 3, 1) := by decide +kernel
theorem dX8_deed_71 : decode cX8_deed 71 = .ok (.getfield 171, 3) := by decide +kernel
theorem dX8_deed_74 : decode cX8_deed 74 = .ok (.ireturn, 1) := by decide +kernel
theorem dX8_deed_75 : decode cX8_deed 75 = .ok (.aload_n 3, 1) := by decide +kernel
theorem dX8_deed_76 : decode cX8_deed 76 = .ok (.getfield 212, 3) := by decide +kernel
theorem dX8_deed_79 : decode cX8_deed 79 = .ok (.ireturn, 1) := by decide +kernel
theorem dX8_deed_80 : decode cX8_deed 80 = .ok (.aload_n 3, 1) := by decide +kernel
theorem dX8_deed_81 : decode cX8_deed 81 = .ok (.getfield 215, 3) := by decide +kernel
theorem dX8_deed_84 : decode cX8_deed 84 = .ok (.ireturn, 1) := by decide +kernel
theorem dX8_deed_85 : decode cX8_deed 85 = .ok (.aload_n 3, 1) := by decide +kernel
theorem dX8_deed_86 : decode cX8_deed 86 = .ok (.getfield 239, 3) := by decide +kernel
theorem dX8_deed_89 : decode cX8_deed 89 = .ok (.ireturn, 1) := by decide +kernel
theorem dX8_label_0 : decode cX8_label 0 = .ok (.aload_n 0, 1) := by decide +kernel
theorem dX8_label_1 : decode cX8_label 1 = .ok (.iload_n 1, 1) := by decide +kernel
theorem dX8_label_2 : decode cX8_label 2 = .ok (.invokevirtual 159, 3) := by decide +kernel
theorem dX8_label_5 : decode cX8_label 5 = .ok (.astore_n 3, 1) := by decide +kernel
theorem dX8_label_6 : decode cX8_label 6 = .ok (.iload_n 2, 1) := by decide +kernel
theorem dX8_label_7 : decode cX8_label 7 = .ok (.ifCond .ge 13, 3) := by decide +kernel
theorem dX8_label_10 : decode cX8_label 10 = .ok (.new 242, 3) := by decide +kernel
theorem dX8_label_13 : decode cX8_label 13 = .ok (.dup, 1) := by decide +kernel
theorem dX8_label_14 : decode cX8_label 14 = .ok (.ldc 244, 2) := by decide +kernel
theorem dX8_label_16 : decode cX8_label 16 = .ok (.invokespecial 246, 3) := by decide +kernel
theorem dX8_label_19 : decode cX8_label 19 = .ok (.athrow, 1) := by decide +kernel
theorem dX8_label_20 : decode cX8_label 20 = .ok (.new 247, 3) := by decide +kernel
theorem dX8_label_23 : decode cX8_label 23 = .ok (.dup, 1) := by decide +kernel
theorem dX8_label_24 : decode cX8_label 24 = .ok (.invokespecial 249, 3) := by decide +kernel
theorem dX8_label_27 : decode cX8_label 27 = .ok (.astore 4, 2) := by decide +kernel
theorem dX8_label_29 : decode cX8_label 29 = .ok (.aload 4, 2) := by decide +kernel
theorem dX8_label_31 : decode cX8_label 31 = .ok (.aload_n 3, 1) := by decide +kernel
theorem dX8_label_32 : decode cX8_label 32 = .ok (.getfield 236, 3) := by decide +kernel
theorem dX8_label_35 : decode cX8_label 35 = .ok (.invokestatic 250, 3) := by decide +kernel
theorem dX8_label_38 : decode cX8_label 38 = .ok (.invokevirtual 254, 3) := by decide +kernel
theorem dX8_label_41 : decode cX8_label 41 = .ok (.pop, 1) := by decide +kernel
theorem dX8_label_42 : decode cX8_label 42 = .ok (.aload 4, 2) := by decide +kernel
theorem dX8_label_44 : decode cX8_label 44 = .ok (.aload_n 3, 1) := by decide +kernel
theorem dX8_label_45 : decode cX8_label 45 = .ok (.getfield 212, 3) := by decide +kernel
theorem dX8_label_48 : decode cX8_label 48 = .ok (.invokevirtual 257, 3) := by decide +kernel
theorem dX8_label_51 : decode cX8_label 51 = .ok (.pop, 1) := by decide +kernel
theorem dX8_label_52 : decode cX8_label 52 = .ok (.aload_n 3, 1) := by decide +kernel
theorem dX8_label_53 : decode cX8_label 53 = .ok (.invokevirtual 186, 3) := by decide +kernel
theorem dX8_label_56 : decode cX8_label 56 = .ok (.ifCond .eq 24, 3) := by decide +kernel
theorem dX8_label_59 : decode cX8_label 59 = .ok (.aload 4, 2) := by decide +kernel
theorem dX8_label_61 : decode cX8_label 61 = .ok (.bipush 44, 2) := by decide +kernel
theorem dX8_label_63 : decode cX8_label 63 = .ok (.invokevirtual 254, 3) := by decide +kernel
theorem dX8_label_66 : decode cX8_label 66 = .ok (.pop, 1) := by decide +kernel
theorem dX8_label_67 : decode cX8_label 67 = .ok (.aload 4, 2) := by decide +kernel
theorem dX8_label_69 : decode cX8_label 69 = .ok (.aload_n 3, 1) := by decide +kernel
theorem dX8_label_70 : decode cX8_label 70 = .ok (.getfield 221, 3) := by decide +kernel
theorem dX8_label_73 : decode cX8_label 73 = .ok (.invokestatic 260, 3) := by decide +kernel
theorem dX8_label_76 : decode cX8_label 76 = .ok (.invokevirtual 254, 3) := by decide +kernel
theorem dX8_label_79 : decode cX8_label 79 = .ok (.pop, 1) := by decide +kernel
theorem dX8_label_80 : decode cX8_label 80 = .ok (.iload_n 2, 1) := by decide +kernel
theorem dX8_label_81 : decode cX8_label 81 = .ok (.aload 4, 2) := by decide +kernel
theorem dX8_label_83 : decode cX8_label 83 = .ok (.invokevirtual 263, 3) := by decide +kernel
theorem dX8_label_86 : decode cX8_label 86 = .ok (.if_icmp .ge 12, 3) := by decide +kernel
theorem dX8_label_89 : decode cX8_label 89 = .ok (.aload 4, 2) := by decide +kernel
theorem dX8_label_91 : decode cX8_label 91 = .ok (.iload_n 2, 1) := by decide +kernel
theorem dX8_label_92 : decode cX8_label 92 = .ok (.invokevirtual 266, 3) := by decide +kernel
theorem dX8_label_95 : decode cX8_label 95 = .ok (.goto 5, 3) := by decide +kernel
theorem dX8_label_98 : decode cX8_label 98 = .ok (.bipush 46, 2) := by decide +kernel
theorem dX8_label_100 : decode cX8_label 100 = .ok (.ireturn, 1) := by decide +kernel
theorem dX8_revoke_0 : decode cX8_revoke 0 = .ok (.aload_n 0, 1) := by decide +kernel
theorem dX8_revoke_1 : decode cX8_revoke 1 = .ok (.iload_n 1, 1) := by decide +kernel
theorem dX8_revoke_2 : decode cX8_revoke 2 = .ok (.invokevirtual 159, 3) := by decide +kernel
theorem dX8_revoke_5 : decode cX8_revoke 5 = .ok (.astore_n 3, 1) := by decide +kernel
theorem dX8_revoke_6 : decode cX8_revoke 6 = .ok (.aload_n 3, 1) := by decide +kernel
theorem dX8_revoke_7 : decode cX8_revoke 7 = .ok (.getfield 153, 3) := by decide +kernel
theorem dX8_revoke_10 : decode cX8_revoke 10 = .ok (.astore 4, 2) := by decide +kernel
theorem dX8_revoke_12 : decode cX8_revoke 12 = .ok (.aload 4, 2) := by decide +kernel
theorem dX8_revoke_14 : decode cX8_revoke 14 = .ok (.ifnull 10, 3) := by decide +kernel
theorem dX8_revoke_17 : decode cX8_revoke 17 = .ok (.aload_n 3, 1) := by decide +kernel
theorem dX8_revoke_18 : decode cX8_revoke 18 = .ok (.invokevirtual 186, 3) := by decide +kernel
theorem dX8_revoke_21 : decode cX8_revoke 21 = .ok (.ifCond .ne 14, 3) := by decide +kernel
theorem dX8_revoke_24 : decode cX8_revoke 24 = .ok (.new 54, 3) := by decide +kernel
theorem dX8_revoke_27 : decode cX8_revoke 27 = .ok (.dup, 1) := by decide +kernel
theorem dX8_revoke_28 : decode cX8_revoke 28 = .ok (.ldc_w 269, 3) := by decide +kernel
theorem dX8_revoke_31 : decode cX8_revoke 31 = .ok (.invokespecial 58, 3) := by decide +kernel
theorem dX8_revoke_34 : decode cX8_revoke 34 = .ok (.athrow, 1) := by decide +kernel
theorem dX8_revoke_35 : decode cX8_revoke 35 = .ok (.aload 4, 2) := by decide +kernel
theorem dX8_revoke_37 : decode cX8_revoke 37 = .ok (.getfield 271, 3) := by decide +kernel
theorem dX8_revoke_40 : decode cX8_revoke 40 = .ok (.istore 5, 2) := by decide +kernel
theorem dX8_revoke_42 : decode cX8_revoke 42 = .ok (.aload 4, 2) := by decide +kernel
theorem dX8_revoke_44 : decode cX8_revoke 44 = .ok (.iconst 1, 1) := by decide +kernel
theorem dX8_revoke_45 : decode cX8_revoke 45 = .ok (.putfield 271, 3) := by decide +kernel
theorem dX8_revoke_48 : decode cX8_revoke 48 = .ok (.aload 4, 2) := by decide +kernel
theorem dX8_revoke_50 : decode cX8_revoke 50 = .ok (.aload 4, 2) := by decide +kernel
theorem dX8_revoke_52 : decode cX8_revoke 52 = .ok (.getfield 274, 3) := by decide +kernel
theorem dX8_revoke_55 : decode cX8_revoke 55 = .ok (.ifCond .ne 7, 3) := by decide +kernel
theorem dX8_revoke_58 : decode cX8_revoke 58 = .ok (.iload_n 2, 1) := by decide +kernel
theorem dX8_revoke_59 : decode cX8_revoke 59 = .ok (.ifCond .eq 7, 3) := by decide +kernel
theorem dX8_revoke_62 : decode cX8_revoke 62 = .ok (.iconst 1, 1) := by decide +kernel
theorem dX8_revoke_63 : decode cX8_revoke 63 = .ok (.goto 4, 3) := by decide +kernel
theorem dX8_revoke_66 : decode cX8_revoke 66 = .ok (.iconst 0, 1) := by decide +kernel
theorem dX8_revoke_67 : decode cX8_revoke 67 = .ok (.putfield 274, 3) := by decide +kernel
theorem dX8_revoke_70 : decode cX8_revoke 70 = .ok (.iload 5, 2) := by decide +kernel
theorem dX8_revoke_72 : decode cX8_revoke 72 = .ok (.ireturn, 1) := by decide +kernel
theorem dX8_isGood_0 : decode cX8_isGood 0 = .ok (.aload_n 0, 1) := by decide +kernel
theorem dX8_isGood_1 : decode cX8_isGood 1 = .ok (.aload_n 0, 1) := by decide +kernel
theorem dX8_isGood_2 : decode cX8_isGood 2 = .ok (.iload_n 1, 1) := by decide +kernel
theorem dX8_isGood_3 : decode cX8_isGood 3 = .ok (.invokevirtual 159, 3) := by decide +kernel
theorem dX8_isGood_6 : decode cX8_isGood 6 = .ok (.invokevirtual 277, 3) := by decide +kernel
theorem dX8_isGood_9 : decode cX8_isGood 9 = .ok (.ireturn, 1) := by decide +kernel
theorem dX8_copy_0 : decode cX8_copy 0 = .ok (.aload_n 0, 1) := by decide +kernel
theorem dX8_copy_1 : decode cX8_copy 1 = .ok (.iload_n 1, 1) := by decide +kernel
theorem dX8_copy_2 : decode cX8_copy 2 = .ok (.invokevirtual 159, 3) := by decide +kernel
theorem dX8_copy_5 : decode cX8_copy 5 = .ok (.getfield 224, 3) := by decide +kernel
theorem dX8_copy_8 : decode cX8_copy 8 = .ok (.astore_n 2, 1) := by decide +kernel
theorem dX8_copy_9 : decode cX8_copy 9 = .ok (.aload_n 2, 1) := by decide +kernel
theorem dX8_copy_10 : decode cX8_copy 10 = .ok (.getfield 281, 3) := by decide +kernel
theorem dX8_copy_13 : decode cX8_copy 13 = .ok (.ifCond .eq 11, 3) := by decide +kernel
theorem dX8_copy_16 : decode cX8_copy 16 = .ok (.aload_n 2, 1) := by decide +kernel
theorem dX8_copy_17 : decode cX8_copy 17 = .ok (.getfield 281, 3) := by decide +kernel
theorem dX8_copy_20 : decode cX8_copy 20 = .ok (.iconst 4, 1) := by decide +kernel
theorem dX8_copy_21 : decode cX8_copy 21 = .ok (.if_icmp .lt 14, 3) := by decide +kernel
theorem dX8_copy_24 : decode cX8_copy 24 = .ok (.new 54, 3) := by decide +kernel
theorem dX8_copy_27 : decode cX8_copy 27 = .ok (.dup, 1) := by decide +kernel
theorem dX8_copy_28 : decode cX8_copy 28 = .ok (.ldc_w 284, 3) := by decide +kernel
theorem dX8_copy_31 : decode cX8_copy 31 = .ok (.invokespecial 58, 3) := by decide +kernel
theorem dX8_copy_34 : decode cX8_copy 34 = .ok (.athrow, 1) := by decide +kernel
theorem dX8_copy_35 : decode cX8_copy 35 = .ok (.aload_n 2, 1) := by decide +kernel
theorem dX8_copy_36 : decode cX8_copy 36 = .ok (.invokevirtual 286, 3) := by decide +kernel
theorem dX8_copy_39 : decode cX8_copy 39 = .ok (.iconst 1, 1) := by decide +kernel
theorem dX8_copy_40 : decode cX8_copy 40 = .ok (.iadd, 1) := by decide +kernel
theorem dX8_copy_41 : decode cX8_copy 41 = .ok (.istore_n 3, 1) := by decide +kernel
theorem dX8_copy_42 : decode cX8_copy 42 = .ok (.aload_n 2, 1) := by decide +kernel
theorem dX8_copy_43 : decode cX8_copy 43 = .ok (.iload_n 3, 1) := by decide +kernel
theorem dX8_copy_44 : decode cX8_copy 44 = .ok (.invokevirtual 228, 3) := by decide +kernel
theorem dX8_copy_47 : decode cX8_copy 47 = .ok (.iload_n 3, 1) := by decide +kernel
theorem dX8_copy_48 : decode cX8_copy 48 = .ok (.ireturn, 1) := by decide +kernel
theorem dX8_lose_0 : decode cX8_lose 0 = .ok (.aload_n 0, 1) := by decide +kernel
theorem dX8_lose_1 : decode cX8_lose 1 = .ok (.iload_n 1, 1) := by decide +kernel
theorem dX8_lose_2 : decode cX8_lose 2 = .ok (.invokevirtual 159, 3) := by decide +kernel
theorem dX8_lose_5 : decode cX8_lose 5 = .ok (.getfield 224, 3) := by decide +kernel
theorem dX8_lose_8 : decode cX8_lose 8 = .ok (.astore_n 2, 1) := by decide +kernel
theorem dX8_lose_9 : decode cX8_lose 9 = .ok (.aload_n 2, 1) := by decide +kernel
theorem dX8_lose_10 : decode cX8_lose 10 = .ok (.getfield 281, 3) := by decide +kernel
theorem dX8_lose_13 : decode cX8_lose 13 = .ok (.ifCond .ne 14, 3) := by decide +kernel
theorem dX8_lose_16 : decode cX8_lose 16 = .ok (.new 54, 3) := by decide +kernel
theorem dX8_lose_19 : decode cX8_lose 19 = .ok (.dup, 1) := by decide +kernel
theorem dX8_lose_20 : decode cX8_lose 20 = .ok (.ldc_w 289, 3) := by decide +kernel
theorem dX8_lose_23 : decode cX8_lose 23 = .ok (.invokespecial 58, 3) := by decide +kernel
theorem dX8_lose_26 : decode cX8_lose 26 = .ok (.athrow, 1) := by decide +kernel
theorem dX8_lose_27 : decode cX8_lose 27 = .ok (.aload_n 2, 1) := by decide +kernel
theorem dX8_lose_28 : decode cX8_lose 28 = .ok (.invokevirtual 291, 3) := by decide +kernel
theorem dX8_lose_31 : decode cX8_lose 31 = .ok (.aload_n 2, 1) := by decide +kernel
theorem dX8_lose_32 : decode cX8_lose 32 = .ok (.invokevirtual 286, 3) := by decide +kernel
theorem dX8_lose_35 : decode cX8_lose 35 = .ok (.ireturn, 1) := by decide +kernel
theorem dX8_proof_0 : decode cX8_proof 0 = .ok (.aload_n 0, 1) := by decide +kernel
theorem dX8_proof_1 : decode cX8_proof 1 = .ok (.iload_n 1, 1) := by decide +kernel
theorem dX8_proof_2 : decode cX8_proof 2 = .ok (.invokevirtual 159, 3) := by decide +kernel
theorem dX8_proof_5 : decode cX8_proof 5 = .ok (.getfield 224, 3) := by decide +kernel
theorem dX8_proof_8 : decode cX8_proof 8 = .ok (.invokevirtual 286, 3) := by decide +kernel
theorem dX8_proof_11 : decode cX8_proof 11 = .ok (.ireturn, 1) := by decide +kernel
theorem dX8_enter_0 : decode cX8_enter 0 = .ok (.aload_n 0, 1) := by decide +kernel
theorem dX8_enter_1 : decode cX8_enter 1 = .ok (.iload_n 1, 1) := by decide +kernel
theorem dX8_enter_2 : decode cX8_enter 2 = .ok (.invokevirtual 159, 3) := by decide +kernel
theorem dX8_enter_5 : decode cX8_enter 5 = .ok (.astore_n 2, 1) := by decide +kernel
theorem dX8_enter_6 : decode cX8_enter 6 = .ok (.aload_n 2, 1) := by decide +kernel
theorem dX8_enter_7 : decode cX8_enter 7 = .ok (.getfield 294, 3) := by decide +kernel
theorem dX8_enter_10 : decode cX8_enter 10 = .ok (.astore_n 3, 1) := by decide +kernel
theorem dX8_enter_11 : decode cX8_enter 11 = .ok (.aload_n 3, 1) := by decide +kernel
theorem dX8_enter_12 : decode cX8_enter 12 = .ok (.ifnull 22, 3) := by decide +kernel
theorem dX8_enter_15 : decode cX8_enter 15 = .ok (.aload_n 0, 1) := by decide +kernel
theorem dX8_enter_16 : decode cX8_enter 16 = .ok (.getfield 22, 3) := by decide +kernel
theorem dX8_enter_19 : decode cX8_enter 19 = .ok (.invokevirtual 50, 3) := by decide +kernel
theorem dX8_enter_22 : decode cX8_enter 22 = .ok (.bipush 100, 2) := by decide +kernel
theorem dX8_enter_24 : decode cX8_enter 24 = .ok (.if_icmp .ge 10, 3) := by decide +kernel
theorem dX8_enter_27 : decode cX8_enter 27 = .ok (.aload_n 2, 1) := by decide +kernel
theorem dX8_enter_28 : decode cX8_enter 28 = .ok (.invokestatic 298, 3) := by decide +kernel
theorem dX8_enter_31 : decode cX8_enter 31 = .ok (.ifCond .ne 14, 3) := by decide +kernel
theorem dX8_enter_34 : decode cX8_enter 34 = .ok (.new 54, 3) := by decide +kernel
theorem dX8_enter_37 : decode cX8_enter 37 = .ok (.dup, 1) := by decide +kernel
theorem dX8_enter_38 : decode cX8_enter 38 = .ok (.ldc_w 301, 3) := by decide +kernel
theorem dX8_enter_41 : decode cX8_enter 41 = .ok (.invokespecial 58, 3) := by decide +kernel
theorem dX8_enter_44 : decode cX8_enter 44 = .ok (.athrow, 1) := by decide +kernel
theorem dX8_enter_45 : decode cX8_enter 45 = .ok (.aload_n 2, 1) := by decide +kernel
theorem dX8_enter_46 : decode cX8_enter 46 = .ok (.invokestatic 303, 3) := by decide +kernel
theorem dX8_enter_49 : decode cX8_enter 49 = .ok (.astore 4, 2) := by decide +kernel
theorem dX8_enter_51 : decode cX8_enter 51 = .ok (.aload_n 3, 1) := by decide +kernel
theorem dX8_enter_52 : decode cX8_enter 52 = .ok (.getfield 307, 3) := by decide +kernel
theorem dX8_enter_55 : decode cX8_enter 55 = .ok (.aload_n 2, 1) := by decide +kernel
theorem dX8_enter_56 : decode cX8_enter 56 = .ok (.getfield 206, 3) := by decide +kernel
theorem dX8_enter_59 : decode cX8_enter 59 = .ok (.getfield 68, 3) := by decide +kernel
theorem dX8_enter_62 : decode cX8_enter 62 = .ok (.aload_n 2, 1) := by decide +kernel
theorem dX8_enter_63 : decode cX8_enter 63 = .ok (.getfield 310, 3) := by decide +kernel
theorem dX8_enter_66 : decode cX8_enter 66 = .ok (.aload_n 2, 1) := by decide +kernel
theorem dX8_enter_67 : decode cX8_enter 67 = .ok (.getfield 313, 3) := by decide +kernel
theorem dX8_enter_70 : decode cX8_enter 70 = .ok (.invokevirtual 316, 3) := by decide +kernel
theorem dX8_enter_73 : decode cX8_enter 73 = .ok (.ifCond .eq 13, 3) := by decide +kernel
theorem dX8_enter_76 : decode cX8_enter 76 = .ok (.aload_n 0, 1) := by decide +kernel
theorem dX8_enter_77 : decode cX8_enter 77 = .ok (.aload_n 3, 1) := by decide +kernel
theorem dX8_enter_78 : decode cX8_enter 78 = .ok (.aload 4, 2) := by decide +kernel
theorem dX8_enter_80 : decode cX8_enter 80 = .ok (.invokevirtual 320, 3) := by decide +kernel
theorem dX8_enter_83 : decode cX8_enter 83 = .ok (.ifCond .ne 14, 3) := by decide +kernel
theorem dX8_enter_86 : decode cX8_enter 86 = .ok (.new 54, 3) := by decide +kernel
theorem dX8_enter_89 : decode cX8_enter 89 = .ok (.dup, 1) := by decide +kernel
theorem dX8_enter_90 : decode cX8_enter 90 = .ok (.ldc_w 324, 3) := by decide +kernel
theorem dX8_enter_93 : decode cX8_enter 93 = .ok (.invokespecial 58, 3) := by decide +kernel
theorem dX8_enter_96 : decode cX8_enter 96 = .ok (.athrow, 1) := by decide +kernel
theorem dX8_enter_97 : decode cX8_enter 97 = .ok (.aload_n 2, 1) := by decide +kernel
theorem dX8_enter_98 : decode cX8_enter 98 = .ok (.aload_n 0, 1) := by decide +kernel
theorem dX8_enter_99 : decode cX8_enter 99 = .ok (.getfield 22, 3) := by decide +kernel
theorem dX8_enter_102 : decode cX8_enter 102 = .ok (.invokevirtual 50, 3) := by decide +kernel
theorem dX8_enter_105 : decode cX8_enter 105 = .ok (.putfield 239, 3) := by decide +kernel
theorem dX8_enter_108 : decode cX8_enter 108 = .ok (.aload_n 0, 1) := by decide +kernel
theorem dX8_enter_109 : decode cX8_enter 109 = .ok (.dup, 1) := by decide +kernel
theorem dX8_enter_110 : decode cX8_enter 110 = .ok (.getfield 39, 3) := by decide +kernel
theorem dX8_enter_113 : decode cX8_enter 113 = .ok (.aload_n 2, 1) := by decide +kernel
theorem dX8_enter_114 : decode cX8_enter 114 = .ok (.aload_n 3, 1) := by decide +kernel
theorem dX8_enter_115 : decode cX8_enter 115 = .ok (.invokestatic 326, 3) := by decide +kernel
theorem dX8_enter_118 : decode cX8_enter 118 = .ok (.ladd, 1) := by decide +kernel
theorem dX8_enter_119 : decode cX8_enter 119 = .ok (.putfield 39, 3) := by decide +kernel
theorem dX8_enter_122 : decode cX8_enter 122 = .ok (.aload_n 0, 1) := by decide +kernel
theorem dX8_enter_123 : decode cX8_enter 123 = .ok (.new 330, 3) := by decide +kernel
theorem dX8_enter_126 : decode cX8_enter 126 = .ok (.dup, 1) := by decide +kernel
theorem dX8_enter_127 : decode cX8_enter 127 = .ok (.aload_n 2, 1) := by decide +kernel
theorem dX8_enter_128 : decode cX8_enter 128 = .ok (.getfield 236, 3) := by decide +kernel
theorem dX8_enter_131 : decode cX8_enter 131 = .ok (.aload_n 2, 1) := by decide +kernel
theorem dX8_enter_132 : decode cX8_enter 132 = .ok (.getfield 332, 3) := by decide +kernel
theorem dX8_enter_135 : decode cX8_enter 135 = .ok (.aload_n 3, 1) := by decide +kernel
theorem dX8_enter_136 : decode cX8_enter 136 = .ok (.aload_n 0, 1) := by decide +kernel
theorem dX8_enter_137 : decode cX8_enter 137 = .ok (.getfield 32, 3) := by decide +kernel
theorem dX8_enter_140 : decode cX8_enter 140 = .ok (.aload 4, 2) := by decide +kernel
theorem dX8_enter_142 : decode cX8_enter 142 = .ok (.invokespecial 333, 3) := by decide +kernel
theorem dX8_enter_145 : decode cX8_enter 145 = .ok (.invokevirtual 336, 3) := by decide +kernel
theorem dX8_enter_148 : decode cX8_enter 148 = .ok (.aload_n 2, 1) := by decide +kernel
theorem dX8_enter_149 : decode cX8_enter 149 = .ok (.getfield 239, 3) := by decide +kernel
theorem dX8_enter_152 : decode cX8_enter 152 = .ok (.ireturn, 1) := by decide +kernel
theorem dX8_die_0 : decode cX8_die 0 = .ok (.aload_n 0, 1) := by decide +kernel
theorem dX8_die_1 : decode cX8_die 1 = .ok (.iload_n 1, 1) := by decide +kernel
theorem dX8_die_2 : decode cX8_die 2 = .ok (.invokevirtual 71, 3) := by decide +kernel
theorem dX8_die_5 : decode cX8_die 5 = .ok (.astore_n 2, 1) := by decide +kernel
theorem dX8_die_6 : decode cX8_die 6 = .ok (.aload_n 2, 1) := by decide +kernel
theorem dX8_die_7 : decode cX8_die 7 = .ok (.getfield 96, 3) := by decide +kernel
theorem dX8_die_10 : decode cX8_die 10 = .ok (.ifCond .ne 14, 3) := by decide +kernel
theorem dX8_die_13 : decode cX8_die 13 = .ok (.new 54, 3) := by decide +kernel
theorem dX8_die_16 : decode cX8_die 16 = .ok (.dup, 1) := by decide +kernel
theorem dX8_die_17 : decode cX8_die 17 = .ok (.ldc_w 340, 3) := by decide +kernel
theorem dX8_die_20 : decode cX8_die 20 = .ok (.invokespecial 58, 3) := by decide +kernel
theorem dX8_die_23 : decode cX8_die 23 = .ok (.athrow, 1) := by decide +kernel
theorem dX8_die_24 : decode cX8_die 24 = .ok (.aload_n 0, 1) := by decide +kernel
theorem dX8_die_25 : decode cX8_die 25 = .ok (.aload_n 2, 1) := by decide +kernel
theorem dX8_die_26 : decode cX8_die 26 = .ok (.invokevirtual 342, 3) := by decide +kernel
theorem dX8_die_29 : decode cX8_die 29 = .ok (.astore_n 3, 1) := by decide +kernel
theorem dX8_die_30 : decode cX8_die 30 = .ok (.aload_n 0, 1) := by decide +kernel
theorem dX8_die_31 : decode cX8_die 31 = .ok (.aload_n 2, 1) := by decide +kernel
theorem dX8_die_32 : decode cX8_die 32 = .ok (.aload_n 3, 1) := by decide +kernel
theorem dX8_die_33 : decode cX8_die 33 = .ok (.invokevirtual 346, 3) := by decide +kernel
theorem dX8_die_36 : decode cX8_die 36 = .ok (.istore 4, 2) := by decide +kernel
theorem dX8_die_38 : decode cX8_die 38 = .ok (.aload_n 0, 1) := by decide +kernel
theorem dX8_die_39 : decode cX8_die 39 = .ok (.getfield 22, 3) := by decide +kernel
theorem dX8_die_42 : decode cX8_die 42 = .ok (.invokevirtual 50, 3) := by decide +kernel
theorem dX8_die_45 : decode cX8_die 45 = .ok (.iload 4, 2) := by decide +kernel
theorem dX8_die_47 : decode cX8_die 47 = .ok (.iadd, 1) := by decide +kernel
theorem dX8_die_48 : decode cX8_die 48 = .ok (.bipush 100, 2) := by decide +kernel
theorem dX8_die_50 : decode cX8_die 50 = .ok (.if_icmp .le 14, 3) := by decide +kernel
theorem dX8_die_53 : decode cX8_die 53 = .ok (.new 54, 3) := by decide +kernel
theorem dX8_die_56 : decode cX8_die 56 = .ok (.dup, 1) := by decide +kernel
theorem dX8_die_57 : decode cX8_die 57 = .ok (.ldc_w 350, 3) := by decide +kernel
theorem dX8_die_60 : decode cX8_die 60 = .ok (.invokespecial 58, 3) := by decide +kernel
theorem dX8_die_63 : decode cX8_die 63 = .ok (.athrow, 1) := by decide +kernel
theorem dX8_die_64 : decode cX8_die 64 = .ok (.aload_n 2, 1) := by decide +kernel
theorem dX8_die_65 : decode cX8_die 65 = .ok (.iconst 0, 1) := by decide +kernel
theorem dX8_die_66 : decode cX8_die 66 = .ok (.putfield 96, 3) := by decide +kernel
theorem dX8_die_69 : decode cX8_die 69 = .ok (.aload_n 0, 1) := by decide +kernel
theorem dX8_die_70 : decode cX8_die 70 = .ok (.aload_n 2, 1) := by decide +kernel
theorem dX8_die_71 : decode cX8_die 71 = .ok (.invokevirtual 352, 3) := by decide +kernel
theorem dX8_die_74 : decode cX8_die 74 = .ok (.iconst 0, 1) := by decide +kernel
theorem dX8_die_75 : decode cX8_die 75 = .ok (.istore 5, 2) := by decide +kernel
theorem dX8_die_77 : decode cX8_die 77 = .ok (.iload 5, 2) := by decide +kernel
theorem dX8_die_79 : decode cX8_die 79 = .ok (.aload_n 0, 1) := by decide +kernel
theorem dX8_die_80 : decode cX8_die 80 = .ok (.getfield 16, 3) := by decide +kernel
theorem dX8_die_83 : decode cX8_die 83 = .ok (.invokevirtual 50, 3) := by decide +kernel
theorem dX8_die_86 : decode cX8_die 86 = .ok (.if_icmp .ge 61, 3) := by decide +kernel
theorem dX8_die_89 : decode cX8_die 89 = .ok (.aload_n 0, 1) := by decide +kernel
theorem dX8_die_90 : decode cX8_die 90 = .ok (.getfield 16, 3) := by decide +kernel
theorem dX8_die_93 : decode cX8_die 93 = .ok (.iload 5, 2) := by decide +kernel
theorem dX8_die_95 : decode cX8_die 95 = .ok (.invokevirtual 355, 3) := by decide +kernel
theorem dX8_die_98 : decode cX8_die 98 = .ok (.checkcast 111, 3) := by decide +kernel
theorem dX8_die_101 : decode cX8_die 101 = .ok (.astore 6, 2) := by decide +kernel
theorem dX8_die_103 : decode cX8_die 103 = .ok (.aload 6, 2) := by decide +kernel
theorem dX8_die_105 : decode cX8_die 105 = .ok (.getfield 307, 3) := by decide +kernel
theorem dX8_die_108 : decode cX8_die 108 = .ok (.aload_n 2, 1) := by decide +kernel
theorem dX8_die_109 : decode cX8_die 109 = .ok (.getfield 68, 3) := by decide +kernel
theorem dX8_die_112 : decode cX8_die 112 = .ok (.invokevirtual 359, 3) := by decide +kernel
theorem dX8_die_115 : decode cX8_die 115 = .ok (.ifCond .ne 26, 3) := by decide +kernel
theorem dX8_die_118 : decode cX8_die 118 = .ok (.aload_n 0, 1) := by decide +kernel
theorem dX8_die_119 : decode cX8_die 119 = .ok (.new 330, 3) := by decide +kernel
theorem dX8_die_122 : decode cX8_die 122 = .ok (.dup, 1) := by decide +kernel
theorem dX8_die_123 : decode cX8_die 123 = .ok (.iconst 5, 1) := by decide +kernel
theorem dX8_die_124 : decode cX8_die 124 = .ok (.aload_n 2, 1) := by decide +kernel
theorem dX8_die_125 : decode cX8_die 125 = .ok (.getfield 68, 3) := by decide +kernel
theorem dX8_die_128 : decode cX8_die 128 = .ok (.aload 6, 2) := by decide +kernel
theorem dX8_die_130 : decode cX8_die 130 = .ok (.aload_n 0, 1) := by decide +kernel
theorem dX8_die_131 : decode cX8_die 131 = .ok (.getfield 32, 3) := by decide +kernel
theorem dX8_die_134 : decode cX8_die 134 = .ok (.aload_n 3, 1) := by decide +kernel
theorem dX8_die_135 : decode cX8_die 135 = .ok (.invokespecial 333, 3) := by decide +kernel
theorem dX8_die_138 : decode cX8_die 138 = .ok (.invokevirtual 336, 3) := by decide +kernel
theorem dX8_die_141 : decode cX8_die 141 = .ok (.iinc 5 1, 3) := by decide +kernel
theorem dX8_die_144 : decode cX8_die 144 = .ok (.goto (-67), 3) := by decide +kernel
theorem dX8_die_147 : decode cX8_die 147 = .ok (.iload 4, 2) := by decide +kernel
theorem dX8_die_149 : decode cX8_die 149 = .ok (.ireturn, 1) := by decide +kernel
theorem dX8_entry_0 : decode cX8_entry 0 = .ok (.iload_n 1, 1) := by decide +kernel
theorem dX8_entry_1 : decode cX8_entry 1 = .ok (.ifCond .lt 14, 3) := by decide +kernel
theorem dX8_entry_4 : decode cX8_entry 4 = .ok (.iload_n 1, 1) := by decide +kernel
theorem dX8_entry_5 : decode cX8_entry 5 = .ok (.aload_n 0, 1) := by decide +kernel
theorem dX8_entry_6 : decode cX8_entry 6 = .ok (.getfield 22, 3) := by decide +kernel
theorem dX8_entry_9 : decode cX8_entry 9 = .ok (.invokevirtual 50, 3) := by decide +kernel
theorem dX8_entry_12 : decode cX8_entry 12 = .ok (.if_icmp .lt 14, 3) := by decide +kernel
theorem dX8_entry_15 : decode cX8_entry 15 = .ok (.new 242, 3) := by decide +kernel
theorem dX8_entry_18 : decode cX8_entry 18 = .ok (.dup, 1) := by decide +kernel
theorem dX8_entry_19 : decode cX8_entry 19 = .ok (.ldc_w 362, 3) := by decide +kernel
theorem dX8_entry_22 : decode cX8_entry 22 = .ok (.invokespecial 246, 3) := by decide +kernel
theorem dX8_entry_25 : decode cX8_entry 25 = .ok (.athrow, 1) := by decide +kernel
theorem dX8_entry_26 : decode cX8_entry 26 = .ok (.iload_n 2, 1) := by decide +kernel
theorem dX8_entry_27 : decode cX8_entry 27 = .ok (.ifCond .lt 8, 3) := by decide +kernel
theorem dX8_entry_30 : decode cX8_entry 30 = .ok (.iload_n 2, 1) := by decide +kernel
theorem dX8_entry_31 : decode cX8_entry 31 = .ok (.iconst 3, 1) := by decide +kernel
theorem dX8_entry_32 : decode cX8_entry 32 = .ok (.if_icmp .le 13, 3) := by decide +kernel
theorem dX8_entry_35 : decode cX8_entry 35 = .ok (.new 43, 3) := by decide +kernel
theorem dX8_entry_38 : decode cX8_entry 38 = .ok (.dup, 1) := by decide +kernel
theorem dX8_entry_39 : decode cX8_entry 39 = .ok (.ldc 234, 2) := by decide +kernel
theorem dX8_entry_41 : decode cX8_entry 41 = .ok (.invokespecial 47, 3) := by decide +kernel
theorem dX8_entry_44 : decode cX8_entry 44 = .ok (.athrow, 1) := by decide +kernel
theorem dX8_entry_45 : decode cX8_entry 45 = .ok (.aload_n 0, 1) := by decide +kernel
theorem dX8_entry_46 : decode cX8_entry 46 = .ok (.getfield 22, 3) := by decide +kernel
theorem dX8_entry_49 : decode cX8_entry 49 = .ok (.iload_n 1, 1) := by decide +kernel
theorem dX8_entry_50 : decode cX8_entry 50 = .ok (.invokevirtual 355, 3) := by decide +kernel
theorem dX8_entry_53 : decode cX8_entry 53 = .ok (.checkcast 330, 3) := by decide +kernel
theorem dX8_entry_56 : decode cX8_entry 56 = .ok (.astore_n 3, 1) := by decide +kernel
theorem dX8_entry_57 : decode cX8_entry 57 = .ok (.iload_n 2, 1) := by decide +kernel
theorem dX8_entry_58 : decode cX8_entry 58 = .ok (.tableswitch 44 0 2 #[26, 31, 36], 26) := by decide +kernel
theorem dX8_entry_84 : decode cX8_entry 84 = .ok (.aload_n 3, 1) := by decide +kernel
theorem dX8_entry_85 : decode cX8_entry 85 = .ok (.getfield 364, 3) := by decide +kernel
theorem dX8_entry_88 : decode cX8_entry 88 = .ok (.ireturn, 1) := by decide +kernel
theorem dX8_entry_89 : decode cX8_entry 89 = .ok (.aload_n 3, 1) := by decide +kernel
theorem dX8_entry_90 : decode cX8_entry 90 = .ok (.getfield 365, 3) := by decide +kernel
theorem dX8_entry_93 : decode cX8_entry 93 = .ok (.ireturn, 1) := by decide +kernel
theorem dX8_entry_94 : decode cX8_entry 94 = .ok (.aload_n 3, 1) := by decide +kernel
theorem dX8_entry_95 : decode cX8_entry 95 = .ok (.getfield 368, 3) := by decide +kernel
theorem dX8_entry_98 : decode cX8_entry 98 = .ok (.getfield 116, 3) := by decide +kernel
theorem dX8_entry_101 : decode cX8_entry 101 = .ok (.ireturn, 1) := by decide +kernel
theorem dX8_entry_102 : decode cX8_entry 102 = .ok (.aload_n 3, 1) := by decide +kernel
theorem dX8_entry_103 : decode cX8_entry 103 = .ok (.getfield 369, 3) := by decide +kernel
theorem dX8_entry_106 : decode cX8_entry 106 = .ok (.ireturn, 1) := by decide +kernel
theorem dX8_entries_0 : decode cX8_entries 0 = .ok (.aload_n 0, 1) := by decide +kernel
theorem dX8_entries_1 : decode cX8_entries 1 = .ok (.getfield 22, 3) := by decide +kernel
theorem dX8_entries_4 : decode cX8_entries 4 = .ok (.invokevirtual 50, 3) := by decide +kernel
theorem dX8_entries_7 : decode cX8_entries 7 = .ok (.ireturn, 1) := by decide +kernel
theorem dX8_search_0 : decode cX8_search 0 = .ok (.aload_n 0, 1) := by decide +kernel
theorem dX8_search_1 : decode cX8_search 1 = .ok (.iload_n 1, 1) := by decide +kernel
theorem dX8_search_2 : decode cX8_search 2 = .ok (.invokevirtual 121, 3) := by decide +kernel
theorem dX8_search_5 : decode cX8_search 5 = .ok (.astore 4, 2) := by decide +kernel
theorem dX8_search_7 : decode cX8_search 7 = .ok (.iload_n 2, 1) := by decide +kernel
theorem dX8_search_8 : decode cX8_search 8 = .ok (.ifCond .lt 8, 3) := by decide +kernel
theorem dX8_search_11 : decode cX8_search 11 = .ok (.iload_n 3, 1) := by decide +kernel
theorem dX8_search_12 : decode cX8_search 12 = .ok (.iload_n 2, 1) := by decide +kernel
theorem dX8_search_13 : decode cX8_search 13 = .ok (.if_icmp .ge 14, 3) := by decide +kernel
theorem dX8_search_16 : decode cX8_search 16 = .ok (.new 43, 3) := by decide +kernel
theorem dX8_search_19 : decode cX8_search 19 = .ok (.dup, 1) := by decide +kernel
theorem dX8_search_20 : decode cX8_search 20 = .ok (.ldc_w 372, 3) := by decide +kernel
theorem dX8_search_23 : decode cX8_search 23 = .ok (.invokespecial 47, 3) := by decide +kernel
theorem dX8_search_26 : decode cX8_search 26 = .ok (.athrow, 1) := by decide +kernel
theorem dX8_search_27 : decode cX8_search 27 = .ok (.iconst 0, 1) := by decide +kernel
theorem dX8_search_28 : decode cX8_search 28 = .ok (.istore 5, 2) := by decide +kernel
theorem dX8_search_30 : decode cX8_search 30 = .ok (.iload_n 2, 1) := by decide +kernel
theorem dX8_search_31 : decode cX8_search 31 = .ok (.istore 6, 2) := by decide +kernel
theorem dX8_search_33 : decode cX8_search 33 = .ok (.iload 6, 2) := by decide +kernel
theorem dX8_search_35 : decode cX8_search 35 = .ok (.iload_n 3, 1) := by decide +kernel
theorem dX8_search_36 : decode cX8_search 36 = .ok (.if_icmp .gt 44, 3) := by decide +kernel
theorem dX8_search_39 : decode cX8_search 39 = .ok (.iload 6, 2) := by decide +kernel
theorem dX8_search_41 : decode cX8_search 41 = .ok (.aload_n 0, 1) := by decide +kernel
theorem dX8_search_42 : decode cX8_search 42 = .ok (.getfield 22, 3) := by decide +kernel
theorem dX8_search_45 : decode cX8_search 45 = .ok (.invokevirtual 50, 3) := by decide +kernel
theorem dX8_search_48 : decode cX8_search 48 = .ok (.if_icmp .ge 32, 3) := by decide +kernel
theorem dX8_search_51 : decode cX8_search 51 = .ok (.aload_n 0, 1) := by decide +kernel
theorem dX8_search_52 : decode cX8_search 52 = .ok (.getfield 22, 3) := by decide +kernel
theorem dX8_search_55 : decode cX8_search 55 = .ok (.iload 6, 2) := by decide +kernel
theorem dX8_search_57 : decode cX8_search 57 = .ok (.invokevirtual 355, 3) := by decide +kernel
theorem dX8_search_60 : decode cX8_search 60 = .ok (.checkcast 330, 3) := by decide +kernel
theorem dX8_search_63 : decode cX8_search 63 = .ok (.getfield 368, 3) := by decide +kernel
theorem dX8_search_66 : decode cX8_search 66 = .ok (.aload 4, 2) := by decide +kernel
theorem dX8_search_68 : decode cX8_search 68 = .ok (.if_acmp .ne 6, 3) := by decide +kernel
theorem dX8_search_71 : decode cX8_search 71 = .ok (.iinc 5 1, 3) := by decide +kernel
theorem dX8_search_74 : decode cX8_search 74 = .ok (.iinc 6 1, 3) := by decide +kernel
theorem dX8_search_77 : decode cX8_search 77 = .ok (.goto (-44), 3) := by decide +kernel
theorem dX8_search_80 : decode cX8_search 80 = .ok (.iload 5, 2) := by decide +kernel
theorem dX8_search_82 : decode cX8_search 82 = .ok (.ireturn, 1) := by decide +kernel
theorem dX8_pledge_0 : decode cX8_pledge 0 = .ok (.aload_n 0, 1) := by decide +kernel
theorem dX8_pledge_1 : decode cX8_pledge 1 = .ok (.iload_n 1, 1) := by decide +kernel
theorem dX8_pledge_2 : decode cX8_pledge 2 = .ok (.invokevirtual 121, 3) := by decide +kernel
theorem dX8_pledge_5 : decode cX8_pledge 5 = .ok (.astore_n 3, 1) := by decide +kernel
theorem dX8_pledge_6 : decode cX8_pledge 6 = .ok (.iload_n 2, 1) := by decide +kernel
theorem dX8_pledge_7 : decode cX8_pledge 7 = .ok (.ifCond .ge 14, 3) := by decide +kernel
theorem dX8_pledge_10 : decode cX8_pledge 10 = .ok (.new 242, 3) := by decide +kernel
theorem dX8_pledge_13 : decode cX8_pledge 13 = .ok (.dup, 1) := by decide +kernel
theorem dX8_pledge_14 : decode cX8_pledge 14 = .ok (.ldc_w 374, 3) := by decide +kernel
theorem dX8_pledge_17 : decode cX8_pledge 17 = .ok (.invokespecial 246, 3) := by decide +kernel
theorem dX8_pledge_20 : decode cX8_pledge 20 = .ok (.athrow, 1) := by decide +kernel
theorem dX8_pledge_21 : decode cX8_pledge 21 = .ok (.iconst 0, 1) := by decide +kernel
theorem dX8_pledge_22 : decode cX8_pledge 22 = .ok (.istore 4, 2) := by decide +kernel
theorem dX8_pledge_24 : decode cX8_pledge 24 = .ok (.iconst 0, 1) := by decide +kernel
theorem dX8_pledge_25 : decode cX8_pledge 25 = .ok (.istore 5, 2) := by decide +kernel
theorem dX8_pledge_27 : decode cX8_pledge 27 = .ok (.iload 5, 2) := by decide +kernel
theorem dX8_pledge_29 : decode cX8_pledge 29 = .ok (.aload_n 0, 1) := by decide +kernel
theorem dX8_pledge_30 : decode cX8_pledge 30 = .ok (.getfield 22, 3) := by decide +kernel
theorem dX8_pledge_33 : decode cX8_pledge 33 = .ok (.invokevirtual 50, 3) := by decide +kernel
theorem dX8_pledge_36 : decode cX8_pledge 36 = .ok (.if_icmp .ge 56, 3) := by decide +kernel
theorem dX8_pledge_39 : decode cX8_pledge 39 = .ok (.aload_n 0, 1) := by decide +kernel
theorem dX8_pledge_40 : decode cX8_pledge 40 = .ok (.getfield 22, 3) := by decide +kernel
theorem dX8_pledge_43 : decode cX8_pledge 43 = .ok (.iload 5, 2) := by decide +kernel
theorem dX8_pledge_45 : decode cX8_pledge 45 = .ok (.invokevirtual 355, 3) := by decide +kernel
theorem dX8_pledge_48 : decode cX8_pledge 48 = .ok (.checkcast 330, 3) := by decide +kernel
theorem dX8_pledge_51 : decode cX8_pledge 51 = .ok (.astore 6, 2) := by decide +kernel
theorem dX8_pledge_53 : decode cX8_pledge 53 = .ok (.aload 6, 2) := by decide +kernel
theorem dX8_pledge_55 : decode cX8_pledge 55 = .ok (.getfield 364, 3) := by decide +kernel
theorem dX8_pledge_58 : decode cX8_pledge 58 = .ok (.iconst 2, 1) := by decide +kernel
theorem dX8_pledge_59 : decode cX8_pledge 59 = .ok (.if_icmp .ne 27, 3) := by decide +kernel
theorem dX8_pledge_62 : decode cX8_pledge 62 = .ok (.aload 6, 2) := by decide +kernel
theorem dX8_pledge_64 : decode cX8_pledge 64 = .ok (.getfield 368, 3) := by decide +kernel
theorem dX8_pledge_67 : decode cX8_pledge 67 = .ok (.aload_n 3, 1) := by decide +kernel
theorem dX8_pledge_68 : decode cX8_pledge 68 = .ok (.if_acmp .ne 18, 3) := by decide +kernel
theorem dX8_pledge_71 : decode cX8_pledge 71 = .ok (.iload 4, 2) := by decide +kernel
theorem dX8_pledge_73 : decode cX8_pledge 73 = .ok (.iload_n 2, 1) := by decide +kernel
theorem dX8_pledge_74 : decode cX8_pledge 74 = .ok (.if_icmp .ne 9, 3) := by decide +kernel
theorem dX8_pledge_77 : decode cX8_pledge 77 = .ok (.aload 6, 2) := by decide +kernel
theorem dX8_pledge_79 : decode cX8_pledge 79 = .ok (.getfield 365, 3) := by decide +kernel
theorem dX8_pledge_82 : decode cX8_pledge 82 = .ok (.ireturn, 1) := by decide +kernel
theorem dX8_pledge_83 : decode cX8_pledge 83 = .ok (.iinc 4 1, 3) := by decide +kernel
theorem dX8_pledge_86 : decode cX8_pledge 86 = .ok (.iinc 5 1, 3) := by decide +kernel
theorem dX8_pledge_89 : decode cX8_pledge 89 = .ok (.goto (-62), 3) := by decide +kernel
theorem dX8_pledge_92 : decode cX8_pledge 92 = .ok (.iconst (-1), 1) := by decide +kernel
theorem dX8_pledge_93 : decode cX8_pledge 93 = .ok (.ireturn, 1) := by decide +kernel
theorem dX8_share_0 : decode cX8_share 0 = .ok (.aload_n 0, 1) := by decide +kernel
theorem dX8_share_1 : decode cX8_share 1 = .ok (.iload_n 1, 1) := by decide +kernel
theorem dX8_share_2 : decode cX8_share 2 = .ok (.invokevirtual 121, 3) := by decide +kernel
theorem dX8_share_5 : decode cX8_share 5 = .ok (.astore 4, 2) := by decide +kernel
theorem dX8_share_7 : decode cX8_share 7 = .ok (.aload 4, 2) := by decide +kernel
theorem dX8_share_9 : decode cX8_share 9 = .ok (.getfield 307, 3) := by decide +kernel
theorem dX8_share_12 : decode cX8_share 12 = .ok (.aload_n 0, 1) := by decide +kernel
theorem dX8_share_13 : decode cX8_share 13 = .ok (.iload_n 2, 1) := by decide +kernel
theorem dX8_share_14 : decode cX8_share 14 = .ok (.invokevirtual 376, 3) := by decide +kernel
theorem dX8_share_17 : decode cX8_share 17 = .ok (.iload_n 3, 1) := by decide +kernel
theorem dX8_share_18 : decode cX8_share 18 = .ok (.invokevirtual 380, 3) := by decide +kernel
theorem dX8_share_21 : decode cX8_share 21 = .ok (.ireturn, 1) := by decide +kernel
theorem dX8_shareAnew_0 : decode cX8_shareAnew 0 = .ok (.aload_n 0, 1) := by decide +kernel
theorem dX8_shareAnew_1 : decode cX8_shareAnew 1 = .ok (.iload_n 1, 1) := by decide +kernel
theorem dX8_shareAnew_2 : decode cX8_shareAnew 2 = .ok (.invokevirtual 121, 3) := by decide +kernel
theorem dX8_shareAnew_5 : decode cX8_shareAnew 5 = .ok (.astore 4, 2) := by decide +kernel
theorem dX8_shareAnew_7 : decode cX8_shareAnew 7 = .ok (.aload_n 0, 1) := by decide +kernel
theorem dX8_shareAnew_8 : decode cX8_shareAnew 8 = .ok (.iload_n 2, 1) := by decide +kernel
theorem dX8_shareAnew_9 : decode cX8_shareAnew 9 = .ok (.invokevirtual 376, 3) := by decide +kernel
theorem dX8_shareAnew_12 : decode cX8_shareAnew 12 = .ok (.istore 5, 2) := by decide +kernel
theorem dX8_shareAnew_14 : decode cX8_shareAnew 14 = .ok (.aload_n 0, 1) := by decide +kernel
theorem dX8_shareAnew_15 : decode cX8_shareAnew 15 = .ok (.getfield 28, 3) := by decide +kernel
theorem dX8_shareAnew_18 : decode cX8_shareAnew 18 = .ok (.aload 4, 2) := by decide +kernel
theorem dX8_shareAnew_20 : decode cX8_shareAnew 20 = .ok (.getfield 384, 3) := by decide +kernel
theorem dX8_shareAnew_23 : decode cX8_shareAnew 23 = .ok (.invokevirtual 387, 3) := by decide +kernel
theorem dX8_shareAnew_26 : decode cX8_shareAnew 26 = .ok (.iconst 0, 1) := by decide +kernel
theorem dX8_shareAnew_27 : decode cX8_shareAnew 27 = .ok (.istore 6, 2) := by decide +kernel
theorem dX8_shareAnew_29 : decode cX8_shareAnew 29 = .ok (.iload 6, 2) := by decide +kernel
theorem dX8_shareAnew_31 : decode cX8_shareAnew 31 = .ok (.aload_n 0, 1) := by decide +kernel
theorem dX8_shareAnew_32 : decode cX8_shareAnew 32 = .ok (.getfield 22, 3) := by decide +kernel
theorem dX8_shareAnew_35 : decode cX8_shareAnew 35 = .ok (.invokevirtual 50, 3) := by decide +kernel
theorem dX8_shareAnew_38 : decode cX8_shareAnew 38 = .ok (.if_icmp .ge 45, 3) := by decide +kernel
theorem dX8_shareAnew_41 : decode cX8_shareAnew 41 = .ok (.aload_n 0, 1) := by decide +kernel
theorem dX8_shareAnew_42 : decode cX8_shareAnew 42 = .ok (.getfield 22, 3) := by decide +kernel
theorem dX8_shareAnew_45 : decode cX8_shareAnew 45 = .ok (.iload 6, 2) := by decide +kernel
theorem dX8_shareAnew_47 : decode cX8_shareAnew 47 = .ok (.invokevirtual 355, 3) := by decide +kernel
theorem dX8_shareAnew_50 : decode cX8_shareAnew 50 = .ok (.checkcast 330, 3) := by decide +kernel
theorem dX8_shareAnew_53 : decode cX8_shareAnew 53 = .ok (.astore 7, 2) := by decide +kernel
theorem dX8_shareAnew_55 : decode cX8_shareAnew 55 = .ok (.aload 7, 2) := by decide +kernel
theorem dX8_shareAnew_57 : decode cX8_shareAnew 57 = .ok (.getfield 368, 3) := by decide +kernel
theorem dX8_shareAnew_60 : decode cX8_shareAnew 60 = .ok (.aload 4, 2) := by decide +kernel
theorem dX8_shareAnew_62 : decode cX8_shareAnew 62 = .ok (.if_acmp .ne 15, 3) := by decide +kernel
theorem dX8_shareAnew_65 : decode cX8_shareAnew 65 = .ok (.aload_n 0, 1) := by decide +kernel
theorem dX8_shareAnew_66 : decode cX8_shareAnew 66 = .ok (.getfield 28, 3) := by decide +kernel
theorem dX8_shareAnew_69 : decode cX8_shareAnew 69 = .ok (.aload 7, 2) := by decide +kernel
theorem dX8_shareAnew_71 : decode cX8_shareAnew 71 = .ok (.getfield 390, 3) := by decide +kernel
theorem dX8_shareAnew_74 : decode cX8_shareAnew 74 = .ok (.invokevirtual 394, 3) := by decide +kernel
theorem dX8_shareAnew_77 : decode cX8_shareAnew 77 = .ok (.iinc 6 1, 3) := by decide +kernel
theorem dX8_shareAnew_80 : decode cX8_shareAnew 80 = .ok (.goto (-51), 3) := by decide +kernel
theorem dX8_shareAnew_83 : decode cX8_shareAnew 83 = .ok (.aload_n 0, 1) := by decide +kernel
theorem dX8_shareAnew_84 : decode cX8_shareAnew 84 = .ok (.getfield 28, 3) := by decide +kernel
theorem dX8_shareAnew_87 : decode cX8_shareAnew 87 = .ok (.iload 5, 2) := by decide +kernel
theorem dX8_shareAnew_89 : decode cX8_shareAnew 89 = .ok (.iload_n 3, 1) := by decide +kernel
theorem dX8_shareAnew_90 : decode cX8_shareAnew 90 = .ok (.invokevirtual 380, 3) := by decide +kernel
theorem dX8_shareAnew_93 : decode cX8_shareAnew 93 = .ok (.ireturn, 1) := by decide +kernel
theorem dX8_duties_0 : decode cX8_duties 0 = .ok (.aload_n 0, 1) := by decide +kernel
theorem dX8_duties_1 : decode cX8_duties 1 = .ok (.getfield 39, 3) := by decide +kernel
theorem dX8_duties_4 : decode cX8_duties 4 = .ok (.lreturn, 1) := by decide +kernel
theorem dX8_pass_0 : decode cX8_pass 0 = .ok (.iload_n 1, 1) := by decide +kernel
theorem dX8_pass_1 : decode cX8_pass 1 = .ok (.iconst 1, 1) := by decide +kernel
theorem dX8_pass_2 : decode cX8_pass 2 = .ok (.if_icmp .lt 10, 3) := by decide +kernel
theorem dX8_pass_5 : decode cX8_pass 5 = .ok (.iload_n 1, 1) := by decide +kernel
theorem dX8_pass_6 : decode cX8_pass 6 = .ok (.sipush 10000, 3) := by decide +kernel
theorem dX8_pass_9 : decode cX8_pass 9 = .ok (.if_icmp .le 14, 3) := by decide +kernel
theorem dX8_pass_12 : decode cX8_pass 12 = .ok (.new 43, 3) := by decide +kernel
theorem dX8_pass_15 : decode cX8_pass 15 = .ok (.dup, 1) := by decide +kernel
theorem dX8_pass_16 : decode cX8_pass 16 = .ok (.ldc_w 398, 3) := by decide +kernel
theorem dX8_pass_19 : decode cX8_pass 19 = .ok (.invokespecial 47, 3) := by decide +kernel
theorem dX8_pass_22 : decode cX8_pass 22 = .ok (.athrow, 1) := by decide +kernel
theorem dX8_pass_23 : decode cX8_pass 23 = .ok (.aload_n 0, 1) := by decide +kernel
theorem dX8_pass_24 : decode cX8_pass 24 = .ok (.dup, 1) := by decide +kernel
theorem dX8_pass_25 : decode cX8_pass 25 = .ok (.getfield 32, 3) := by decide +kernel
theorem dX8_pass_28 : decode cX8_pass 28 = .ok (.iload_n 1, 1) := by decide +kernel
theorem dX8_pass_29 : decode cX8_pass 29 = .ok (.iadd, 1) := by decide +kernel
theorem dX8_pass_30 : decode cX8_pass 30 = .ok (.putfield 32, 3) := by decide +kernel
theorem dX8_pass_33 : decode cX8_pass 33 = .ok (.aload_n 0, 1) := by decide +kernel
theorem dX8_pass_34 : decode cX8_pass 34 = .ok (.getfield 32, 3) := by decide +kernel
theorem dX8_pass_37 : decode cX8_pass 37 = .ok (.ireturn, 1) := by decide +kernel
theorem dX8_personAt_0 : decode cX8_personAt 0 = .ok (.iload_n 1, 1) := by decide +kernel
theorem dX8_personAt_1 : decode cX8_personAt 1 = .ok (.ifCond .lt 14, 3) := by decide +kernel
theorem dX8_personAt_4 : decode cX8_personAt 4 = .ok (.iload_n 1, 1) := by decide +kernel
theorem dX8_personAt_5 : decode cX8_personAt 5 = .ok (.aload_n 0, 1) := by decide +kernel
theorem dX8_personAt_6 : decode cX8_personAt 6 = .ok (.getfield 12, 3) := by decide +kernel
theorem dX8_personAt_9 : decode cX8_personAt 9 = .ok (.invokevirtual 50, 3) := by decide +kernel
theorem dX8_personAt_12 : decode cX8_personAt 12 = .ok (.if_icmp .lt 14, 3) := by decide +kernel
theorem dX8_personAt_15 : decode cX8_personAt 15 = .ok (.new 242, 3) := by decide +kernel
theorem dX8_personAt_18 : decode cX8_personAt 18 = .ok (.dup, 1) := by decide +kernel
theorem dX8_personAt_19 : decode cX8_personAt 19 = .ok (.ldc_w 400, 3) := by decide +kernel
theorem dX8_personAt_22 : decode cX8_personAt 22 = .ok (.invokespecial 246, 3) := by decide +kernel
theorem dX8_personAt_25 : decode cX8_personAt 25 = .ok (.athrow, 1) := by decide +kernel
theorem dX8_personAt_26 : decode cX8_personAt 26 = .ok (.aload_n 0, 1) := by decide +kernel
theorem dX8_personAt_27 : decode cX8_personAt 27 = .ok (.getfield 12, 3) := by decide +kernel
theorem dX8_personAt_30 : decode cX8_personAt 30 = .ok (.iload_n 1, 1) := by decide +kernel
theorem dX8_personAt_31 : decode cX8_personAt 31 = .ok (.invokevirtual 355, 3) := by decide +kernel
theorem dX8_personAt_34 : decode cX8_personAt 34 = .ok (.checkcast 59, 3) := by decide +kernel
theorem dX8_personAt_37 : decode cX8_personAt 37 = .ok (.areturn, 1) := by decide +kernel
theorem dX8_thingAt_0 : decode cX8_thingAt 0 = .ok (.iload_n 1, 1) := by decide +kernel
theorem dX8_thingAt_1 : decode cX8_thingAt 1 = .ok (.ifCond .lt 14, 3) := by decide +kernel
theorem dX8_thingAt_4 : decode cX8_thingAt 4 = .ok (.iload_n 1, 1) := by decide +kernel
theorem dX8_thingAt_5 : decode cX8_thingAt 5 = .ok (.aload_n 0, 1) := by decide +kernel
theorem dX8_thingAt_6 : decode cX8_thingAt 6 = .ok (.getfield 16, 3) := by decide +kernel
theorem dX8_thingAt_9 : decode cX8_thingAt 9 = .ok (.invokevirtual 50, 3) := by decide +kernel
theorem dX8_thingAt_12 : decode cX8_thingAt 12 = .ok (.if_icmp .lt 14, 3) := by decide +kernel
theorem dX8_thingAt_15 : decode cX8_thingAt 15 = .ok (.new 242, 3) := by decide +kernel
theorem dX8_thingAt_18 : decode cX8_thingAt 18 = .ok (.dup, 1) := by decide +kernel
theorem dX8_thingAt_19 : decode cX8_thingAt 19 = .ok (.ldc_w 402, 3) := by decide +kernel
theorem dX8_thingAt_22 : decode cX8_thingAt 22 = .ok (.invokespecial 246, 3) := by decide +kernel
theorem dX8_thingAt_25 : decode cX8_thingAt 25 = .ok (.athrow, 1) := by decide +kernel
theorem dX8_thingAt_26 : decode cX8_thingAt 26 = .ok (.aload_n 0, 1) := by decide +kernel
theorem dX8_thingAt_27 : decode cX8_thingAt 27 = .ok (.getfield 16, 3) := by decide +kernel
theorem dX8_thingAt_30 : decode cX8_thingAt 30 = .ok (.iload_n 1, 1) := by decide +kernel
theorem dX8_thingAt_31 : decode cX8_thingAt 31 = .ok (.invokevirtual 355, 3) := by decide +kernel
theorem dX8_thingAt_34 : decode cX8_thingAt 34 = .ok (.checkcast 111, 3) := by decide +kernel
theorem dX8_thingAt_37 : decode cX8_thingAt 37 = .ok (.areturn, 1) := by decide +kernel
theorem dX8_deedAt_0 : decode cX8_deedAt 0 = .ok (.iload_n 1, 1) := by decide +kernel
theorem dX8_deedAt_1 : decode cX8_deedAt 1 = .ok (.ifCond .lt 14, 3) := by decide +kernel
theorem dX8_deedAt_4 : decode cX8_deedAt 4 = .ok (.iload_n 1, 1) := by decide +kernel
theorem dX8_deedAt_5 : decode cX8_deedAt 5 = .ok (.aload_n 0, 1) := by decide +kernel
theorem dX8_deedAt_6 : decode cX8_deedAt 6 = .ok (.getfield 19, 3) := by decide +kernel
theorem dX8_deedAt_9 : decode cX8_deedAt 9 = .ok (.invokevirtual 50, 3) := by decide +kernel
theorem dX8_deedAt_12 : decode cX8_deedAt 12 = .ok (.if_icmp .lt 14, 3) := by decide +kernel
theorem dX8_deedAt_15 : decode cX8_deedAt 15 = .ok (.new 242, 3) := by decide +kernel
theorem dX8_deedAt_18 : decode cX8_deedAt 18 = .ok (.dup, 1) := by decide +kernel
theorem dX8_deedAt_19 : decode cX8_deedAt 19 = .ok (.ldc_w 404, 3) := by decide +kernel
theorem dX8_deedAt_22 : decode cX8_deedAt 22 = .ok (.invokespecial 246, 3) := by decide +kernel
theorem dX8_deedAt_25 : decode cX8_deedAt 25 = .ok (.athrow, 1) := by decide +kernel
theorem dX8_deedAt_26 : decode cX8_deedAt 26 = .ok (.aload_n 0, 1) := by decide +kernel
theorem dX8_deedAt_27 : decode cX8_deedAt 27 = .ok (.getfield 19, 3) := by decide +kernel
theorem dX8_deedAt_30 : decode cX8_deedAt 30 = .ok (.iload_n 1, 1) := by decide +kernel
theorem dX8_deedAt_31 : decode cX8_deedAt 31 = .ok (.invokevirtual 355, 3) := by decide +kernel
theorem dX8_deedAt_34 : decode cX8_deedAt 34 = .ok (.checkcast 137, 3) := by decide +kernel
theorem dX8_deedAt_37 : decode cX8_deedAt 37 = .ok (.areturn, 1) := by decide +kernel
theorem dX8_holderAt_0 : decode cX8_holderAt 0 = .ok (.iload_n 1, 1) := by decide +kernel
theorem dX8_holderAt_1 : decode cX8_holderAt 1 = .ok (.iconst (-1), 1) := by decide +kernel
theorem dX8_holderAt_2 : decode cX8_holderAt 2 = .ok (.if_icmp .ne 8, 3) := by decide +kernel
theorem dX8_holderAt_5 : decode cX8_holderAt 5 = .ok (.bipush 12, 2) := by decide +kernel
theorem dX8_holderAt_7 : decode cX8_holderAt 7 = .ok (.goto 11, 3) := by decide +kernel
theorem dX8_holderAt_10 : decode cX8_holderAt 10 = .ok (.aload_n 0, 1) := by decide +kernel
theorem dX8_holderAt_11 : decode cX8_holderAt 11 = .ok (.iload_n 1, 1) := by decide +kernel
theorem dX8_holderAt_12 : decode cX8_holderAt 12 = .ok (.invokevirtual 71, 3) := by decide +kernel
theorem dX8_holderAt_15 : decode cX8_holderAt 15 = .ok (.getfield 68, 3) := by decide +kernel
theorem dX8_holderAt_18 : decode cX8_holderAt 18 = .ok (.ireturn, 1) := by decide +kernel
theorem dX8_refuseDead_0 : decode cX8_refuseDead 0 = .ok (.aload_n 0, 1) := by decide +kernel
theorem dX8_refuseDead_1 : decode cX8_refuseDead 1 = .ok (.getfield 96, 3) := by decide +kernel
theorem dX8_refuseDead_4 : decode cX8_refuseDead 4 = .ok (.ifCond .eq 10, 3) := by decide +kernel
theorem dX8_refuseDead_7 : decode cX8_refuseDead 7 = .ok (.aload_n 1, 1) := by decide +kernel
theorem dX8_refuseDead_8 : decode cX8_refuseDead 8 = .ok (.getfield 96, 3) := by decide +kernel
theorem dX8_refuseDead_11 : decode cX8_refuseDead 11 = .ok (.ifCond .ne 13, 3) := by decide +kernel
theorem dX8_refuseDead_14 : decode cX8_refuseDead 14 = .ok (.new 54, 3) := by decide +kernel
theorem dX8_refuseDead_17 : decode cX8_refuseDead 17 = .ok (.dup, 1) := by decide +kernel
theorem dX8_refuseDead_18 : decode cX8_refuseDead 18 = .ok (.ldc 100, 2) := by decide +kernel
theorem dX8_refuseDead_20 : decode cX8_refuseDead 20 = .ok (.invokespecial 58, 3) := by decide +kernel
theorem dX8_refuseDead_23 : decode cX8_refuseDead 23 = .ok (.athrow, 1) := by decide +kernel
theorem dX8_refuseDead_24 : decode cX8_refuseDead 24 = .ok (.return_, 1) := by decide +kernel
theorem dX8_refuseNewDeed_0 : decode cX8_refuseNewDeed 0 = .ok (.aload_n 0, 1) := by decide +kernel
theorem dX8_refuseNewDeed_1 : decode cX8_refuseNewDeed 1 = .ok (.getfield 19, 3) := by decide +kernel
theorem dX8_refuseNewDeed_4 : decode cX8_refuseNewDeed 4 = .ok (.invokevirtual 50, 3) := by decide +kernel
theorem dX8_refuseNewDeed_7 : decode cX8_refuseNewDeed 7 = .ok (.bipush 60, 2) := by decide +kernel
theorem dX8_refuseNewDeed_9 : decode cX8_refuseNewDeed 9 = .ok (.if_icmp .lt 14, 3) := by decide +kernel
theorem dX8_refuseNewDeed_12 : decode cX8_refuseNewDeed 12 = .ok (.new 54, 3) := by decide +kernel
theorem dX8_refuseNewDeed_15 : decode cX8_refuseNewDeed 15 = .ok (.dup, 1) := by decide +kernel
theorem dX8_refuseNewDeed_16 : decode cX8_refuseNewDeed 16 = .ok (.ldc_w 406, 3) := by decide +kernel
theorem dX8_refuseNewDeed_19 : decode cX8_refuseNewDeed 19 = .ok (.invokespecial 58, 3) := by decide +kernel
theorem dX8_refuseNewDeed_22 : decode cX8_refuseNewDeed 22 = .ok (.athrow, 1) := by decide +kernel
theorem dX8_refuseNewDeed_23 : decode cX8_refuseNewDeed 23 = .ok (.aload_n 1, 1) := by decide +kernel
theorem dX8_refuseNewDeed_24 : decode cX8_refuseNewDeed 24 = .ok (.aload_n 2, 1) := by decide +kernel
theorem dX8_refuseNewDeed_25 : decode cX8_refuseNewDeed 25 = .ok (.invokestatic 86, 3) := by decide +kernel
theorem dX8_refuseNewDeed_28 : decode cX8_refuseNewDeed 28 = .ok (.return_, 1) := by decide +kernel
theorem dX8_refuseClosedOrHaving_0 : decode cX8_refuseClosedOrHaving 0 = .ok (.aload_n 0, 1) := by decide +kernel
theorem dX8_refuseClosedOrHaving_1 : decode cX8_refuseClosedOrHaving 1 = .ok (.invokevirtual 186, 3) := by decide +kernel
theorem dX8_refuseClosedOrHaving_4 : decode cX8_refuseClosedOrHaving 4 = .ok (.ifCond .ne 11, 3) := by decide +kernel
theorem dX8_refuseClosedOrHaving_7 : decode cX8_refuseClosedOrHaving 7 = .ok (.aload_n 0, 1) := by decide +kernel
theorem dX8_refuseClosedOrHaving_8 : decode cX8_refuseClosedOrHaving 8 = .ok (.iload_n 1, 1) := by decide +kernel
theorem dX8_refuseClosedOrHaving_9 : decode cX8_refuseClosedOrHaving 9 = .ok (.invokevirtual 408, 3) := by decide +kernel
theorem dX8_refuseClosedOrHaving_12 : decode cX8_refuseClosedOrHaving 12 = .ok (.ifCond .eq 14, 3) := by decide +kernel
theorem dX8_refuseClosedOrHaving_15 : decode cX8_refuseClosedOrHaving 15 = .ok (.new 54, 3) := by decide +kernel
theorem dX8_refuseClosedOrHaving_18 : decode cX8_refuseClosedOrHaving 18 = .ok (.dup, 1) := by decide +kernel
theorem dX8_refuseClosedOrHaving_19 : decode cX8_refuseClosedOrHaving 19 = .ok (.ldc_w 411, 3) := by decide +kernel
theorem dX8_refuseClosedOrHaving_22 : decode cX8_refuseClosedOrHaving 22 = .ok (.invokespecial 58, 3) := by decide +kernel
theorem dX8_refuseClosedOrHaving_25 : decode cX8_refuseClosedOrHaving 25 = .ok (.athrow, 1) := by decide +kernel
theorem dX8_refuseClosedOrHaving_26 : decode cX8_refuseClosedOrHaving 26 = .ok (.return_, 1) := by decide +kernel
theorem dX8_isOfThing_0 : decode cX8_isOfThing 0 = .ok (.iload_n 0, 1) := by decide +kernel
theorem dX8_isOfThing_1 : decode cX8_isOfThing 1 = .ok (.ifCond .eq 13, 3) := by decide +kernel
theorem dX8_isOfThing_4 : decode cX8_isOfThing 4 = .ok (.iload_n 0, 1) := by decide +kernel
theorem dX8_isOfThing_5 : decode cX8_isOfThing 5 = .ok (.iconst 1, 1) := by decide +kernel
theorem dX8_isOfThing_6 : decode cX8_isOfThing 6 = .ok (.if_icmp .eq 8, 3) := by decide +kernel
theorem dX8_isOfThing_9 : decode cX8_isOfThing 9 = .ok (.iload_n 0, 1) := by decide +kernel
theorem dX8_isOfThing_10 : decode cX8_isOfThing 10 = .ok (.iconst 2, 1) := by decide +kernel
theorem dX8_isOfThing_11 : decode cX8_isOfThing 11 = .ok (.if_icmp .ne 7, 3) := by decide +kernel
theorem dX8_isOfThing_14 : decode cX8_isOfThing 14 = .ok (.iconst 1, 1) := by decide +kernel
theorem dX8_isOfThing_15 : decode cX8_isOfThing 15 = .ok (.goto 4, 3) := by decide +kernel
theorem dX8_isOfThing_18 : decode cX8_isOfThing 18 = .ok (.iconst 0, 1) := by decide +kernel
theorem dX8_isOfThing_19 : decode cX8_isOfThing 19 = .ok (.ireturn, 1) := by decide +kernel
theorem dX8_isPart_0 : decode cX8_isPart 0 = .ok (.iload_n 0, 1) := by decide +kernel
theorem dX8_isPart_1 : decode cX8_isPart 1 = .ok (.iconst 1, 1) := by decide +kernel
theorem dX8_isPart_2 : decode cX8_isPart 2 = .ok (.if_icmp .lt 18, 3) := by decide +kernel
theorem dX8_isPart_5 : decode cX8_isPart 5 = .ok (.iload_n 0, 1) := by decide +kernel
theorem dX8_isPart_6 : decode cX8_isPart 6 = .ok (.iload_n 1, 1) := by decide +kernel
theorem dX8_isPart_7 : decode cX8_isPart 7 = .ok (.if_icmp .gt 13, 3) := by decide +kernel
theorem dX8_isPart_10 : decode cX8_isPart 10 = .ok (.iload_n 1, 1) := by decide +kernel
theorem dX8_isPart_11 : decode cX8_isPart 11 = .ok (.bipush 100, 2) := by decide +kernel
theorem dX8_isPart_13 : decode cX8_isPart 13 = .ok (.if_icmp .gt 7, 3) := by decide +kernel
theorem dX8_isPart_16 : decode cX8_isPart 16 = .ok (.iconst 1, 1) := by decide +kernel
theorem dX8_isPart_17 : decode cX8_isPart 17 = .ok (.goto 4, 3) := by decide +kernel
theorem dX8_isPart_20 : decode cX8_isPart 20 = .ok (.iconst 0, 1) := by decide +kernel
theorem dX8_isPart_21 : decode cX8_isPart 21 = .ok (.ireturn, 1) := by decide +kernel
theorem dX8_keepDeed_0 : decode cX8_keepDeed 0 = .ok (.aload_n 0, 1) := by decide +kernel
theorem dX8_keepDeed_1 : decode cX8_keepDeed 1 = .ok (.getfield 19, 3) := by decide +kernel
theorem dX8_keepDeed_4 : decode cX8_keepDeed 4 = .ok (.aload_n 1, 1) := by decide +kernel
theorem dX8_keepDeed_5 : decode cX8_keepDeed 5 = .ok (.invokevirtual 64, 3) := by decide +kernel
theorem dX8_keepDeed_8 : decode cX8_keepDeed 8 = .ok (.pop, 1) := by decide +kernel
theorem dX8_keepDeed_9 : decode cX8_keepDeed 9 = .ok (.aload_n 1, 1) := by decide +kernel
theorem dX8_keepDeed_10 : decode cX8_keepDeed 10 = .ok (.getfield 332, 3) := by decide +kernel
theorem dX8_keepDeed_13 : decode cX8_keepDeed 13 = .ok (.ireturn, 1) := by decide +kernel
theorem dX8_signsWithoutPower_0 : decode cX8_signsWithoutPower 0 = .ok (.aload_n 1, 1) := by decide +kernel
theorem dX8_signsWithoutPower_1 : decode cX8_signsWithoutPower 1 = .ok (.getfield 236, 3) := by decide +kernel
theorem dX8_signsWithoutPower_4 : decode cX8_signsWithoutPower 4 = .ok (.iconst 4, 1) := by decide +kernel
theorem dX8_signsWithoutPower_5 : decode cX8_signsWithoutPower 5 = .ok (.if_icmp .ne 7, 3) := by decide +kernel
theorem dX8_signsWithoutPower_8 : decode cX8_signsWithoutPower 8 = .ok (.iload_n 3, 1) := by decide +kernel
theorem dX8_signsWithoutPower_9 : decode cX8_signsWithoutPower 9 = .ok (.ifCond .eq 14, 3) := by decide +kernel
theorem dX8_signsWithoutPower_12 : decode cX8_signsWithoutPower 12 = .ok (.aload_n 2, 1) := by decide +kernel
theorem dX8_signsWithoutPower_13 : decode cX8_signsWithoutPower 13 = .ok (.aload_n 0, 1) := by decide +kernel
theorem dX8_signsWithoutPower_14 : decode cX8_signsWithoutPower 14 = .ok (.getfield 32, 3) := by decide +kernel
theorem dX8_signsWithoutPower_17 : decode cX8_signsWithoutPower 17 = .ok (.invokevirtual 117, 3) := by decide +kernel
theorem dX8_signsWithoutPower_20 : decode cX8_signsWithoutPower 20 = .ok (.ifCond .ne 5, 3) := by decide +kernel
theorem dX8_signsWithoutPower_23 : decode cX8_signsWithoutPower 23 = .ok (.iconst 0, 1) := by decide +kernel
theorem dX8_signsWithoutPower_24 : decode cX8_signsWithoutPower 24 = .ok (.ireturn, 1) := by decide +kernel
theorem dX8_signsWithoutPower_25 : decode cX8_signsWithoutPower 25 = .ok (.aload_n 1, 1) := by decide +kernel
theorem dX8_signsWithoutPower_26 : decode cX8_signsWithoutPower 26 = .ok (.iload_n 3, 1) := by decide +kernel
theorem dX8_signsWithoutPower_27 : decode cX8_signsWithoutPower 27 = .ok (.invokevirtual 413, 3) := by decide +kernel
theorem dX8_signsWithoutPower_30 : decode cX8_signsWithoutPower 30 = .ok (.astore 4, 2) := by decide +kernel
theorem dX8_signsWithoutPower_32 : decode cX8_signsWithoutPower 32 = .ok (.aload_n 2, 1) := by decide +kernel
theorem dX8_signsWithoutPower_33 : decode cX8_signsWithoutPower 33 = .ok (.aload 4, 2) := by decide +kernel
theorem dX8_signsWithoutPower_35 : decode cX8_signsWithoutPower 35 = .ok (.if_acmp .eq 13, 3) := by decide +kernel
theorem dX8_signsWithoutPower_38 : decode cX8_signsWithoutPower 38 = .ok (.aload_n 0, 1) := by decide +kernel
theorem dX8_signsWithoutPower_39 : decode cX8_signsWithoutPower 39 = .ok (.aload_n 1, 1) := by decide +kernel
theorem dX8_signsWithoutPower_40 : decode cX8_signsWithoutPower 40 = .ok (.aload_n 2, 1) := by decide +kernel
theorem dX8_signsWithoutPower_41 : decode cX8_signsWithoutPower 41 = .ok (.iload_n 3, 1) := by decide +kernel
theorem dX8_signsWithoutPower_42 : decode cX8_signsWithoutPower 42 = .ok (.invokevirtual 417, 3) := by decide +kernel
theorem dX8_signsWithoutPower_45 : decode cX8_signsWithoutPower 45 = .ok (.ifCond .eq 7, 3) := by decide +kernel
theorem dX8_signsWithoutPower_48 : decode cX8_signsWithoutPower 48 = .ok (.iconst 1, 1) := by decide +kernel
theorem dX8_signsWithoutPower_49 : decode cX8_signsWithoutPower 49 = .ok (.goto 4, 3) := by decide +kernel
theorem dX8_signsWithoutPower_52 : decode cX8_signsWithoutPower 52 = .ok (.iconst 0, 1) := by decide +kernel
theorem dX8_signsWithoutPower_53 : decode cX8_signsWithoutPower 53 = .ok (.ireturn, 1) := by decide +kernel
theorem dX8_signsAsGuardian_0 : decode cX8_signsAsGuardian 0 = .ok (.aload_n 1, 1) := by decide +kernel
theorem dX8_signsAsGuardian_1 : decode cX8_signsAsGuardian 1 = .ok (.iload_n 3, 1) := by decide +kernel
theorem dX8_signsAsGuardian_2 : decode cX8_signsAsGuardian 2 = .ok (.invokevirtual 413, 3) := by decide +kernel
theorem dX8_signsAsGuardian_5 : decode cX8_signsAsGuardian 5 = .ok (.astore 4, 2) := by decide +kernel
theorem dX8_signsAsGuardian_7 : decode cX8_signsAsGuardian 7 = .ok (.aload_n 1, 1) := by decide +kernel
theorem dX8_signsAsGuardian_8 : decode cX8_signsAsGuardian 8 = .ok (.getfield 236, 3) := by decide +kernel
theorem dX8_signsAsGuardian_11 : decode cX8_signsAsGuardian 11 = .ok (.iconst 4, 1) := by decide +kernel
theorem dX8_signsAsGuardian_12 : decode cX8_signsAsGuardian 12 = .ok (.if_icmp .eq 41, 3) := by decide +kernel
theorem dX8_signsAsGuardian_15 : decode cX8_signsAsGuardian 15 = .ok (.aload 4, 2) := by decide +kernel
theorem dX8_signsAsGuardian_17 : decode cX8_signsAsGuardian 17 = .ok (.getfield 96, 3) := by decide +kernel
theorem dX8_signsAsGuardian_20 : decode cX8_signsAsGuardian 20 = .ok (.ifCond .eq 33, 3) := by decide +kernel
theorem dX8_signsAsGuardian_23 : decode cX8_signsAsGuardian 23 = .ok (.aload 4, 2) := by decide +kernel
theorem dX8_signsAsGuardian_25 : decode cX8_signsAsGuardian 25 = .ok (.getfield 102, 3) := by decide +kernel
theorem dX8_signsAsGuardian_28 : decode cX8_signsAsGuardian 28 = .ok (.aload_n 2, 1) := by decide +kernel
theorem dX8_signsAsGuardian_29 : decode cX8_signsAsGuardian 29 = .ok (.if_acmp .ne 24, 3) := by decide +kernel
theorem dX8_signsAsGuardian_32 : decode cX8_signsAsGuardian 32 = .ok (.aload_n 2, 1) := by decide +kernel
theorem dX8_signsAsGuardian_33 : decode cX8_signsAsGuardian 33 = .ok (.aload_n 1, 1) := by decide +kernel
theorem dX8_signsAsGuardian_34 : decode cX8_signsAsGuardian 34 = .ok (.iload_n 3, 1) := by decide +kernel
theorem dX8_signsAsGuardian_35 : decode cX8_signsAsGuardian 35 = .ok (.ifCond .ne 7, 3) := by decide +kernel
theorem dX8_signsAsGuardian_38 : decode cX8_signsAsGuardian 38 = .ok (.iconst 1, 1) := by decide +kernel
theorem dX8_signsAsGuardian_39 : decode cX8_signsAsGuardian 39 = .ok (.goto 4, 3) := by decide +kernel
theorem dX8_signsAsGuardian_42 : decode cX8_signsAsGuardian 42 = .ok (.iconst 0, 1) := by decide +kernel
theorem dX8_signsAsGuardian_43 : decode cX8_signsAsGuardian 43 = .ok (.invokevirtual 413, 3) := by decide +kernel
theorem dX8_signsAsGuardian_46 : decode cX8_signsAsGuardian 46 = .ok (.if_acmp .eq 7, 3) := by decide +kernel
theorem dX8_signsAsGuardian_49 : decode cX8_signsAsGuardian 49 = .ok (.iconst 1, 1) := by decide +kernel
theorem dX8_signsAsGuardian_50 : decode cX8_signsAsGuardian 50 = .ok (.goto 4, 3) := by decide +kernel
theorem dX8_signsAsGuardian_53 : decode cX8_signsAsGuardian 53 = .ok (.iconst 0, 1) := by decide +kernel
theorem dX8_signsAsGuardian_54 : decode cX8_signsAsGuardian 54 = .ok (.ireturn, 1) := by decide +kernel
theorem dX8_signsByPower_0 : decode cX8_signsByPower 0 = .ok (.aload 4, 2) := by decide +kernel
theorem dX8_signsByPower_2 : decode cX8_signsByPower 2 = .ok (.ifnull 28, 3) := by decide +kernel
theorem dX8_signsByPower_5 : decode cX8_signsByPower 5 = .ok (.aload_n 1, 1) := by decide +kernel
theorem dX8_signsByPower_6 : decode cX8_signsByPower 6 = .ok (.getfield 236, 3) := by decide +kernel
theorem dX8_signsByPower_9 : decode cX8_signsByPower 9 = .ok (.iconst 4, 1) := by decide +kernel
theorem dX8_signsByPower_10 : decode cX8_signsByPower 10 = .ok (.if_icmp .eq 20, 3) := by decide +kernel
theorem dX8_signsByPower_13 : decode cX8_signsByPower 13 = .ok (.aload_n 2, 1) := by decide +kernel
theorem dX8_signsByPower_14 : decode cX8_signsByPower 14 = .ok (.aload_n 1, 1) := by decide +kernel
theorem dX8_signsByPower_15 : decode cX8_signsByPower 15 = .ok (.iload_n 3, 1) := by decide +kernel
theorem dX8_signsByPower_16 : decode cX8_signsByPower 16 = .ok (.ifCond .ne 7, 3) := by decide +kernel
theorem dX8_signsByPower_19 : decode cX8_signsByPower 19 = .ok (.iconst 1, 1) := by decide +kernel
theorem dX8_signsByPower_20 : decode cX8_signsByPower 20 = .ok (.goto 4, 3) := by decide +kernel
theorem dX8_signsByPower_23 : decode cX8_signsByPower 23 = .ok (.iconst 0, 1) := by decide +kernel
theorem dX8_signsByPower_24 : decode cX8_signsByPower 24 = .ok (.invokevirtual 413, 3) := by decide +kernel
theorem dX8_signsByPower_27 : decode cX8_signsByPower 27 = .ok (.if_acmp .ne 5, 3) := by decide +kernel
theorem dX8_signsByPower_30 : decode cX8_signsByPower 30 = .ok (.iconst 0, 1) := by decide +kernel
theorem dX8_signsByPower_31 : decode cX8_signsByPower 31 = .ok (.ireturn, 1) := by decide +kernel
theorem dX8_signsByPower_32 : decode cX8_signsByPower 32 = .ok (.aload_n 2, 1) := by decide +kernel
theorem dX8_signsByPower_33 : decode cX8_signsByPower 33 = .ok (.aload_n 0, 1) := by decide +kernel
theorem dX8_signsByPower_34 : decode cX8_signsByPower 34 = .ok (.getfield 32, 3) := by decide +kernel
theorem dX8_signsByPower_37 : decode cX8_signsByPower 37 = .ok (.invokevirtual 117, 3) := by decide +kernel
theorem dX8_signsByPower_40 : decode cX8_signsByPower 40 = .ok (.ifCond .eq 58, 3) := by decide +kernel
theorem dX8_signsByPower_43 : decode cX8_signsByPower 43 = .ok (.aload 4, 2) := by decide +kernel
theorem dX8_signsByPower_45 : decode cX8_signsByPower 45 = .ok (.getfield 206, 3) := by decide +kernel
theorem dX8_signsByPower_48 : decode cX8_signsByPower 48 = .ok (.aload_n 1, 1) := by decide +kernel
theorem dX8_signsByPower_49 : decode cX8_signsByPower 49 = .ok (.iload_n 3, 1) := by decide +kernel
theorem dX8_signsByPower_50 : decode cX8_signsByPower 50 = .ok (.invokevirtual 413, 3) := by decide +kernel
theorem dX8_signsByPower_53 : decode cX8_signsByPower 53 = .ok (.if_acmp .ne 45, 3) := by decide +kernel
theorem dX8_signsByPower_56 : decode cX8_signsByPower 56 = .ok (.aload 4, 2) := by decide +kernel
theorem dX8_signsByPower_58 : decode cX8_signsByPower 58 = .ok (.getfield 209, 3) := by decide +kernel
theorem dX8_signsByPower_61 : decode cX8_signsByPower 61 = .ok (.aload_n 2, 1) := by decide +kernel
theorem dX8_signsByPower_62 : decode cX8_signsByPower 62 = .ok (.if_acmp .ne 36, 3) := by decide +kernel
theorem dX8_signsByPower_65 : decode cX8_signsByPower 65 = .ok (.aload 4, 2) := by decide +kernel
theorem dX8_signsByPower_67 : decode cX8_signsByPower 67 = .ok (.getfield 294, 3) := by decide +kernel
theorem dX8_signsByPower_70 : decode cX8_signsByPower 70 = .ok (.ifnull 15, 3) := by decide +kernel
theorem dX8_signsByPower_73 : decode cX8_signsByPower 73 = .ok (.aload 4, 2) := by decide +kernel
theorem dX8_signsByPower_75 : decode cX8_signsByPower 75 = .ok (.getfield 294, 3) := by decide +kernel
theorem dX8_signsByPower_78 : decode cX8_signsByPower 78 = .ok (.aload_n 1, 1) := by decide +kernel
theorem dX8_signsByPower_79 : decode cX8_signsByPower 79 = .ok (.getfield 294, 3) := by decide +kernel
theorem dX8_signsByPower_82 : decode cX8_signsByPower 82 = .ok (.if_acmp .ne 16, 3) := by decide +kernel
theorem dX8_signsByPower_85 : decode cX8_signsByPower 85 = .ok (.aload_n 0, 1) := by decide +kernel
theorem dX8_signsByPower_86 : decode cX8_signsByPower 86 = .ok (.aload 4, 2) := by decide +kernel
theorem dX8_signsByPower_88 : decode cX8_signsByPower 88 = .ok (.invokevirtual 277, 3) := by decide +kernel
theorem dX8_signsByPower_91 : decode cX8_signsByPower 91 = .ok (.ifCond .eq 7, 3) := by decide +kernel
theorem dX8_signsByPower_94 : decode cX8_signsByPower 94 = .ok (.iconst 1, 1) := by decide +kernel
theorem dX8_signsByPower_95 : decode cX8_signsByPower 95 = .ok (.goto 4, 3) := by decide +kernel
theorem dX8_signsByPower_98 : decode cX8_signsByPower 98 = .ok (.iconst 0, 1) := by decide +kernel
theorem dX8_signsByPower_99 : decode cX8_signsByPower 99 = .ok (.ireturn, 1) := by decide +kernel
theorem dX8_canWitness_0 : decode cX8_canWitness 0 = .ok (.aload_n 2, 1) := by decide +kernel
theorem dX8_canWitness_1 : decode cX8_canWitness 1 = .ok (.aload_n 0, 1) := by decide +kernel
theorem dX8_canWitness_2 : decode cX8_canWitness 2 = .ok (.getfield 32, 3) := by decide +kernel
theorem dX8_canWitness_5 : decode cX8_canWitness 5 = .ok (.invokevirtual 117, 3) := by decide +kernel
theorem dX8_canWitness_8 : decode cX8_canWitness 8 = .ok (.ifCond .eq 45, 3) := by decide +kernel
theorem dX8_canWitness_11 : decode cX8_canWitness 11 = .ok (.aload_n 2, 1) := by decide +kernel
theorem dX8_canWitness_12 : decode cX8_canWitness 12 = .ok (.aload_n 1, 1) := by decide +kernel
theorem dX8_canWitness_13 : decode cX8_canWitness 13 = .ok (.getfield 206, 3) := by decide +kernel
theorem dX8_canWitness_16 : decode cX8_canWitness 16 = .ok (.if_acmp .eq 37, 3) := by decide +kernel
theorem dX8_canWitness_19 : decode cX8_canWitness 19 = .ok (.aload_n 2, 1) := by decide +kernel
theorem dX8_canWitness_20 : decode cX8_canWitness 20 = .ok (.aload_n 1, 1) := by decide +kernel
theorem dX8_canWitness_21 : decode cX8_canWitness 21 = .ok (.getfield 209, 3) := by decide +kernel
theorem dX8_canWitness_24 : decode cX8_canWitness 24 = .ok (.if_acmp .eq 29, 3) := by decide +kernel
theorem dX8_canWitness_27 : decode cX8_canWitness 27 = .ok (.aload_n 2, 1) := by decide +kernel
theorem dX8_canWitness_28 : decode cX8_canWitness 28 = .ok (.aload_n 1, 1) := by decide +kernel
theorem dX8_canWitness_29 : decode cX8_canWitness 29 = .ok (.getfield 206, 3) := by decide +kernel
theorem dX8_canWitness_32 : decode cX8_canWitness 32 = .ok (.invokestatic 420, 3) := by decide +kernel
theorem dX8_canWitness_35 : decode cX8_canWitness 35 = .ok (.ifCond .ne 18, 3) := by decide +kernel
theorem dX8_canWitness_38 : decode cX8_canWitness 38 = .ok (.aload_n 2, 1) := by decide +kernel
theorem dX8_canWitness_39 : decode cX8_canWitness 39 = .ok (.aload_n 1, 1) := by decide +kernel
theorem dX8_canWitness_40 : decode cX8_canWitness 40 = .ok (.getfield 209, 3) := by decide +kernel
theorem dX8_canWitness_43 : decode cX8_canWitness 43 = .ok (.invokestatic 420, 3) := by decide +kernel
theorem dX8_canWitness_46 : decode cX8_canWitness 46 = .ok (.ifCond .ne 7, 3) := by decide +kernel
theorem dX8_canWitness_49 : decode cX8_canWitness 49 = .ok (.iconst 1, 1) := by decide +kernel
theorem dX8_canWitness_50 : decode cX8_canWitness 50 = .ok (.goto 4, 3) := by decide +kernel
theorem dX8_canWitness_53 : decode cX8_canWitness 53 = .ok (.iconst 0, 1) := by decide +kernel
theorem dX8_canWitness_54 : decode cX8_canWitness 54 = .ok (.ireturn, 1) := by decide +kernel
theorem dX8_areParentAndChild_0 : decode cX8_areParentAndChild 0 = .ok (.aload_n 0, 1) := by decide +kernel
theorem dX8_areParentAndChild_1 : decode cX8_areParentAndChild 1 = .ok (.aload_n 1, 1) := by decide +kernel
theorem dX8_areParentAndChild_2 : decode cX8_areParentAndChild 2 = .ok (.invokevirtual 80, 3) := by decide +kernel
theorem dX8_areParentAndChild_5 : decode cX8_areParentAndChild 5 = .ok (.ifCond .ne 11, 3) := by decide +kernel
theorem dX8_areParentAndChild_8 : decode cX8_areParentAndChild 8 = .ok (.aload_n 1, 1) := by decide +kernel
theorem dX8_areParentAndChild_9 : decode cX8_areParentAndChild 9 = .ok (.aload_n 0, 1) := by decide +kernel
theorem dX8_areParentAndChild_10 : decode cX8_areParentAndChild 10 = .ok (.invokevirtual 80, 3) := by decide +kernel
theorem dX8_areParentAndChild_13 : decode cX8_areParentAndChild 13 = .ok (.ifCond .eq 7, 3) := by decide +kernel
theorem dX8_areParentAndChild_16 : decode cX8_areParentAndChild 16 = .ok (.iconst 1, 1) := by decide +kernel
theorem dX8_areParentAndChild_17 : decode cX8_areParentAndChild 17 = .ok (.goto 4, 3) := by decide +kernel
theorem dX8_areParentAndChild_20 : decode cX8_areParentAndChild 20 = .ok (.iconst 0, 1) := by decide +kernel
theorem dX8_areParentAndChild_21 : decode cX8_areParentAndChild 21 = .ok (.ireturn, 1) := by decide +kernel
theorem dX8_stateByParts_0 : decode cX8_stateByParts 0 = .ok (.aload_n 0, 1) := by decide +kernel
theorem dX8_stateByParts_1 : decode cX8_stateByParts 1 = .ok (.aload_n 0, 1) := by decide +kernel
theorem dX8_stateByParts_2 : decode cX8_stateByParts 2 = .ok (.invokestatic 424, 3) := by decide +kernel
theorem dX8_stateByParts_5 : decode cX8_stateByParts 5 = .ok (.invokevirtual 408, 3) := by decide +kernel
theorem dX8_stateByParts_8 : decode cX8_stateByParts 8 = .ok (.ifCond .eq 5, 3) := by decide +kernel
theorem dX8_stateByParts_11 : decode cX8_stateByParts 11 = .ok (.iconst 1, 1) := by decide +kernel
theorem dX8_stateByParts_12 : decode cX8_stateByParts 12 = .ok (.ireturn, 1) := by decide +kernel
theorem dX8_stateByParts_13 : decode cX8_stateByParts 13 = .ok (.aload_n 0, 1) := by decide +kernel
theorem dX8_stateByParts_14 : decode cX8_stateByParts 14 = .ok (.getfield 236, 3) := by decide +kernel
theorem dX8_stateByParts_17 : decode cX8_stateByParts 17 = .ok (.invokestatic 125, 3) := by decide +kernel
theorem dX8_stateByParts_20 : decode cX8_stateByParts 20 = .ok (.ifCond .eq 7, 3) := by decide +kernel
theorem dX8_stateByParts_23 : decode cX8_stateByParts 23 = .ok (.iconst 3, 1) := by decide +kernel
theorem dX8_stateByParts_24 : decode cX8_stateByParts 24 = .ok (.goto 4, 3) := by decide +kernel
theorem dX8_stateByParts_27 : decode cX8_stateByParts 27 = .ok (.iconst 1, 1) := by decide +kernel
theorem dX8_stateByParts_28 : decode cX8_stateByParts 28 = .ok (.istore_n 1, 1) := by decide +kernel
theorem dX8_stateByParts_29 : decode cX8_stateByParts 29 = .ok (.aload_n 0, 1) := by decide +kernel
theorem dX8_stateByParts_30 : decode cX8_stateByParts 30 = .ok (.iload_n 1, 1) := by decide +kernel
theorem dX8_stateByParts_31 : decode cX8_stateByParts 31 = .ok (.invokevirtual 408, 3) := by decide +kernel
theorem dX8_stateByParts_34 : decode cX8_stateByParts 34 = .ok (.ifCond .eq 7, 3) := by decide +kernel
theorem dX8_stateByParts_37 : decode cX8_stateByParts 37 = .ok (.iconst 2, 1) := by decide +kernel
theorem dX8_stateByParts_38 : decode cX8_stateByParts 38 = .ok (.goto 4, 3) := by decide +kernel
theorem dX8_stateByParts_41 : decode cX8_stateByParts 41 = .ok (.iconst 3, 1) := by decide +kernel
theorem dX8_stateByParts_42 : decode cX8_stateByParts 42 = .ok (.ireturn, 1) := by decide +kernel
theorem dX8_neededParts_0 : decode cX8_neededParts 0 = .ok (.aload_n 0, 1) := by decide +kernel
theorem dX8_neededParts_1 : decode cX8_neededParts 1 = .ok (.getfield 236, 3) := by decide +kernel
theorem dX8_neededParts_4 : decode cX8_neededParts 4 = .ok (.invokestatic 125, 3) := by decide +kernel
theorem dX8_neededParts_7 : decode cX8_neededParts 7 = .ok (.istore_n 1, 1) := by decide +kernel
theorem dX8_neededParts_8 : decode cX8_neededParts 8 = .ok (.iconst 5, 1) := by decide +kernel
theorem dX8_neededParts_9 : decode cX8_neededParts 9 = .ok (.istore_n 2, 1) := by decide +kernel
theorem dX8_neededParts_10 : decode cX8_neededParts 10 = .ok (.iload_n 1, 1) := by decide +kernel
theorem dX8_neededParts_11 : decode cX8_neededParts 11 = .ok (.ifCond .eq 7, 3) := by decide +kernel
theorem dX8_neededParts_14 : decode cX8_neededParts 14 = .ok (.iload_n 2, 1) := by decide +kernel
theorem dX8_neededParts_15 : decode cX8_neededParts 15 = .ok (.iconst 2, 1) := by decide +kernel
theorem dX8_neededParts_16 : decode cX8_neededParts 16 = .ok (.ior, 1) := by decide +kernel
theorem dX8_neededParts_17 : decode cX8_neededParts 17 = .ok (.istore_n 2, 1) := by decide +kernel
theorem dX8_neededParts_18 : decode cX8_neededParts 18 = .ok (.aload_n 0, 1) := by decide +kernel
theorem dX8_neededParts_19 : decode cX8_neededParts 19 = .ok (.getfield 236, 3) := by decide +kernel
theorem dX8_neededParts_22 : decode cX8_neededParts 22 = .ok (.iconst 1, 1) := by decide +kernel
theorem dX8_neededParts_23 : decode cX8_neededParts 23 = .ok (.if_icmp .eq 11, 3) := by decide +kernel
theorem dX8_neededParts_26 : decode cX8_neededParts 26 = .ok (.aload_n 0, 1) := by decide +kernel
theorem dX8_neededParts_27 : decode cX8_neededParts 27 = .ok (.getfield 236, 3) := by decide +kernel
theorem dX8_neededParts_30 : decode cX8_neededParts 30 = .ok (.iconst 4, 1) := by decide +kernel
theorem dX8_neededParts_31 : decode cX8_neededParts 31 = .ok (.if_icmp .ne 8, 3) := by decide +kernel
theorem dX8_neededParts_34 : decode cX8_neededParts 34 = .ok (.iload_n 2, 1) := by decide +kernel
theorem dX8_neededParts_35 : decode cX8_neededParts 35 = .ok (.bipush 8, 2) := by decide +kernel
theorem dX8_neededParts_37 : decode cX8_neededParts 37 = .ok (.ior, 1) := by decide +kernel
theorem dX8_neededParts_38 : decode cX8_neededParts 38 = .ok (.istore_n 2, 1) := by decide +kernel
theorem dX8_neededParts_39 : decode cX8_neededParts 39 = .ok (.aload_n 0, 1) := by decide +kernel
theorem dX8_neededParts_40 : decode cX8_neededParts 40 = .ok (.getfield 206, 3) := by decide +kernel
theorem dX8_neededParts_43 : decode cX8_neededParts 43 = .ok (.getfield 427, 3) := by decide +kernel
theorem dX8_neededParts_46 : decode cX8_neededParts 46 = .ok (.ifCond .ne 17, 3) := by decide +kernel
theorem dX8_neededParts_49 : decode cX8_neededParts 49 = .ok (.iload_n 1, 1) := by decide +kernel
theorem dX8_neededParts_50 : decode cX8_neededParts 50 = .ok (.ifCond .eq 18, 3) := by decide +kernel
theorem dX8_neededParts_53 : decode cX8_neededParts 53 = .ok (.aload_n 0, 1) := by decide +kernel
theorem dX8_neededParts_54 : decode cX8_neededParts 54 = .ok (.getfield 209, 3) := by decide +kernel
theorem dX8_neededParts_57 : decode cX8_neededParts 57 = .ok (.getfield 427, 3) := by decide +kernel
theorem dX8_neededParts_60 : decode cX8_neededParts 60 = .ok (.ifCond .eq 8, 3) := by decide +kernel
theorem dX8_neededParts_63 : decode cX8_neededParts 63 = .ok (.iload_n 2, 1) := by decide +kernel
theorem dX8_neededParts_64 : decode cX8_neededParts 64 = .ok (.bipush 16, 2) := by decide +kernel
theorem dX8_neededParts_66 : decode cX8_neededParts 66 = .ok (.ior, 1) := by decide +kernel
theorem dX8_neededParts_67 : decode cX8_neededParts 67 = .ok (.istore_n 2, 1) := by decide +kernel
theorem dX8_neededParts_68 : decode cX8_neededParts 68 = .ok (.iload_n 2, 1) := by decide +kernel
theorem dX8_neededParts_69 : decode cX8_neededParts 69 = .ok (.ireturn, 1) := by decide +kernel
theorem dX8_kindLetter_0 : decode cX8_kindLetter 0 = .ok (.iload_n 0, 1) := by decide +kernel
theorem dX8_kindLetter_1 : decode cX8_kindLetter 1 = .ok (.tableswitch 43 0 3 #[31, 34, 37, 40], 31) := by decide +kernel
theorem dX8_kindLetter_32 : decode cX8_kindLetter 32 = .ok (.bipush 83, 2) := by decide +kernel
theorem dX8_kindLetter_34 : decode cX8_kindLetter 34 = .ok (.ireturn, 1) := by decide +kernel
theorem dX8_kindLetter_35 : decode cX8_kindLetter 35 = .ok (.bipush 71, 2) := by decide +kernel
theorem dX8_kindLetter_37 : decode cX8_kindLetter 37 = .ok (.ireturn, 1) := by decide +kernel
theorem dX8_kindLetter_38 : decode cX8_kindLetter 38 = .ok (.bipush 80, 2) := by decide +kernel
theorem dX8_kindLetter_40 : decode cX8_kindLetter 40 = .ok (.ireturn, 1) := by decide +kernel
theorem dX8_kindLetter_41 : decode cX8_kindLetter 41 = .ok (.bipush 65, 2) := by decide +kernel
theorem dX8_kindLetter_43 : decode cX8_kindLetter 43 = .ok (.ireturn, 1) := by decide +kernel
theorem dX8_kindLetter_44 : decode cX8_kindLetter 44 = .ok (.bipush 87, 2) := by decide +kernel
theorem dX8_kindLetter_46 : decode cX8_kindLetter 46 = .ok (.ireturn, 1) := by decide +kernel
theorem dX8_stateLetter_0 : decode cX8_stateLetter 0 = .ok (.iload_n 0, 1) := by decide +kernel
theorem dX8_stateLetter_1 : decode cX8_stateLetter 1 = .ok (.lookupswitch 33 #[(1, 27), (2, 30)], 27) := by decide +kernel
theorem dX8_stateLetter_28 : decode cX8_stateLetter 28 = .ok (.bipush 102, 2) := by decide +kernel
theorem dX8_stateLetter_30 : decode cX8_stateLetter 30 = .ok (.ireturn, 1) := by decide +kernel
theorem dX8_stateLetter_31 : decode cX8_stateLetter 31 = .ok (.bipush 108, 2) := by decide +kernel
theorem dX8_stateLetter_33 : decode cX8_stateLetter 33 = .ok (.ireturn, 1) := by decide +kernel
theorem dX8_stateLetter_34 : decode cX8_stateLetter 34 = .ok (.bipush 118, 2) := by decide +kernel
theorem dX8_stateLetter_36 : decode cX8_stateLetter 36 = .ok (.ireturn, 1) := by decide +kernel
theorem dX8_isGoodPower_0 : decode cX8_isGoodPower 0 = .ok (.aload_n 1, 1) := by decide +kernel
theorem dX8_isGoodPower_1 : decode cX8_isGoodPower 1 = .ok (.astore_n 2, 1) := by decide +kernel
theorem dX8_isGoodPower_2 : decode cX8_isGoodPower 2 = .ok (.iconst 0, 1) := by decide +kernel
theorem dX8_isGoodPower_3 : decode cX8_isGoodPower 3 = .ok (.istore_n 3, 1) := by decide +kernel
theorem dX8_isGoodPower_4 : decode cX8_isGoodPower 4 = .ok (.iload_n 3, 1) := by decide +kernel
theorem dX8_isGoodPower_5 : decode cX8_isGoodPower 5 = .ok (.bipush 60, 2) := by decide +kernel
theorem dX8_isGoodPower_7 : decode cX8_isGoodPower 7 = .ok (.if_icmp .ge 70, 3) := by decide +kernel
theorem dX8_isGoodPower_10 : decode cX8_isGoodPower 10 = .ok (.aload_n 2, 1) := by decide +kernel
theorem dX8_isGoodPower_11 : decode cX8_isGoodPower 11 = .ok (.getfield 153, 3) := by decide +kernel
theorem dX8_isGoodPower_14 : decode cX8_isGoodPower 14 = .ok (.ifnull 15, 3) := by decide +kernel
theorem dX8_isGoodPower_17 : decode cX8_isGoodPower 17 = .ok (.aload_n 0, 1) := by decide +kernel
theorem dX8_isGoodPower_18 : decode cX8_isGoodPower 18 = .ok (.aload_n 2, 1) := by decide +kernel
theorem dX8_isGoodPower_19 : decode cX8_isGoodPower 19 = .ok (.aload_n 2, 1) := by decide +kernel
theorem dX8_isGoodPower_20 : decode cX8_isGoodPower 20 = .ok (.getfield 153, 3) := by decide +kernel
theorem dX8_isGoodPower_23 : decode cX8_isGoodPower 23 = .ok (.invokevirtual 430, 3) := by decide +kernel
theorem dX8_isGoodPower_26 : decode cX8_isGoodPower 26 = .ok (.ifCond .ne 5, 3) := by decide +kernel
theorem dX8_isGoodPower_29 : decode cX8_isGoodPower 29 = .ok (.iconst 0, 1) := by decide +kernel
theorem dX8_isGoodPower_30 : decode cX8_isGoodPower 30 = .ok (.ireturn, 1) := by decide +kernel
theorem dX8_isGoodPower_31 : decode cX8_isGoodPower 31 = .ok (.aload_n 2, 1) := by decide +kernel
theorem dX8_isGoodPower_32 : decode cX8_isGoodPower 32 = .ok (.getfield 153, 3) := by decide +kernel
theorem dX8_isGoodPower_35 : decode cX8_isGoodPower 35 = .ok (.getfield 178, 3) := by decide +kernel
theorem dX8_isGoodPower_38 : decode cX8_isGoodPower 38 = .ok (.astore 4, 2) := by decide +kernel
theorem dX8_isGoodPower_40 : decode cX8_isGoodPower 40 = .ok (.aload 4, 2) := by decide +kernel
theorem dX8_isGoodPower_42 : decode cX8_isGoodPower 42 = .ok (.ifnonnull 5, 3) := by decide +kernel
theorem dX8_isGoodPower_45 : decode cX8_isGoodPower 45 = .ok (.iconst 1, 1) := by decide +kernel
theorem dX8_isGoodPower_46 : decode cX8_isGoodPower 46 = .ok (.ireturn, 1) := by decide +kernel
theorem dX8_isGoodPower_47 : decode cX8_isGoodPower 47 = .ok (.aload 4, 2) := by decide +kernel
theorem dX8_isGoodPower_49 : decode cX8_isGoodPower 49 = .ok (.getfield 153, 3) := by decide +kernel
theorem dX8_isGoodPower_52 : decode cX8_isGoodPower 52 = .ok (.ifnull 14, 3) := by decide +kernel
theorem dX8_isGoodPower_55 : decode cX8_isGoodPower 55 = .ok (.aload 4, 2) := by decide +kernel
theorem dX8_isGoodPower_57 : decode cX8_isGoodPower 57 = .ok (.getfield 153, 3) := by decide +kernel
theorem dX8_isGoodPower_60 : decode cX8_isGoodPower 60 = .ok (.getfield 434, 3) := by decide +kernel
theorem dX8_isGoodPower_63 : decode cX8_isGoodPower 63 = .ok (.ifCond .ne 5, 3) := by decide +kernel
theorem dX8_isGoodPower_66 : decode cX8_isGoodPower 66 = .ok (.iconst 0, 1) := by decide +kernel
theorem dX8_isGoodPower_67 : decode cX8_isGoodPower 67 = .ok (.ireturn, 1) := by decide +kernel
theorem dX8_isGoodPower_68 : decode cX8_isGoodPower 68 = .ok (.aload 4, 2) := by decide +kernel
theorem dX8_isGoodPower_70 : decode cX8_isGoodPower 70 = .ok (.astore_n 2, 1) := by decide +kernel
theorem dX8_isGoodPower_71 : decode cX8_isGoodPower 71 = .ok (.iinc 3 1, 3) := by decide +kernel
theorem dX8_isGoodPower_74 : decode cX8_isGoodPower 74 = .ok (.goto (-70), 3) := by decide +kernel
theorem dX8_isGoodPower_77 : decode cX8_isGoodPower 77 = .ok (.iconst 0, 1) := by decide +kernel
theorem dX8_isGoodPower_78 : decode cX8_isGoodPower 78 = .ok (.ireturn, 1) := by decide +kernel
theorem dX8_isGoodByItself_0 : decode cX8_isGoodByItself 0 = .ok (.aload_n 2, 1) := by decide +kernel
theorem dX8_isGoodByItself_1 : decode cX8_isGoodByItself 1 = .ok (.getfield 437, 3) := by decide +kernel
theorem dX8_isGoodByItself_4 : decode cX8_isGoodByItself 4 = .ok (.istore_n 3, 1) := by decide +kernel
theorem dX8_isGoodByItself_5 : decode cX8_isGoodByItself 5 = .ok (.aload_n 1, 1) := by decide +kernel
theorem dX8_isGoodByItself_6 : decode cX8_isGoodByItself 6 = .ok (.getfield 221, 3) := by decide +kernel
theorem dX8_isGoodByItself_9 : decode cX8_isGoodByItself 9 = .ok (.iconst 2, 1) := by decide +kernel
theorem dX8_isGoodByItself_10 : decode cX8_isGoodByItself 10 = .ok (.if_icmp .ne 15, 3) := by decide +kernel
theorem dX8_isGoodByItself_13 : decode cX8_isGoodByItself 13 = .ok (.iload_n 3, 1) := by decide +kernel
theorem dX8_isGoodByItself_14 : decode cX8_isGoodByItself 14 = .ok (.aload_n 1, 1) := by decide +kernel
theorem dX8_isGoodByItself_15 : decode cX8_isGoodByItself 15 = .ok (.getfield 215, 3) := by decide +kernel
theorem dX8_isGoodByItself_18 : decode cX8_isGoodByItself 18 = .ok (.bipush 30, 2) := by decide +kernel
theorem dX8_isGoodByItself_20 : decode cX8_isGoodByItself 20 = .ok (.iadd, 1) := by decide +kernel
theorem dX8_isGoodByItself_21 : decode cX8_isGoodByItself 21 = .ok (.invokestatic 440, 3) := by decide +kernel
theorem dX8_isGoodByItself_24 : decode cX8_isGoodByItself 24 = .ok (.istore_n 3, 1) := by decide +kernel
theorem dX8_isGoodByItself_25 : decode cX8_isGoodByItself 25 = .ok (.aload_n 1, 1) := by decide +kernel
theorem dX8_isGoodByItself_26 : decode cX8_isGoodByItself 26 = .ok (.getfield 221, 3) := by decide +kernel
theorem dX8_isGoodByItself_29 : decode cX8_isGoodByItself 29 = .ok (.iconst 1, 1) := by decide +kernel
theorem dX8_isGoodByItself_30 : decode cX8_isGoodByItself 30 = .ok (.if_icmp .eq 11, 3) := by decide +kernel
theorem dX8_isGoodByItself_33 : decode cX8_isGoodByItself 33 = .ok (.aload_n 1, 1) := by decide +kernel
theorem dX8_isGoodByItself_34 : decode cX8_isGoodByItself 34 = .ok (.getfield 221, 3) := by decide +kernel
theorem dX8_isGoodByItself_37 : decode cX8_isGoodByItself 37 = .ok (.iconst 2, 1) := by decide +kernel
theorem dX8_isGoodByItself_38 : decode cX8_isGoodByItself 38 = .ok (.if_icmp .ne 32, 3) := by decide +kernel
theorem dX8_isGoodByItself_41 : decode cX8_isGoodByItself 41 = .ok (.aload_n 0, 1) := by decide +kernel
theorem dX8_isGoodByItself_42 : decode cX8_isGoodByItself 42 = .ok (.getfield 32, 3) := by decide +kernel
theorem dX8_isGoodByItself_45 : decode cX8_isGoodByItself 45 = .ok (.iload_n 3, 1) := by decide +kernel
theorem dX8_isGoodByItself_46 : decode cX8_isGoodByItself 46 = .ok (.if_icmp .gt 24, 3) := by decide +kernel
theorem dX8_isGoodByItself_49 : decode cX8_isGoodByItself 49 = .ok (.aload_n 2, 1) := by decide +kernel
theorem dX8_isGoodByItself_50 : decode cX8_isGoodByItself 50 = .ok (.getfield 274, 3) := by decide +kernel
theorem dX8_isGoodByItself_53 : decode cX8_isGoodByItself 53 = .ok (.ifCond .ne 17, 3) := by decide +kernel
theorem dX8_isGoodByItself_56 : decode cX8_isGoodByItself 56 = .ok (.aload_n 1, 1) := by decide +kernel
theorem dX8_isGoodByItself_57 : decode cX8_isGoodByItself 57 = .ok (.getfield 206, 3) := by decide +kernel
theorem dX8_isGoodByItself_60 : decode cX8_isGoodByItself 60 = .ok (.getfield 96, 3) := by decide +kernel
theorem dX8_isGoodByItself_63 : decode cX8_isGoodByItself 63 = .ok (.ifCond .eq 7, 3) := by decide +kernel
theorem dX8_isGoodByItself_66 : decode cX8_isGoodByItself 66 = .ok (.iconst 1, 1) := by decide +kernel
theorem dX8_isGoodByItself_67 : decode cX8_isGoodByItself 67 = .ok (.goto 4, 3) := by decide +kernel
theorem dX8_isGoodByItself_70 : decode cX8_isGoodByItself 70 = .ok (.iconst 0, 1) := by decide +kernel
theorem dX8_isGoodByItself_71 : decode cX8_isGoodByItself 71 = .ok (.ireturn, 1) := by decide +kernel
theorem dX8_isReadyToEnter_0 : decode cX8_isReadyToEnter 0 = .ok (.aload_n 0, 1) := by decide +kernel
theorem dX8_isReadyToEnter_1 : decode cX8_isReadyToEnter 1 = .ok (.getfield 224, 3) := by decide +kernel
theorem dX8_isReadyToEnter_4 : decode cX8_isReadyToEnter 4 = .ok (.invokevirtual 286, 3) := by decide +kernel
theorem dX8_isReadyToEnter_7 : decode cX8_isReadyToEnter 7 = .ok (.istore_n 1, 1) := by decide +kernel
theorem dX8_isReadyToEnter_8 : decode cX8_isReadyToEnter 8 = .ok (.aload_n 0, 1) := by decide +kernel
theorem dX8_isReadyToEnter_9 : decode cX8_isReadyToEnter 9 = .ok (.getfield 236, 3) := by decide +kernel
theorem dX8_isReadyToEnter_12 : decode cX8_isReadyToEnter 12 = .ok (.invokestatic 125, 3) := by decide +kernel
theorem dX8_isReadyToEnter_15 : decode cX8_isReadyToEnter 15 = .ok (.ifCond .eq 53, 3) := by decide +kernel
theorem dX8_isReadyToEnter_18 : decode cX8_isReadyToEnter 18 = .ok (.aload_n 0, 1) := by decide +kernel
theorem dX8_isReadyToEnter_19 : decode cX8_isReadyToEnter 19 = .ok (.getfield 221, 3) := by decide +kernel
theorem dX8_isReadyToEnter_22 : decode cX8_isReadyToEnter 22 = .ok (.iconst 1, 1) := by decide +kernel
theorem dX8_isReadyToEnter_23 : decode cX8_isReadyToEnter 23 = .ok (.if_icmp .ne 45, 3) := by decide +kernel
theorem dX8_isReadyToEnter_26 : decode cX8_isReadyToEnter 26 = .ok (.aload_n 0, 1) := by decide +kernel
theorem dX8_isReadyToEnter_27 : decode cX8_isReadyToEnter 27 = .ok (.getfield 239, 3) := by decide +kernel
theorem dX8_isReadyToEnter_30 : decode cX8_isReadyToEnter 30 = .ok (.iconst (-1), 1) := by decide +kernel
theorem dX8_isReadyToEnter_31 : decode cX8_isReadyToEnter 31 = .ok (.if_icmp .ne 37, 3) := by decide +kernel
theorem dX8_isReadyToEnter_34 : decode cX8_isReadyToEnter 34 = .ok (.iload_n 1, 1) := by decide +kernel
theorem dX8_isReadyToEnter_35 : decode cX8_isReadyToEnter 35 = .ok (.iconst (-1), 1) := by decide +kernel
theorem dX8_isReadyToEnter_36 : decode cX8_isReadyToEnter 36 = .ok (.if_icmp .eq 32, 3) := by decide +kernel
theorem dX8_isReadyToEnter_39 : decode cX8_isReadyToEnter 39 = .ok (.iload_n 1, 1) := by decide +kernel
theorem dX8_isReadyToEnter_40 : decode cX8_isReadyToEnter 40 = .ok (.iconst 1, 1) := by decide +kernel
theorem dX8_isReadyToEnter_41 : decode cX8_isReadyToEnter 41 = .ok (.if_icmp .gt 27, 3) := by decide +kernel
theorem dX8_isReadyToEnter_44 : decode cX8_isReadyToEnter 44 = .ok (.aload_n 0, 1) := by decide +kernel
theorem dX8_isReadyToEnter_45 : decode cX8_isReadyToEnter 45 = .ok (.getfield 206, 3) := by decide +kernel
theorem dX8_isReadyToEnter_48 : decode cX8_isReadyToEnter 48 = .ok (.getfield 96, 3) := by decide +kernel
theorem dX8_isReadyToEnter_51 : decode cX8_isReadyToEnter 51 = .ok (.ifCond .eq 17, 3) := by decide +kernel
theorem dX8_isReadyToEnter_54 : decode cX8_isReadyToEnter 54 = .ok (.aload_n 0, 1) := by decide +kernel
theorem dX8_isReadyToEnter_55 : decode cX8_isReadyToEnter 55 = .ok (.getfield 209, 3) := by decide +kernel
theorem dX8_isReadyToEnter_58 : decode cX8_isReadyToEnter 58 = .ok (.getfield 96, 3) := by decide +kernel
theorem dX8_isReadyToEnter_61 : decode cX8_isReadyToEnter 61 = .ok (.ifCond .eq 7, 3) := by decide +kernel
theorem dX8_isReadyToEnter_64 : decode cX8_isReadyToEnter 64 = .ok (.iconst 1, 1) := by decide +kernel
theorem dX8_isReadyToEnter_65 : decode cX8_isReadyToEnter 65 = .ok (.goto 4, 3) := by decide +kernel
theorem dX8_isReadyToEnter_68 : decode cX8_isReadyToEnter 68 = .ok (.iconst 0, 1) := by decide +kernel
theorem dX8_isReadyToEnter_69 : decode cX8_isReadyToEnter 69 = .ok (.ireturn, 1) := by decide +kernel
theorem dX8_moveOf_0 : decode cX8_moveOf 0 = .ok (.aload_n 0, 1) := by decide +kernel
theorem dX8_moveOf_1 : decode cX8_moveOf 1 = .ok (.getfield 236, 3) := by decide +kernel
theorem dX8_moveOf_4 : decode cX8_moveOf 4 = .ok (.iconst 2, 1) := by decide +kernel
theorem dX8_moveOf_5 : decode cX8_moveOf 5 = .ok (.if_icmp .ne 5, 3) := by decide +kernel
theorem dX8_moveOf_8 : decode cX8_moveOf 8 = .ok (.aconst_null, 1) := by decide +kernel
theorem dX8_moveOf_9 : decode cX8_moveOf 9 = .ok (.areturn, 1) := by decide +kernel
theorem dX8_moveOf_10 : decode cX8_moveOf 10 = .ok (.new 446, 3) := by decide +kernel
theorem dX8_moveOf_13 : decode cX8_moveOf 13 = .ok (.dup, 1) := by decide +kernel
theorem dX8_moveOf_14 : decode cX8_moveOf 14 = .ok (.aload_n 0, 1) := by decide +kernel
theorem dX8_moveOf_15 : decode cX8_moveOf 15 = .ok (.getfield 206, 3) := by decide +kernel
theorem dX8_moveOf_18 : decode cX8_moveOf 18 = .ok (.getfield 68, 3) := by decide +kernel
theorem dX8_moveOf_21 : decode cX8_moveOf 21 = .ok (.aload_n 0, 1) := by decide +kernel
theorem dX8_moveOf_22 : decode cX8_moveOf 22 = .ok (.getfield 209, 3) := by decide +kernel
theorem dX8_moveOf_25 : decode cX8_moveOf 25 = .ok (.getfield 68, 3) := by decide +kernel
theorem dX8_moveOf_28 : decode cX8_moveOf 28 = .ok (.aload_n 0, 1) := by decide +kernel
theorem dX8_moveOf_29 : decode cX8_moveOf 29 = .ok (.getfield 310, 3) := by decide +kernel
theorem dX8_moveOf_32 : decode cX8_moveOf 32 = .ok (.aload_n 0, 1) := by decide +kernel
theorem dX8_moveOf_33 : decode cX8_moveOf 33 = .ok (.getfield 313, 3) := by decide +kernel
theorem dX8_moveOf_36 : decode cX8_moveOf 36 = .ok (.iconst 0, 1) := by decide +kernel
theorem dX8_moveOf_37 : decode cX8_moveOf 37 = .ok (.invokespecial 448, 3) := by decide +kernel
theorem dX8_moveOf_40 : decode cX8_moveOf 40 = .ok (.areturn, 1) := by decide +kernel
theorem dX8_leavesSmallShares_0 : decode cX8_leavesSmallShares 0 = .ok (.aload_n 0, 1) := by decide +kernel
theorem dX8_leavesSmallShares_1 : decode cX8_leavesSmallShares 1 = .ok (.getfield 28, 3) := by decide +kernel
theorem dX8_leavesSmallShares_4 : decode cX8_leavesSmallShares 4 = .ok (.aload_n 1, 1) := by decide +kernel
theorem dX8_leavesSmallShares_5 : decode cX8_leavesSmallShares 5 = .ok (.getfield 307, 3) := by decide +kernel
theorem dX8_leavesSmallShares_8 : decode cX8_leavesSmallShares 8 = .ok (.invokevirtual 451, 3) := by decide +kernel
theorem dX8_leavesSmallShares_11 : decode cX8_leavesSmallShares 11 = .ok (.aload_n 0, 1) := by decide +kernel
theorem dX8_leavesSmallShares_12 : decode cX8_leavesSmallShares 12 = .ok (.getfield 28, 3) := by decide +kernel
theorem dX8_leavesSmallShares_15 : decode cX8_leavesSmallShares 15 = .ok (.aload_n 2, 1) := by decide +kernel
theorem dX8_leavesSmallShares_16 : decode cX8_leavesSmallShares 16 = .ok (.invokevirtual 394, 3) := by decide +kernel
theorem dX8_leavesSmallShares_19 : decode cX8_leavesSmallShares 19 = .ok (.aload_n 0, 1) := by decide +kernel
theorem dX8_leavesSmallShares_20 : decode cX8_leavesSmallShares 20 = .ok (.getfield 28, 3) := by decide +kernel
theorem dX8_leavesSmallShares_23 : decode cX8_leavesSmallShares 23 = .ok (.invokevirtual 455, 3) := by decide +kernel
theorem dX8_leavesSmallShares_26 : decode cX8_leavesSmallShares 26 = .ok (.ireturn, 1) := by decide +kernel
theorem dX8_keepEntry_0 : decode cX8_keepEntry 0 = .ok (.aload_n 1, 1) := by decide +kernel
theorem dX8_keepEntry_1 : decode cX8_keepEntry 1 = .ok (.getfield 368, 3) := by decide +kernel
theorem dX8_keepEntry_4 : decode cX8_keepEntry 4 = .ok (.getfield 307, 3) := by decide +kernel
theorem dX8_keepEntry_7 : decode cX8_keepEntry 7 = .ok (.aload_n 1, 1) := by decide +kernel
theorem dX8_keepEntry_8 : decode cX8_keepEntry 8 = .ok (.getfield 390, 3) := by decide +kernel
theorem dX8_keepEntry_11 : decode cX8_keepEntry 11 = .ok (.invokevirtual 394, 3) := by decide +kernel
theorem dX8_keepEntry_14 : decode cX8_keepEntry 14 = .ok (.aload_n 0, 1) := by decide +kernel
theorem dX8_keepEntry_15 : decode cX8_keepEntry 15 = .ok (.getfield 22, 3) := by decide +kernel
theorem dX8_keepEntry_18 : decode cX8_keepEntry 18 = .ok (.aload_n 1, 1) := by decide +kernel
theorem dX8_keepEntry_19 : decode cX8_keepEntry 19 = .ok (.invokevirtual 64, 3) := by decide +kernel
theorem dX8_keepEntry_22 : decode cX8_keepEntry 22 = .ok (.pop, 1) := by decide +kernel
theorem dX8_keepEntry_23 : decode cX8_keepEntry 23 = .ok (.return_, 1) := by decide +kernel
theorem dX8_dutyOf_0 : decode cX8_dutyOf 0 = .ok (.aload_n 0, 1) := by decide +kernel
theorem dX8_dutyOf_1 : decode cX8_dutyOf 1 = .ok (.getfield 313, 3) := by decide +kernel
theorem dX8_dutyOf_4 : decode cX8_dutyOf 4 = .ok (.iconst 1, 1) := by decide +kernel
theorem dX8_dutyOf_5 : decode cX8_dutyOf 5 = .ok (.if_icmp .ge 5, 3) := by decide +kernel
theorem dX8_dutyOf_8 : decode cX8_dutyOf 8 = .ok (.lconst 0, 1) := by decide +kernel
theorem dX8_dutyOf_9 : decode cX8_dutyOf 9 = .ok (.lreturn, 1) := by decide +kernel
theorem dX8_dutyOf_10 : decode cX8_dutyOf 10 = .ok (.aload_n 1, 1) := by decide +kernel
theorem dX8_dutyOf_11 : decode cX8_dutyOf 11 = .ok (.getfield 458, 3) := by decide +kernel
theorem dX8_dutyOf_14 : decode cX8_dutyOf 14 = .ok (.i2l, 1) := by decide +kernel
theorem dX8_dutyOf_15 : decode cX8_dutyOf 15 = .ok (.aload_n 0, 1) := by decide +kernel
theorem dX8_dutyOf_16 : decode cX8_dutyOf 16 = .ok (.getfield 310, 3) := by decide +kernel
theorem dX8_dutyOf_19 : decode cX8_dutyOf 19 = .ok (.i2l, 1) := by decide +kernel
theorem dX8_dutyOf_20 : decode cX8_dutyOf 20 = .ok (.lmul, 1) := by decide +kernel
theorem dX8_dutyOf_21 : decode cX8_dutyOf 21 = .ok (.aload_n 0, 1) := by decide +kernel
theorem dX8_dutyOf_22 : decode cX8_dutyOf 22 = .ok (.getfield 313, 3) := by decide +kernel
theorem dX8_dutyOf_25 : decode cX8_dutyOf 25 = .ok (.i2l, 1) := by decide +kernel
theorem dX8_dutyOf_26 : decode cX8_dutyOf 26 = .ok (.ldiv, 1) := by decide +kernel
theorem dX8_dutyOf_27 : decode cX8_dutyOf 27 = .ok (.lstore_n 2, 1) := by decide +kernel
theorem dX8_dutyOf_28 : decode cX8_dutyOf 28 = .ok (.aload_n 0, 1) := by decide +kernel
theorem dX8_dutyOf_29 : decode cX8_dutyOf 29 = .ok (.getfield 236, 3) := by decide +kernel
theorem dX8_dutyOf_32 : decode cX8_dutyOf 32 = .ok (.lookupswitch 59 #[(0, 28), (1, 34)], 28) := by decide +kernel
theorem dX8_dutyOf_60 : decode cX8_dutyOf 60 = .ok (.lload_n 2, 1) := by decide +kernel
theorem dX8_dutyOf_61 : decode cX8_dutyOf 61 = .ok (.ldc2_w 461, 3) := by decide +kernel
theorem dX8_dutyOf_64 : decode cX8_dutyOf 64 = .ok (.ldiv, 1) := by decide +kernel
theorem dX8_dutyOf_65 : decode cX8_dutyOf 65 = .ok (.lreturn, 1) := by decide +kernel
theorem dX8_dutyOf_66 : decode cX8_dutyOf 66 = .ok (.lload_n 2, 1) := by decide +kernel
theorem dX8_dutyOf_67 : decode cX8_dutyOf 67 = .ok (.aload_n 0, 1) := by decide +kernel
theorem dX8_dutyOf_68 : decode cX8_dutyOf 68 = .ok (.getfield 206, 3) := by decide +kernel
theorem dX8_dutyOf_71 : decode cX8_dutyOf 71 = .ok (.aload_n 0, 1) := by decide +kernel
theorem dX8_dutyOf_72 : decode cX8_dutyOf 72 = .ok (.getfield 209, 3) := by decide +kernel
theorem dX8_dutyOf_75 : decode cX8_dutyOf 75 = .ok (.invokestatic 420, 3) := by decide +kernel
theorem dX8_dutyOf_78 : decode cX8_dutyOf 78 = .ok (.ifCond .eq 8, 3) := by decide +kernel
theorem dX8_dutyOf_81 : decode cX8_dutyOf 81 = .ok (.bipush 50, 2) := by decide +kernel
theorem dX8_dutyOf_83 : decode cX8_dutyOf 83 = .ok (.goto 5, 3) := by decide +kernel
theorem dX8_dutyOf_86 : decode cX8_dutyOf 86 = .ok (.bipush 10, 2) := by decide +kernel
theorem dX8_dutyOf_88 : decode cX8_dutyOf 88 = .ok (.i2l, 1) := by decide +kernel
theorem dX8_dutyOf_89 : decode cX8_dutyOf 89 = .ok (.ldiv, 1) := by decide +kernel
theorem dX8_dutyOf_90 : decode cX8_dutyOf 90 = .ok (.lreturn, 1) := by decide +kernel
theorem dX8_dutyOf_91 : decode cX8_dutyOf 91 = .ok (.lload_n 2, 1) := by decide +kernel
theorem dX8_dutyOf_92 : decode cX8_dutyOf 92 = .ok (.ldc2_w 463, 3) := by decide +kernel
theorem dX8_dutyOf_95 : decode cX8_dutyOf 95 = .ok (.ldiv, 1) := by decide +kernel
theorem dX8_dutyOf_96 : decode cX8_dutyOf 96 = .ok (.lreturn, 1) := by decide +kernel
theorem dX8_countEstateThings_0 : decode cX8_countEstateThings 0 = .ok (.iconst 0, 1) := by decide +kernel
theorem dX8_countEstateThings_1 : decode cX8_countEstateThings 1 = .ok (.istore_n 3, 1) := by decide +kernel
theorem dX8_countEstateThings_2 : decode cX8_countEstateThings 2 = .ok (.iconst 0, 1) := by decide +kernel
theorem dX8_countEstateThings_3 : decode cX8_countEstateThings 3 = .ok (.istore 4, 2) := by decide +kernel
theorem dX8_countEstateThings_5 : decode cX8_countEstateThings 5 = .ok (.iload 4, 2) := by decide +kernel
theorem dX8_countEstateThings_7 : decode cX8_countEstateThings 7 = .ok (.aload_n 0, 1) := by decide +kernel
theorem dX8_countEstateThings_8 : decode cX8_countEstateThings 8 = .ok (.getfield 16, 3) := by decide +kernel
theorem dX8_countEstateThings_11 : decode cX8_countEstateThings 11 = .ok (.invokevirtual 50, 3) := by decide +kernel
theorem dX8_countEstateThings_14 : decode cX8_countEstateThings 14 = .ok (.if_icmp .ge 62, 3) := by decide +kernel
theorem dX8_countEstateThings_17 : decode cX8_countEstateThings 17 = .ok (.aload_n 0, 1) := by decide +kernel
theorem dX8_countEstateThings_18 : decode cX8_countEstateThings 18 = .ok (.getfield 16, 3) := by decide +kernel
theorem dX8_countEstateThings_21 : decode cX8_countEstateThings 21 = .ok (.iload 4, 2) := by decide +kernel
theorem dX8_countEstateThings_23 : decode cX8_countEstateThings 23 = .ok (.invokevirtual 355, 3) := by decide +kernel
theorem dX8_countEstateThings_26 : decode cX8_countEstateThings 26 = .ok (.checkcast 111, 3) := by decide +kernel
theorem dX8_countEstateThings_29 : decode cX8_countEstateThings 29 = .ok (.astore 5, 2) := by decide +kernel
theorem dX8_countEstateThings_31 : decode cX8_countEstateThings 31 = .ok (.aload 5, 2) := by decide +kernel
theorem dX8_countEstateThings_33 : decode cX8_countEstateThings 33 = .ok (.getfield 307, 3) := by decide +kernel
theorem dX8_countEstateThings_36 : decode cX8_countEstateThings 36 = .ok (.aload_n 1, 1) := by decide +kernel
theorem dX8_countEstateThings_37 : decode cX8_countEstateThings 37 = .ok (.getfield 68, 3) := by decide +kernel
theorem dX8_countEstateThings_40 : decode cX8_countEstateThings 40 = .ok (.invokevirtual 359, 3) := by decide +kernel
theorem dX8_countEstateThings_43 : decode cX8_countEstateThings 43 = .ok (.ifCond .ne 27, 3) := by decide +kernel
theorem dX8_countEstateThings_46 : decode cX8_countEstateThings 46 = .ok (.iinc 3 1, 3) := by decide +kernel
theorem dX8_countEstateThings_49 : decode cX8_countEstateThings 49 = .ok (.aload_n 0, 1) := by decide +kernel
theorem dX8_countEstateThings_50 : decode cX8_countEstateThings 50 = .ok (.aload 5, 2) := by decide +kernel
theorem dX8_countEstateThings_52 : decode cX8_countEstateThings 52 = .ok (.aload_n 2, 1) := by decide +kernel
theorem dX8_countEstateThings_53 : decode cX8_countEstateThings 53 = .ok (.invokevirtual 320, 3) := by decide +kernel
theorem dX8_countEstateThings_56 : decode cX8_countEstateThings 56 = .ok (.ifCond .ne 14, 3) := by decide +kernel
theorem dX8_countEstateThings_59 : decode cX8_countEstateThings 59 = .ok (.new 54, 3) := by decide +kernel
theorem dX8_countEstateThings_62 : decode cX8_countEstateThings 62 = .ok (.dup, 1) := by decide +kernel
theorem dX8_countEstateThings_63 : decode cX8_countEstateThings 63 = .ok (.ldc_w 465, 3) := by decide +kernel
theorem dX8_countEstateThings_66 : decode cX8_countEstateThings 66 = .ok (.invokespecial 58, 3) := by decide +kernel
theorem dX8_countEstateThings_69 : decode cX8_countEstateThings 69 = .ok (.athrow, 1) := by decide +kernel
theorem dX8_countEstateThings_70 : decode cX8_countEstateThings 70 = .ok (.iinc 4 1, 3) := by decide +kernel
theorem dX8_countEstateThings_73 : decode cX8_countEstateThings 73 = .ok (.goto (-68), 3) := by decide +kernel
theorem dX8_countEstateThings_76 : decode cX8_countEstateThings 76 = .ok (.iload_n 3, 1) := by decide +kernel
theorem dX8_countEstateThings_77 : decode cX8_countEstateThings 77 = .ok (.ireturn, 1) := by decide +kernel
theorem dX8_endGuardianships_0 : decode cX8_endGuardianships 0 = .ok (.iconst 0, 1) := by decide +kernel
theorem dX8_endGuardianships_1 : decode cX8_endGuardianships 1 = .ok (.istore_n 2, 1) := by decide +kernel
theorem dX8_endGuardianships_2 : decode cX8_endGuardianships 2 = .ok (.iload_n 2, 1) := by decide +kernel
theorem dX8_endGuardianships_3 : decode cX8_endGuardianships 3 = .ok (.aload_n 0, 1) := by decide +kernel
theorem dX8_endGuardianships_4 : decode cX8_endGuardianships 4 = .ok (.getfield 12, 3) := by decide +kernel
theorem dX8_endGuardianships_7 : decode cX8_endGuardianships 7 = .ok (.invokevirtual 50, 3) := by decide +kernel
theorem dX8_endGuardianships_10 : decode cX8_endGuardianships 10 = .ok (.if_icmp .ge 34, 3) := by decide +kernel
theorem dX8_endGuardianships_13 : decode cX8_endGuardianships 13 = .ok (.aload_n 0, 1) := by decide +kernel
theorem dX8_endGuardianships_14 : decode cX8_endGuardianships 14 = .ok (.getfield 12, 3) := by decide +kernel
theorem dX8_endGuardianships_17 : decode cX8_endGuardianships 17 = .ok (.iload_n 2, 1) := by decide +kernel
theorem dX8_endGuardianships_18 : decode cX8_endGuardianships 18 = .ok (.invokevirtual 355, 3) := by decide +kernel
theorem dX8_endGuardianships_21 : decode cX8_endGuardianships 21 = .ok (.checkcast 59, 3) := by decide +kernel
theorem dX8_endGuardianships_24 : decode cX8_endGuardianships 24 = .ok (.astore_n 3, 1) := by decide +kernel
theorem dX8_endGuardianships_25 : decode cX8_endGuardianships 25 = .ok (.aload_n 3, 1) := by decide +kernel
theorem dX8_endGuardianships_26 : decode cX8_endGuardianships 26 = .ok (.getfield 102, 3) := by decide +kernel
theorem dX8_endGuardianships_29 : decode cX8_endGuardianships 29 = .ok (.aload_n 1, 1) := by decide +kernel
theorem dX8_endGuardianships_30 : decode cX8_endGuardianships 30 = .ok (.if_acmp .ne 8, 3) := by decide +kernel
theorem dX8_endGuardianships_33 : decode cX8_endGuardianships 33 = .ok (.aload_n 3, 1) := by decide +kernel
theorem dX8_endGuardianships_34 : decode cX8_endGuardianships 34 = .ok (.aconst_null, 1) := by decide +kernel
theorem dX8_endGuardianships_35 : decode cX8_endGuardianships 35 = .ok (.putfield 102, 3) := by decide +kernel
theorem dX8_endGuardianships_38 : decode cX8_endGuardianships 38 = .ok (.iinc 2 1, 3) := by decide +kernel
theorem dX8_endGuardianships_41 : decode cX8_endGuardianships 41 = .ok (.goto (-39), 3) := by decide +kernel
theorem dX8_endGuardianships_44 : decode cX8_endGuardianships 44 = .ok (.return_, 1) := by decide +kernel
theorem dX8_successionOf_0 : decode cX8_successionOf 0 = .ok (.aload_n 0, 1) := by decide +kernel
theorem dX8_successionOf_1 : decode cX8_successionOf 1 = .ok (.aload_n 1, 1) := by decide +kernel
theorem dX8_successionOf_2 : decode cX8_successionOf 2 = .ok (.invokevirtual 467, 3) := by decide +kernel
theorem dX8_successionOf_5 : decode cX8_successionOf 5 = .ok (.istore_n 2, 1) := by decide +kernel
theorem dX8_successionOf_6 : decode cX8_successionOf 6 = .ok (.aload_n 0, 1) := by decide +kernel
theorem dX8_successionOf_7 : decode cX8_successionOf 7 = .ok (.aload_n 1, 1) := by decide +kernel
theorem dX8_successionOf_8 : decode cX8_successionOf 8 = .ok (.invokevirtual 471, 3) := by decide +kernel
theorem dX8_successionOf_11 : decode cX8_successionOf 11 = .ok (.astore_n 3, 1) := by decide +kernel
theorem dX8_successionOf_12 : decode cX8_successionOf 12 = .ok (.aload_n 3, 1) := by decide +kernel
theorem dX8_successionOf_13 : decode cX8_successionOf 13 = .ok (.ifnonnull 24, 3) := by decide +kernel
theorem dX8_successionOf_16 : decode cX8_successionOf 16 = .ok (.new 446, 3) := by decide +kernel
theorem dX8_successionOf_19 : decode cX8_successionOf 19 = .ok (.dup, 1) := by decide +kernel
theorem dX8_successionOf_20 : decode cX8_successionOf 20 = .ok (.aload_n 1, 1) := by decide +kernel
theorem dX8_successionOf_21 : decode cX8_successionOf 21 = .ok (.getfield 68, 3) := by decide +kernel
theorem dX8_successionOf_24 : decode cX8_successionOf 24 = .ok (.iconst (-1), 1) := by decide +kernel
theorem dX8_successionOf_25 : decode cX8_successionOf 25 = .ok (.iconst 0, 1) := by decide +kernel
theorem dX8_successionOf_26 : decode cX8_successionOf 26 = .ok (.iconst 1, 1) := by decide +kernel
theorem dX8_successionOf_27 : decode cX8_successionOf 27 = .ok (.aload_n 0, 1) := by decide +kernel
theorem dX8_successionOf_28 : decode cX8_successionOf 28 = .ok (.aload_n 1, 1) := by decide +kernel
theorem dX8_successionOf_29 : decode cX8_successionOf 29 = .ok (.iload_n 2, 1) := by decide +kernel
theorem dX8_successionOf_30 : decode cX8_successionOf 30 = .ok (.invokevirtual 475, 3) := by decide +kernel
theorem dX8_successionOf_33 : decode cX8_successionOf 33 = .ok (.invokespecial 448, 3) := by decide +kernel
theorem dX8_successionOf_36 : decode cX8_successionOf 36 = .ok (.areturn, 1) := by decide +kernel
theorem dX8_successionOf_37 : decode cX8_successionOf 37 = .ok (.aload_n 3, 1) := by decide +kernel
theorem dX8_successionOf_38 : decode cX8_successionOf 38 = .ok (.getfield 310, 3) := by decide +kernel
theorem dX8_successionOf_41 : decode cX8_successionOf 41 = .ok (.istore 4, 2) := by decide +kernel
theorem dX8_successionOf_43 : decode cX8_successionOf 43 = .ok (.aload_n 3, 1) := by decide +kernel
theorem dX8_successionOf_44 : decode cX8_successionOf 44 = .ok (.getfield 313, 3) := by decide +kernel
theorem dX8_successionOf_47 : decode cX8_successionOf 47 = .ok (.istore 5, 2) := by decide +kernel
theorem dX8_successionOf_49 : decode cX8_successionOf 49 = .ok (.iload_n 2, 1) := by decide +kernel
theorem dX8_successionOf_50 : decode cX8_successionOf 50 = .ok (.ifCond .eq 18, 3) := by decide +kernel
theorem dX8_successionOf_53 : decode cX8_successionOf 53 = .ok (.iconst 2, 1) := by decide +kernel
theorem dX8_successionOf_54 : decode cX8_successionOf 54 = .ok (.iload 4, 2) := by decide +kernel
theorem dX8_successionOf_56 : decode cX8_successionOf 56 = .ok (.imul, 1) := by decide +kernel
theorem dX8_successionOf_57 : decode cX8_successionOf 57 = .ok (.iload 5, 2) := by decide +kernel
theorem dX8_successionOf_59 : decode cX8_successionOf 59 = .ok (.if_icmp .le 9, 3) := by decide +kernel
theorem dX8_successionOf_62 : decode cX8_successionOf 62 = .ok (.iconst 1, 1) := by decide +kernel
theorem dX8_successionOf_63 : decode cX8_successionOf 63 = .ok (.istore 4, 2) := by decide +kernel
theorem dX8_successionOf_65 : decode cX8_successionOf 65 = .ok (.iconst 2, 1) := by decide +kernel
theorem dX8_successionOf_66 : decode cX8_successionOf 66 = .ok (.istore 5, 2) := by decide +kernel
theorem dX8_successionOf_68 : decode cX8_successionOf 68 = .ok (.new 446, 3) := by decide +kernel
theorem dX8_successionOf_71 : decode cX8_successionOf 71 = .ok (.dup, 1) := by decide +kernel
theorem dX8_successionOf_72 : decode cX8_successionOf 72 = .ok (.aload_n 1, 1) := by decide +kernel
theorem dX8_successionOf_73 : decode cX8_successionOf 73 = .ok (.getfield 68, 3) := by decide +kernel
theorem dX8_successionOf_76 : decode cX8_successionOf 76 = .ok (.aload_n 3, 1) := by decide +kernel
theorem dX8_successionOf_77 : decode cX8_successionOf 77 = .ok (.getfield 209, 3) := by decide +kernel
theorem dX8_successionOf_80 : decode cX8_successionOf 80 = .ok (.getfield 68, 3) := by decide +kernel
theorem dX8_successionOf_83 : decode cX8_successionOf 83 = .ok (.iload 4, 2) := by decide +kernel
theorem dX8_successionOf_85 : decode cX8_successionOf 85 = .ok (.iload 5, 2) := by decide +kernel
theorem dX8_successionOf_87 : decode cX8_successionOf 87 = .ok (.aload_n 0, 1) := by decide +kernel
theorem dX8_successionOf_88 : decode cX8_successionOf 88 = .ok (.aload_n 1, 1) := by decide +kernel
theorem dX8_successionOf_89 : decode cX8_successionOf 89 = .ok (.iload_n 2, 1) := by decide +kernel
theorem dX8_successionOf_90 : decode cX8_successionOf 90 = .ok (.invokevirtual 475, 3) := by decide +kernel
theorem dX8_successionOf_93 : decode cX8_successionOf 93 = .ok (.invokespecial 448, 3) := by decide +kernel
theorem dX8_successionOf_96 : decode cX8_successionOf 96 = .ok (.areturn, 1) := by decide +kernel
theorem dX8_heirsOf_0 : decode cX8_heirsOf 0 = .ok (.iload_n 2, 1) := by decide +kernel
theorem dX8_heirsOf_1 : decode cX8_heirsOf 1 = .ok (.ifCond .eq 5, 3) := by decide +kernel
theorem dX8_heirsOf_4 : decode cX8_heirsOf 4 = .ok (.iload_n 2, 1) := by decide +kernel
theorem dX8_heirsOf_5 : decode cX8_heirsOf 5 = .ok (.ireturn, 1) := by decide +kernel
theorem dX8_heirsOf_6 : decode cX8_heirsOf 6 = .ok (.aload_n 0, 1) := by decide +kernel
theorem dX8_heirsOf_7 : decode cX8_heirsOf 7 = .ok (.aload_n 1, 1) := by decide +kernel
theorem dX8_heirsOf_8 : decode cX8_heirsOf 8 = .ok (.invokevirtual 479, 3) := by decide +kernel
theorem dX8_heirsOf_11 : decode cX8_heirsOf 11 = .ok (.istore_n 3, 1) := by decide +kernel
theorem dX8_heirsOf_12 : decode cX8_heirsOf 12 = .ok (.iload_n 3, 1) := by decide +kernel
theorem dX8_heirsOf_13 : decode cX8_heirsOf 13 = .ok (.ifCond .eq 7, 3) := by decide +kernel
theorem dX8_heirsOf_16 : decode cX8_heirsOf 16 = .ok (.iload_n 3, 1) := by decide +kernel
theorem dX8_heirsOf_17 : decode cX8_heirsOf 17 = .ok (.goto 6, 3) := by decide +kernel
theorem dX8_heirsOf_20 : decode cX8_heirsOf 20 = .ok (.sipush 4096, 3) := by decide +kernel
theorem dX8_heirsOf_23 : decode cX8_heirsOf 23 = .ok (.ireturn, 1) := by decide +kernel
theorem dX8_livingChildren_0 : decode cX8_livingChildren 0 = .ok (.iconst 0, 1) := by decide +kernel
theorem dX8_livingChildren_1 : decode cX8_livingChildren 1 = .ok (.istore_n 2, 1) := by decide +kernel
theorem dX8_livingChildren_2 : decode cX8_livingChildren 2 = .ok (.iconst 0, 1) := by decide +kernel
theorem dX8_livingChildren_3 : decode cX8_livingChildren 3 = .ok (.istore_n 3, 1) := by decide +kernel
theorem dX8_livingChildren_4 : decode cX8_livingChildren 4 = .ok (.iload_n 3, 1) := by decide +kernel
theorem dX8_livingChildren_5 : decode cX8_livingChildren 5 = .ok (.aload_n 0, 1) := by decide +kernel
theorem dX8_livingChildren_6 : decode cX8_livingChildren 6 = .ok (.getfield 12, 3) := by decide +kernel
theorem dX8_livingChildren_9 : decode cX8_livingChildren 9 = .ok (.invokevirtual 50, 3) := by decide +kernel
theorem dX8_livingChildren_12 : decode cX8_livingChildren 12 = .ok (.if_icmp .ge 49, 3) := by decide +kernel
theorem dX8_livingChildren_15 : decode cX8_livingChildren 15 = .ok (.aload_n 0, 1) := by decide +kernel
theorem dX8_livingChildren_16 : decode cX8_livingChildren 16 = .ok (.getfield 12, 3) := by decide +kernel
theorem dX8_livingChildren_19 : decode cX8_livingChildren 19 = .ok (.iload_n 3, 1) := by decide +kernel
theorem dX8_livingChildren_20 : decode cX8_livingChildren 20 = .ok (.invokevirtual 355, 3) := by decide +kernel
theorem dX8_livingChildren_23 : decode cX8_livingChildren 23 = .ok (.checkcast 59, 3) := by decide +kernel
theorem dX8_livingChildren_26 : decode cX8_livingChildren 26 = .ok (.astore 4, 2) := by decide +kernel
theorem dX8_livingChildren_28 : decode cX8_livingChildren 28 = .ok (.aload 4, 2) := by decide +kernel
theorem dX8_livingChildren_30 : decode cX8_livingChildren 30 = .ok (.getfield 96, 3) := by decide +kernel
theorem dX8_livingChildren_33 : decode cX8_livingChildren 33 = .ok (.ifCond .eq 22, 3) := by decide +kernel
theorem dX8_livingChildren_36 : decode cX8_livingChildren 36 = .ok (.aload 4, 2) := by decide +kernel
theorem dX8_livingChildren_38 : decode cX8_livingChildren 38 = .ok (.aload_n 1, 1) := by decide +kernel
theorem dX8_livingChildren_39 : decode cX8_livingChildren 39 = .ok (.invokevirtual 80, 3) := by decide +kernel
theorem dX8_livingChildren_42 : decode cX8_livingChildren 42 = .ok (.ifCond .eq 13, 3) := by decide +kernel
theorem dX8_livingChildren_45 : decode cX8_livingChildren 45 = .ok (.iload_n 2, 1) := by decide +kernel
theorem dX8_livingChildren_46 : decode cX8_livingChildren 46 = .ok (.iconst 1, 1) := by decide +kernel
theorem dX8_livingChildren_47 : decode cX8_livingChildren 47 = .ok (.aload 4, 2) := by decide +kernel
theorem dX8_livingChildren_49 : decode cX8_livingChildren 49 = .ok (.getfield 68, 3) := by decide +kernel
theorem dX8_livingChildren_52 : decode cX8_livingChildren 52 = .ok (.ishl, 1) := by decide +kernel
theorem dX8_livingChildren_53 : decode cX8_livingChildren 53 = .ok (.ior, 1) := by decide +kernel
theorem dX8_livingChildren_54 : decode cX8_livingChildren 54 = .ok (.istore_n 2, 1) := by decide +kernel
theorem dX8_livingChildren_55 : decode cX8_livingChildren 55 = .ok (.iinc 3 1, 3) := by decide +kernel
theorem dX8_livingChildren_58 : decode cX8_livingChildren 58 = .ok (.goto (-54), 3) := by decide +kernel
theorem dX8_livingChildren_61 : decode cX8_livingChildren 61 = .ok (.iload_n 2, 1) := by decide +kernel
theorem dX8_livingChildren_62 : decode cX8_livingChildren 62 = .ok (.ireturn, 1) := by decide +kernel
theorem dX8_livingParents_0 : decode cX8_livingParents 0 = .ok (.iconst 0, 1) := by decide +kernel
theorem dX8_livingParents_1 : decode cX8_livingParents 1 = .ok (.istore_n 2, 1) := by decide +kernel
theorem dX8_livingParents_2 : decode cX8_livingParents 2 = .ok (.iconst 0, 1) := by decide +kernel
theorem dX8_livingParents_3 : decode cX8_livingParents 3 = .ok (.istore_n 3, 1) := by decide +kernel
theorem dX8_livingParents_4 : decode cX8_livingParents 4 = .ok (.iload_n 3, 1) := by decide +kernel
theorem dX8_livingParents_5 : decode cX8_livingParents 5 = .ok (.aload_n 0, 1) := by decide +kernel
theorem dX8_livingParents_6 : decode cX8_livingParents 6 = .ok (.getfield 12, 3) := by decide +kernel
theorem dX8_livingParents_9 : decode cX8_livingParents 9 = .ok (.invokevirtual 50, 3) := by decide +kernel
theorem dX8_livingParents_12 : decode cX8_livingParents 12 = .ok (.if_icmp .ge 49, 3) := by decide +kernel
theorem dX8_livingParents_15 : decode cX8_livingParents 15 = .ok (.aload_n 0, 1) := by decide +kernel
theorem dX8_livingParents_16 : decode cX8_livingParents 16 = .ok (.getfield 12, 3) := by decide +kernel
theorem dX8_livingParents_19 : decode cX8_livingParents 19 = .ok (.iload_n 3, 1) := by decide +kernel
theorem dX8_livingParents_20 : decode cX8_livingParents 20 = .ok (.invokevirtual 355, 3) := by decide +kernel
theorem dX8_livingParents_23 : decode cX8_livingParents 23 = .ok (.checkcast 59, 3) := by decide +kernel
theorem dX8_livingParents_26 : decode cX8_livingParents 26 = .ok (.astore 4, 2) := by decide +kernel
theorem dX8_livingParents_28 : decode cX8_livingParents 28 = .ok (.aload 4, 2) := by decide +kernel
theorem dX8_livingParents_30 : decode cX8_livingParents 30 = .ok (.getfield 96, 3) := by decide +kernel
theorem dX8_livingParents_33 : decode cX8_livingParents 33 = .ok (.ifCond .eq 22, 3) := by decide +kernel
theorem dX8_livingParents_36 : decode cX8_livingParents 36 = .ok (.aload_n 1, 1) := by decide +kernel
theorem dX8_livingParents_37 : decode cX8_livingParents 37 = .ok (.aload 4, 2) := by decide +kernel
theorem dX8_livingParents_39 : decode cX8_livingParents 39 = .ok (.invokevirtual 80, 3) := by decide +kernel
theorem dX8_livingParents_42 : decode cX8_livingParents 42 = .ok (.ifCond .eq 13, 3) := by decide +kernel
theorem dX8_livingParents_45 : decode cX8_livingParents 45 = .ok (.iload_n 2, 1) := by decide +kernel
theorem dX8_livingParents_46 : decode cX8_livingParents 46 = .ok (.iconst 1, 1) := by decide +kernel
theorem dX8_livingParents_47 : decode cX8_livingParents 47 = .ok (.aload 4, 2) := by decide +kernel
theorem dX8_livingParents_49 : decode cX8_livingParents 49 = .ok (.getfield 68, 3) := by decide +kernel
theorem dX8_livingParents_52 : decode cX8_livingParents 52 = .ok (.ishl, 1) := by decide +kernel
theorem dX8_livingParents_53 : decode cX8_livingParents 53 = .ok (.ior, 1) := by decide +kernel
theorem dX8_livingParents_54 : decode cX8_livingParents 54 = .ok (.istore_n 2, 1) := by decide +kernel
theorem dX8_livingParents_55 : decode cX8_livingParents 55 = .ok (.iinc 3 1, 3) := by decide +kernel
theorem dX8_livingParents_58 : decode cX8_livingParents 58 = .ok (.goto (-54), 3) := by decide +kernel
theorem dX8_livingParents_61 : decode cX8_livingParents 61 = .ok (.iload_n 2, 1) := by decide +kernel
theorem dX8_livingParents_62 : decode cX8_livingParents 62 = .ok (.ireturn, 1) := by decide +kernel
theorem dX8_countingWill_0 : decode cX8_countingWill 0 = .ok (.aconst_null, 1) := by decide +kernel
theorem dX8_countingWill_1 : decode cX8_countingWill 1 = .ok (.astore_n 2, 1) := by decide +kernel
theorem dX8_countingWill_2 : decode cX8_countingWill 2 = .ok (.iconst 0, 1) := by decide +kernel
theorem dX8_countingWill_3 : decode cX8_countingWill 3 = .ok (.istore_n 3, 1) := by decide +kernel
theorem dX8_countingWill_4 : decode cX8_countingWill 4 = .ok (.iload_n 3, 1) := by decide +kernel
theorem dX8_countingWill_5 : decode cX8_countingWill 5 = .ok (.aload_n 0, 1) := by decide +kernel
theorem dX8_countingWill_6 : decode cX8_countingWill 6 = .ok (.getfield 19, 3) := by decide +kernel
theorem dX8_countingWill_9 : decode cX8_countingWill 9 = .ok (.invokevirtual 50, 3) := by decide +kernel
theorem dX8_countingWill_12 : decode cX8_countingWill 12 = .ok (.if_icmp .ge 47, 3) := by decide +kernel
theorem dX8_countingWill_15 : decode cX8_countingWill 15 = .ok (.aload_n 0, 1) := by decide +kernel
theorem dX8_countingWill_16 : decode cX8_countingWill 16 = .ok (.getfield 19, 3) := by decide +kernel
theorem dX8_countingWill_19 : decode cX8_countingWill 19 = .ok (.iload_n 3, 1) := by decide +kernel
theorem dX8_countingWill_20 : decode cX8_countingWill 20 = .ok (.invokevirtual 355, 3) := by decide +kernel
theorem dX8_countingWill_23 : decode cX8_countingWill 23 = .ok (.checkcast 137, 3) := by decide +kernel
theorem dX8_countingWill_26 : decode cX8_countingWill 26 = .ok (.astore 4, 2) := by decide +kernel
theorem dX8_countingWill_28 : decode cX8_countingWill 28 = .ok (.aload 4, 2) := by decide +kernel
theorem dX8_countingWill_30 : decode cX8_countingWill 30 = .ok (.aload_n 1, 1) := by decide +kernel
theorem dX8_countingWill_31 : decode cX8_countingWill 31 = .ok (.invokestatic 482, 3) := by decide +kernel
theorem dX8_countingWill_34 : decode cX8_countingWill 34 = .ok (.ifCond .eq 19, 3) := by decide +kernel
theorem dX8_countingWill_37 : decode cX8_countingWill 37 = .ok (.aload_n 2, 1) := by decide +kernel
theorem dX8_countingWill_38 : decode cX8_countingWill 38 = .ok (.ifnull 12, 3) := by decide +kernel
theorem dX8_countingWill_41 : decode cX8_countingWill 41 = .ok (.aload 4, 2) := by decide +kernel
theorem dX8_countingWill_43 : decode cX8_countingWill 43 = .ok (.aload_n 2, 1) := by decide +kernel
theorem dX8_countingWill_44 : decode cX8_countingWill 44 = .ok (.invokestatic 485, 3) := by decide +kernel
theorem dX8_countingWill_47 : decode cX8_countingWill 47 = .ok (.ifCond .eq 6, 3) := by decide +kernel
theorem dX8_countingWill_50 : decode cX8_countingWill 50 = .ok (.aload 4, 2) := by decide +kernel
theorem dX8_countingWill_52 : decode cX8_countingWill 52 = .ok (.astore_n 2, 1) := by decide +kernel
theorem dX8_countingWill_53 : decode cX8_countingWill 53 = .ok (.iinc 3 1, 3) := by decide +kernel
theorem dX8_countingWill_56 : decode cX8_countingWill 56 = .ok (.goto (-52), 3) := by decide +kernel
theorem dX8_countingWill_59 : decode cX8_countingWill 59 = .ok (.aload_n 2, 1) := by decide +kernel
theorem dX8_countingWill_60 : decode cX8_countingWill 60 = .ok (.areturn, 1) := by decide +kernel
theorem dX8_isStandingWillOf_0 : decode cX8_isStandingWillOf 0 = .ok (.aload_n 0, 1) := by decide +kernel
theorem dX8_isStandingWillOf_1 : decode cX8_isStandingWillOf 1 = .ok (.getfield 236, 3) := by decide +kernel
theorem dX8_isStandingWillOf_4 : decode cX8_isStandingWillOf 4 = .ok (.iconst 4, 1) := by decide +kernel
theorem dX8_isStandingWillOf_5 : decode cX8_isStandingWillOf 5 = .ok (.if_icmp .ne 41, 3) := by decide +kernel
theorem dX8_isStandingWillOf_8 : decode cX8_isStandingWillOf 8 = .ok (.aload_n 0, 1) := by decide +kernel
theorem dX8_isStandingWillOf_9 : decode cX8_isStandingWillOf 9 = .ok (.getfield 206, 3) := by decide +kernel
theorem dX8_isStandingWillOf_12 : decode cX8_isStandingWillOf 12 = .ok (.aload_n 1, 1) := by decide +kernel
theorem dX8_isStandingWillOf_13 : decode cX8_isStandingWillOf 13 = .ok (.if_acmp .ne 33, 3) := by decide +kernel
theorem dX8_isStandingWillOf_16 : decode cX8_isStandingWillOf 16 = .ok (.aload_n 0, 1) := by decide +kernel
theorem dX8_isStandingWillOf_17 : decode cX8_isStandingWillOf 17 = .ok (.getfield 209, 3) := by decide +kernel
theorem dX8_isStandingWillOf_20 : decode cX8_isStandingWillOf 20 = .ok (.getfield 96, 3) := by decide +kernel
theorem dX8_isStandingWillOf_23 : decode cX8_isStandingWillOf 23 = .ok (.ifCond .eq 23, 3) := by decide +kernel
theorem dX8_isStandingWillOf_26 : decode cX8_isStandingWillOf 26 = .ok (.aload_n 0, 1) := by decide +kernel
theorem dX8_isStandingWillOf_27 : decode cX8_isStandingWillOf 27 = .ok (.getfield 221, 3) := by decide +kernel
theorem dX8_isStandingWillOf_30 : decode cX8_isStandingWillOf 30 = .ok (.iconst 1, 1) := by decide +kernel
theorem dX8_isStandingWillOf_31 : decode cX8_isStandingWillOf 31 = .ok (.if_icmp .eq 11, 3) := by decide +kernel
theorem dX8_isStandingWillOf_34 : decode cX8_isStandingWillOf 34 = .ok (.aload_n 0, 1) := by decide +kernel
theorem dX8_isStandingWillOf_35 : decode cX8_isStandingWillOf 35 = .ok (.getfield 221, 3) := by decide +kernel
theorem dX8_isStandingWillOf_38 : decode cX8_isStandingWillOf 38 = .ok (.iconst 2, 1) := by decide +kernel
theorem dX8_isStandingWillOf_39 : decode cX8_isStandingWillOf 39 = .ok (.if_icmp .ne 7, 3) := by decide +kernel
theorem dX8_isStandingWillOf_42 : decode cX8_isStandingWillOf 42 = .ok (.iconst 1, 1) := by decide +kernel
theorem dX8_isStandingWillOf_43 : decode cX8_isStandingWillOf 43 = .ok (.goto 4, 3) := by decide +kernel
theorem dX8_isStandingWillOf_46 : decode cX8_isStandingWillOf 46 = .ok (.iconst 0, 1) := by decide +kernel
theorem dX8_isStandingWillOf_47 : decode cX8_isStandingWillOf 47 = .ok (.ireturn, 1) := by decide +kernel
theorem dX8_goesBefore_0 : decode cX8_goesBefore 0 = .ok (.aload_n 0, 1) := by decide +kernel
theorem dX8_goesBefore_1 : decode cX8_goesBefore 1 = .ok (.getfield 221, 3) := by decide +kernel
theorem dX8_goesBefore_4 : decode cX8_goesBefore 4 = .ok (.aload_n 1, 1) := by decide +kernel
theorem dX8_goesBefore_5 : decode cX8_goesBefore 5 = .ok (.getfield 221, 3) := by decide +kernel
theorem dX8_goesBefore_8 : decode cX8_goesBefore 8 = .ok (.if_icmp .eq 17, 3) := by decide +kernel
theorem dX8_goesBefore_11 : decode cX8_goesBefore 11 = .ok (.aload_n 0, 1) := by decide +kernel
theorem dX8_goesBefore_12 : decode cX8_goesBefore 12 = .ok (.getfield 221, 3) := by decide +kernel
theorem dX8_goesBefore_15 : decode cX8_goesBefore 15 = .ok (.iconst 1, 1) := by decide +kernel
theorem dX8_goesBefore_16 : decode cX8_goesBefore 16 = .ok (.if_icmp .ne 7, 3) := by decide +kernel
theorem dX8_goesBefore_19 : decode cX8_goesBefore 19 = .ok (.iconst 1, 1) := by decide +kernel
theorem dX8_goesBefore_20 : decode cX8_goesBefore 20 = .ok (.goto 4, 3) := by decide +kernel
theorem dX8_goesBefore_23 : decode cX8_goesBefore 23 = .ok (.iconst 0, 1) := by decide +kernel
theorem dX8_goesBefore_24 : decode cX8_goesBefore 24 = .ok (.ireturn, 1) := by decide +kernel
theorem dX8_goesBefore_25 : decode cX8_goesBefore 25 = .ok (.aload_n 0, 1) := by decide +kernel
theorem dX8_goesBefore_26 : decode cX8_goesBefore 26 = .ok (.getfield 212, 3) := by decide +kernel
theorem dX8_goesBefore_29 : decode cX8_goesBefore 29 = .ok (.aload_n 1, 1) := by decide +kernel
theorem dX8_goesBefore_30 : decode cX8_goesBefore 30 = .ok (.getfield 212, 3) := by decide +kernel
theorem dX8_goesBefore_33 : decode cX8_goesBefore 33 = .ok (.if_icmp .le 7, 3) := by decide +kernel
theorem dX8_goesBefore_36 : decode cX8_goesBefore 36 = .ok (.iconst 1, 1) := by decide +kernel
theorem dX8_goesBefore_37 : decode cX8_goesBefore 37 = .ok (.goto 4, 3) := by decide +kernel
theorem dX8_goesBefore_40 : decode cX8_goesBefore 40 = .ok (.iconst 0, 1) := by decide +kernel
theorem dX8_goesBefore_41 : decode cX8_goesBefore 41 = .ok (.ireturn, 1) := by decide +kernel
