theorem dX8_holderAt_12 : decode cX8_holderAt 12 = .ok (.invokevirtual 71, 3) := by decide +kernel
theorem dX8_holderAt_15 : decode cX8_holderAt 15 = .ok (.getfield 68, 3) := by decide +kernel
theorem dX8_holderAt_18 : decode cX8_holderAt 18 = .ok (.ireturn, 1) := by decide +kernel
theorem dX8_refuseDead_0 : decode cX8_refuseDead 0 = .ok (.aload_n 0, 1) := by decide +kernel
theorem dX8_refuseDead_1 : decode cX8_refuseDead 1 = .ok (.getfield 96, 3) := by decide +kernel
theorem dX8_refuseDead_4 : decode cX8_refuseDead 4 = .ok (.ifCond .eq 10, 3) := by decide +kernel
theorem dX8_refuseDead_7 : decode cX8_refuseDead 7 = .ok (.aload_n 1, 1) := by decide +kernel
theorem dX8_refuseDead_8 : decode cX8_refuseDead 8 = .ok (.getfield 96, 3) := by decide +kernel
theorem dX8_refuseDead_11 : decode cX8_refuseDead 11 = .ok (.ifCond .ne 13, 3) := by decide +kernel
theorem dX8_refuseDead_14 : decode cX8_refuseDead 14 = .ok (.new 54, 3) := by decide +kernel
theorem dX8_refuseDead_17 : decode cX8_refuseDead 17 = .ok (.dup, 1) := by decide +kernel
theorem dX8_refuseDead_18 : decode cX8_refuseDead 18 = .ok (.ldc 100, 2) := by decide +kernel
theorem dX8_refuseDead_20 : decode cX8_refuseDead 20 = .ok (.invokespecial 58, 3) := by decide +kernel
theorem dX8_refuseDead_23 : decode cX8_refuseDead 23 = .ok (.athrow, 1) := by decide +kernel
theorem dX8_refuseDead_24 : decode cX8_refuseDead 24 = .ok (.return_, 1) := by decide +kernel
theorem dX8_refuseNewDeed_0 : decode cX8_refuseNewDeed 0 = .ok (.aload_n 0, 1) := by decide +kernel
theorem dX8_refuseNewDeed_1 : decode cX8_refuseNewDeed 1 = .ok (.getfield 19, 3) := by decide +kernel
theorem dX8_refuseNewDeed_4 : decode cX8_refuseNewDeed 4 = .ok (.invokevirtual 50, 3) := by decide +kernel
theorem dX8_refuseNewDeed_7 : decode cX8_refuseNewDeed 7 = .ok (.bipush 60, 2) := by decide +kernel
theorem dX8_refuseNewDeed_9 : decode cX8_refuseNewDeed 9 = .ok (.if_icmp .lt 14, 3) := by decide +kernel
theorem dX8_refuseNewDeed_12 : decode cX8_refuseNewDeed 12 = .ok (.new 54, 3) := by decide +kernel
theorem dX8_refuseNewDeed_15 : decode cX8_refuseNewDeed 15 = .ok (.dup, 1) := by decide +kernel
theorem dX8_refuseNewDeed_16 : decode cX8_refuseNewDeed 16 = .ok (.ldc_w 406, 3) := by decide +kernel
theorem dX8_refuseNewDeed_19 : decode cX8_refuseNewDeed 19 = .ok (.invokespecial 58, 3) := by decide +kernel
theorem dX8_refuseNewDeed_22 : decode cX8_refuseNewDeed 22 = .ok (.athrow, 1) := by decide +kernel
theorem dX8_refuseNewDeed_23 : decode cX8_refuseNewDeed 23 = .ok (.aload_n 1, 1) := by decide +kernel
theorem dX8_refuseNewDeed_24 : decode cX8_refuseNewDeed 24 = .ok (.aload_n 2, 1) := by decide +kernel
theorem dX8_refuseNewDeed_25 : decode cX8_refuseNewDeed 25 = .ok (.invokestatic 86, 3) := by decide +kernel
theorem dX8_refuseNewDeed_28 : decode cX8_refuseNewDeed 28 = .ok (.return_, 1) := by decide +kernel
theorem dX8_refuseClosedOrHaving_0 : decode cX8_refuseClosedOrHaving 0 = .ok (.aload_n 0, 1) := by decide +kernel
theorem dX8_refuseClosedOrHaving_1 : decode cX8_refuseClosedOrHaving 1 = .ok (.invokevirtual 186, 3) := by decide +kernel
theorem dX8_refuseClosedOrHaving_4 : decode cX8_refuseClosedOrHaving 4 = .ok (.ifCond .ne 11, 3) := by decide +kernel
theorem dX8_refuseClosedOrHaving_7 : decode cX8_refuseClosedOrHaving 7 = .ok (.aload_n 0, 1) := by decide +kernel
theorem dX8_refuseClosedOrHaving_8 : decode cX8_refuseClosedOrHaving 8 = .ok (.iload_n 1, 1) := by decide +kernel
theorem dX8_refuseClosedOrHaving_9 : decode cX8_refuseClosedOrHaving 9 = .ok (.invokevirtual 408, 3) := by decide +kernel
theorem dX8_refuseClosedOrHaving_12 : decode cX8_refuseClosedOrHaving 12 = .ok (.ifCond .eq 14, 3) := by decide +kernel
theorem dX8_refuseClosedOrHaving_15 : decode cX8_refuseClosedOrHaving 15 = .ok (.new 54, 3) := by decide +kernel
theorem dX8_refuseClosedOrHaving_18 : decode cX8_refuseClosedOrHaving 18 = .ok (.dup, 1) := by decide +kernel
theorem dX8_refuseClosedOrHaving_19 : decode cX8_refuseClosedOrHaving 19 = .ok (.ldc_w 411, 3) := by decide +kernel
theorem dX8_refuseClosedOrHaving_22 : decode cX8_refuseClosedOrHaving 22 = .ok (.invokespecial 58, 3) := by decide +kernel
theorem dX8_refuseClosedOrHaving_25 : decode cX8_refuseClosedOrHaving 25 = .ok (.athrow, 1) := by decide +kernel
theorem dX8_refuseClosedOrHaving_26 : decode cX8_refuseClosedOrHaving 26 = .ok (.return_, 1) := by decide +kernel
theorem dX8_isOfThing_0 : decode cX8_isOfThing 0 = .ok (.iload_n 0, 1) := by decide +kernel
theorem dX8_isOfThing_1 : decode cX8_isOfThing 1 = .ok (.ifCond .eq 13, 3) := by decide +kernel
theorem dX8_isOfThing_4 : decode cX8_isOfThing 4 = .ok (.iload_n 0, 1) := by decide +kernel
theorem dX8_isOfThing_5 : decode cX8_isOfThing 5 = .ok (.iconst 1, 1) := by decide +kernel
theorem dX8_isOfThing_6 : decode cX8_isOfThing 6 = .ok (.if_icmp .eq 8, 3) := by decide +kernel
theorem dX8_isOfThing_9 : decode cX8_isOfThing 9 = .ok (.iload_n 0, 1) := by decide +kernel
theorem dX8_isOfThing_10 : decode cX8_isOfThing 10 = .ok (.iconst 2, 1) := by decide +kernel
theorem dX8_isOfThing_11 : decode cX8_isOfThing 11 = .ok (.if_icmp .ne 7, 3) := by decide +kernel
theorem dX8_isOfThing_14 : decode cX8_isOfThing 14 = .ok (.iconst 1, 1) := by decide +kernel
theorem dX8_isOfThing_15 : decode cX8_isOfThing 15 = .ok (.goto 4, 3) := by decide +kernel
theorem dX8_isOfThing_18 : decode cX8_isOfThing 18 = .ok (.iconst 0, 1) := by decide +kernel
theorem dX8_isOfThing_19 : decode cX8_isOfThing 19 = .ok (.ireturn, 1) := by decide +kernel
theorem dX8_isPart_0 : decode cX8_isPart 0 = .ok (.iload_n 0, 1) := by decide +kernel
theorem dX8_isPart_1 : decode cX8_isPart 1 = .ok (.iconst 1, 1) := by decide +kernel
theorem dX8_isPart_2 : decode cX8_isPart 2 = .ok (.if_icmp .lt 18, 3) := by decide +kernel
theorem dX8_isPart_5 : decode cX8_isPart 5 = .ok (.iload_n 0, 1) := by decide +kernel
theorem dX8_isPart_6 : decode cX8_isPart 6 = .ok (.iload_n 1, 1) := by decide +kernel
theorem dX8_isPart_7 : decode cX8_isPart 7 = .ok (.if_icmp .gt 13, 3) := by decide +kernel
theorem dX8_isPart_10 : decode cX8_isPart 10 = .ok (.iload_n 1, 1) := by decide +kernel
theorem dX8_isPart_11 : decode cX8_isPart 11 = .ok (.bipush 100, 2) := by decide +kernel
theorem dX8_isPart_13 : decode cX8_isPart 13 = .ok (.if_icmp .gt 7, 3) := by decide +kernel
theorem dX8_isPart_16 : decode cX8_isPart 16 = .ok (.iconst 1, 1) := by decide +kernel
theorem dX8_isPart_17 : decode cX8_isPart 17 = .ok (.goto 4, 3) := by decide +kernel
theorem dX8_isPart_20 : decode cX8_isPart 20 = .ok (.iconst 0, 1) := by decide +kernel
theorem dX8_isPart_21 : decode cX8_isPart 21 = .ok (.ireturn, 1) := by decide +kernel
theorem dX8_keepDeed_0 : decode cX8_keepDeed 0 = .ok (.aload_n 0, 1) := by decide +kernel
theorem dX8_keepDeed_1 : decode cX8_keepDeed 1 = .ok (.getfield 19, 3) := by decide +kernel
theorem dX8_keepDeed_4 : decode cX8_keepDeed 4 = .ok (.aload_n 1, 1) := by decide +kernel
theorem dX8_keepDeed_5 : decode cX8_keepDeed 5 = .ok (.invokevirtual 64, 3) := by decide +kernel
theorem dX8_keepDeed_8 : decode cX8_keepDeed 8 = .ok (.pop, 1) := by decide +kernel
theorem dX8_keepDeed_9 : decode cX8_keepDeed 9 = .ok (.aload_n 1, 1) := by decide +kernel
theorem dX8_keepDeed_10 : decode cX8_keepDeed 10 = .ok (.getfield 332, 3) := by decide +kernel
theorem dX8_keepDeed_13 : decode cX8_keepDeed 13 = .ok (.ireturn, 1) := by decide +kernel
theorem dX8_signsWithoutPower_0 : decode cX8_signsWithoutPower 0 = .ok (.aload_n 1, 1) := by decide +kernel
theorem dX8_signsWithoutPower_1 : decode cX8_signsWithoutPower 1 = .ok (.getfield 236, 3) := by decide +kernel
theorem dX8_signsWithoutPower_4 : decode cX8_signsWithoutPower 4 = .ok (.iconst 4, 1) := by decide +kernel
theorem dX8_signsWithoutPower_5 : decode cX8_signsWithoutPower 5 = .ok (.if_icmp .ne 7, 3) := by decide +kernel
theorem dX8_signsWithoutPower_8 : decode cX8_signsWithoutPower 8 = .ok (.iload_n 3, 1) := by decide +kernel
theorem dX8_signsWithoutPower_9 : decode cX8_signsWithoutPower 9 = .ok (.ifCond .eq 14, 3) := by decide +kernel
theorem dX8_signsWithoutPower_12 : decode cX8_signsWithoutPower 12 = .ok (.aload_n 2, 1) := by decide +kernel
theorem dX8_signsWithoutPower_13 : decode cX8_signsWithoutPower 13 = .ok (.aload_n 0, 1) := by decide +kernel
theorem dX8_signsWithoutPower_14 : decode cX8_signsWithoutPower 14 = .ok (.getfield 32, 3) := by decide +kernel
theorem dX8_signsWithoutPower_17 : decode cX8_signsWithoutPower 17 = .ok (.invokevirtual 117, 3) := by decide +kernel
theorem dX8_signsWithoutPower_20 : decode cX8_signsWithoutPower 20 = .ok (.ifCond .ne 5, 3) := by decide +kernel
theorem dX8_signsWithoutPower_23 : decode cX8_signsWithoutPower 23 = .ok (.iconst 0, 1) := by decide +kernel
theorem dX8_signsWithoutPower_24 : decode cX8_signsWithoutPower 24 = .ok (.ireturn, 1) := by decide +kernel
theorem dX8_signsWithoutPower_25 : decode cX8_signsWithoutPower 25 = .ok (.aload_n 1, 1) := by decide +kernel
theorem dX8_signsWithoutPower_26 : decode cX8_signsWithoutPower 26 = .ok (.iload_n 3, 1) := by decide +kernel
theorem dX8_signsWithoutPower_27 : decode cX8_signsWithoutPower 27 = .ok (.invokevirtual 413, 3) := by decide +kernel
theorem dX8_signsWithoutPower_30 : decode cX8_signsWithoutPower 30 = .ok (.astore 4, 2) := by decide +kernel
theorem dX8_signsWithoutPower_32 : decode cX8_signsWithoutPower 32 = .ok (.aload_n 2, 1) := by decide +kernel
theorem dX8_signsWithoutPower_33 : decode cX8_signsWithoutPower 33 = .ok (.aload 4, 2) := by decide +kernel
theorem dX8_signsWithoutPower_35 : decode cX8_signsWithoutPower 35 = .ok (.if_acmp .eq 13, 3) := by decide +kernel
theorem dX8_signsWithoutPower_38 : decode cX8_signsWithoutPower 38 = .ok (.aload_n 0, 1) := by decide +kernel
theorem dX8_signsWithoutPower_39 : decode cX8_signsWithoutPower 39 = .ok (.aload_n 1, 1) := by decide +kernel
theorem dX8_signsWithoutPower_40 : decode cX8_signsWithoutPower 40 = .ok (.aload_n 2, 1) := by decide +kernel
theorem dX8_signsWithoutPower_41 : decode cX8_signsWithoutPower 41 = .ok (.iload_n 3, 1) := by decide +kernel
theorem dX8_signsWithoutPower_42 : decode cX8_signsWithoutPower 42 = .ok (.invokevirtual 417, 3) := by decide +kernel
theorem dX8_signsWithoutPower_45 : decode cX8_signsWithoutPower 45 = .ok (.ifCond .eq 7, 3) := by decide +kernel
theorem dX8_signsWithoutPower_48 : decode cX8_signsWithoutPower 48 = .ok (.iconst 1, 1) := by decide +kernel
theorem dX8_signsWithoutPower_49 : decode cX8_signsWithoutPower 49 = .ok (.goto 4, 3) := by decide +kernel
theorem dX8_signsWithoutPower_52 : decode cX8_signsWithoutPower 52 = .ok (.iconst 0, 1) := by decide +kernel
theorem dX8_signsWithoutPower_53 : decode cX8_signsWithoutPower 53 = .ok (.ireturn, 1) := by decide +kernel
theorem dX8_signsAsGuardian_0 : decode cX8_signsAsGuardian 0 = .ok (.aload_n 1, 1) := by decide +kernel
theorem dX8_signsAsGuardian_1 : decode cX8_signsAsGuardian 1 = .ok (.iload_n 3, 1) := by decide +kernel
theorem dX8_signsAsGuardian_2 : decode cX8_signsAsGuardian 2 = .ok (.invokevirtual 413, 3) := by decide +kernel
theorem dX8_signsAsGuardian_5 : decode cX8_signsAsGuardian 5 = .ok (.astore 4, 2) := by decide +kernel
theorem dX8_signsAsGuardian_7 : decode cX8_signsAsGuardian 7 = .ok (.aload_n 1, 1) := by decide +kernel
theorem dX8_signsAsGuardian_8 : decode cX8_signsAsGuardian 8 = .ok (.getfield 236, 3) := by decide +kernel
theorem dX8_signsAsGuardian_11 : decode cX8_signsAsGuardian 11 = .ok (.iconst 4, 1) := by decide +kernel
theorem dX8_signsAsGuardian_12 : decode cX8_signsAsGuardian 12 = .ok (.if_icmp .eq 41, 3) := by decide +kernel
theorem dX8_signsAsGuardian_15 : decode cX8_signsAsGuardian 15 = .ok (.aload 4, 2) := by decide +kernel
theorem dX8_signsAsGuardian_17 : decode cX8_signsAsGuardian 17 = .ok (.getfield 96, 3) := by decide +kernel
theorem dX8_signsAsGuardian_20 : decode cX8_signsAsGuardian 20 = .ok (.ifCond .eq 33, 3) := by decide +kernel
theorem dX8_signsAsGuardian_23 : decode cX8_signsAsGuardian 23 = .ok (.aload 4, 2) := by decide +kernel
theorem dX8_signsAsGuardian_25 : decode cX8_signsAsGuardian 25 = .ok (.getfield 102, 3) := by decide +kernel
theorem dX8_signsAsGuardian_28 : decode cX8_signsAsGuardian 28 = .ok (.aload_n 2, 1) := by decide +kernel
theorem dX8_signsAsGuardian_29 : decode cX8_signsAsGuardian 29 = .ok (.if_acmp .ne 24, 3) := by decide +kernel
theorem dX8_signsAsGuardian_32 : decode cX8_signsAsGuardian 32 = .ok (.aload_n 2, 1) := by decide +kernel
theorem dX8_signsAsGuardian_33 : decode cX8_signsAsGuardian 33 = .ok (.aload_n 1, 1) := by decide +kernel
theorem dX8_signsAsGuardian_34 : decode cX8_signsAsGuardian 34 = .ok (.iload_n 3, 1) := by decide +kernel
theorem dX8_signsAsGuardian_35 : decode cX8_signsAsGuardian 35 = .ok (.ifCond .ne 7, 3) := by decide +kernel
theorem dX8_signsAsGuardian_38 : decode cX8_signsAsGuardian 38 = .ok (.iconst 1, 1) := by decide +kernel
theorem dX8_signsAsGuardian_39 : decode cX8_signsAsGuardian 39 = .ok (.goto 4, 3) := by decide +kernel
theorem dX8_signsAsGuardian_42 : decode cX8_signsAsGuardian 42 = .ok (.iconst 0, 1) := by decide +kernel
theorem dX8_signsAsGuardian_43 : decode cX8_signsAsGuardian 43 = .ok (.invokevirtual 413, 3) := by decide +kernel
theorem dX8_signsAsGuardian_46 : decode cX8_signsAsGuardian 46 = .ok (.if_acmp .eq 7, 3) := by decide +kernel
theorem dX8_signsAsGuardian_49 : decode cX8_signsAsGuardian 49 = .ok (.iconst 1, 1) := by decide +kernel
theorem dX8_signsAsGuardian_50 : decode cX8_signsAsGuardian 50 = .ok (.goto 4, 3) := by decide +kernel
theorem dX8_signsAsGuardian_53 : decode cX8_signsAsGuardian 53 = .ok (.iconst 0, 1) := by decide +kernel
theorem dX8_signsAsGuardian_54 : decode cX8_signsAsGuardian 54 = .ok (.ireturn, 1) := by decide +kernel
theorem dX8_signsByPower_0 : decode cX8_signsByPower 0 = .ok (.aload 4, 2) := by decide +kernel
theorem dX8_signsByPower_2 : decode cX8_signsByPower 2 = .ok (.ifnull 28, 3) := by decide +kernel
theorem dX8_signsByPower_5 : decode cX8_signsByPower 5 = .ok (.aload_n 1, 1) := by decide +kernel
theorem dX8_signsByPower_6 : decode cX8_signsByPower 6 = .ok (.getfield 236, 3) := by decide +kernel
theorem dX8_signsByPower_9 : decode cX8_signsByPower 9 = .ok (.iconst 4, 1) := by decide +kernel
theorem dX8_signsByPower_10 : decode cX8_signsByPower 10 = .ok (.if_icmp .eq 20, 3) := by decide +kernel
theorem dX8_signsByPower_13 : decode cX8_signsByPower 13 = .ok (.aload_n 2, 1) := by decide +kernel
theorem dX8_signsByPower_14 : decode cX8_signsByPower 14 = .ok (.aload_n 1, 1) := by decide +kernel
theorem dX8_signsByPower_15 : decode cX8_signsByPower 15 = .ok (.iload_n 3, 1) := by decide +kernel
theorem dX8_signsByPower_16 : decode cX8_signsByPower 16 = .ok (.ifCond .ne 7, 3) := by decide +kernel
theorem dX8_signsByPower_19 : decode cX8_signsByPower 19 = .ok (.iconst 1, 1) := by decide +kernel
theorem dX8_signsByPower_20 : decode cX8_signsByPower 20 = .ok (.goto 4, 3) := by decide +kernel
theorem dX8_signsByPower_23 : decode cX8_signsByPower 23 = .ok (.iconst 0, 1) := by decide +kernel
theorem dX8_signsByPower_24 : decode cX8_signsByPower 24 = .ok (.invokevirtual 413, 3) := by decide +kernel
theorem dX8_signsByPower_27 : decode cX8_signsByPower 27 = .ok (.if_acmp .ne 5, 3) := by decide +kernel
theorem dX8_signsByPower_30 : decode cX8_signsByPower 30 = .ok (.iconst 0, 1) := by decide +kernel
theorem dX8_signsByPower_31 : decode cX8_signsByPower 31 = .ok (.ireturn, 1) := by decide +kernel
theorem dX8_signsByPower_32 : decode cX8_signsByPower 32 = .ok (.aload_n 2, 1) := by decide +kernel
theorem dX8_signsByPower_33 : decode cX8_signsByPower 33 = .ok (.aload_n 0, 1) := by decide +kernel
theorem dX8_signsByPower_34 : decode cX8_signsByPower 34 = .ok (.getfield 32, 3) := by decide +kernel
theorem dX8_signsByPower_37 : decode cX8_signsByPower 37 = .ok (.invokevirtual 117, 3) := by decide +kernel
theorem dX8_signsByPower_40 : decode cX8_signsByPower 40 = .ok (.ifCond .eq 58, 3) := by decide +kernel
theorem dX8_signsByPower_43 : decode cX8_signsByPower 43 = .ok (.aload 4, 2) := by decide +kernel
theorem dX8_signsByPower_45 : decode cX8_signsByPower 45 = .ok (.getfield 206, 3) := by decide +kernel
theorem dX8_signsByPower_48 : decode cX8_signsByPower 48 = .ok (.aload_n 1, 1) := by decide +kernel
theorem dX8_signsByPower_49 : decode cX8_signsByPower 49 = .ok (.iload_n 3, 1) := by decide +kernel
theorem dX8_signsByPower_50 : decode cX8_signsByPower 50 = .ok (.invokevirtual 413, 3) := by decide +kernel
theorem dX8_signsByPower_53 : decode cX8_signsByPower 53 = .ok (.if_acmp .ne 45, 3) := by decide +kernel
theorem dX8_signsByPower_56 : decode cX8_signsByPower 56 = .ok (.aload 4, 2) := by decide +kernel
theorem dX8_signsByPower_58 : decode cX8_signsByPower 58 = .ok (.getfield 209, 3) := by decide +kernel
theorem dX8_signsByPower_61 : decode cX8_signsByPower 61 = .ok (.aload_n 2, 1) := by decide +kernel
theorem dX8_signsByPower_62 : decode cX8_signsByPower 62 = .ok (.if_acmp .ne 36, 3) := by decide +kernel
theorem dX8_signsByPower_65 : decode cX8_signsByPower 65 = .ok (.aload 4, 2) := by decide +kernel
theorem dX8_signsByPower_67 : decode cX8_signsByPower 67 = .ok (.getfield 294, 3) := by decide +kernel
theorem dX8_signsByPower_70 : decode cX8_signsByPower 70 = .ok (.ifnull 15, 3) := by decide +kernel
theorem dX8_signsByPower_73 : decode cX8_signsByPower 73 = .ok (.aload 4, 2) := by decide +kernel
theorem dX8_signsByPower_75 : decode cX8_signsByPower 75 = .ok (.getfield 294, 3) := by decide +kernel
theorem dX8_signsByPower_78 : decode cX8_signsByPower 78 = .ok (.aload_n 1, 1) := by decide +kernel
theorem dX8_signsByPower_79 : decode cX8_signsByPower 79 = .ok (.getfield 294, 3) := by decide +kernel
theorem dX8_signsByPower_82 : decode cX8_signsByPower 82 = .ok (.if_acmp .ne 16, 3) := by decide +kernel
theorem dX8_signsByPower_85 : decode cX8_signsByPower 85 = .ok (.aload_n 0, 1) := by decide +kernel
theorem dX8_signsByPower_86 : decode cX8_signsByPower 86 = .ok (.aload 4, 2) := by decide +kernel
theorem dX8_signsByPower_88 : decode cX8_signsByPower 88 = .ok (.invokevirtual 277, 3) := by decide +kernel
theorem dX8_signsByPower_91 : decode cX8_signsByPower 91 = .ok (.ifCond .eq 7, 3) := by decide +kernel
theorem dX8_signsByPower_94 : decode cX8_signsByPower 94 = .ok (.iconst 1, 1) := by decide +kernel
theorem dX8_signsByPower_95 : decode cX8_signsByPower 95 = .ok (.goto 4, 3) := by decide +kernel
theorem dX8_signsByPower_98 : decode cX8_signsByPower 98 = .ok (.iconst 0, 1) := by decide +kernel
theorem dX8_signsByPower_99 : decode cX8_signsByPower 99 = .ok (.ireturn, 1) := by decide +kernel
theorem dX8_canWitness_0 : decode cX8_canWitness 0 = .ok (.aload_n 2, 1) := by decide +kernel
theorem dX8_canWitness_1 : decode cX8_canWitness 1 = .ok (.aload_n 0, 1) := by decide +kernel
theorem dX8_canWitness_2 : decode cX8_canWitness 2 = .ok (.getfield 32, 3) := by decide +kernel
theorem dX8_canWitness_5 : decode cX8_canWitness 5 = .ok (.invokevirtual 117, 3) := by decide +kernel
theorem dX8_canWitness_8 : decode cX8_canWitness 8 = .ok (.ifCond .eq 45, 3) := by decide +kernel
theorem dX8_canWitness_11 : decode cX8_canWitness 11 = .ok (.aload_n 2, 1) := by decide +kernel
theorem dX8_canWitness_12 : decode cX8_canWitness 12 = .ok (.aload_n 1, 1) := by decide +kernel
theorem dX8_canWitness_13 : decode cX8_canWitness 13 = .ok (.getfield 206, 3) := by decide +kernel
theorem dX8_canWitness_16 : decode cX8_canWitness 16 = .ok (.if_acmp .eq 37, 3) := by decide +kernel
theorem dX8_canWitness_19 : decode cX8_canWitness 19 = .ok (.aload_n 2, 1) := by decide +kernel
theorem dX8_canWitness_20 : decode cX8_canWitness 20 = .ok (.aload_n 1, 1) := by decide +kernel
theorem dX8_canWitness_21 : decode cX8_canWitness 21 = .ok (.getfield 209, 3) := by decide +kernel
theorem dX8_canWitness_24 : decode cX8_canWitness 24 = .ok (.if_acmp .eq 29, 3) := by decide +kernel
theorem dX8_canWitness_27 : decode cX8_canWitness 27 = .ok (.aload_n 2, 1) := by decide +kernel
theorem dX8_canWitness_28 : decode cX8_canWitness 28 = .ok (.aload_n 1, 1) := by decide +kernel
theorem dX8_canWitness_29 : decode cX8_canWitness 29 = .ok (.getfield 206, 3) := by decide +kernel
theorem dX8_canWitness_32 : decode cX8_canWitness 32 = .ok (.invokestatic 420, 3) := by decide +kernel
theorem dX8_canWitness_35 : decode cX8_canWitness 35 = .ok (.ifCond .ne 18, 3) := by decide +kernel
theorem dX8_canWitness_38 : decode cX8_canWitness 38 = .ok (.aload_n 2, 1) := by decide +kernel
theorem dX8_canWitness_39 : decode cX8_canWitness 39 = .ok (.aload_n 1, 1) := by decide +kernel
theorem dX8_canWitness_40 : decode cX8_canWitness 40 = .ok (.getfield 209, 3) := by decide +kernel
theorem dX8_canWitness_43 : decode cX8_canWitness 43 = .ok (.invokestatic 420, 3) := by decide +kernel
theorem dX8_canWitness_46 : decode cX8_canWitness 46 = .ok (.ifCond .ne 7, 3) := by decide +kernel
theorem dX8_canWitness_49 : decode cX8_canWitness 49 = .ok (.iconst 1, 1) := by decide +kernel
theorem dX8_canWitness_50 : decode cX8_canWitness 50 = .ok (.goto 4, 3) := by decide +kernel
theorem dX8_canWitness_53 : decode cX8_canWitness 53 = .ok (.iconst 0, 1) := by decide +kernel
theorem dX8_canWitness_54 : decode cX8_canWitness 54 = .ok (.ireturn, 1) := by decide +kernel
theorem dX8_areParentAndChild_0 : decode cX8_areParentAndChild 0 = .ok (.aload_n 0, 1) := by decide +kernel
theorem dX8_areParentAndChild_1 : decode cX8_areParentAndChild 1 = .ok (.aload_n 1, 1) := by decide +kernel
theorem dX8_areParentAndChild_2 : decode cX8_areParentAndChild 2 = .ok (.invokevirtual 80, 3) := by decide +kernel
theorem dX8_areParentAndChild_5 : decode cX8_areParentAndChild 5 = .ok (.ifCond .ne 11, 3) := by decide +kernel
theorem dX8_areParentAndChild_8 : decode cX8_areParentAndChild 8 = .ok (.aload_n 1, 1) := by decide +kernel
theorem dX8_areParentAndChild_9 : decode cX8_areParentAndChild 9 = .ok (.aload_n 0, 1) := by decide +kernel
theorem dX8_areParentAndChild_10 : decode cX8_areParentAndChild 10 = .ok (.invokevirtual 80, 3) := by decide +kernel
theorem dX8_areParentAndChild_13 : decode cX8_areParentAndChild 13 = .ok (.ifCond .eq 7, 3) := by decide +kernel
theorem dX8_areParentAndChild_16 : decode cX8_areParentAndChild 16 = .ok (.iconst 1, 1) := by decide +kernel
theorem dX8_areParentAndChild_17 : decode cX8_areParentAndChild 17 = .ok (.goto 4, 3) := by decide +kernel
theorem dX8_areParentAndChild_20 : decode cX8_areParentAndChild 20 = .ok (.iconst 0, 1) := by decide +kernel
theorem dX8_areParentAndChild_21 : decode cX8_areParentAndChild 21 = .ok (.ireturn, 1) := by decide +kernel
theorem dX8_stateByParts_0 : decode cX8_stateByParts 0 = .ok (.aload_n 0, 1) := by decide +kernel
theorem dX8_stateByParts_1 : decode cX8_stateByParts 1 = .ok (.aload_n 0, 1) := by decide +kernel
theorem dX8_stateByParts_2 : decode cX8_stateByParts 2 = .ok (.invokestatic 424, 3) := by decide +kernel
theorem dX8_stateByParts_5 : decode cX8_stateByParts 5 = .ok (.invokevirtual 408, 3) := by decide +kernel
theorem dX8_stateByParts_8 : decode cX8_stateByParts 8 = .ok (.ifCond .eq 5, 3) := by decide +kernel
theorem dX8_stateByParts_11 : decode cX8_stateByParts 11 = .ok (.iconst 1, 1) := by decide +kernel
theorem dX8_stateByParts_12 : decode cX8_stateByParts 12 = .ok (.ireturn, 1) := by decide +kernel
theorem dX8_stateByParts_13 : decode cX8_stateByParts 13 = .ok (.aload_n 0, 1) := by decide +kernel
theorem dX8_stateByParts_14 : decode cX8_stateByParts 14 = .ok (.getfield 236, 3) := by decide +kernel
theorem dX8_stateByParts_17 : decode cX8_stateByParts 17 = .ok (.invokestatic 125, 3) := by decide +kernel
theorem dX8_stateByParts_20 : decode cX8_stateByParts 20 = .ok (.ifCond .eq 7, 3) := by decide +kernel
theorem dX8_stateByParts_23 : decode cX8_stateByParts 23 = .ok (.iconst 3, 1) := by decide +kernel
theorem dX8_stateByParts_24 : decode cX8_stateByParts 24 = .ok (.goto 4, 3) := by decide +kernel
theorem dX8_stateByParts_27 : decode cX8_stateByParts 27 = .ok (.iconst 1, 1) := by decide +kernel
theorem dX8_stateByParts_28 : decode cX8_stateByParts 28 = .ok (.istore_n 1, 1) := by decide +kernel
theorem dX8_stateByParts_29 : decode cX8_stateByParts 29 = .ok (.aload_n 0, 1) := by decide +kernel
theorem dX8_stateByParts_30 : decode cX8_stateByParts 30 = .ok (.iload_n 1, 1) := by decide +kernel
theorem dX8_stateByParts_31 : decode cX8_stateByParts 31 = .ok (.invokevirtual 408, 3) := by decide +kernel
theorem dX8_stateByParts_34 : decode cX8_stateByParts 34 = .ok (.ifCond .eq 7, 3) := by decide +kernel
theorem dX8_stateByParts_37 : decode cX8_stateByParts 37 = .ok (.iconst 2, 1) := by decide +kernel
theorem dX8_stateByParts_38 : decode cX8_stateByParts 38 = .ok (.goto 4, 3) := by decide +kernel
theorem dX8_stateByParts_41 : decode cX8_stateByParts 41 = .ok (.iconst 3, 1) := by decide +kernel
theorem dX8_stateByParts_42 : decode cX8_stateByParts 42 = .ok (.ireturn, 1) := by decide +kernel
theorem dX8_neededParts_0 : decode cX8_neededParts 0 = .ok (.aload_n 0, 1) := by decide +kernel
theorem dX8_neededParts_1 : decode cX8_neededParts 1 = .ok (.getfield 236, 3) := by decide +kernel
theorem dX8_neededParts_4 : decode cX8_neededParts 4 = .ok (.invokestatic 125, 3) := by decide +kernel
theorem dX8_neededParts_7 : decode cX8_neededParts 7 = .ok (.istore_n 1, 1) := by decide +kernel
theorem dX8_neededParts_8 : decode cX8_neededParts 8 = .ok (.iconst 5, 1) := by decide +kernel
theorem dX8_neededParts_9 : decode cX8_neededParts 9 = .ok (.istore_n 2, 1) := by decide +kernel
theorem dX8_neededParts_10 : decode cX8_neededParts 10 = .ok (.iload_n 1, 1) := by decide +kernel
theorem dX8_neededParts_11 : decode cX8_neededParts 11 = .ok (.ifCond .eq 7, 3) := by decide +kernel
theorem dX8_neededParts_14 : decode cX8_neededParts 14 = .ok (.iload_n 2, 1) := by decide +kernel
theorem dX8_neededParts_15 : decode cX8_neededParts 15 = .ok (.iconst 2, 1) := by decide +kernel
theorem dX8_neededParts_16 : decode cX8_neededParts 16 = .ok (.ior, 1) := by decide +kernel
theorem dX8_neededParts_17 : decode cX8_neededParts 17 = .ok (.istore_n 2, 1) := by decide +kernel
theorem dX8_neededParts_18 : decode cX8_neededParts 18 = .ok (.aload_n 0, 1) := by decide +kernel
theorem dX8_neededParts_19 : decode cX8_neededParts 19 = .ok (.getfield 236, 3) := by decide +kernel
theorem dX8_neededParts_22 : decode cX8_neededParts 22 = .ok (.iconst 1, 1) := by decide +kernel
theorem dX8_neededParts_23 : decode cX8_neededParts 23 = .ok (.if_icmp .eq 11, 3) := by decide +kernel
theorem dX8_neededParts_26 : decode cX8_neededParts 26 = .ok (.aload_n 0, 1) := by decide +kernel
theorem dX8_neededParts_27 : decode cX8_neededParts 27 = .ok (.getfield 236, 3) := by decide +kernel
theorem dX8_neededParts_30 : decode cX8_neededParts 30 = .ok (.iconst 4, 1) := by decide +kernel
theorem dX8_neededParts_31 : decode cX8_neededParts 31 = .ok (.if_icmp .ne 8, 3) := by decide +kernel
theorem dX8_neededParts_34 : decode cX8_neededParts 34 = .ok (.iload_n 2, 1) := by decide +kernel
theorem dX8_neededParts_35 : decode cX8_neededParts 35 = .ok (.bipush 8, 2) := by decide +kernel
theorem dX8_neededParts_37 : decode cX8_neededParts 37 = .ok (.ior, 1) := by decide +kernel
theorem dX8_neededParts_38 : decode cX8_neededParts 38 = .ok (.istore_n 2, 1) := by decide +kernel
theorem dX8_neededParts_39 : decode cX8_neededParts 39 = .ok (.aload_n 0, 1) := by decide +kernel
theorem dX8_neededParts_40 : decode cX8_neededParts 40 = .ok (.getfield 206, 3) := by decide +kernel
theorem dX8_neededParts_43 : decode cX8_neededParts 43 = .ok (.getfield 427, 3) := by decide +kernel
theorem dX8_neededParts_46 : decode cX8_neededParts 46 = .ok (.ifCond .ne 17, 3) := by decide +kernel
theorem dX8_neededParts_49 : decode cX8_neededParts 49 = .ok (.iload_n 1, 1) := by decide +kernel
theorem dX8_neededParts_50 : decode cX8_neededParts 50 = .ok (.ifCond .eq 18, 3) := by decide +kernel
theorem dX8_neededParts_53 : decode cX8_neededParts 53 = .ok (.aload_n 0, 1) := by decide +kernel
theorem dX8_neededParts_54 : decode cX8_neededParts 54 = .ok (.getfield 209, 3) := by decide +kernel
theorem dX8_neededParts_57 : decode cX8_neededParts 57 = .ok (.getfield 427, 3) := by decide +kernel
theorem dX8_neededParts_60 : decode cX8_neededParts 60 = .ok (.ifCond .eq 8, 3) := by decide +kernel
theorem dX8_neededParts_63 : decode cX8_neededParts 63 = .ok (.iload_n 2, 1) := by decide +kernel
theorem dX8_neededParts_64 : decode cX8_neededParts 64 = .ok (.bipush 16, 2) := by decide +kernel
theorem dX8_neededParts_66 : decode cX8_neededParts 66 = .ok (.ior, 1) := by decide +kernel
theorem dX8_neededParts_67 : decode cX8_neededParts 67 = .ok (.istore_n 2, 1) := by decide +kernel
theorem dX8_neededParts_68 : decode cX8_neededParts 68 = .ok (.iload_n 2, 1) := by decide +kernel
theorem dX8_neededParts_69 : decode cX8_neededParts 69 = .ok (.ireturn, 1) := by decide +kernel
theorem dX8_kindLetter_0 : decode cX8_kindLetter 0 = .ok (.iload_n 0, 1) := by decide +kernel
theorem dX8_kindLetter_1 : decode cX8_kindLetter 1 = .ok (.tableswitch 43 0 3 #[31, 34, 37, 40], 31) := by decide +kernel
theorem dX8_kindLetter_32 : decode cX8_kindLetter 32 = .ok (.bipush 83, 2) := by decide +kernel
theorem dX8_kindLetter_34 : decode cX8_kindLetter 34 = .ok (.ireturn, 1) := by decide +kernel
theorem dX8_kindLetter_35 : decode cX8_kindLetter 35 = .ok (.bipush 71, 2) := by decide +kernel
theorem dX8_kindLetter_37 : decode cX8_kindLetter 37 = .ok (.ireturn, 1) := by decide +kernel
theorem dX8_kindLetter_38 : decode cX8_kindLetter 38 = .ok (.bipush 80, 2) := by decide +kernel
theorem dX8_kindLetter_40 : decode cX8_kindLetter 40 = .ok (.ireturn, 1) := by decide +kernel
theorem dX8_kindLetter_41 : decode cX8_kindLetter 41 = .ok (.bipush 65, 2) := by decide +kernel
theorem dX8_kindLetter_43 : decode cX8_kindLetter 43 = .ok (.ireturn, 1) := by decide +kernel
theorem dX8_kindLetter_44 : decode cX8_kindLetter 44 = .ok (.bipush 87, 2) := by decide +kernel
theorem dX8_kindLetter_46 : decode cX8_kindLetter 46 = .ok (.ireturn, 1) := by decide +kernel
theorem dX8_stateLetter_0 : decode cX8_stateLetter 0 = .ok (.iload_n 0, 1) := by decide +kernel
theorem dX8_stateLetter_1 : decode cX8_stateLetter 1 = .ok (.lookupswitch 33 #[(1, 27), (2, 30)], 27) := by decide +kernel
theorem dX8_stateLetter_28 : decode cX8_stateLetter 28 = .ok (.bipush 102, 2) := by decide +kernel
theorem dX8_stateLetter_30 : decode cX8_stateLetter 30 = .ok (.ireturn, 1) := by decide +kernel
theorem dX8_stateLetter_31 : decode cX8_stateLetter 31 = .ok (.bipush 108, 2) := by decide +kernel
theorem dX8_stateLetter_33 : decode cX8_stateLetter 33 = .ok (.ireturn, 1) := by decide +kernel
theorem dX8_stateLetter_34 : decode cX8_stateLetter 34 = .ok (.bipush 118, 2) := by decide +kernel
theorem dX8_stateLetter_36 : decode cX8_stateLetter 36 = .ok (.ireturn, 1) := by decide +kernel
theorem dX8_isGoodPower_0 : decode cX8_isGoodPower 0 = .ok (.aload_n 1, 1) := by decide +kernel
theorem dX8_isGoodPower_1 : decode cX8_isGoodPower 1 = .ok (.astore_n 2, 1) := by decide +kernel
theorem dX8_isGoodPower_2 : decode cX8_isGoodPower 2 = .ok (.iconst 0, 1) := by decide +kernel
theorem dX8_isGoodPower_3 : decode cX8_isGoodPower 3 = .ok (.istore_n 3, 1) := by decide +kernel
theorem dX8_isGoodPower_4 : decode cX8_isGoodPower 4 = .ok (.iload_n 3, 1) := by decide +kernel
theorem dX8_isGoodPower_5 : decode cX8_isGoodPower 5 = .ok (.bipush 60, 2) := by decide +kernel
theorem dX8_isGoodPower_7 : decode cX8_isGoodPower 7 = .ok (.if_icmp .ge 70, 3) := by decide +kernel
theorem dX8_isGoodPower_10 : decode cX8_isGoodPower 10 = .ok (.aload_n 2, 1) := by decide +kernel
theorem dX8_isGoodPower_11 : decode cX8_isGoodPower 11 = .ok (.getfield 153, 3) := by decide +kernel
theorem dX8_isGoodPower_14 : decode cX8_isGoodPower 14 = .ok (.ifnull 15, 3) := by decide +kernel
theorem dX8_isGoodPower_17 : decode cX8_isGoodPower 17 = .ok (.aload_n 0, 1) := by decide +kernel
theorem dX8_isGoodPower_18 : decode cX8_isGoodPower 18 = .ok (.aload_n 2, 1) := by decide +kernel
theorem dX8_isGoodPower_19 : decode cX8_isGoodPower 19 = .ok (.aload_n 2, 1) := by decide +kernel
theorem dX8_isGoodPower_20 : decode cX8_isGoodPower 20 = .ok (.getfield 153, 3) := by decide +kernel
theorem dX8_isGoodPower_23 : decode cX8_isGoodPower 23 = .ok (.invokevirtual 430, 3) := by decide +kernel
theorem dX8_isGoodPower_26 : decode cX8_isGoodPower 26 = .ok (.ifCond .ne 5, 3) := by decide +kernel
theorem dX8_isGoodPower_29 : decode cX8_isGoodPower 29 = .ok (.iconst 0, 1) := by decide +kernel
theorem dX8_isGoodPower_30 : decode cX8_isGoodPower 30 = .ok (.ireturn, 1) := by decide +kernel
theorem dX8_isGoodPower_31 : decode cX8_isGoodPower 31 = .ok (.aload_n 2, 1) := by decide +kernel
theorem dX8_isGoodPower_32 : decode cX8_isGoodPower 32 = .ok (.getfield 153, 3) := by decide +kernel
theorem dX8_isGoodPower_35 : decode cX8_isGoodPower 35 = .ok (.getfield 178, 3) := by decide +kernel
theorem dX8_isGoodPower_38 : decode cX8_isGoodPower 38 = .ok (.astore 4, 2) := by decide +kernel
theorem dX8_isGoodPower_40 : decode cX8_isGoodPower 40 = .ok (.aload 4, 2) := by decide +kernel
theorem dX8_isGoodPower_42 : decode cX8_isGoodPower 42 = .ok (.ifnonnull 5, 3) := by decide +kernel
theorem dX8_isGoodPower_45 : decode cX8_isGoodPower 45 = .ok (.iconst 1, 1) := by decide +kernel
theorem dX8_isGoodPower_46 : decode cX8_isGoodPower 46 = .ok (.ireturn, 1) := by decide +kernel
theorem dX8_isGoodPower_47 : decode cX8_isGoodPower 47 = .ok (.aload 4, 2) := by decide +kernel
theorem dX8_isGoodPower_49 : decode cX8_isGoodPower 49 = .ok (.getfield 153, 3) := by decide +kernel
theorem dX8_isGoodPower_52 : decode cX8_isGoodPower 52 = .ok (.ifnull 14, 3) := by decide +kernel
theorem dX8_isGoodPower_55 : decode cX8_isGoodPower 55 = .ok (.aload 4, 2) := by decide +kernel
theorem dX8_isGoodPower_57 : decode cX8_isGoodPower 57 = .ok (.getfield 153, 3) := by decide +kernel
theorem dX8_isGoodPower_60 : decode cX8_isGoodPower 60 = .ok (.getfield 434, 3) := by decide +kernel
theorem dX8_isGoodPower_63 : decode cX8_isGoodPower 63 = .ok (.ifCond .ne 5, 3) := by decide +kernel
theorem dX8_isGoodPower_66 : decode cX8_isGoodPower 66 = .ok (.iconst 0, 1) := by decide +kernel
theorem dX8_isGoodPower_67 : decode cX8_isGoodPower 67 = .ok (.ireturn, 1) := by decide +kernel
theorem dX8_isGoodPower_68 : decode cX8_isGoodPower 68 = .ok (.aload 4, 2) := by decide +kernel
theorem dX8_isGoodPower_70 : decode cX8_isGoodPower 70 = .ok (.astore_n 2, 1) := by decide +kernel
theorem dX8_isGoodPower_71 : decode cX8_isGoodPower 71 = .ok (.iinc 3 1, 3) := by decide +kernel
theorem dX8_isGoodPower_74 : decode cX8_isGoodPower 74 = .ok (.goto (-70), 3) := by decide +kernel
theorem dX8_isGoodPower_77 : decode cX8_isGoodPower 77 = .ok (.iconst 0, 1) := by decide +kernel
theorem dX8_isGoodPower_78 : decode cX8_isGoodPower 78 = .ok (.ireturn, 1) := by decide +kernel
theorem dX8_isGoodByItself_0 : decode cX8_isGoodByItself 0 = .ok (.aload_n 2, 1) := by decide +kernel
theorem dX8_isGoodByItself_1 : decode cX8_isGoodByItself 1 = .ok (.getfield 437, 3) := by decide +kernel
theorem dX8_isGoodByItself_4 : decode cX8_isGoodByItself 4 = .ok (.istore_n 3, 1) := by decide +kernel
theorem dX8_isGoodByItself_5 : decode cX8_isGoodByItself 5 = .ok (.aload_n 1, 1) := by decide +kernel
theorem dX8_isGoodByItself_6 : decode cX8_isGoodByItself 6 = .ok (.getfield 221, 3) := by decide +kernel
theorem dX8_isGoodByItself_9 : decode cX8_isGoodByItself 9 = .ok (.iconst 2, 1) := by decide +kernel
theorem dX8_isGoodByItself_10 : decode cX8_isGoodByItself 10 = .ok (.if_icmp .ne 15, 3) := by decide +kernel
theorem dX8_isGoodByItself_13 : decode cX8_isGoodByItself 13 = .ok (.iload_n 3, 1) := by decide +kernel
theorem dX8_isGoodByItself_14 : decode cX8_isGoodByItself 14 = .ok (.aload_n 1, 1) := by decide +kernel
theorem dX8_isGoodByItself_15 : decode cX8_isGoodByItself 15 = .ok (.getfield 215, 3) := by decide +kernel
theorem dX8_isGoodByItself_18 : decode cX8_isGoodByItself 18 = .ok (.bipush 30, 2) := by decide +kernel
theorem dX8_isGoodByItself_20 : decode cX8_isGoodByItself 20 = .ok (.iadd, 1) := by decide +kernel
theorem dX8_isGoodByItself_21 : decode cX8_isGoodByItself 21 = .ok (.invokestatic 440, 3) := by decide +kernel
theorem dX8_isGoodByItself_24 : decode cX8_isGoodByItself 24 = .ok (.istore_n 3, 1) := by decide +kernel
theorem dX8_isGoodByItself_25 : decode cX8_isGoodByItself 25 = .ok (.aload_n 1, 1) := by decide +kernel
theorem dX8_isGoodByItself_26 : decode cX8_isGoodByItself 26 = .ok (.getfield 221, 3) := by decide +kernel
theorem dX8_isGoodByItself_29 : decode cX8_isGoodByItself 29 = .ok (.iconst 1, 1) := by decide +kernel
theorem dX8_isGoodByItself_30 : decode cX8_isGoodByItself 30 = .ok (.if_icmp .eq 11, 3) := by decide +kernel
theorem dX8_isGoodByItself_33 : decode cX8_isGoodByItself 33 = .ok (.aload_n 1, 1) := by decide +kernel
theorem dX8_isGoodByItself_34 : decode cX8_isGoodByItself 34 = .ok (.getfield 221, 3) := by decide +kernel
theorem dX8_isGoodByItself_37 : decode cX8_isGoodByItself 37 = .ok (.iconst 2, 1) := by decide +kernel
theorem dX8_isGoodByItself_38 : decode cX8_isGoodByItself 38 = .ok (.if_icmp .ne 32, 3) := by decide +kernel
theorem dX8_isGoodByItself_41 : decode cX8_isGoodByItself 41 = .ok (.aload_n 0, 1) := by decide +kernel
theorem dX8_isGoodByItself_42 : decode cX8_isGoodByItself 42 = .ok (.getfield 32, 3) := by decide +kernel
theorem dX8_isGoodByItself_45 : decode cX8_isGoodByItself 45 = .ok (.iload_n 3, 1) := by decide +kernel
theorem dX8_isGoodByItself_46 : decode cX8_isGoodByItself 46 = .ok (.if_icmp .gt 24, 3) := by decide +kernel
theorem dX8_isGoodByItself_49 : decode cX8_isGoodByItself 49 = .ok (.aload_n 2, 1) := by decide +kernel
theorem dX8_isGoodByItself_50 : decode cX8_isGoodByItself 50 = .ok (.getfield 274, 3) := by decide +kernel
theorem dX8_isGoodByItself_53 : decode cX8_isGoodByItself 53 = .ok (.ifCond .ne 17, 3) := by decide +kernel
theorem dX8_isGoodByItself_56 : decode cX8_isGoodByItself 56 = .ok (.aload_n 1, 1) := by decide +kernel
theorem dX8_isGoodByItself_57 : decode cX8_isGoodByItself 57 = .ok (.getfield 206, 3) := by decide +kernel
theorem dX8_isGoodByItself_60 : decode cX8_isGoodByItself 60 = .ok (.getfield 96, 3) := by decide +kernel
theorem dX8_isGoodByItself_63 : decode cX8_isGoodByItself 63 = .ok (.ifCond .eq 7, 3) := by decide +kernel
theorem dX8_isGoodByItself_66 : decode cX8_isGoodByItself 66 = .ok (.iconst 1, 1) := by decide +kernel
theorem dX8_isGoodByItself_67 : decode cX8_isGoodByItself 67 = .ok (.goto 4, 3) := by decide +kernel
theorem dX8_isGoodByItself_70 : decode cX8_isGoodByItself 70 = .ok (.iconst 0, 1) := by decide +kernel
theorem dX8_isGoodByItself_71 : decode cX8_isGoodByItself 71 = .ok (.ireturn, 1) := by decide +kernel
theorem dX8_isReadyToEnter_0 : decode cX8_isReadyToEnter 0 = .ok (.aload_n 0, 1) := by decide +kernel
theorem dX8_isReadyToEnter_1 : decode cX8_isReadyToEnter 1 = .ok (.getfield 224, 3) := by decide +kernel
theorem dX8_isReadyToEnter_4 : decode cX8_isReadyToEnter 4 = .ok (.invokevirtual 286, 3) := by decide +kernel
theorem dX8_isReadyToEnter_7 : decode cX8_isReadyToEnter 7 = .ok (.istore_n 1, 1) := by decide +kernel
theorem dX8_isReadyToEnter_8 : decode cX8_isReadyToEnter 8 = .ok (.aload_n 0, 1) := by decide +kernel
theorem dX8_isReadyToEnter_9 : decode cX8_isReadyToEnter 9 = .ok (.getfield 236, 3) := by decide +kernel
theorem dX8_isReadyToEnter_12 : decode cX8_isReadyToEnter 12 = .ok (.invokestatic 125, 3) := by decide +kernel
theorem dX8_isReadyToEnter_15 : decode cX8_isReadyToEnter 15 = .ok (.ifCond .eq 53, 3) := by decide +kernel
theorem dX8_isReadyToEnter_18 : decode cX8_isReadyToEnter 18 = .ok (.aload_n 0, 1) := by decide +kernel
theorem dX8_isReadyToEnter_19 : decode cX8_isReadyToEnter 19 = .ok (.getfield 221, 3) := by decide +kernel
theorem dX8_isReadyToEnter_22 : decode cX8_isReadyToEnter 22 = .ok (.iconst 1, 1) := by decide +kernel
theorem dX8_isReadyToEnter_23 : decode cX8_isReadyToEnter 23 = .ok (.if_icmp .ne 45, 3) := by decide +kernel
theorem dX8_isReadyToEnter_26 : decode cX8_isReadyToEnter 26 = .ok (.aload_n 0, 1) := by decide +kernel
theorem dX8_isReadyToEnter_27 : decode cX8_isReadyToEnter 27 = .ok (.getfield 239, 3) := by decide +kernel
theorem dX8_isReadyToEnter_30 : decode cX8_isReadyToEnter 30 = .ok (.iconst (-1), 1) := by decide +kernel
theorem dX8_isReadyToEnter_31 : decode cX8_isReadyToEnter 31 = .ok (.if_icmp .ne 37, 3) := by decide +kernel
theorem dX8_isReadyToEnter_34 : decode cX8_isReadyToEnter 34 = .ok (.iload_n 1, 1) := by decide +kernel
theorem dX8_isReadyToEnter_35 : decode cX8_isReadyToEnter 35 = .ok (.iconst (-1), 1) := by decide +kernel
theorem dX8_isReadyToEnter_36 : decode cX8_isReadyToEnter 36 = .ok (.if_icmp .eq 32, 3) := by decide +kernel
theorem dX8_isReadyToEnter_39 : decode cX8_isReadyToEnter 39 = .ok (.iload_n 1, 1) := by decide +kernel
theorem dX8_isReadyToEnter_40 : decode cX8_isReadyToEnter 40 = .ok (.iconst 1, 1) := by decide +kernel
theorem dX8_isReadyToEnter_41 : decode cX8_isReadyToEnter 41 = .ok (.if_icmp .gt 27, 3) := by decide +kernel
theorem dX8_isReadyToEnter_44 : decode cX8_isReadyToEnter 44 = .ok (.aload_n 0, 1) := by decide +kernel
theorem dX8_isReadyToEnter_45 : decode cX8_isReadyToEnter 45 = .ok (.getfield 206, 3) := by decide +kernel
theorem dX8_isReadyToEnter_48 : decode cX8_isReadyToEnter 48 = .ok (.getfield 96, 3) := by decide +kernel
theorem dX8_isReadyToEnter_51 : decode cX8_isReadyToEnter 51 = .ok (.ifCond .eq 17, 3) := by decide +kernel
theorem dX8_isReadyToEnter_54 : decode cX8_isReadyToEnter 54 = .ok (.aload_n 0, 1) := by decide +kernel
theorem dX8_isReadyToEnter_55 : decode cX8_isReadyToEnter 55 = .ok (.getfield 209, 3) := by decide +kernel
theorem dX8_isReadyToEnter_58 : decode cX8_isReadyToEnter 58 = .ok (.getfield 96, 3) := by decide +kernel
theorem dX8_isReadyToEnter_61 : decode cX8_isReadyToEnter 61 = .ok (.ifCond .eq 7, 3) := by decide +kernel
theorem dX8_isReadyToEnter_64 : decode cX8_isReadyToEnter 64 = .ok (.iconst 1, 1) := by decide +kernel
theorem dX8_isReadyToEnter_65 : decode cX8_isReadyToEnter 65 = .ok (.goto 4, 3) := by decide +kernel
theorem dX8_isReadyToEnter_68 : decode cX8_isReadyToEnter 68 = .ok (.iconst 0, 1) := by decide +kernel
theorem dX8_isReadyToEnter_69 : decode cX8_isReadyToEnter 69 = .ok (.ireturn, 1) := by decide +kernel
theorem dX8_moveOf_0 : decode cX8_moveOf 0 = .ok (.aload_n 0, 1) := by decide +kernel
theorem dX8_moveOf_1 : decode cX8_moveOf 1 = .ok (.getfield 236, 3) := by decide +kernel
theorem dX8_moveOf_4 : decode cX8_moveOf 4 = .ok (.iconst 2, 1) := by decide +kernel
theorem dX8_moveOf_5 : decode cX8_moveOf 5 = .ok (.if_icmp .ne 5, 3) := by decide +kernel
theorem dX8_moveOf_8 : decode cX8_moveOf 8 = .ok (.aconst_null, 1) := by decide +kernel
theorem dX8_moveOf_9 : decode cX8_moveOf 9 = .ok (.areturn, 1) := by decide +kernel
theorem dX8_moveOf_10 : decode cX8_moveOf 10 = .ok (.new 446, 3) := by decide +kernel
theorem dX8_moveOf_13 : decode cX8_moveOf 13 = .ok (.dup, 1) := by decide +kernel
theorem dX8_moveOf_14 : decode cX8_moveOf 14 = .ok (.aload_n 0, 1) := by decide +kernel
theorem dX8_moveOf_15 : decode cX8_moveOf 15 = .ok (.getfield 206, 3) := by decide +kernel
theorem dX8_moveOf_18 : decode cX8_moveOf 18 = .ok (.getfield 68, 3) := by decide +kernel
theorem dX8_moveOf_21 : decode cX8_moveOf 21 = .ok (.aload_n 0, 1) := by decide +kernel
theorem dX8_moveOf_22 : decode cX8_moveOf 22 = .ok (.getfield 209, 3) := by decide +kernel
theorem dX8_moveOf_25 : decode cX8_moveOf 25 = .ok (.getfield 68, 3) := by decide +kernel
theorem dX8_moveOf_28 : decode cX8_moveOf 28 = .ok (.aload_n 0, 1) := by decide +kernel
theorem dX8_moveOf_29 : decode cX8_moveOf 29 = .ok (.getfield 310, 3) := by decide +kernel
theorem dX8_moveOf_32 : decode cX8_moveOf 32 = .ok (.aload_n 0, 1) := by decide +kernel
theorem dX8_moveOf_33 : decode cX8_moveOf 33 = .ok (.getfield 313, 3) := by decide +kernel
theorem dX8_moveOf_36 : decode cX8_moveOf 36 = .ok (.iconst 0, 1) := by decide +kernel
theorem dX8_moveOf_37 : decode cX8_moveOf 37 = .ok (.invokespecial 448, 3) := by decide +kernel
theorem dX8_moveOf_40 : decode cX8_moveOf 40 = .ok (.areturn, 1) := by decide +kernel
theorem dX8_leavesSmallShares_0 : decode cX8_leavesSmallShares 0 = .ok (.aload_n 0, 1) := by decide +kernel
theorem dX8_leavesSmallShares_1 : decode cX8_leavesSmallShares 1 = .ok (.getfield 28, 3) := by decide +kernel
theorem dX8_leavesSmallShares_4 : decode cX8_leavesSmallShares 4 = .ok (.aload_n 1, 1) := by decide +kernel
theorem dX8_leavesSmallShares_5 : decode cX8_leavesSmallShares 5 = .ok (.getfield 307, 3) := by decide +kernel
theorem dX8_leavesSmallShares_8 : decode cX8_leavesSmallShares 8 = .ok (.invokevirtual 451, 3) := by decide +kernel
theorem dX8_leavesSmallShares_11 : decode cX8_leavesSmallShares 11 = .ok (.aload_n 0, 1) := by decide +kernel
theorem dX8_leavesSmallShares_12 : decode cX8_leavesSmallShares 12 = .ok (.getfield 28, 3) := by decide +kernel
theorem dX8_leavesSmallShares_15 : decode cX8_leavesSmallShares 15 = .ok (.aload_n 2, 1) := by decide +kernel
theorem dX8_leavesSmallShares_16 : decode cX8_leavesSmallShares 16 = .ok (.invokevirtual 394, 3) := by decide +kernel
theorem dX8_leavesSmallShares_19 : decode cX8_leavesSmallShares 19 = .ok (.aload_n 0, 1) := by decide +kernel
theorem dX8_leavesSmallShares_20 : decode cX8_leavesSmallShares 20 = .ok (.getfield 28, 3) := by decide +kernel
theorem dX8_leavesSmallShares_23 : decode cX8_leavesSmallShares 23 = .ok (.invokevirtual 455, 3) := by decide +kernel
theorem dX8_leavesSmallShares_26 : decode cX8_leavesSmallShares 26 = .ok (.ireturn, 1) := by decide +kernel
theorem dX8_keepEntry_0 : decode cX8_keepEntry 0 = .ok (.aload_n 1, 1) := by decide +kernel
theorem dX8_keepEntry_1 : decode cX8_keepEntry 1 = .ok (.getfield 368, 3) := by decide +kernel
theorem dX8_keepEntry_4 : decode cX8_keepEntry 4 = .ok (.getfield 307, 3) := by decide +kernel
theorem dX8_keepEntry_7 : decode cX8_keepEntry 7 = .ok (.aload_n 1, 1) := by decide +kernel
theorem dX8_keepEntry_8 : decode cX8_keepEntry 8 = .ok (.getfield 390, 3) := by decide +kernel
theorem dX8_keepEntry_11 : decode cX8_keepEntry 11 = .ok (.invokevirtual 394, 3) := by decide +kernel
theorem dX8_keepEntry_14 : decode cX8_keepEntry 14 = .ok (.aload_n 0, 1) := by decide +kernel
theorem dX8_keepEntry_15 : decode cX8_keepEntry 15 = .ok (.getfield 22, 3) := by decide +kernel
theorem dX8_keepEntry_18 : decode cX8_keepEntry 18 = .ok (.aload_n 1, 1) := by decide +kernel
theorem dX8_keepEntry_19 : decode cX8_keepEntry 19 = .ok (.invokevirtual 64, 3) := by decide +kernel
theorem dX8_keepEntry_22 : decode cX8_keepEntry 22 = .ok (.pop, 1) := by decide +kernel
theorem dX8_keepEntry_23 : decode cX8_keepEntry 23 = .ok (.return_, 1) := by decide +kernel
theorem dX8_dutyOf_0 : decode cX8_dutyOf 0 = .ok (.aload_n 0, 1) := by decide +kernel
theorem dX8_dutyOf_1 : decode cX8_dutyOf 1 = .ok (.getfield 313, 3) := by decide +kernel
theorem dX8_dutyOf_4 : decode cX8_dutyOf 4 = .ok (.iconst 1, 1) := by decide +kernel
theorem dX8_dutyOf_5 : decode cX8_dutyOf 5 = .ok (.if_icmp .ge 5, 3) := by decide +kernel
theorem dX8_dutyOf_8 : decode cX8_dutyOf 8 = .ok (.lconst 0, 1) := by decide +kernel
theorem dX8_dutyOf_9 : decode cX8_dutyOf 9 = .ok (.lreturn, 1) := by decide +kernel
theorem dX8_dutyOf_10 : decode cX8_dutyOf 10 = .ok (.aload_n 1, 1) := by decide +kernel
theorem dX8_dutyOf_11 : decode cX8_dutyOf 11 = .ok (.getfield 458, 3) := by decide +kernel
theorem dX8_dutyOf_14 : decode cX8_dutyOf 14 = .ok (.i2l, 1) := by decide +kernel
theorem dX8_dutyOf_15 : decode cX8_dutyOf 15 = .ok (.aload_n 0, 1) := by decide +kernel
theorem dX8_dutyOf_16 : decode cX8_dutyOf 16 = .ok (.getfield 310, 3) := by decide +kernel
theorem dX8_dutyOf_19 : decode cX8_dutyOf 19 = .ok (.i2l, 1) := by decide +kernel
theorem dX8_dutyOf_20 : decode cX8_dutyOf 20 = .ok (.lmul, 1) := by decide +kernel
theorem dX8_dutyOf_21 : decode cX8_dutyOf 21 = .ok (.aload_n 0, 1) := by decide +kernel
theorem dX8_dutyOf_22 : decode cX8_dutyOf 22 = .ok (.getfield 313, 3) := by decide +kernel
theorem dX8_dutyOf_25 : decode cX8_dutyOf 25 = .ok (.i2l, 1) := by decide +kernel
theorem dX8_dutyOf_26 : decode cX8_dutyOf 26 = .ok (.ldiv, 1) := by decide +kernel
theorem dX8_dutyOf_27 : decode cX8_dutyOf 27 = .ok (.lstore_n 2, 1) := by decide +kernel
theorem dX8_dutyOf_28 : decode cX8_dutyOf 28 = .ok (.aload_n 0, 1) := by decide +kernel
theorem dX8_dutyOf_29 : decode cX8_dutyOf 29 = .ok (.getfield 236, 3) := by decide +kernel
theorem dX8_dutyOf_32 : decode cX8_dutyOf 32 = .ok (.lookupswitch 59 #[(0, 28), (1, 34)], 28) := by decide +kernel
theorem dX8_dutyOf_60 : decode cX8_dutyOf 60 = .ok (.lload_n 2, 1) := by decide +kernel
theorem dX8_dutyOf_61 : decode cX8_dutyOf 61 = .ok (.ldc2_w 461, 3) := by decide +kernel
theorem dX8_dutyOf_64 : decode cX8_dutyOf 64 = .ok (.ldiv, 1) := by decide +kernel
theorem dX8_dutyOf_65 : decode cX8_dutyOf 65 = .ok (.lreturn, 1) := by decide +kernel
theorem dX8_dutyOf_66 : decode cX8_dutyOf 66 = .ok (.lload_n 2, 1) := by decide +kernel
theorem dX8_dutyOf_67 : decode cX8_dutyOf 67 = .ok (.aload_n 0, 1) := by decide +kernel
theorem dX8_dutyOf_68 : decode cX8_dutyOf 68 = .ok (.getfield 206, 3) := by decide +kernel
theorem dX8_dutyOf_71 : decode cX8_dutyOf 71 = .ok (.aload_n 0, 1) := by decide +kernel
theorem dX8_dutyOf_72 : decode cX8_dutyOf 72 = .ok (.getfield 209, 3) := by decide +kernel
theorem dX8_dutyOf_75 : decode cX8_dutyOf 75 = .ok (.invokestatic 420, 3) := by decide +kernel
theorem dX8_dutyOf_78 : decode cX8_dutyOf 78 = .ok (.ifCond .eq 8, 3) := by decide +kernel
theorem dX8_dutyOf_81 : decode cX8_dutyOf 81 = .ok (.bipush 50, 2) := by decide +kernel
theorem dX8_dutyOf_83 : decode cX8_dutyOf 83 = .ok (.goto 5, 3) := by decide +kernel
theorem dX8_dutyOf_86 : decode cX8_dutyOf 86 = .ok (.bipush 10, 2) := by decide +kernel
theorem dX8_dutyOf_88 : decode cX8_dutyOf 88 = .ok (.i2l, 1) := by decide +kernel
theorem dX8_dutyOf_89 : decode cX8_dutyOf 89 = .ok (.ldiv, 1) := by decide +kernel
theorem dX8_dutyOf_90 : decode cX8_dutyOf 90 = .ok (.lreturn, 1) := by decide +kernel
theorem dX8_dutyOf_91 : decode cX8_dutyOf 91 = .ok (.lload_n 2, 1) := by decide +kernel
theorem dX8_dutyOf_92 : decode cX8_dutyOf 92 = .ok (.ldc2_w 463, 3) := by decide +kernel
theorem dX8_dutyOf_95 : decode cX8_dutyOf 95 = .ok (.ldiv, 1) := by decide +kernel
theorem dX8_dutyOf_96 : decode cX8_dutyOf 96 = .ok (.lreturn, 1) := by decide +kernel
theorem dX8_countEstateThings_0 : decode cX8_countEstateThings 0 = .ok (.iconst 0, 1) := by decide +kernel
theorem dX8_countEstateThings_1 : decode cX8_countEstateThings 1 = .ok (.istore_n 3, 1) := by decide +kernel
theorem dX8_countEstateThings_2 : decode cX8_countEstateThings 2 = .ok (.iconst 0, 1) := by decide +kernel
theorem dX8_countEstateThings_3 : decode cX8_countEstateThings 3 = .ok (.istore 4, 2) := by decide +kernel
theorem dX8_countEstateThings_5 : decode cX8_countEstateThings 5 = .ok (.iload 4, 2) := by decide +kernel
theorem dX8_countEstateThings_7 : decode cX8_countEstateThings 7 = .ok (.aload_n 0, 1) := by decide +kernel
theorem dX8_countEstateThings_8 : decode cX8_countEstateThings 8 = .ok (.getfield 16, 3) := by decide +kernel
theorem dX8_countEstateThings_11 : decode cX8_countEstateThings 11 = .ok (.invokevirtual 50, 3) := by decide +kernel
theorem dX8_countEstateThings_14 : decode cX8_countEstateThings 14 = .ok (.if_icmp .ge 62, 3) := by decide +kernel
theorem dX8_countEstateThings_17 : decode cX8_countEstateThings 17 = .ok (.aload_n 0, 1) := by decide +kernel
theorem dX8_countEstateThings_18 : decode cX8_countEstateThings 18 = .ok (.getfield 16, 3) := by decide +kernel
theorem dX8_countEstateThings_21 : decode cX8_countEstateThings 21 = .ok (.iload 4, 2) := by decide +kernel
theorem dX8_countEstateThings_23 : decode cX8_countEstateThings 23 = .ok (.invokevirtual 355, 3) := by decide +kernel
theorem dX8_countEstateThings_26 : decode cX8_countEstateThings 26 = .ok (.checkcast 111, 3) := by decide +kernel
theorem dX8_countEstateThings_29 : decode cX8_countEstateThings 29 = .ok (.astore 5, 2) := by decide +kernel
theorem dX8_countEstateThings_31 : decode cX8_countEstateThings 31 = .ok (.aload 5, 2) := by decide +kernel
theorem dX8_countEstateThings_33 : decode cX8_countEstateThings 33 = .ok (.getfield 307, 3) := by decide +kernel
theorem dX8_countEstateThings_36 : decode cX8_countEstateThings 36 = .ok (.aload_n 1, 1) := by decide +kernel
theorem dX8_countEstateThings_37 : decode cX8_countEstateThings 37 = .ok (.getfield 68, 3) := by decide +kernel
theorem dX8_countEstateThings_40 : decode cX8_countEstateThings 40 = .ok (.invokevirtual 359, 3) := by decide +kernel
theorem dX8_countEstateThings_43 : decode cX8_countEstateThings 43 = .ok (.ifCond .ne 27, 3) := by decide +kernel
theorem dX8_countEstateThings_46 : decode cX8_countEstateThings 46 = .ok (.iinc 3 1, 3) := by decide +kernel
theorem dX8_countEstateThings_49 : decode cX8_countEstateThings 49 = .ok (.aload_n 0, 1) := by decide +kernel
theorem dX8_countEstateThings_50 : decode cX8_countEstateThings 50 = .ok (.aload 5, 2) := by decide +kernel
theorem dX8_countEstateThings_52 : decode cX8_countEstateThings 52 = .ok (.aload_n 2, 1) := by decide +kernel
theorem dX8_countEstateThings_53 : decode cX8_countEstateThings 53 = .ok (.invokevirtual 320, 3) := by decide +kernel
theorem dX8_countEstateThings_56 : decode cX8_countEstateThings 56 = .ok (.ifCond .ne 14, 3) := by decide +kernel
theorem dX8_countEstateThings_59 : decode cX8_countEstateThings 59 = .ok (.new 54, 3) := by decide +kernel
theorem dX8_countEstateThings_62 : decode cX8_countEstateThings 62 = .ok (.dup, 1) := by decide +kernel
theorem dX8_countEstateThings_63 : decode cX8_countEstateThings 63 = .ok (.ldc_w 465, 3) := by decide +kernel
theorem dX8_countEstateThings_66 : decode cX8_countEstateThings 66 = .ok (.invokespecial 58, 3) := by decide +kernel
theorem dX8_countEstateThings_69 : decode cX8_countEstateThings 69 = .ok (.athrow, 1) := by decide +kernel
theorem dX8_countEstateThings_70 : decode cX8_countEstateThings 70 = .ok (.iinc 4 1, 3) := by decide +kernel
theorem dX8_countEstateThings_73 : decode cX8_countEstateThings 73 = .ok (.goto (-68), 3) := by decide +kernel
theorem dX8_countEstateThings_76 : decode cX8_countEstateThings 76 = .ok (.iload_n 3, 1) := by decide +kernel
theorem dX8_countEstateThings_77 : decode cX8_countEstateThings 77 = .ok (.ireturn, 1) := by decide +kernel
theorem dX8_endGuardianships_0 : decode cX8_endGuardianships 0 = .ok (.iconst 0, 1) := by decide +kernel
theorem dX8_endGuardianships_1 : decode cX8_endGuardianships 1 = .ok (.istore_n 2, 1) := by decide +kernel
theorem dX8_endGuardianships_2 : decode cX8_endGuardianships 2 = .ok (.iload_n 2, 1) := by decide +kernel
theorem dX8_endGuardianships_3 : decode cX8_endGuardianships 3 = .ok (.aload_n 0, 1) := by decide +kernel
theorem dX8_endGuardianships_4 : decode cX8_endGuardianships 4 = .ok (.getfield 12, 3) := by decide +kernel
theorem dX8_endGuardianships_7 : decode cX8_endGuardianships 7 = .ok (.invokevirtual 50, 3) := by decide +kernel
theorem dX8_endGuardianships_10 : decode cX8_endGuardianships 10 = .ok (.if_icmp .ge 34, 3) := by decide +kernel
theorem dX8_endGuardianships_13 : decode cX8_endGuardianships 13 = .ok (.aload_n 0, 1) := by decide +kernel
theorem dX8_endGuardianships_14 : decode cX8_endGuardianships 14 = .ok (.getfield 12, 3) := by decide +kernel
theorem dX8_endGuardianships_17 : decode cX8_endGuardianships 17 = .ok (.iload_n 2, 1) := by decide +kernel
theorem dX8_endGuardianships_18 : decode cX8_endGuardianships 18 = .ok (.invokevirtual 355, 3) := by decide +kernel
theorem dX8_endGuardianships_21 : decode cX8_endGuardianships 21 = .ok (.checkcast 59, 3) := by decide +kernel
theorem dX8_endGuardianships_24 : decode cX8_endGuardianships 24 = .ok (.astore_n 3, 1) := by decide +kernel
theorem dX8_endGuardianships_25 : decode cX8_endGuardianships 25 = .ok (.aload_n 3, 1) := by decide +kernel
theorem dX8_endGuardianships_26 : decode cX8_endGuardianships 26 = .ok (.getfield 102, 3) := by decide +kernel
theorem dX8_endGuardianships_29 : decode cX8_endGuardianships 29 = .ok (.aload_n 1, 1) := by decide +kernel
theorem dX8_endGuardianships_30 : decode cX8_endGuardianships 30 = .ok (.if_acmp .ne 8, 3) := by decide +kernel
theorem dX8_endGuardianships_33 : decode cX8_endGuardianships 33 = .ok (.aload_n 3, 1) := by decide +kernel
theorem dX8_endGuardianships_34 : decode cX8_endGuardianships 34 = .ok (.aconst_null, 1) := by decide +kernel
theorem dX8_endGuardianships_35 : decode cX8_endGuardianships 35 = .ok (.putfield 102, 3) := by decide +kernel
theorem dX8_endGuardianships_38 : decode cX8_endGuardianships 38 = .ok (.iinc 2 1, 3) := by decide +kernel
theorem dX8_endGuardianships_41 : decode cX8_endGuardianships 41 = .ok (.goto (-39), 3) := by decide +kernel
theorem dX8_endGuardianships_44 : decode cX8_endGuardianships 44 = .ok (.return_, 1) := by decide +kernel
theorem dX8_successionOf_0 : decode cX8_successionOf 0 = .ok (.aload_n 0, 1) := by decide +kernel
theorem dX8_successionOf_1 : decode cX8_successionOf 1 = .ok (.aload_n 1, 1) := by decide +kernel
theorem dX8_successionOf_2 : decode cX8_successionOf 2 = .ok (.invokevirtual 467, 3) := by decide +kernel
theorem dX8_successionOf_5 : decode cX8_successionOf 5 = .ok (.istore_n 2, 1) := by decide +kernel
theorem dX8_successionOf_6 : decode cX8_successionOf 6 = .ok (.aload_n 0, 1) := by decide +kernel
theorem dX8_successionOf_7 : decode cX8_successionOf 7 = .ok (.aload_n 1, 1) := by decide +kernel
theorem dX8_successionOf_8 : decode cX8_successionOf 8 = .ok (.invokevirtual 471, 3) := by decide +kernel
theorem dX8_successionOf_11 : decode cX8_successionOf 11 = .ok (.astore_n 3, 1) := by decide +kernel
theorem dX8_successionOf_12 : decode cX8_successionOf 12 = .ok (.aload_n 3, 1) := by decide +kernel
theorem dX8_successionOf_13 : decode cX8_successionOf 13 = .ok (.ifnonnull 24, 3) := by decide +kernel
theorem dX8_successionOf_16 : decode cX8_successionOf 16 = .ok (.new 446, 3) := by decide +kernel
theorem dX8_successionOf_19 : decode cX8_successionOf 19 = .ok (.dup, 1) := by decide +kernel
theorem dX8_successionOf_20 : decode cX8_successionOf 20 = .ok (.aload_n 1, 1) := by decide +kernel
theorem dX8_successionOf_21 : decode cX8_successionOf 21 = .ok (.getfield 68, 3) := by decide +kernel
theorem dX8_successionOf_24 : decode cX8_successionOf 24 = .ok (.iconst (-1), 1) := by decide +kernel
theorem dX8_successionOf_25 : decode cX8_successionOf 25 = .ok (.iconst 0, 1) := by decide +kernel
theorem dX8_successionOf_26 : decode cX8_successionOf 26 = .ok (.iconst 1, 1) := by decide +kernel
theorem dX8_successionOf_27 : decode cX8_successionOf 27 = .ok (.aload_n 0, 1) := by decide +kernel
theorem dX8_successionOf_28 : decode cX8_successionOf 28 = .ok (.aload_n 1, 1) := by decide +kernel
theorem dX8_successionOf_29 : decode cX8_successionOf 29 = .ok (.iload_n 2, 1) := by decide +kernel
theorem dX8_successionOf_30 : decode cX8_successionOf 30 = .ok (.invokevirtual 475, 3) := by decide +kernel
theorem dX8_successionOf_33 : decode cX8_successionOf 33 = .ok (.invokespecial 448, 3) := by decide +kernel
theorem dX8_successionOf_36 : decode cX8_successionOf 36 = .ok (.areturn, 1) := by decide +kernel
theorem dX8_successionOf_37 : decode cX8_successionOf 37 = .ok (.aload_n 3, 1) := by decide +kernel
theorem dX8_successionOf_38 : decode cX8_successionOf 38 = .ok (.getfield 310, 3) := by decide +kernel
theorem dX8_successionOf_41 : decode cX8_successionOf 41 = .ok (.istore 4, 2) := by decide +kernel
theorem dX8_successionOf_43 : decode cX8_successionOf 43 = .ok (.aload_n 3, 1) := by decide +kernel
theorem dX8_successionOf_44 : decode cX8_successionOf 44 = .ok (.getfield 313, 3) := by decide +kernel
theorem dX8_successionOf_47 : decode cX8_successionOf 47 = .ok (.istore 5, 2) := by decide +kernel
theorem dX8_successionOf_49 : decode cX8_successionOf 49 = .ok (.iload_n 2, 1) := by decide +kernel
theorem dX8_successionOf_50 : decode cX8_successionOf 50 = .ok (.ifCond .eq 18, 3) := by decide +kernel
theorem dX8_successionOf_53 : decode cX8_successionOf 53 = .ok (.iconst 2, 1) := by decide +kernel
theorem dX8_successionOf_54 : decode cX8_successionOf 54 = .ok (.iload 4, 2) := by decide +kernel
theorem dX8_successionOf_56 : decode cX8_successionOf 56 = .ok (.imul, 1) := by decide +kernel
theorem dX8_successionOf_57 : decode cX8_successionOf 57 = .ok (.iload 5, 2) := by decide +kernel
theorem dX8_successionOf_59 : decode cX8_successionOf 59 = .ok (.if_icmp .le 9, 3) := by decide +kernel
theorem dX8_successionOf_62 : decode cX8_successionOf 62 = .ok (.iconst 1, 1) := by decide +kernel
theorem dX8_successionOf_63 : decode cX8_successionOf 63 = .ok (.istore 4, 2) := by decide +kernel
theorem dX8_successionOf_65 : decode cX8_successionOf 65 = .ok (.iconst 2, 1) := by decide +kernel
theorem dX8_successionOf_66 : decode cX8_successionOf 66 = .ok (.istore 5, 2) := by decide +kernel
theorem dX8_successionOf_68 : decode cX8_successionOf 68 = .ok (.new 446, 3) := by decide +kernel
theorem dX8_successionOf_71 : decode cX8_successionOf 71 = .ok (.dup, 1) := by decide +kernel
theorem dX8_successionOf_72 : decode cX8_successionOf 72 = .ok (.aload_n 1, 1) := by decide +kernel
theorem dX8_successionOf_73 : decode cX8_successionOf 73 = .ok (.getfield 68, 3) := by decide +kernel
theorem dX8_successionOf_76 : decode cX8_successionOf 76 = .ok (.aload_n 3, 1) := by decide +kernel
theorem dX8_successionOf_77 : decode cX8_successionOf 77 = .ok (.getfield 209, 3) := by decide +kernel
theorem dX8_successionOf_80 : decode cX8_successionOf 80 = .ok (.getfield 68, 3) := by decide +kernel
theorem dX8_successionOf_83 : decode cX8_successionOf 83 = .ok (.iload 4, 2) := by decide +kernel
theorem dX8_successionOf_85 : decode cX8_successionOf 85 = .ok (.iload 5, 2) := by decide +kernel
theorem dX8_successionOf_87 : decode cX8_successionOf 87 = .ok (.aload_n 0, 1) := by decide +kernel
theorem dX8_successionOf_88 : decode cX8_successionOf 88 = .ok (.aload_n 1, 1) := by decide +kernel
theorem dX8_successionOf_89 : decode cX8_successionOf 89 = .ok (.iload_n 2, 1) := by decide +kernel
theorem dX8_successionOf_90 : decode cX8_successionOf 90 = .ok (.invokevirtual 475, 3) := by decide +kernel
theorem dX8_successionOf_93 : decode cX8_successionOf 93 = .ok (.invokespecial 448, 3) := by decide +kernel
theorem dX8_successionOf_96 : decode cX8_successionOf 96 = .ok (.areturn, 1) := by decide +kernel
theorem dX8_heirsOf_0 : decode cX8_heirsOf 0 = .ok (.iload_n 2, 1) := by decide +kernel
theorem dX8_heirsOf_1 : decode cX8_heirsOf 1 = .ok (.ifCond .eq 5, 3) := by decide +kernel
theorem dX8_heirsOf_4 : decode cX8_heirsOf 4 = .ok (.iload_n 2, 1) := by decide +kernel
theorem dX8_heirsOf_5 : decode cX8_heirsOf 5 = .ok (.ireturn, 1) := by decide +kernel
theorem dX8_heirsOf_6 : decode cX8_heirsOf 6 = .ok (.aload_n 0, 1) := by decide +kernel
theorem dX8_heirsOf_7 : decode cX8_heirsOf 7 = .ok (.aload_n 1, 1) := by decide +kernel
theorem dX8_heirsOf_8 : decode cX8_heirsOf 8 = .ok (.invokevirtual 479, 3) := by decide +kernel
theorem dX8_heirsOf_11 : decode cX8_heirsOf 11 = .ok (.istore_n 3, 1) := by decide +kernel
theorem dX8_heirsOf_12 : decode cX8_heirsOf 12 = .ok (.iload_n 3, 1) := by decide +kernel
theorem dX8_heirsOf_13 : decode cX8_heirsOf 13 = .ok (.ifCond .eq 7, 3) := by decide +kernel
theorem dX8_heirsOf_16 : decode cX8_heirsOf 16 = .ok (.iload_n 3, 1) := by decide +kernel
theorem dX8_heirsOf_17 : decode cX8_heirsOf 17 = .ok (.goto 6, 3) := by decide +kernel
theorem dX8_heirsOf_20 : decode cX8_heirsOf 20 = .ok (.sipush 4096, 3) := by decide +kernel
theorem dX8_heirsOf_23 : decode cX8_heirsOf 23 = .ok (.ireturn, 1) := by decide +kernel
theorem dX8_livingChildren_0 : decode cX8_livingChildren 0 = .ok (.iconst 0, 1) := by decide +kernel
theorem dX8_livingChildren_1 : decode cX8_livingChildren 1 = .ok (.istore_n 2, 1) := by decide +kernel
theorem dX8_livingChildren_2 : decode cX8_livingChildren 2 = .ok (.iconst 0, 1) := by decide +kernel
theorem dX8_livingChildren_3 : decode cX8_livingChildren 3 = .ok (.istore_n 3, 1) := by decide +kernel
theorem dX8_livingChildren_4 : decode cX8_livingChildren 4 = .ok (.iload_n 3, 1) := by decide +kernel
theorem dX8_livingChildren_5 : decode cX8_livingChildren 5 = .ok (.aload_n 0, 1) := by decide +kernel
theorem dX8_livingChildren_6 : decode cX8_livingChildren 6 = .ok (.getfield 12, 3) := by decide +kernel
theorem dX8_livingChildren_9 : decode cX8_livingChildren 9 = .ok (.invokevirtual 50, 3) := by decide +kernel
theorem dX8_livingChildren_12 : decode cX8_livingChildren 12 = .ok (.if_icmp .ge 49, 3) := by decide +kernel
theorem dX8_livingChildren_15 : decode cX8_livingChildren 15 = .ok (.aload_n 0, 1) := by decide +kernel
theorem dX8_livingChildren_16 : decode cX8_livingChildren 16 = .ok (.getfield 12, 3) := by decide +kernel
theorem dX8_livingChildren_19 : decode cX8_livingChildren 19 = .ok (.iload_n 3, 1) := by decide +kernel
theorem dX8_livingChildren_20 : decode cX8_livingChildren 20 = .ok (.invokevirtual 355, 3) := by decide +kernel
theorem dX8_livingChildren_23 : decode cX8_livingChildren 23 = .ok (.checkcast 59, 3) := by decide +kernel
theorem dX8_livingChildren_26 : decode cX8_livingChildren 26 = .ok (.astore 4, 2) := by decide +kernel
theorem dX8_livingChildren_28 : decode cX8_livingChildren 28 = .ok (.aload 4, 2) := by decide +kernel
theorem dX8_livingChildren_30 : decode cX8_livingChildren 30 = .ok (.getfield 96, 3) := by decide +kernel
theorem dX8_livingChildren_33 : decode cX8_livingChildren 33 = .ok (.ifCond .eq 22, 3) := by decide +kernel
theorem dX8_livingChildren_36 : decode cX8_livingChildren 36 = .ok (.aload 4, 2) := by decide +kernel
theorem dX8_livingChildren_38 : decode cX8_livingChildren 38 = .ok (.aload_n 1, 1) := by decide +kernel
theorem dX8_livingChildren_39 : decode cX8_livingChildren 39 = .ok (.invokevirtual 80, 3) := by decide +kernel
theorem dX8_livingChildren_42 : decode cX8_livingChildren 42 = .ok (.ifCond .eq 13, 3) := by decide +kernel
theorem dX8_livingChildren_45 : decode cX8_livingChildren 45 = .ok (.iload_n 2, 1) := by decide +kernel
theorem dX8_livingChildren_46 : decode cX8_livingChildren 46 = .ok (.iconst 1, 1) := by decide +kernel
theorem dX8_livingChildren_47 : decode cX8_livingChildren 47 = .ok (.aload 4, 2) := by decide +kernel
theorem dX8_livingChildren_49 : decode cX8_livingChildren 49 = .ok (.getfield 68, 3) := by decide +kernel
theorem dX8_livingChildren_52 : decode cX8_livingChildren 52 = .ok (.ishl, 1) := by decide +kernel
theorem dX8_livingChildren_53 : decode cX8_livingChildren 53 = .ok (.ior, 1) := by decide +kernel
theorem dX8_livingChildren_54 : decode cX8_livingChildren 54 = .ok (.istore_n 2, 1) := by decide +kernel
theorem dX8_livingChildren_55 : decode cX8_livingChildren 55 = .ok (.iinc 3 1, 3) := by decide +kernel
theorem dX8_livingChildren_58 : decode cX8_livingChildren 58 = .ok (.goto (-54), 3) := by decide +kernel
theorem dX8_livingChildren_61 : decode cX8_livingChildren 61 = .ok (.iload_n 2, 1) := by decide +kernel
theorem dX8_livingChildren_62 : decode cX8_livingChildren 62 = .ok (.ireturn, 1) := by decide +kernel
theorem dX8_livingParents_0 : decode cX8_livingParents 0 = .ok (.iconst 0, 1) := by decide +kernel
theorem dX8_livingParents_1 : decode cX8_livingParents 1 = .ok (.istore_n 2, 1) := by decide +kernel
theorem dX8_livingParents_2 : decode cX8_livingParents 2 = .ok (.iconst 0, 1) := by decide +kernel
theorem dX8_livingParents_3 : decode cX8_livingParents 3 = .ok (.istore_n 3, 1) := by decide +kernel
theorem dX8_livingParents_4 : decode cX8_livingParents 4 = .ok (.iload_n 3, 1) := by decide +kernel
theorem dX8_livingParents_5 : decode cX8_livingParents 5 = .ok (.aload_n 0, 1) := by decide +kernel
theorem dX8_livingParents_6 : decode cX8_livingParents 6 = .ok (.getfield 12, 3) := by decide +kernel
theorem dX8_livingParents_9 : decode cX8_livingParents 9 = .ok (.invokevirtual 50, 3) := by decide +kernel
theorem dX8_livingParents_12 : decode cX8_livingParents 12 = .ok (.if_icmp .ge 49, 3) := by decide +kernel
theorem dX8_livingParents_15 : decode cX8_livingParents 15 = .ok (.aload_n 0, 1) := by decide +kernel
theorem dX8_livingParents_16 : decode cX8_livingParents 16 = .ok (.getfield 12, 3) := by decide +kernel
theorem dX8_livingParents_19 : decode cX8_livingParents 19 = .ok (.iload_n 3, 1) := by decide +kernel
theorem dX8_livingParents_20 : decode cX8_livingParents 20 = .ok (.invokevirtual 355, 3) := by decide +kernel
theorem dX8_livingParents_23 : decode cX8_livingParents 23 = .ok (.checkcast 59, 3) := by decide +kernel
theorem dX8_livingParents_26 : decode cX8_livingParents 26 = .ok (.astore 4, 2) := by decide +kernel
theorem dX8_livingParents_28 : decode cX8_livingParents 28 = .ok (.aload 4, 2) := by decide +kernel
theorem dX8_livingParents_30 : decode cX8_livingParents 30 = .ok (.getfield 96, 3) := by decide +kernel
theorem dX8_livingParents_33 : decode cX8_livingParents 33 = .ok (.ifCond .eq 22, 3) := by decide +kernel
theorem dX8_livingParents_36 : decode cX8_livingParents 36 = .ok (.aload_n 1, 1) := by decide +kernel
theorem dX8_livingParents_37 : decode cX8_livingParents 37 = .ok (.aload 4, 2) := by decide +kernel
theorem dX8_livingParents_39 : decode cX8_livingParents 39 = .ok (.invokevirtual 80, 3) := by decide +kernel
theorem dX8_livingParents_42 : decode cX8_livingParents 42 = .ok (.ifCond .eq 13, 3) := by decide +kernel
theorem dX8_livingParents_45 : decode cX8_livingParents 45 = .ok (.iload_n 2, 1) := by decide +kernel
theorem dX8_livingParents_46 : decode cX8_livingParents 46 = .ok (.iconst 1, 1) := by decide +kernel
theorem dX8_livingParents_47 : decode cX8_livingParents 47 = .ok (.aload 4, 2) := by decide +kernel
theorem dX8_livingParents_49 : decode cX8_livingParents 49 = .ok (.getfield 68, 3) := by decide +kernel
theorem dX8_livingParents_52 : decode cX8_livingParents 52 = .ok (.ishl, 1) := by decide +kernel
theorem dX8_livingParents_53 : decode cX8_livingParents 53 = .ok (.ior, 1) := by decide +kernel
theorem dX8_livingParents_54 : decode cX8_livingParents 54 = .ok (.istore_n 2, 1) := by decide +kernel
theorem dX8_livingParents_55 : decode cX8_livingParents 55 = .ok (.iinc 3 1, 3) := by decide +kernel
theorem dX8_livingParents_58 : decode cX8_livingParents 58 = .ok (.goto (-54), 3) := by decide +kernel
theorem dX8_livingParents_61 : decode cX8_livingParents 61 = .ok (.iload_n 2, 1) := by decide +kernel
theorem dX8_livingParents_62 : decode cX8_livingParents 62 = .ok (.ireturn, 1) := by decide +kernel
theorem dX8_countingWill_0 : decode cX8_countingWill 0 = .ok (.aconst_null, 1) := by decide +kernel
theorem dX8_countingWill_1 : decode cX8_countingWill 1 = .ok (.astore_n 2, 1) := by decide +kernel
theorem dX8_countingWill_2 : decode cX8_countingWill 2 = .ok (.iconst 0, 1) := by decide +kernel
theorem dX8_countingWill_3 : decode cX8_countingWill 3 = .ok (.istore_n 3, 1) := by decide +kernel
theorem dX8_countingWill_4 : decode cX8_countingWill 4 = .ok (.iload_n 3, 1) := by decide +kernel
theorem dX8_countingWill_5 : decode cX8_countingWill 5 = .ok (.aload_n 0, 1) := by decide +kernel
theorem dX8_countingWill_6 : decode cX8_countingWill 6 = .ok (.getfield 19, 3) := by decide +kernel
theorem dX8_countingWill_9 : decode cX8_countingWill 9 = .ok (.invokevirtual 50, 3) := by decide +kernel
theorem dX8_countingWill_12 : decode cX8_countingWill 12 = .ok (.if_icmp .ge 47, 3) := by decide +kernel
theorem dX8_countingWill_15 : decode cX8_countingWill 15 = .ok (.aload_n 0, 1) := by decide +kernel
theorem dX8_countingWill_16 : decode cX8_countingWill 16 = .ok (.getfield 19, 3) := by decide +kernel
theorem dX8_countingWill_19 : decode cX8_countingWill 19 = .ok (.iload_n 3, 1) := by decide +kernel
theorem dX8_countingWill_20 : decode cX8_countingWill 20 = .ok (.invokevirtual 355, 3) := by decide +kernel
theorem dX8_countingWill_23 : decode cX8_countingWill 23 = .ok (.checkcast 137, 3) := by decide +kernel
theorem dX8_countingWill_26 : decode cX8_countingWill 26 = .ok (.astore 4, 2) := by decide +kernel
theorem dX8_countingWill_28 : decode cX8_countingWill 28 = .ok (.aload 4, 2) := by decide +kernel
theorem dX8_countingWill_30 : decode cX8_countingWill 30 = .ok (.aload_n 1, 1) := by decide +kernel
theorem dX8_countingWill_31 : decode cX8_countingWill 31 = .ok (.invokestatic 482, 3) := by decide +kernel
theorem dX8_countingWill_34 : decode cX8_countingWill 34 = .ok (.ifCond .eq 19, 3) := by decide +kernel
theorem dX8_countingWill_37 : decode cX8_countingWill 37 = .ok (.aload_n 2, 1) := by decide +kernel
theorem dX8_countingWill_38 : decode cX8_countingWill 38 = .ok (.ifnull 12, 3) := by decide +kernel
theorem dX8_countingWill_41 : decode cX8_countingWill 41 = .ok (.aload 4, 2) := by decide +kernel
theorem dX8_countingWill_43 : decode cX8_countingWill 43 = .ok (.aload_n 2, 1) := by decide +kernel
theorem dX8_countingWill_44 : decode cX8_countingWill 44 = .ok (.invokestatic 485, 3) := by decide +kernel
theorem dX8_countingWill_47 : decode cX8_countingWill 47 = .ok (.ifCond .eq 6, 3) := by decide +kernel
theorem dX8_countingWill_50 : decode cX8_countingWill 50 = .ok (.aload 4, 2) := by decide +kernel
theorem dX8_countingWill_52 : decode cX8_countingWill 52 = .ok (.astore_n 2, 1) := by decide +kernel
theorem dX8_countingWill_53 : decode cX8_countingWill 53 = .ok (.iinc 3 1, 3) := by decide +kernel
theorem dX8_countingWill_56 : decode cX8_countingWill 56 = .ok (.goto (-52), 3) := by decide +kernel
theorem dX8_countingWill_59 : decode cX8_countingWill 59 = .ok (.aload_n 2, 1) := by decide +kernel
theorem dX8_countingWill_60 : decode cX8_countingWill 60 = .ok (.areturn, 1) := by decide +kernel
theorem dX8_isStandingWillOf_0 : decode cX8_isStandingWillOf 0 = .ok (.aload_n 0, 1) := by decide +kernel
theorem dX8_isStandingWillOf_1 : decode cX8_isStandingWillOf 1 = .ok (.getfield 236, 3) := by decide +kernel
theorem dX8_isStandingWillOf_4 : decode cX8_isStandingWillOf 4 = .ok (.iconst 4, 1) := by decide +kernel
theorem dX8_isStandingWillOf_5 : decode cX8_isStandingWillOf 5 = .ok (.if_icmp .ne 41, 3) := by decide +kernel
theorem dX8_isStandingWillOf_8 : decode cX8_isStandingWillOf 8 = .ok (.aload_n 0, 1) := by decide +kernel
theorem dX8_isStandingWillOf_9 : decode cX8_isStandingWillOf 9 = .ok (.getfield 206, 3) := by decide +kernel
theorem dX8_isStandingWillOf_12 : decode cX8_isStandingWillOf 12 = .ok (.aload_n 1, 1) := by decide +kernel
theorem dX8_isStandingWillOf_13 : decode cX8_isStandingWillOf 13 = .ok (.if_acmp .ne 33, 3) := by decide +kernel
theorem dX8_isStandingWillOf_16 : decode cX8_isStandingWillOf 16 = .ok (.aload_n 0, 1) := by decide +kernel
theorem dX8_isStandingWillOf_17 : decode cX8_isStandingWillOf 17 = .ok (.getfield 209, 3) := by decide +kernel
theorem dX8_isStandingWillOf_20 : decode cX8_isStandingWillOf 20 = .ok (.getfield 96, 3) := by decide +kernel
theorem dX8_isStandingWillOf_23 : decode cX8_isStandingWillOf 23 = .ok (.ifCond .eq 23, 3) := by decide +kernel
theorem dX8_isStandingWillOf_26 : decode cX8_isStandingWillOf 26 = .ok (.aload_n 0, 1) := by decide +kernel
theorem dX8_isStandingWillOf_27 : decode cX8_isStandingWillOf 27 = .ok (.getfield 221, 3) := by decide +kernel
theorem dX8_isStandingWillOf_30 : decode cX8_isStandingWillOf 30 = .ok (.iconst 1, 1) := by decide +kernel
theorem dX8_isStandingWillOf_31 : decode cX8_isStandingWillOf 31 = .ok (.if_icmp .eq 11, 3) := by decide +kernel
theorem dX8_isStandingWillOf_34 : decode cX8_isStandingWillOf 34 = .ok (.aload_n 0, 1) := by decide +kernel
theorem dX8_isStandingWillOf_35 : decode cX8_isStandingWillOf 35 = .ok (.getfield 221, 3) := by decide +kernel
theorem dX8_isStandingWillOf_38 : decode cX8_isStandingWillOf 38 = .ok (.iconst 2, 1) := by decide +kernel
theorem dX8_isStandingWillOf_39 : decode cX8_isStandingWillOf 39 = .ok (.if_icmp .ne 7, 3) := by decide +kernel
theorem dX8_isStandingWillOf_42 : decode cX8_isStandingWillOf 42 = .ok (.iconst 1, 1) := by decide +kernel
theorem dX8_isStandingWillOf_43 : decode cX8_isStandingWillOf 43 = .ok (.goto 4, 3) := by decide +kernel
theorem dX8_isStandingWillOf_46 : decode cX8_isStandingWillOf 46 = .ok (.iconst 0, 1) := by decide +kernel
theorem dX8_isStandingWillOf_47 : decode cX8_isStandingWillOf 47 = .ok (.ireturn, 1) := by decide +kernel
theorem dX8_goesBefore_0 : decode cX8_goesBefore 0 = .ok (.aload_n 0, 1) := by decide +kernel
theorem dX8_goesBefore_1 : decode cX8_goesBefore 1 = .ok (.getfield 221, 3) := by decide +kernel
theorem dX8_goesBefore_4 : decode cX8_goesBefore 4 = .ok (.aload_n 1, 1) := by decide +kernel
theorem dX8_goesBefore_5 : decode cX8_goesBefore 5 = .ok (.getfield 221, 3) := by decide +kernel
theorem dX8_goesBefore_8 : decode cX8_goesBefore 8 = .ok (.if_icmp .eq 17, 3) := by decide +kernel
theorem dX8_goesBefore_11 : decode cX8_goesBefore 11 = .ok (.aload_n 0, 1) := by decide +kernel
theorem dX8_goesBefore_12 : decode cX8_goesBefore 12 = .ok (.getfield 221, 3) := by decide +kernel
theorem dX8_goesBefore_15 : decode cX8_goesBefore 15 = .ok (.iconst 1, 1) := by decide +kernel
theorem dX8_goesBefore_16 : decode cX8_goesBefore 16 = .ok (.if_icmp .ne 7, 3) := by decide +kernel
theorem dX8_goesBefore_19 : decode cX8_goesBefore 19 = .ok (.iconst 1, 1) := by decide +kernel
theorem dX8_goesBefore_20 : decode cX8_goesBefore 20 = .ok (.goto 4, 3) := by decide +kernel
theorem dX8_goesBefore_23 : decode cX8_goesBefore 23 = .ok (.iconst 0, 1) := by decide +kernel
theorem dX8_goesBefore_24 : decode cX8_goesBefore 24 = .ok (.ireturn, 1) := by decide +kernel
theorem dX8_goesBefore_25 : decode cX8_goesBefore 25 = .ok (.aload_n 0, 1) := by decide +kernel
theorem dX8_goesBefore_26 : decode cX8_goesBefore 26 = .ok (.getfield 212, 3) := by decide +kernel
theorem dX8_goesBefore_29 : decode cX8_goesBefore 29 = .ok (.aload_n 1, 1) := by decide +kernel
theorem dX8_goesBefore_30 : decode cX8_goesBefore 30 = .ok (.getfield 212, 3) := by decide +kernel
theorem dX8_goesBefore_33 : decode cX8_goesBefore 33 = .ok (.if_icmp .le 7, 3) := by decide +kernel
theorem dX8_goesBefore_36 : decode cX8_goesBefore 36 = .ok (.iconst 1, 1) := by decide +kernel
theorem dX8_goesBefore_37 : decode cX8_goesBefore 37 = .ok (.goto 4, 3) := by decide +kernel
theorem dX8_goesBefore_40 : decode cX8_goesBefore 40 = .ok (.iconst 0, 1) := by decide +kernel
theorem dX8_goesBefore_41 : decode cX8_goesBefore 41 = .ok (.ireturn, 1) := by decide +kernel
theorem dJ5_init_d00df_0 : decode cJ5_init_d00df 0 = .ok (.aload_n 0, 1) := by decide +kernel
theorem dJ5_init_d00df_1 : decode cJ5_init_d00df 1 = .ok (.invokespecial 3, 3) := by decide +kernel
theorem dJ5_init_d00df_4 : decode cJ5_init_d00df 4 = .ok (.getstatic 18, 3) := by decide +kernel
theorem dJ5_init_d00df_7 : decode cJ5_init_d00df 7 = .ok (.ifCond .eq 18, 3) := by decide +kernel
theorem dJ5_init_d00df_10 : decode cJ5_init_d00df 10 = .ok (.aload_n 0, 1) := by decide +kernel
theorem dJ5_init_d00df_11 : decode cJ5_init_d00df 11 = .ok (.iload_n 1, 1) := by decide +kernel
theorem dJ5_init_d00df_12 : decode cJ5_init_d00df 12 = .ok (.newarray .byte, 2) := by decide +kernel
theorem dJ5_init_d00df_14 : decode cJ5_init_d00df 14 = .ok (.putfield 15, 3) := by decide +kernel
theorem dJ5_init_d00df_17 : decode cJ5_init_d00df 17 = .ok (.aload_n 0, 1) := by decide +kernel
theorem dJ5_init_d00df_18 : decode cJ5_init_d00df 18 = .ok (.iconst 0, 1) := by decide +kernel
theorem dJ5_init_d00df_19 : decode cJ5_init_d00df 19 = .ok (.putfield 22, 3) := by decide +kernel
theorem dJ5_init_d00df_22 : decode cJ5_init_d00df 22 = .ok (.goto 16, 3) := by decide +kernel
theorem dJ5_init_d00df_25 : decode cJ5_init_d00df 25 = .ok (.aload_n 0, 1) := by decide +kernel
theorem dJ5_init_d00df_26 : decode cJ5_init_d00df 26 = .ok (.iload_n 1, 1) := by decide +kernel
theorem dJ5_init_d00df_27 : decode cJ5_init_d00df 27 = .ok (.invokestatic 26, 3) := by decide +kernel
theorem dJ5_init_d00df_30 : decode cJ5_init_d00df 30 = .ok (.putfield 15, 3) := by decide +kernel
theorem dJ5_init_d00df_33 : decode cJ5_init_d00df 33 = .ok (.aload_n 0, 1) := by decide +kernel
theorem dJ5_init_d00df_34 : decode cJ5_init_d00df 34 = .ok (.iconst 1, 1) := by decide +kernel
theorem dJ5_init_d00df_35 : decode cJ5_init_d00df 35 = .ok (.putfield 22, 3) := by decide +kernel
theorem dJ5_init_d00df_38 : decode cJ5_init_d00df 38 = .ok (.return_, 1) := by decide +kernel
theorem dJ5_length_8abf5_0 : decode cJ5_length_8abf5 0 = .ok (.aload_n 0, 1) := by decide +kernel
theorem dJ5_length_8abf5_1 : decode cJ5_length_8abf5 1 = .ok (.getfield 79, 3) := by decide +kernel
theorem dJ5_length_8abf5_4 : decode cJ5_length_8abf5 4 = .ok (.ireturn, 1) := by decide +kernel
theorem dJ5_ensureCapacityInternal_d00df_0 : decode cJ5_ensureCapacityInternal_d00df 0 = .ok (.aload_n 0, 1) := by decide +kernel
theorem dJ5_ensureCapacityInternal_d00df_1 : decode cJ5_ensureCapacityInternal_d00df 1 = .ok (.getfield 15, 3) := by decide +kernel
theorem dJ5_ensureCapacityInternal_d00df_4 : decode cJ5_ensureCapacityInternal_d00df 4 = .ok (.arraylength, 1) := by decide +kernel
theorem dJ5_ensureCapacityInternal_d00df_5 : decode cJ5_ensureCapacityInternal_d00df 5 = .ok (.aload_n 0, 1) := by decide +kernel
theorem dJ5_ensureCapacityInternal_d00df_6 : decode cJ5_ensureCapacityInternal_d00df 6 = .ok (.getfield 22, 3) := by decide +kernel
theorem dJ5_ensureCapacityInternal_d00df_9 : decode cJ5_ensureCapacityInternal_d00df 9 = .ok (.ishr, 1) := by decide +kernel
theorem dJ5_ensureCapacityInternal_d00df_10 : decode cJ5_ensureCapacityInternal_d00df 10 = .ok (.istore_n 2, 1) := by decide +kernel
theorem dJ5_ensureCapacityInternal_d00df_11 : decode cJ5_ensureCapacityInternal_d00df 11 = .ok (.iload_n 1, 1) := by decide +kernel
theorem dJ5_ensureCapacityInternal_d00df_12 : decode cJ5_ensureCapacityInternal_d00df 12 = .ok (.iload_n 2, 1) := by decide +kernel
theorem dJ5_ensureCapacityInternal_d00df_13 : decode cJ5_ensureCapacityInternal_d00df 13 = .ok (.isub, 1) := by decide +kernel
theorem dJ5_ensureCapacityInternal_d00df_14 : decode cJ5_ensureCapacityInternal_d00df 14 = .ok (.ifCond .le 24, 3) := by decide +kernel
theorem dJ5_ensureCapacityInternal_d00df_17 : decode cJ5_ensureCapacityInternal_d00df 17 = .ok (.aload_n 0, 1) := by decide +kernel
theorem dJ5_ensureCapacityInternal_d00df_18 : decode cJ5_ensureCapacityInternal_d00df 18 = .ok (.aload_n 0, 1) := by decide +kernel
theorem dJ5_ensureCapacityInternal_d00df_19 : decode cJ5_ensureCapacityInternal_d00df 19 = .ok (.getfield 15, 3) := by decide +kernel
theorem dJ5_ensureCapacityInternal_d00df_22 : decode cJ5_ensureCapacityInternal_d00df 22 = .ok (.aload_n 0, 1) := by decide +kernel
theorem dJ5_ensureCapacityInternal_d00df_23 : decode cJ5_ensureCapacityInternal_d00df 23 = .ok (.iload_n 1, 1) := by decide +kernel
theorem dJ5_ensureCapacityInternal_d00df_24 : decode cJ5_ensureCapacityInternal_d00df 24 = .ok (.invokevirtual 104, 3) := by decide +kernel
theorem dJ5_ensureCapacityInternal_d00df_27 : decode cJ5_ensureCapacityInternal_d00df 27 = .ok (.aload_n 0, 1) := by decide +kernel
theorem dJ5_ensureCapacityInternal_d00df_28 : decode cJ5_ensureCapacityInternal_d00df 28 = .ok (.getfield 22, 3) := by decide +kernel
theorem dJ5_ensureCapacityInternal_d00df_31 : decode cJ5_ensureCapacityInternal_d00df 31 = .ok (.ishl, 1) := by decide +kernel
theorem dJ5_ensureCapacityInternal_d00df_32 : decode cJ5_ensureCapacityInternal_d00df 32 = .ok (.invokestatic 108, 3) := by decide +kernel
theorem dJ5_ensureCapacityInternal_d00df_35 : decode cJ5_ensureCapacityInternal_d00df 35 = .ok (.putfield 15, 3) := by decide +kernel
theorem dJ5_ensureCapacityInternal_d00df_38 : decode cJ5_ensureCapacityInternal_d00df 38 = .ok (.return_, 1) := by decide +kernel
theorem dJ5_newCapacity_0f7a4_0 : decode cJ5_newCapacity_0f7a4 0 = .ok (.aload_n 0, 1) := by decide +kernel
theorem dJ5_newCapacity_0f7a4_1 : decode cJ5_newCapacity_0f7a4 1 = .ok (.getfield 15, 3) := by decide +kernel
theorem dJ5_newCapacity_0f7a4_4 : decode cJ5_newCapacity_0f7a4 4 = .ok (.arraylength, 1) := by decide +kernel
theorem dJ5_newCapacity_0f7a4_5 : decode cJ5_newCapacity_0f7a4 5 = .ok (.istore_n 2, 1) := by decide +kernel
theorem dJ5_newCapacity_0f7a4_6 : decode cJ5_newCapacity_0f7a4 6 = .ok (.iload_n 1, 1) := by decide +kernel
theorem dJ5_newCapacity_0f7a4_7 : decode cJ5_newCapacity_0f7a4 7 = .ok (.aload_n 0, 1) := by decide +kernel
theorem dJ5_newCapacity_0f7a4_8 : decode cJ5_newCapacity_0f7a4 8 = .ok (.getfield 22, 3) := by decide +kernel
theorem dJ5_newCapacity_0f7a4_11 : decode cJ5_newCapacity_0f7a4 11 = .ok (.ishl, 1) := by decide +kernel
theorem dJ5_newCapacity_0f7a4_12 : decode cJ5_newCapacity_0f7a4 12 = .ok (.istore_n 3, 1) := by decide +kernel
theorem dJ5_newCapacity_0f7a4_13 : decode cJ5_newCapacity_0f7a4 13 = .ok (.iload_n 3, 1) := by decide +kernel
theorem dJ5_newCapacity_0f7a4_14 : decode cJ5_newCapacity_0f7a4 14 = .ok (.iload_n 2, 1) := by decide +kernel
theorem dJ5_newCapacity_0f7a4_15 : decode cJ5_newCapacity_0f7a4 15 = .ok (.isub, 1) := by decide +kernel
theorem dJ5_newCapacity_0f7a4_16 : decode cJ5_newCapacity_0f7a4 16 = .ok (.istore 4, 2) := by decide +kernel
theorem dJ5_newCapacity_0f7a4_18 : decode cJ5_newCapacity_0f7a4 18 = .ok (.iload_n 2, 1) := by decide +kernel
theorem dJ5_newCapacity_0f7a4_19 : decode cJ5_newCapacity_0f7a4 19 = .ok (.iload 4, 2) := by decide +kernel
theorem dJ5_newCapacity_0f7a4_21 : decode cJ5_newCapacity_0f7a4 21 = .ok (.iload_n 2, 1) := by decide +kernel
theorem dJ5_newCapacity_0f7a4_22 : decode cJ5_newCapacity_0f7a4 22 = .ok (.iconst 2, 1) := by decide +kernel
theorem dJ5_newCapacity_0f7a4_23 : decode cJ5_newCapacity_0f7a4 23 = .ok (.aload_n 0, 1) := by decide +kernel
theorem dJ5_newCapacity_0f7a4_24 : decode cJ5_newCapacity_0f7a4 24 = .ok (.getfield 22, 3) := by decide +kernel
theorem dJ5_newCapacity_0f7a4_27 : decode cJ5_newCapacity_0f7a4 27 = .ok (.ishl, 1) := by decide +kernel
theorem dJ5_newCapacity_0f7a4_28 : decode cJ5_newCapacity_0f7a4 28 = .ok (.iadd, 1) := by decide +kernel
theorem dJ5_newCapacity_0f7a4_29 : decode cJ5_newCapacity_0f7a4 29 = .ok (.invokestatic 114, 3) := by decide +kernel
theorem dJ5_newCapacity_0f7a4_32 : decode cJ5_newCapacity_0f7a4 32 = .ok (.istore 5, 2) := by decide +kernel
theorem dJ5_newCapacity_0f7a4_34 : decode cJ5_newCapacity_0f7a4 34 = .ok (.iload 5, 2) := by decide +kernel
theorem dJ5_newCapacity_0f7a4_36 : decode cJ5_newCapacity_0f7a4 36 = .ok (.ldc 39, 2) := by decide +kernel
theorem dJ5_newCapacity_0f7a4_38 : decode cJ5_newCapacity_0f7a4 38 = .ok (.if_icmp .ne 13, 3) := by decide +kernel
theorem dJ5_newCapacity_0f7a4_41 : decode cJ5_newCapacity_0f7a4 41 = .ok (.new 120, 3) := by decide +kernel
theorem dJ5_newCapacity_0f7a4_44 : decode cJ5_newCapacity_0f7a4 44 = .ok (.dup, 1) := by decide +kernel
theorem dJ5_newCapacity_0f7a4_45 : decode cJ5_newCapacity_0f7a4 45 = .ok (.ldc 122, 2) := by decide +kernel
theorem dJ5_newCapacity_0f7a4_47 : decode cJ5_newCapacity_0f7a4 47 = .ok (.invokespecial 124, 3) := by decide +kernel
theorem dJ5_newCapacity_0f7a4_50 : decode cJ5_newCapacity_0f7a4 50 = .ok (.athrow, 1) := by decide +kernel
theorem dJ5_newCapacity_0f7a4_51 : decode cJ5_newCapacity_0f7a4 51 = .ok (.iload 5, 2) := by decide +kernel
theorem dJ5_newCapacity_0f7a4_53 : decode cJ5_newCapacity_0f7a4 53 = .ok (.aload_n 0, 1) := by decide +kernel
theorem dJ5_newCapacity_0f7a4_54 : decode cJ5_newCapacity_0f7a4 54 = .ok (.getfield 22, 3) := by decide +kernel
theorem dJ5_newCapacity_0f7a4_57 : decode cJ5_newCapacity_0f7a4 57 = .ok (.ishr, 1) := by decide +kernel
theorem dJ5_newCapacity_0f7a4_58 : decode cJ5_newCapacity_0f7a4 58 = .ok (.ireturn, 1) := by decide +kernel
theorem dJ5_inflate_da8c8_0 : decode cJ5_inflate_da8c8 0 = .ok (.aload_n 0, 1) := by decide +kernel
theorem dJ5_inflate_da8c8_1 : decode cJ5_inflate_da8c8 1 = .ok (.invokevirtual 83, 3) := by decide +kernel
theorem dJ5_inflate_da8c8_4 : decode cJ5_inflate_da8c8 4 = .ok (.ifCond .ne 4, 3) := by decide +kernel
theorem dJ5_inflate_da8c8_7 : decode cJ5_inflate_da8c8 7 = .ok (.return_, 1) := by decide +kernel
theorem dJ5_inflate_da8c8_8 : decode cJ5_inflate_da8c8 8 = .ok (.aload_n 0, 1) := by decide +kernel
theorem dJ5_inflate_da8c8_9 : decode cJ5_inflate_da8c8 9 = .ok (.getfield 15, 3) := by decide +kernel
theorem dJ5_inflate_da8c8_12 : decode cJ5_inflate_da8c8 12 = .ok (.arraylength, 1) := by decide +kernel
theorem dJ5_inflate_da8c8_13 : decode cJ5_inflate_da8c8 13 = .ok (.invokestatic 26, 3) := by decide +kernel
theorem dJ5_inflate_da8c8_16 : decode cJ5_inflate_da8c8 16 = .ok (.astore_n 1, 1) := by decide +kernel
theorem dJ5_inflate_da8c8_17 : decode cJ5_inflate_da8c8 17 = .ok (.aload_n 0, 1) := by decide +kernel
theorem dJ5_inflate_da8c8_18 : decode cJ5_inflate_da8c8 18 = .ok (.getfield 15, 3) := by decide +kernel
theorem dJ5_inflate_da8c8_21 : decode cJ5_inflate_da8c8 21 = .ok (.iconst 0, 1) := by decide +kernel
theorem dJ5_inflate_da8c8_22 : decode cJ5_inflate_da8c8 22 = .ok (.aload_n 1, 1) := by decide +kernel
theorem dJ5_inflate_da8c8_23 : decode cJ5_inflate_da8c8 23 = .ok (.iconst 0, 1) := by decide +kernel
theorem dJ5_inflate_da8c8_24 : decode cJ5_inflate_da8c8 24 = .ok (.aload_n 0, 1) := by decide +kernel
theorem dJ5_inflate_da8c8_25 : decode cJ5_inflate_da8c8 25 = .ok (.getfield 79, 3) := by decide +kernel
theorem dJ5_inflate_da8c8_28 : decode cJ5_inflate_da8c8 28 = .ok (.invokestatic 125, 3) := by decide +kernel
theorem dJ5_inflate_da8c8_31 : decode cJ5_inflate_da8c8 31 = .ok (.aload_n 0, 1) := by decide +kernel
theorem dJ5_inflate_da8c8_32 : decode cJ5_inflate_da8c8 32 = .ok (.aload_n 1, 1) := by decide +kernel
theorem dJ5_inflate_da8c8_33 : decode cJ5_inflate_da8c8 33 = .ok (.putfield 15, 3) := by decide +kernel
theorem dJ5_inflate_da8c8_36 : decode cJ5_inflate_da8c8 36 = .ok (.aload_n 0, 1) := by decide +kernel
theorem dJ5_inflate_da8c8_37 : decode cJ5_inflate_da8c8 37 = .ok (.iconst 1, 1) := by decide +kernel
theorem dJ5_inflate_da8c8_38 : decode cJ5_inflate_da8c8 38 = .ok (.putfield 22, 3) := by decide +kernel
theorem dJ5_inflate_da8c8_41 : decode cJ5_inflate_da8c8 41 = .ok (.return_, 1) := by decide +kernel
theorem dJ5_charAt_5068e_0 : decode cJ5_charAt_5068e 0 = .ok (.aload_n 0, 1) := by decide +kernel
theorem dJ5_charAt_5068e_1 : decode cJ5_charAt_5068e 1 = .ok (.getfield 22, 3) := by decide +kernel
theorem dJ5_charAt_5068e_4 : decode cJ5_charAt_5068e 4 = .ok (.istore_n 2, 1) := by decide +kernel
theorem dJ5_charAt_5068e_5 : decode cJ5_charAt_5068e 5 = .ok (.aload_n 0, 1) := by decide +kernel
theorem dJ5_charAt_5068e_6 : decode cJ5_charAt_5068e 6 = .ok (.getfield 15, 3) := by decide +kernel
theorem dJ5_charAt_5068e_9 : decode cJ5_charAt_5068e 9 = .ok (.astore_n 3, 1) := by decide +kernel
theorem dJ5_charAt_5068e_10 : decode cJ5_charAt_5068e 10 = .ok (.aload_n 0, 1) := by decide +kernel
theorem dJ5_charAt_5068e_11 : decode cJ5_charAt_5068e 11 = .ok (.getfield 79, 3) := by decide +kernel
theorem dJ5_charAt_5068e_14 : decode cJ5_charAt_5068e 14 = .ok (.aload_n 3, 1) := by decide +kernel
theorem dJ5_charAt_5068e_15 : decode cJ5_charAt_5068e 15 = .ok (.arraylength, 1) := by decide +kernel
theorem dJ5_charAt_5068e_16 : decode cJ5_charAt_5068e 16 = .ok (.iload_n 2, 1) := by decide +kernel
theorem dJ5_charAt_5068e_17 : decode cJ5_charAt_5068e 17 = .ok (.ishr, 1) := by decide +kernel
theorem dJ5_charAt_5068e_18 : decode cJ5_charAt_5068e 18 = .ok (.invokestatic 138, 3) := by decide +kernel
theorem dJ5_charAt_5068e_21 : decode cJ5_charAt_5068e 21 = .ok (.istore 4, 2) := by decide +kernel
theorem dJ5_charAt_5068e_23 : decode cJ5_charAt_5068e 23 = .ok (.iload_n 1, 1) := by decide +kernel
theorem dJ5_charAt_5068e_24 : decode cJ5_charAt_5068e 24 = .ok (.iload 4, 2) := by decide +kernel
theorem dJ5_charAt_5068e_26 : decode cJ5_charAt_5068e 26 = .ok (.invokestatic 144, 3) := by decide +kernel
theorem dJ5_charAt_5068e_29 : decode cJ5_charAt_5068e 29 = .ok (.iload_n 2, 1) := by decide +kernel
theorem dJ5_charAt_5068e_30 : decode cJ5_charAt_5068e 30 = .ok (.ifCond .ne 12, 3) := by decide +kernel
theorem dJ5_charAt_5068e_33 : decode cJ5_charAt_5068e 33 = .ok (.aload_n 3, 1) := by decide +kernel
theorem dJ5_charAt_5068e_34 : decode cJ5_charAt_5068e 34 = .ok (.iload_n 1, 1) := by decide +kernel
theorem dJ5_charAt_5068e_35 : decode cJ5_charAt_5068e 35 = .ok (.baload, 1) := by decide +kernel
theorem dJ5_charAt_5068e_36 : decode cJ5_charAt_5068e 36 = .ok (.sipush 255, 3) := by decide +kernel
theorem dJ5_charAt_5068e_39 : decode cJ5_charAt_5068e 39 = .ok (.iand, 1) := by decide +kernel
theorem dJ5_charAt_5068e_40 : decode cJ5_charAt_5068e 40 = .ok (.i2c, 1) := by decide +kernel
theorem dJ5_charAt_5068e_41 : decode cJ5_charAt_5068e 41 = .ok (.ireturn, 1) := by decide +kernel
theorem dJ5_charAt_5068e_42 : decode cJ5_charAt_5068e 42 = .ok (.aload_n 3, 1) := by decide +kernel
theorem dJ5_charAt_5068e_43 : decode cJ5_charAt_5068e 43 = .ok (.iload_n 1, 1) := by decide +kernel
theorem dJ5_charAt_5068e_44 : decode cJ5_charAt_5068e 44 = .ok (.invokestatic 148, 3) := by decide +kernel
theorem dJ5_charAt_5068e_47 : decode cJ5_charAt_5068e 47 = .ok (.ireturn, 1) := by decide +kernel
theorem dJ5_append_3fe6f_0 : decode cJ5_append_3fe6f 0 = .ok (.aload_n 0, 1) := by decide +kernel
theorem dJ5_append_3fe6f_1 : decode cJ5_append_3fe6f 1 = .ok (.aload_n 0, 1) := by decide +kernel
theorem dJ5_append_3fe6f_2 : decode cJ5_append_3fe6f 2 = .ok (.getfield 79, 3) := by decide +kernel
theorem dJ5_append_3fe6f_5 : decode cJ5_append_3fe6f 5 = .ok (.iconst 1, 1) := by decide +kernel
theorem dJ5_append_3fe6f_6 : decode cJ5_append_3fe6f 6 = .ok (.iadd, 1) := by decide +kernel
theorem dJ5_append_3fe6f_7 : decode cJ5_append_3fe6f 7 = .ok (.invokevirtual 100, 3) := by decide +kernel
theorem dJ5_append_3fe6f_10 : decode cJ5_append_3fe6f 10 = .ok (.aload_n 0, 1) := by decide +kernel
theorem dJ5_append_3fe6f_11 : decode cJ5_append_3fe6f 11 = .ok (.invokevirtual 83, 3) := by decide +kernel
theorem dJ5_append_3fe6f_14 : decode cJ5_append_3fe6f 14 = .ok (.ifCond .eq 31, 3) := by decide +kernel
theorem dJ5_append_3fe6f_17 : decode cJ5_append_3fe6f 17 = .ok (.iload_n 1, 1) := by decide +kernel
theorem dJ5_append_3fe6f_18 : decode cJ5_append_3fe6f 18 = .ok (.invokestatic 191, 3) := by decide +kernel
theorem dJ5_append_3fe6f_21 : decode cJ5_append_3fe6f 21 = .ok (.ifCond .eq 24, 3) := by decide +kernel
theorem dJ5_append_3fe6f_24 : decode cJ5_append_3fe6f 24 = .ok (.aload_n 0, 1) := by decide +kernel
theorem dJ5_append_3fe6f_25 : decode cJ5_append_3fe6f 25 = .ok (.getfield 15, 3) := by decide +kernel
theorem dJ5_append_3fe6f_28 : decode cJ5_append_3fe6f 28 = .ok (.aload_n 0, 1) := by decide +kernel
theorem dJ5_append_3fe6f_29 : decode cJ5_append_3fe6f 29 = .ok (.dup, 1) := by decide +kernel
theorem dJ5_append_3fe6f_30 : decode cJ5_append_3fe6f 30 = .ok (.getfield 79, 3) := by decide +kernel
theorem dJ5_append_3fe6f_33 : decode cJ5_append_3fe6f 33 = .ok (.dup_x1, 1) := by decide +kernel
theorem dJ5_append_3fe6f_34 : decode cJ5_append_3fe6f 34 = .ok (.iconst 1, 1) := by decide +kernel
theorem dJ5_append_3fe6f_35 : decode cJ5_append_3fe6f 35 = .ok (.iadd, 1) := by decide +kernel
theorem dJ5_append_3fe6f_36 : decode cJ5_append_3fe6f 36 = .ok (.putfield 79, 3) := by decide +kernel
theorem dJ5_append_3fe6f_39 : decode cJ5_append_3fe6f 39 = .ok (.iload_n 1, 1) := by decide +kernel
theorem dJ5_append_3fe6f_40 : decode cJ5_append_3fe6f 40 = .ok (.i2b, 1) := by decide +kernel
theorem dJ5_append_3fe6f_41 : decode cJ5_append_3fe6f 41 = .ok (.bastore, 1) := by decide +kernel
theorem dJ5_append_3fe6f_42 : decode cJ5_append_3fe6f 42 = .ok (.goto 33, 3) := by decide +kernel
theorem dJ5_append_3fe6f_45 : decode cJ5_append_3fe6f 45 = .ok (.aload_n 0, 1) := by decide +kernel
theorem dJ5_append_3fe6f_46 : decode cJ5_append_3fe6f 46 = .ok (.invokevirtual 83, 3) := by decide +kernel
theorem dJ5_append_3fe6f_49 : decode cJ5_append_3fe6f 49 = .ok (.ifCond .eq 7, 3) := by decide +kernel
theorem dJ5_append_3fe6f_52 : decode cJ5_append_3fe6f 52 = .ok (.aload_n 0, 1) := by decide +kernel
theorem dJ5_append_3fe6f_53 : decode cJ5_append_3fe6f 53 = .ok (.invokevirtual 195, 3) := by decide +kernel
theorem dJ5_append_3fe6f_56 : decode cJ5_append_3fe6f 56 = .ok (.aload_n 0, 1) := by decide +kernel
theorem dJ5_append_3fe6f_57 : decode cJ5_append_3fe6f 57 = .ok (.getfield 15, 3) := by decide +kernel
theorem dJ5_append_3fe6f_60 : decode cJ5_append_3fe6f 60 = .ok (.aload_n 0, 1) := by decide +kernel
theorem dJ5_append_3fe6f_61 : decode cJ5_append_3fe6f 61 = .ok (.dup, 1) := by decide +kernel
theorem dJ5_append_3fe6f_62 : decode cJ5_append_3fe6f 62 = .ok (.getfield 79, 3) := by decide +kernel
theorem dJ5_append_3fe6f_65 : decode cJ5_append_3fe6f 65 = .ok (.dup_x1, 1) := by decide +kernel
theorem dJ5_append_3fe6f_66 : decode cJ5_append_3fe6f 66 = .ok (.iconst 1, 1) := by decide +kernel
theorem dJ5_append_3fe6f_67 : decode cJ5_append_3fe6f 67 = .ok (.iadd, 1) := by decide +kernel
theorem dJ5_append_3fe6f_68 : decode cJ5_append_3fe6f 68 = .ok (.putfield 79, 3) := by decide +kernel
theorem dJ5_append_3fe6f_71 : decode cJ5_append_3fe6f 71 = .ok (.iload_n 1, 1) := by decide +kernel
theorem dJ5_append_3fe6f_72 : decode cJ5_append_3fe6f 72 = .ok (.invokestatic 197, 3) := by decide +kernel
theorem dJ5_append_3fe6f_75 : decode cJ5_append_3fe6f 75 = .ok (.aload_n 0, 1) := by decide +kernel
theorem dJ5_append_3fe6f_76 : decode cJ5_append_3fe6f 76 = .ok (.areturn, 1) := by decide +kernel
theorem dJ5_append_c97b9_0 : decode cJ5_append_c97b9 0 = .ok (.aload_n 0, 1) := by decide +kernel
theorem dJ5_append_c97b9_1 : decode cJ5_append_c97b9 1 = .ok (.getfield 79, 3) := by decide +kernel
theorem dJ5_append_c97b9_4 : decode cJ5_append_c97b9 4 = .ok (.istore_n 2, 1) := by decide +kernel
theorem dJ5_append_c97b9_5 : decode cJ5_append_c97b9 5 = .ok (.iload_n 2, 1) := by decide +kernel
theorem dJ5_append_c97b9_6 : decode cJ5_append_c97b9 6 = .ok (.iload_n 1, 1) := by decide +kernel
theorem dJ5_append_c97b9_7 : decode cJ5_append_c97b9 7 = .ok (.invokestatic 245, 3) := by decide +kernel
theorem dJ5_append_c97b9_10 : decode cJ5_append_c97b9 10 = .ok (.iadd, 1) := by decide +kernel
theorem dJ5_append_c97b9_11 : decode cJ5_append_c97b9 11 = .ok (.istore_n 3, 1) := by decide +kernel
theorem dJ5_append_c97b9_12 : decode cJ5_append_c97b9 12 = .ok (.aload_n 0, 1) := by decide +kernel
theorem dJ5_append_c97b9_13 : decode cJ5_append_c97b9 13 = .ok (.iload_n 3, 1) := by decide +kernel
theorem dJ5_append_c97b9_14 : decode cJ5_append_c97b9 14 = .ok (.invokevirtual 100, 3) := by decide +kernel
theorem dJ5_append_c97b9_17 : decode cJ5_append_c97b9 17 = .ok (.aload_n 0, 1) := by decide +kernel
theorem dJ5_append_c97b9_18 : decode cJ5_append_c97b9 18 = .ok (.invokevirtual 83, 3) := by decide +kernel
theorem dJ5_append_c97b9_21 : decode cJ5_append_c97b9 21 = .ok (.ifCond .eq 16, 3) := by decide +kernel
theorem dJ5_append_c97b9_24 : decode cJ5_append_c97b9 24 = .ok (.iload_n 1, 1) := by decide +kernel
theorem dJ5_append_c97b9_25 : decode cJ5_append_c97b9 25 = .ok (.iload_n 3, 1) := by decide +kernel
theorem dJ5_append_c97b9_26 : decode cJ5_append_c97b9 26 = .ok (.aload_n 0, 1) := by decide +kernel
theorem dJ5_append_c97b9_27 : decode cJ5_append_c97b9 27 = .ok (.getfield 15, 3) := by decide +kernel
theorem dJ5_append_c97b9_30 : decode cJ5_append_c97b9 30 = .ok (.invokestatic 248, 3) := by decide +kernel
theorem dJ5_append_c97b9_33 : decode cJ5_append_c97b9 33 = .ok (.pop, 1) := by decide +kernel
theorem dJ5_append_c97b9_34 : decode cJ5_append_c97b9 34 = .ok (.goto 14, 3) := by decide +kernel
theorem dJ5_append_c97b9_37 : decode cJ5_append_c97b9 37 = .ok (.iload_n 1, 1) := by decide +kernel
theorem dJ5_append_c97b9_38 : decode cJ5_append_c97b9 38 = .ok (.iload_n 2, 1) := by decide +kernel
theorem dJ5_append_c97b9_39 : decode cJ5_append_c97b9 39 = .ok (.iload_n 3, 1) := by decide +kernel
theorem dJ5_append_c97b9_40 : decode cJ5_append_c97b9 40 = .ok (.aload_n 0, 1) := by decide +kernel
theorem dJ5_append_c97b9_41 : decode cJ5_append_c97b9 41 = .ok (.getfield 15, 3) := by decide +kernel
theorem dJ5_append_c97b9_44 : decode cJ5_append_c97b9 44 = .ok (.invokestatic 251, 3) := by decide +kernel
theorem dJ5_append_c97b9_47 : decode cJ5_append_c97b9 47 = .ok (.pop, 1) := by decide +kernel
theorem dJ5_append_c97b9_48 : decode cJ5_append_c97b9 48 = .ok (.aload_n 0, 1) := by decide +kernel
theorem dJ5_append_c97b9_49 : decode cJ5_append_c97b9 49 = .ok (.iload_n 3, 1) := by decide +kernel
theorem dJ5_append_c97b9_50 : decode cJ5_append_c97b9 50 = .ok (.putfield 79, 3) := by decide +kernel
theorem dJ5_append_c97b9_53 : decode cJ5_append_c97b9 53 = .ok (.aload_n 0, 1) := by decide +kernel
theorem dJ5_append_c97b9_54 : decode cJ5_append_c97b9 54 = .ok (.areturn, 1) := by decide +kernel
theorem dJ5_isLatin1_aae02_0 : decode cJ5_isLatin1_aae02 0 = .ok (.getstatic 18, 3) := by decide +kernel
theorem dJ5_isLatin1_aae02_3 : decode cJ5_isLatin1_aae02 3 = .ok (.ifCond .eq 14, 3) := by decide +kernel
theorem dJ5_isLatin1_aae02_6 : decode cJ5_isLatin1_aae02 6 = .ok (.aload_n 0, 1) := by decide +kernel
theorem dJ5_isLatin1_aae02_7 : decode cJ5_isLatin1_aae02 7 = .ok (.getfield 22, 3) := by decide +kernel
theorem dJ5_isLatin1_aae02_10 : decode cJ5_isLatin1_aae02 10 = .ok (.ifCond .ne 7, 3) := by decide +kernel
theorem dJ5_isLatin1_aae02_13 : decode cJ5_isLatin1_aae02 13 = .ok (.iconst 1, 1) := by decide +kernel
theorem dJ5_isLatin1_aae02_14 : decode cJ5_isLatin1_aae02 14 = .ok (.goto 4, 3) := by decide +kernel
theorem dJ5_isLatin1_aae02_17 : decode cJ5_isLatin1_aae02 17 = .ok (.iconst 0, 1) := by decide +kernel
theorem dJ5_isLatin1_aae02_18 : decode cJ5_isLatin1_aae02 18 = .ok (.ireturn, 1) := by decide +kernel
theorem dJ6_getChars_ba4f3_0 : decode cJ6_getChars_ba4f3 0 = .ok (.iload_n 1, 1) := by decide +kernel
theorem dJ6_getChars_ba4f3_1 : decode cJ6_getChars_ba4f3 1 = .ok (.istore 5, 2) := by decide +kernel
theorem dJ6_getChars_ba4f3_3 : decode cJ6_getChars_ba4f3 3 = .ok (.iload_n 0, 1) := by decide +kernel
theorem dJ6_getChars_ba4f3_4 : decode cJ6_getChars_ba4f3 4 = .ok (.ifCond .ge 7, 3) := by decide +kernel
theorem dJ6_getChars_ba4f3_7 : decode cJ6_getChars_ba4f3 7 = .ok (.iconst 1, 1) := by decide +kernel
theorem dJ6_getChars_ba4f3_8 : decode cJ6_getChars_ba4f3 8 = .ok (.goto 4, 3) := by decide +kernel
theorem dJ6_getChars_ba4f3_11 : decode cJ6_getChars_ba4f3 11 = .ok (.iconst 0, 1) := by decide +kernel
theorem dJ6_getChars_ba4f3_12 : decode cJ6_getChars_ba4f3 12 = .ok (.istore 6, 2) := by decide +kernel
theorem dJ6_getChars_ba4f3_14 : decode cJ6_getChars_ba4f3 14 = .ok (.iload 6, 2) := by decide +kernel
theorem dJ6_getChars_ba4f3_16 : decode cJ6_getChars_ba4f3 16 = .ok (.ifCond .ne 6, 3) := by decide +kernel
theorem dJ6_getChars_ba4f3_19 : decode cJ6_getChars_ba4f3 19 = .ok (.iload_n 0, 1) := by decide +kernel
theorem dJ6_getChars_ba4f3_20 : decode cJ6_getChars_ba4f3 20 = .ok (.ineg, 1) := by decide +kernel
theorem dJ6_getChars_ba4f3_21 : decode cJ6_getChars_ba4f3 21 = .ok (.istore_n 0, 1) := by decide +kernel
theorem dJ6_getChars_ba4f3_22 : decode cJ6_getChars_ba4f3 22 = .ok (.iload_n 0, 1) := by decide +kernel
theorem dJ6_getChars_ba4f3_23 : decode cJ6_getChars_ba4f3 23 = .ok (.bipush (-100), 2) := by decide +kernel
theorem dJ6_getChars_ba4f3_25 : decode cJ6_getChars_ba4f3 25 = .ok (.if_icmp .gt 47, 3) := by decide +kernel
theorem dJ6_getChars_ba4f3_28 : decode cJ6_getChars_ba4f3 28 = .ok (.iload_n 0, 1) := by decide +kernel
theorem dJ6_getChars_ba4f3_29 : decode cJ6_getChars_ba4f3 29 = .ok (.bipush 100, 2) := by decide +kernel
theorem dJ6_getChars_ba4f3_31 : decode cJ6_getChars_ba4f3 31 = .ok (.idiv, 1) := by decide +kernel
theorem dJ6_getChars_ba4f3_32 : decode cJ6_getChars_ba4f3 32 = .ok (.istore_n 3, 1) := by decide +kernel
theorem dJ6_getChars_ba4f3_33 : decode cJ6_getChars_ba4f3 33 = .ok (.iload_n 3, 1) := by decide +kernel
theorem dJ6_getChars_ba4f3_34 : decode cJ6_getChars_ba4f3 34 = .ok (.bipush 100, 2) := by decide +kernel
theorem dJ6_getChars_ba4f3_36 : decode cJ6_getChars_ba4f3 36 = .ok (.imul, 1) := by decide +kernel
theorem dJ6_getChars_ba4f3_37 : decode cJ6_getChars_ba4f3 37 = .ok (.iload_n 0, 1) := by decide +kernel
theorem dJ6_getChars_ba4f3_38 : decode cJ6_getChars_ba4f3 38 = .ok (.isub, 1) := by decide +kernel
theorem dJ6_getChars_ba4f3_39 : decode cJ6_getChars_ba4f3 39 = .ok (.istore 4, 2) := by decide +kernel
theorem dJ6_getChars_ba4f3_41 : decode cJ6_getChars_ba4f3 41 = .ok (.iload_n 3, 1) := by decide +kernel
theorem dJ6_getChars_ba4f3_42 : decode cJ6_getChars_ba4f3 42 = .ok (.istore_n 0, 1) := by decide +kernel
theorem dJ6_getChars_ba4f3_43 : decode cJ6_getChars_ba4f3 43 = .ok (.aload_n 2, 1) := by decide +kernel
theorem dJ6_getChars_ba4f3_44 : decode cJ6_getChars_ba4f3 44 = .ok (.iinc 5 (-1), 3) := by decide +kernel
theorem dJ6_getChars_ba4f3_47 : decode cJ6_getChars_ba4f3 47 = .ok (.iload 5, 2) := by decide +kernel
theorem dJ6_getChars_ba4f3_49 : decode cJ6_getChars_ba4f3 49 = .ok (.getstatic 83, 3) := by decide +kernel
theorem dJ6_getChars_ba4f3_52 : decode cJ6_getChars_ba4f3 52 = .ok (.iload 4, 2) := by decide +kernel
theorem dJ6_getChars_ba4f3_54 : decode cJ6_getChars_ba4f3 54 = .ok (.baload, 1) := by decide +kernel
theorem dJ6_getChars_ba4f3_55 : decode cJ6_getChars_ba4f3 55 = .ok (.bastore, 1) := by decide +kernel
theorem dJ6_getChars_ba4f3_56 : decode cJ6_getChars_ba4f3 56 = .ok (.aload_n 2, 1) := by decide +kernel
theorem dJ6_getChars_ba4f3_57 : decode cJ6_getChars_ba4f3 57 = .ok (.iinc 5 (-1), 3) := by decide +kernel
theorem dJ6_getChars_ba4f3_60 : decode cJ6_getChars_ba4f3 60 = .ok (.iload 5, 2) := by decide +kernel
theorem dJ6_getChars_ba4f3_62 : decode cJ6_getChars_ba4f3 62 = .ok (.getstatic 87, 3) := by decide +kernel
theorem dJ6_getChars_ba4f3_65 : decode cJ6_getChars_ba4f3 65 = .ok (.iload 4, 2) := by decide +kernel
theorem dJ6_getChars_ba4f3_67 : decode cJ6_getChars_ba4f3 67 = .ok (.baload, 1) := by decide +kernel
theorem dJ6_getChars_ba4f3_68 : decode cJ6_getChars_ba4f3 68 = .ok (.bastore, 1) := by decide +kernel
theorem dJ6_getChars_ba4f3_69 : decode cJ6_getChars_ba4f3 69 = .ok (.goto (-47), 3) := by decide +kernel
theorem dJ6_getChars_ba4f3_72 : decode cJ6_getChars_ba4f3 72 = .ok (.aload_n 2, 1) := by decide +kernel
theorem dJ6_getChars_ba4f3_73 : decode cJ6_getChars_ba4f3 73 = .ok (.iinc 5 (-1), 3) := by decide +kernel
theorem dJ6_getChars_ba4f3_76 : decode cJ6_getChars_ba4f3 76 = .ok (.iload 5, 2) := by decide +kernel
theorem dJ6_getChars_ba4f3_78 : decode cJ6_getChars_ba4f3 78 = .ok (.getstatic 83, 3) := by decide +kernel
theorem dJ6_getChars_ba4f3_81 : decode cJ6_getChars_ba4f3 81 = .ok (.iload_n 0, 1) := by decide +kernel
theorem dJ6_getChars_ba4f3_82 : decode cJ6_getChars_ba4f3 82 = .ok (.ineg, 1) := by decide +kernel
theorem dJ6_getChars_ba4f3_83 : decode cJ6_getChars_ba4f3 83 = .ok (.baload, 1) := by decide +kernel
theorem dJ6_getChars_ba4f3_84 : decode cJ6_getChars_ba4f3 84 = .ok (.bastore, 1) := by decide +kernel
theorem dJ6_getChars_ba4f3_85 : decode cJ6_getChars_ba4f3 85 = .ok (.iload_n 0, 1) := by decide +kernel
theorem dJ6_getChars_ba4f3_86 : decode cJ6_getChars_ba4f3 86 = .ok (.bipush (-9), 2) := by decide +kernel
theorem dJ6_getChars_ba4f3_88 : decode cJ6_getChars_ba4f3 88 = .ok (.if_icmp .ge 16, 3) := by decide +kernel
theorem dJ6_getChars_ba4f3_91 : decode cJ6_getChars_ba4f3 91 = .ok (.aload_n 2, 1) := by decide +kernel
theorem dJ6_getChars_ba4f3_92 : decode cJ6_getChars_ba4f3 92 = .ok (.iinc 5 (-1), 3) := by decide +kernel
theorem dJ6_getChars_ba4f3_95 : decode cJ6_getChars_ba4f3 95 = .ok (.iload 5, 2) := by decide +kernel
theorem dJ6_getChars_ba4f3_97 : decode cJ6_getChars_ba4f3 97 = .ok (.getstatic 87, 3) := by decide +kernel
theorem dJ6_getChars_ba4f3_100 : decode cJ6_getChars_ba4f3 100 = .ok (.iload_n 0, 1) := by decide +kernel
theorem dJ6_getChars_ba4f3_101 : decode cJ6_getChars_ba4f3 101 = .ok (.ineg, 1) := by decide +kernel
theorem dJ6_getChars_ba4f3_102 : decode cJ6_getChars_ba4f3 102 = .ok (.baload, 1) := by decide +kernel
theorem dJ6_getChars_ba4f3_103 : decode cJ6_getChars_ba4f3 103 = .ok (.bastore, 1) := by decide +kernel
theorem dJ6_getChars_ba4f3_104 : decode cJ6_getChars_ba4f3 104 = .ok (.iload 6, 2) := by decide +kernel
theorem dJ6_getChars_ba4f3_106 : decode cJ6_getChars_ba4f3 106 = .ok (.ifCond .eq 12, 3) := by decide +kernel
theorem dJ6_getChars_ba4f3_109 : decode cJ6_getChars_ba4f3 109 = .ok (.aload_n 2, 1) := by decide +kernel
theorem dJ6_getChars_ba4f3_110 : decode cJ6_getChars_ba4f3 110 = .ok (.iinc 5 (-1), 3) := by decide +kernel
theorem dJ6_getChars_ba4f3_113 : decode cJ6_getChars_ba4f3 113 = .ok (.iload 5, 2) := by decide +kernel
theorem dJ6_getChars_ba4f3_115 : decode cJ6_getChars_ba4f3 115 = .ok (.bipush 45, 2) := by decide +kernel
theorem dJ6_getChars_ba4f3_117 : decode cJ6_getChars_ba4f3 117 = .ok (.bastore, 1) := by decide +kernel
theorem dJ6_getChars_ba4f3_118 : decode cJ6_getChars_ba4f3 118 = .ok (.iload 5, 2) := by decide +kernel
theorem dJ6_getChars_ba4f3_120 : decode cJ6_getChars_ba4f3 120 = .ok (.ireturn, 1) := by decide +kernel
theorem dJ6_stringSize_0f7a4_0 : decode cJ6_stringSize_0f7a4 0 = .ok (.iconst 1, 1) := by decide +kernel
theorem dJ6_stringSize_0f7a4_1 : decode cJ6_stringSize_0f7a4 1 = .ok (.istore_n 1, 1) := by decide +kernel
theorem dJ6_stringSize_0f7a4_2 : decode cJ6_stringSize_0f7a4 2 = .ok (.iload_n 0, 1) := by decide +kernel
theorem dJ6_stringSize_0f7a4_3 : decode cJ6_stringSize_0f7a4 3 = .ok (.ifCond .lt 8, 3) := by decide +kernel
theorem dJ6_stringSize_0f7a4_6 : decode cJ6_stringSize_0f7a4 6 = .ok (.iconst 0, 1) := by decide +kernel
theorem dJ6_stringSize_0f7a4_7 : decode cJ6_stringSize_0f7a4 7 = .ok (.istore_n 1, 1) := by decide +kernel
theorem dJ6_stringSize_0f7a4_8 : decode cJ6_stringSize_0f7a4 8 = .ok (.iload_n 0, 1) := by decide +kernel
theorem dJ6_stringSize_0f7a4_9 : decode cJ6_stringSize_0f7a4 9 = .ok (.ineg, 1) := by decide +kernel
theorem dJ6_stringSize_0f7a4_10 : decode cJ6_stringSize_0f7a4 10 = .ok (.istore_n 0, 1) := by decide +kernel
theorem dJ6_stringSize_0f7a4_11 : decode cJ6_stringSize_0f7a4 11 = .ok (.bipush (-10), 2) := by decide +kernel
theorem dJ6_stringSize_0f7a4_13 : decode cJ6_stringSize_0f7a4 13 = .ok (.istore_n 2, 1) := by decide +kernel
theorem dJ6_stringSize_0f7a4_14 : decode cJ6_stringSize_0f7a4 14 = .ok (.iconst 1, 1) := by decide +kernel
theorem dJ6_stringSize_0f7a4_15 : decode cJ6_stringSize_0f7a4 15 = .ok (.istore_n 3, 1) := by decide +kernel
theorem dJ6_stringSize_0f7a4_16 : decode cJ6_stringSize_0f7a4 16 = .ok (.iload_n 3, 1) := by decide +kernel
theorem dJ6_stringSize_0f7a4_17 : decode cJ6_stringSize_0f7a4 17 = .ok (.bipush 10, 2) := by decide +kernel
theorem dJ6_stringSize_0f7a4_19 : decode cJ6_stringSize_0f7a4 19 = .ok (.if_icmp .ge 23, 3) := by decide +kernel
theorem dJ6_stringSize_0f7a4_22 : decode cJ6_stringSize_0f7a4 22 = .ok (.iload_n 0, 1) := by decide +kernel
theorem dJ6_stringSize_0f7a4_23 : decode cJ6_stringSize_0f7a4 23 = .ok (.iload_n 2, 1) := by decide +kernel
theorem dJ6_stringSize_0f7a4_24 : decode cJ6_stringSize_0f7a4 24 = .ok (.if_icmp .le 7, 3) := by decide +kernel
theorem dJ6_stringSize_0f7a4_27 : decode cJ6_stringSize_0f7a4 27 = .ok (.iload_n 3, 1) := by decide +kernel
theorem dJ6_stringSize_0f7a4_28 : decode cJ6_stringSize_0f7a4 28 = .ok (.iload_n 1, 1) := by decide +kernel
theorem dJ6_stringSize_0f7a4_29 : decode cJ6_stringSize_0f7a4 29 = .ok (.iadd, 1) := by decide +kernel
theorem dJ6_stringSize_0f7a4_30 : decode cJ6_stringSize_0f7a4 30 = .ok (.ireturn, 1) := by decide +kernel
theorem dJ6_stringSize_0f7a4_31 : decode cJ6_stringSize_0f7a4 31 = .ok (.bipush 10, 2) := by decide +kernel
theorem dJ6_stringSize_0f7a4_33 : decode cJ6_stringSize_0f7a4 33 = .ok (.iload_n 2, 1) := by decide +kernel
theorem dJ6_stringSize_0f7a4_34 : decode cJ6_stringSize_0f7a4 34 = .ok (.imul, 1) := by decide +kernel
theorem dJ6_stringSize_0f7a4_35 : decode cJ6_stringSize_0f7a4 35 = .ok (.istore_n 2, 1) := by decide +kernel
theorem dJ6_stringSize_0f7a4_36 : decode cJ6_stringSize_0f7a4 36 = .ok (.iinc 3 1, 3) := by decide +kernel
theorem dJ6_stringSize_0f7a4_39 : decode cJ6_stringSize_0f7a4 39 = .ok (.goto (-23), 3) := by decide +kernel
theorem dJ6_stringSize_0f7a4_42 : decode cJ6_stringSize_0f7a4 42 = .ok (.bipush 10, 2) := by decide +kernel
theorem dJ6_stringSize_0f7a4_44 : decode cJ6_stringSize_0f7a4 44 = .ok (.iload_n 1, 1) := by decide +kernel
theorem dJ6_stringSize_0f7a4_45 : decode cJ6_stringSize_0f7a4 45 = .ok (.iadd, 1) := by decide +kernel
theorem dJ6_stringSize_0f7a4_46 : decode cJ6_stringSize_0f7a4 46 = .ok (.ireturn, 1) := by decide +kernel
theorem dJ6_bitCount_0f7a4_0 : decode cJ6_bitCount_0f7a4 0 = .ok (.iload_n 0, 1) := by decide +kernel
theorem dJ6_bitCount_0f7a4_1 : decode cJ6_bitCount_0f7a4 1 = .ok (.iload_n 0, 1) := by decide +kernel
theorem dJ6_bitCount_0f7a4_2 : decode cJ6_bitCount_0f7a4 2 = .ok (.iconst 1, 1) := by decide +kernel
theorem dJ6_bitCount_0f7a4_3 : decode cJ6_bitCount_0f7a4 3 = .ok (.iushr, 1) := by decide +kernel
theorem dJ6_bitCount_0f7a4_4 : decode cJ6_bitCount_0f7a4 4 = .ok (.ldc_w 265, 3) := by decide +kernel
theorem dJ6_bitCount_0f7a4_7 : decode cJ6_bitCount_0f7a4 7 = .ok (.iand, 1) := by decide +kernel
theorem dJ6_bitCount_0f7a4_8 : decode cJ6_bitCount_0f7a4 8 = .ok (.isub, 1) := by decide +kernel
theorem dJ6_bitCount_0f7a4_9 : decode cJ6_bitCount_0f7a4 9 = .ok (.istore_n 0, 1) := by decide +kernel
theorem dJ6_bitCount_0f7a4_10 : decode cJ6_bitCount_0f7a4 10 = .ok (.iload_n 0, 1) := by decide +kernel
theorem dJ6_bitCount_0f7a4_11 : decode cJ6_bitCount_0f7a4 11 = .ok (.ldc_w 266, 3) := by decide +kernel
theorem dJ6_bitCount_0f7a4_14 : decode cJ6_bitCount_0f7a4 14 = .ok (.iand, 1) := by decide +kernel
theorem dJ6_bitCount_0f7a4_15 : decode cJ6_bitCount_0f7a4 15 = .ok (.iload_n 0, 1) := by decide +kernel
theorem dJ6_bitCount_0f7a4_16 : decode cJ6_bitCount_0f7a4 16 = .ok (.iconst 2, 1) := by decide +kernel
theorem dJ6_bitCount_0f7a4_17 : decode cJ6_bitCount_0f7a4 17 = .ok (.iushr, 1) := by decide +kernel
theorem dJ6_bitCount_0f7a4_18 : decode cJ6_bitCount_0f7a4 18 = .ok (.ldc_w 266, 3) := by decide +kernel
theorem dJ6_bitCount_0f7a4_21 : decode cJ6_bitCount_0f7a4 21 = .ok (.iand, 1) := by decide +kernel
theorem dJ6_bitCount_0f7a4_22 : decode cJ6_bitCount_0f7a4 22 = .ok (.iadd, 1) := by decide +kernel
theorem dJ6_bitCount_0f7a4_23 : decode cJ6_bitCount_0f7a4 23 = .ok (.istore_n 0, 1) := by decide +kernel
theorem dJ6_bitCount_0f7a4_24 : decode cJ6_bitCount_0f7a4 24 = .ok (.iload_n 0, 1) := by decide +kernel
theorem dJ6_bitCount_0f7a4_25 : decode cJ6_bitCount_0f7a4 25 = .ok (.iload_n 0, 1) := by decide +kernel
theorem dJ6_bitCount_0f7a4_26 : decode cJ6_bitCount_0f7a4 26 = .ok (.iconst 4, 1) := by decide +kernel
theorem dJ6_bitCount_0f7a4_27 : decode cJ6_bitCount_0f7a4 27 = .ok (.iushr, 1) := by decide +kernel
theorem dJ6_bitCount_0f7a4_28 : decode cJ6_bitCount_0f7a4 28 = .ok (.iadd, 1) := by decide +kernel
theorem dJ6_bitCount_0f7a4_29 : decode cJ6_bitCount_0f7a4 29 = .ok (.ldc_w 267, 3) := by decide +kernel
theorem dJ6_bitCount_0f7a4_32 : decode cJ6_bitCount_0f7a4 32 = .ok (.iand, 1) := by decide +kernel
theorem dJ6_bitCount_0f7a4_33 : decode cJ6_bitCount_0f7a4 33 = .ok (.istore_n 0, 1) := by decide +kernel
theorem dJ6_bitCount_0f7a4_34 : decode cJ6_bitCount_0f7a4 34 = .ok (.iload_n 0, 1) := by decide +kernel
theorem dJ6_bitCount_0f7a4_35 : decode cJ6_bitCount_0f7a4 35 = .ok (.iload_n 0, 1) := by decide +kernel
theorem dJ6_bitCount_0f7a4_36 : decode cJ6_bitCount_0f7a4 36 = .ok (.bipush 8, 2) := by decide +kernel
theorem dJ6_bitCount_0f7a4_38 : decode cJ6_bitCount_0f7a4 38 = .ok (.iushr, 1) := by decide +kernel
theorem dJ6_bitCount_0f7a4_39 : decode cJ6_bitCount_0f7a4 39 = .ok (.iadd, 1) := by decide +kernel
theorem dJ6_bitCount_0f7a4_40 : decode cJ6_bitCount_0f7a4 40 = .ok (.istore_n 0, 1) := by decide +kernel
theorem dJ6_bitCount_0f7a4_41 : decode cJ6_bitCount_0f7a4 41 = .ok (.iload_n 0, 1) := by decide +kernel
theorem dJ6_bitCount_0f7a4_42 : decode cJ6_bitCount_0f7a4 42 = .ok (.iload_n 0, 1) := by decide +kernel
theorem dJ6_bitCount_0f7a4_43 : decode cJ6_bitCount_0f7a4 43 = .ok (.bipush 16, 2) := by decide +kernel
theorem dJ6_bitCount_0f7a4_45 : decode cJ6_bitCount_0f7a4 45 = .ok (.iushr, 1) := by decide +kernel
theorem dJ6_bitCount_0f7a4_46 : decode cJ6_bitCount_0f7a4 46 = .ok (.iadd, 1) := by decide +kernel
theorem dJ6_bitCount_0f7a4_47 : decode cJ6_bitCount_0f7a4 47 = .ok (.istore_n 0, 1) := by decide +kernel
theorem dJ6_bitCount_0f7a4_48 : decode cJ6_bitCount_0f7a4 48 = .ok (.iload_n 0, 1) := by decide +kernel
theorem dJ6_bitCount_0f7a4_49 : decode cJ6_bitCount_0f7a4 49 = .ok (.bipush 63, 2) := by decide +kernel
theorem dJ6_bitCount_0f7a4_51 : decode cJ6_bitCount_0f7a4 51 = .ok (.iand, 1) := by decide +kernel
theorem dJ6_bitCount_0f7a4_52 : decode cJ6_bitCount_0f7a4 52 = .ok (.ireturn, 1) := by decide +kernel
theorem dJ9_max_7cf53_0 : decode cJ9_max_7cf53 0 = .ok (.iload_n 0, 1) := by decide +kernel
theorem dJ9_max_7cf53_1 : decode cJ9_max_7cf53 1 = .ok (.iload_n 1, 1) := by decide +kernel
theorem dJ9_max_7cf53_2 : decode cJ9_max_7cf53 2 = .ok (.if_icmp .lt 7, 3) := by decide +kernel
theorem dJ9_max_7cf53_5 : decode cJ9_max_7cf53 5 = .ok (.iload_n 0, 1) := by decide +kernel
theorem dJ9_max_7cf53_6 : decode cJ9_max_7cf53 6 = .ok (.goto 4, 3) := by decide +kernel
theorem dJ9_max_7cf53_9 : decode cJ9_max_7cf53 9 = .ok (.iload_n 1, 1) := by decide +kernel
theorem dJ9_max_7cf53_10 : decode cJ9_max_7cf53 10 = .ok (.ireturn, 1) := by decide +kernel
theorem dJ9_min_7cf53_0 : decode cJ9_min_7cf53 0 = .ok (.iload_n 0, 1) := by decide +kernel
theorem dJ9_min_7cf53_1 : decode cJ9_min_7cf53 1 = .ok (.iload_n 1, 1) := by decide +kernel
theorem dJ9_min_7cf53_2 : decode cJ9_min_7cf53 2 = .ok (.if_icmp .gt 7, 3) := by decide +kernel
theorem dJ9_min_7cf53_5 : decode cJ9_min_7cf53 5 = .ok (.iload_n 0, 1) := by decide +kernel
theorem dJ9_min_7cf53_6 : decode cJ9_min_7cf53 6 = .ok (.goto 4, 3) := by decide +kernel
theorem dJ9_min_7cf53_9 : decode cJ9_min_7cf53 9 = .ok (.iload_n 1, 1) := by decide +kernel
theorem dJ9_min_7cf53_10 : decode cJ9_min_7cf53 10 = .ok (.ireturn, 1) := by decide +kernel
theorem dJ0_checkIndex_df160_0 : decode cJ0_checkIndex_df160 0 = .ok (.iload_n 0, 1) := by decide +kernel
theorem dJ0_checkIndex_df160_1 : decode cJ0_checkIndex_df160 1 = .ok (.iload_n 1, 1) := by decide +kernel
theorem dJ0_checkIndex_df160_2 : decode cJ0_checkIndex_df160 2 = .ok (.getstatic 1053, 3) := by decide +kernel
theorem dJ0_checkIndex_df160_5 : decode cJ0_checkIndex_df160 5 = .ok (.invokestatic 1059, 3) := by decide +kernel
theorem dJ0_checkIndex_df160_8 : decode cJ0_checkIndex_df160 8 = .ok (.pop, 1) := by decide +kernel
theorem dJ0_checkIndex_df160_9 : decode cJ0_checkIndex_df160 9 = .ok (.return_, 1) := by decide +kernel
theorem dJ0_checkBoundsOffCount_cabcc_0 : decode cJ0_checkBoundsOffCount_cabcc 0 = .ok (.iload_n 0, 1) := by decide +kernel
theorem dJ0_checkBoundsOffCount_cabcc_1 : decode cJ0_checkBoundsOffCount_cabcc 1 = .ok (.iload_n 1, 1) := by decide +kernel
theorem dJ0_checkBoundsOffCount_cabcc_2 : decode cJ0_checkBoundsOffCount_cabcc 2 = .ok (.iload_n 2, 1) := by decide +kernel
theorem dJ0_checkBoundsOffCount_cabcc_3 : decode cJ0_checkBoundsOffCount_cabcc 3 = .ok (.getstatic 1053, 3) := by decide +kernel
theorem dJ0_checkBoundsOffCount_cabcc_6 : decode cJ0_checkBoundsOffCount_cabcc 6 = .ok (.invokestatic 1065, 3) := by decide +kernel
theorem dJ0_checkBoundsOffCount_cabcc_9 : decode cJ0_checkBoundsOffCount_cabcc 9 = .ok (.ireturn, 1) := by decide +kernel
theorem dJ0_checkBoundsBeginEnd_23922_0 : decode cJ0_checkBoundsBeginEnd_23922 0 = .ok (.iload_n 0, 1) := by decide +kernel
theorem dJ0_checkBoundsBeginEnd_23922_1 : decode cJ0_checkBoundsBeginEnd_23922 1 = .ok (.iload_n 1, 1) := by decide +kernel
theorem dJ0_checkBoundsBeginEnd_23922_2 : decode cJ0_checkBoundsBeginEnd_23922 2 = .ok (.iload_n 2, 1) := by decide +kernel
theorem dJ0_checkBoundsBeginEnd_23922_3 : decode cJ0_checkBoundsBeginEnd_23922 3 = .ok (.getstatic 1053, 3) := by decide +kernel
theorem dJ0_checkBoundsBeginEnd_23922_6 : decode cJ0_checkBoundsBeginEnd_23922 6 = .ok (.invokestatic 1062, 3) := by decide +kernel
theorem dJ0_checkBoundsBeginEnd_23922_9 : decode cJ0_checkBoundsBeginEnd_23922 9 = .ok (.pop, 1) := by decide +kernel
theorem dJ0_checkBoundsBeginEnd_23922_10 : decode cJ0_checkBoundsBeginEnd_23922 10 = .ok (.return_, 1) := by decide +kernel
theorem dJ4_init_da8c8_0 : decode cJ4_init_da8c8 0 = .ok (.aload_n 0, 1) := by decide +kernel
theorem dJ4_init_da8c8_1 : decode cJ4_init_da8c8 1 = .ok (.bipush 16, 2) := by decide +kernel
theorem dJ4_init_da8c8_3 : decode cJ4_init_da8c8 3 = .ok (.invokespecial 1, 3) := by decide +kernel
theorem dJ4_init_da8c8_6 : decode cJ4_init_da8c8 6 = .ok (.return_, 1) := by decide +kernel
theorem dJ4_append_cf468_0 : decode cJ4_append_cf468 0 = .ok (.aload_n 0, 1) := by decide +kernel
theorem dJ4_append_cf468_1 : decode cJ4_append_cf468 1 = .ok (.iload_n 1, 1) := by decide +kernel
theorem dJ4_append_cf468_2 : decode cJ4_append_cf468 2 = .ok (.invokespecial 50, 3) := by decide +kernel
theorem dJ4_append_cf468_5 : decode cJ4_append_cf468 5 = .ok (.pop, 1) := by decide +kernel
theorem dJ4_append_cf468_6 : decode cJ4_append_cf468 6 = .ok (.aload_n 0, 1) := by decide +kernel
theorem dJ4_append_cf468_7 : decode cJ4_append_cf468 7 = .ok (.areturn, 1) := by decide +kernel
theorem dJ4_append_bf812_0 : decode cJ4_append_bf812 0 = .ok (.aload_n 0, 1) := by decide +kernel
theorem dJ4_append_bf812_1 : decode cJ4_append_bf812 1 = .ok (.iload_n 1, 1) := by decide +kernel
theorem dJ4_append_bf812_2 : decode cJ4_append_bf812 2 = .ok (.invokespecial 53, 3) := by decide +kernel
theorem dJ4_append_bf812_5 : decode cJ4_append_bf812 5 = .ok (.pop, 1) := by decide +kernel
theorem dJ4_append_bf812_6 : decode cJ4_append_bf812 6 = .ok (.aload_n 0, 1) := by decide +kernel
theorem dJ4_append_bf812_7 : decode cJ4_append_bf812 7 = .ok (.areturn, 1) := by decide +kernel
theorem dJ4_charAt_5068e_0 : decode cJ4_charAt_5068e 0 = .ok (.aload_n 0, 1) := by decide +kernel
theorem dJ4_charAt_5068e_1 : decode cJ4_charAt_5068e 1 = .ok (.iload_n 1, 1) := by decide +kernel
theorem dJ4_charAt_5068e_2 : decode cJ4_charAt_5068e 2 = .ok (.invokespecial 329, 3) := by decide +kernel
theorem dJ4_charAt_5068e_5 : decode cJ4_charAt_5068e 5 = .ok (.ireturn, 1) := by decide +kernel
theorem dJ4_length_8abf5_0 : decode cJ4_length_8abf5 0 = .ok (.aload_n 0, 1) := by decide +kernel
theorem dJ4_length_8abf5_1 : decode cJ4_length_8abf5 1 = .ok (.invokespecial 343, 3) := by decide +kernel
theorem dJ4_length_8abf5_4 : decode cJ4_length_8abf5 4 = .ok (.ireturn, 1) := by decide +kernel
theorem dJ1_canEncode_fc78d_0 : decode cJ1_canEncode_fc78d 0 = .ok (.iload_n 0, 1) := by decide +kernel
theorem dJ1_canEncode_fc78d_1 : decode cJ1_canEncode_fc78d 1 = .ok (.sipush 255, 3) := by decide +kernel
theorem dJ1_canEncode_fc78d_4 : decode cJ1_canEncode_fc78d 4 = .ok (.if_icmp .gt 7, 3) := by decide +kernel
theorem dJ1_canEncode_fc78d_7 : decode cJ1_canEncode_fc78d 7 = .ok (.iconst 1, 1) := by decide +kernel
theorem dJ1_canEncode_fc78d_8 : decode cJ1_canEncode_fc78d 8 = .ok (.goto 4, 3) := by decide +kernel
theorem dJ1_canEncode_fc78d_11 : decode cJ1_canEncode_fc78d 11 = .ok (.iconst 0, 1) := by decide +kernel
theorem dJ1_canEncode_fc78d_12 : decode cJ1_canEncode_fc78d 12 = .ok (.ireturn, 1) := by decide +kernel
theorem dJ1_inflate_0e8fd_0 : decode cJ1_inflate_0e8fd 0 = .ok (.aload_n 0, 1) := by decide +kernel
theorem dJ1_inflate_0e8fd_1 : decode cJ1_inflate_0e8fd 1 = .ok (.iload_n 1, 1) := by decide +kernel
theorem dJ1_inflate_0e8fd_2 : decode cJ1_inflate_0e8fd 2 = .ok (.aload_n 2, 1) := by decide +kernel
theorem dJ1_inflate_0e8fd_3 : decode cJ1_inflate_0e8fd 3 = .ok (.iload_n 3, 1) := by decide +kernel
theorem dJ1_inflate_0e8fd_4 : decode cJ1_inflate_0e8fd 4 = .ok (.iload 4, 2) := by decide +kernel
theorem dJ1_inflate_0e8fd_6 : decode cJ1_inflate_0e8fd 6 = .ok (.invokestatic 240, 3) := by decide +kernel
theorem dJ1_inflate_0e8fd_9 : decode cJ1_inflate_0e8fd 9 = .ok (.return_, 1) := by decide +kernel
theorem dJ2_newBytesFor_77867_0 : decode cJ2_newBytesFor_77867 0 = .ok (.iload_n 0, 1) := by decide +kernel
theorem dJ2_newBytesFor_77867_1 : decode cJ2_newBytesFor_77867 1 = .ok (.invokestatic 11, 3) := by decide +kernel
theorem dJ2_newBytesFor_77867_4 : decode cJ2_newBytesFor_77867 4 = .ok (.newarray .byte, 2) := by decide +kernel
theorem dJ2_newBytesFor_77867_6 : decode cJ2_newBytesFor_77867 6 = .ok (.areturn, 1) := by decide +kernel
theorem dJ2_newBytesLength_0f7a4_0 : decode cJ2_newBytesLength_0f7a4 0 = .ok (.iload_n 0, 1) := by decide +kernel
theorem dJ2_newBytesLength_0f7a4_1 : decode cJ2_newBytesLength_0f7a4 1 = .ok (.ifCond .ge 11, 3) := by decide +kernel
theorem dJ2_newBytesLength_0f7a4_4 : decode cJ2_newBytesLength_0f7a4 4 = .ok (.new 17, 3) := by decide +kernel
theorem dJ2_newBytesLength_0f7a4_7 : decode cJ2_newBytesLength_0f7a4 7 = .ok (.dup, 1) := by decide +kernel
theorem dJ2_newBytesLength_0f7a4_8 : decode cJ2_newBytesLength_0f7a4 8 = .ok (.invokespecial 19, 3) := by decide +kernel
theorem dJ2_newBytesLength_0f7a4_11 : decode cJ2_newBytesLength_0f7a4 11 = .ok (.athrow, 1) := by decide +kernel
theorem dJ2_newBytesLength_0f7a4_12 : decode cJ2_newBytesLength_0f7a4 12 = .ok (.iload_n 0, 1) := by decide +kernel
theorem dJ2_newBytesLength_0f7a4_13 : decode cJ2_newBytesLength_0f7a4 13 = .ok (.ldc 20, 2) := by decide +kernel
theorem dJ2_newBytesLength_0f7a4_15 : decode cJ2_newBytesLength_0f7a4 15 = .ok (.if_icmp .lt 40, 3) := by decide +kernel
theorem dJ2_newBytesLength_0f7a4_18 : decode cJ2_newBytesLength_0f7a4 18 = .ok (.new 21, 3) := by decide +kernel
theorem dJ2_newBytesLength_0f7a4_21 : decode cJ2_newBytesLength_0f7a4 21 = .ok (.dup, 1) := by decide +kernel
theorem dJ2_newBytesLength_0f7a4_22 : decode cJ2_newBytesLength_0f7a4 22 = .ok (.new 23, 3) := by decide +kernel
theorem dJ2_newBytesLength_0f7a4_25 : decode cJ2_newBytesLength_0f7a4 25 = .ok (.dup, 1) := by decide +kernel
theorem dJ2_newBytesLength_0f7a4_26 : decode cJ2_newBytesLength_0f7a4 26 = .ok (.invokespecial 25, 3) := by decide +kernel
theorem dJ2_newBytesLength_0f7a4_29 : decode cJ2_newBytesLength_0f7a4 29 = .ok (.ldc 26, 2) := by decide +kernel
theorem dJ2_newBytesLength_0f7a4_31 : decode cJ2_newBytesLength_0f7a4 31 = .ok (.invokevirtual 28, 3) := by decide +kernel
theorem dJ2_newBytesLength_0f7a4_34 : decode cJ2_newBytesLength_0f7a4 34 = .ok (.iload_n 0, 1) := by decide +kernel
theorem dJ2_newBytesLength_0f7a4_35 : decode cJ2_newBytesLength_0f7a4 35 = .ok (.invokevirtual 32, 3) := by decide +kernel
theorem dJ2_newBytesLength_0f7a4_38 : decode cJ2_newBytesLength_0f7a4 38 = .ok (.ldc 35, 2) := by decide +kernel
theorem dJ2_newBytesLength_0f7a4_40 : decode cJ2_newBytesLength_0f7a4 40 = .ok (.invokevirtual 28, 3) := by decide +kernel
theorem dJ2_newBytesLength_0f7a4_43 : decode cJ2_newBytesLength_0f7a4 43 = .ok (.ldc 20, 2) := by decide +kernel
theorem dJ2_newBytesLength_0f7a4_45 : decode cJ2_newBytesLength_0f7a4 45 = .ok (.invokevirtual 32, 3) := by decide +kernel
theorem dJ2_newBytesLength_0f7a4_48 : decode cJ2_newBytesLength_0f7a4 48 = .ok (.invokevirtual 37, 3) := by decide +kernel
theorem dJ2_newBytesLength_0f7a4_51 : decode cJ2_newBytesLength_0f7a4 51 = .ok (.invokespecial 41, 3) := by decide +kernel
theorem dJ2_newBytesLength_0f7a4_54 : decode cJ2_newBytesLength_0f7a4 54 = .ok (.athrow, 1) := by decide +kernel
theorem dJ2_newBytesLength_0f7a4_55 : decode cJ2_newBytesLength_0f7a4 55 = .ok (.iload_n 0, 1) := by decide +kernel
theorem dJ2_newBytesLength_0f7a4_56 : decode cJ2_newBytesLength_0f7a4 56 = .ok (.iconst 1, 1) := by decide +kernel
theorem dJ2_newBytesLength_0f7a4_57 : decode cJ2_newBytesLength_0f7a4 57 = .ok (.ishl, 1) := by decide +kernel
theorem dJ2_newBytesLength_0f7a4_58 : decode cJ2_newBytesLength_0f7a4 58 = .ok (.ireturn, 1) := by decide +kernel
theorem dJ2_putChar_b72d1_0 : decode cJ2_putChar_b72d1 0 = .ok (.getstatic 44, 3) := by decide +kernel
theorem dJ2_putChar_b72d1_3 : decode cJ2_putChar_b72d1 3 = .ok (.ifCond .ne 25, 3) := by decide +kernel
theorem dJ2_putChar_b72d1_6 : decode cJ2_putChar_b72d1 6 = .ok (.iload_n 1, 1) := by decide +kernel
theorem dJ2_putChar_b72d1_7 : decode cJ2_putChar_b72d1 7 = .ok (.ifCond .lt 11, 3) := by decide +kernel
theorem dJ2_putChar_b72d1_10 : decode cJ2_putChar_b72d1 10 = .ok (.iload_n 1, 1) := by decide +kernel
theorem dJ2_putChar_b72d1_11 : decode cJ2_putChar_b72d1 11 = .ok (.aload_n 0, 1) := by decide +kernel
theorem dJ2_putChar_b72d1_12 : decode cJ2_putChar_b72d1 12 = .ok (.invokestatic 48, 3) := by decide +kernel
theorem dJ2_putChar_b72d1_15 : decode cJ2_putChar_b72d1 15 = .ok (.if_icmp .lt 13, 3) := by decide +kernel
theorem dJ2_putChar_b72d1_18 : decode cJ2_putChar_b72d1 18 = .ok (.new 52, 3) := by decide +kernel
theorem dJ2_putChar_b72d1_21 : decode cJ2_putChar_b72d1 21 = .ok (.dup, 1) := by decide +kernel
theorem dJ2_putChar_b72d1_22 : decode cJ2_putChar_b72d1 22 = .ok (.ldc 54, 2) := by decide +kernel
theorem dJ2_putChar_b72d1_24 : decode cJ2_putChar_b72d1 24 = .ok (.invokespecial 56, 3) := by decide +kernel
theorem dJ2_putChar_b72d1_27 : decode cJ2_putChar_b72d1 27 = .ok (.athrow, 1) := by decide +kernel
theorem dJ2_putChar_b72d1_28 : decode cJ2_putChar_b72d1 28 = .ok (.iload_n 1, 1) := by decide +kernel
theorem dJ2_putChar_b72d1_29 : decode cJ2_putChar_b72d1 29 = .ok (.iconst 1, 1) := by decide +kernel
theorem dJ2_putChar_b72d1_30 : decode cJ2_putChar_b72d1 30 = .ok (.ishl, 1) := by decide +kernel
theorem dJ2_putChar_b72d1_31 : decode cJ2_putChar_b72d1 31 = .ok (.istore_n 1, 1) := by decide +kernel
theorem dJ2_putChar_b72d1_32 : decode cJ2_putChar_b72d1 32 = .ok (.aload_n 0, 1) := by decide +kernel
theorem dJ2_putChar_b72d1_33 : decode cJ2_putChar_b72d1 33 = .ok (.iload_n 1, 1) := by decide +kernel
theorem dJ2_putChar_b72d1_34 : decode cJ2_putChar_b72d1 34 = .ok (.iinc 1 1, 3) := by decide +kernel
theorem dJ2_putChar_b72d1_37 : decode cJ2_putChar_b72d1 37 = .ok (.iload_n 2, 1) := by decide +kernel
theorem dJ2_putChar_b72d1_38 : decode cJ2_putChar_b72d1 38 = .ok (.getstatic 59, 3) := by decide +kernel
theorem dJ2_putChar_b72d1_41 : decode cJ2_putChar_b72d1 41 = .ok (.ishr, 1) := by decide +kernel
theorem dJ2_putChar_b72d1_42 : decode cJ2_putChar_b72d1 42 = .ok (.i2b, 1) := by decide +kernel
theorem dJ2_putChar_b72d1_43 : decode cJ2_putChar_b72d1 43 = .ok (.bastore, 1) := by decide +kernel
theorem dJ2_putChar_b72d1_44 : decode cJ2_putChar_b72d1 44 = .ok (.aload_n 0, 1) := by decide +kernel
theorem dJ2_putChar_b72d1_45 : decode cJ2_putChar_b72d1 45 = .ok (.iload_n 1, 1) := by decide +kernel
theorem dJ2_putChar_b72d1_46 : decode cJ2_putChar_b72d1 46 = .ok (.iload_n 2, 1) := by decide +kernel
theorem dJ2_putChar_b72d1_47 : decode cJ2_putChar_b72d1 47 = .ok (.getstatic 63, 3) := by decide +kernel
theorem dJ2_putChar_b72d1_50 : decode cJ2_putChar_b72d1 50 = .ok (.ishr, 1) := by decide +kernel
theorem dJ2_putChar_b72d1_51 : decode cJ2_putChar_b72d1 51 = .ok (.i2b, 1) := by decide +kernel
theorem dJ2_putChar_b72d1_52 : decode cJ2_putChar_b72d1 52 = .ok (.bastore, 1) := by decide +kernel
theorem dJ2_putChar_b72d1_53 : decode cJ2_putChar_b72d1 53 = .ok (.return_, 1) := by decide +kernel
theorem dJ2_getChar_3b067_0 : decode cJ2_getChar_3b067 0 = .ok (.getstatic 44, 3) := by decide +kernel
theorem dJ2_getChar_3b067_3 : decode cJ2_getChar_3b067 3 = .ok (.ifCond .ne 25, 3) := by decide +kernel
theorem dJ2_getChar_3b067_6 : decode cJ2_getChar_3b067 6 = .ok (.iload_n 1, 1) := by decide +kernel
theorem dJ2_getChar_3b067_7 : decode cJ2_getChar_3b067 7 = .ok (.ifCond .lt 11, 3) := by decide +kernel
theorem dJ2_getChar_3b067_10 : decode cJ2_getChar_3b067 10 = .ok (.iload_n 1, 1) := by decide +kernel
theorem dJ2_getChar_3b067_11 : decode cJ2_getChar_3b067 11 = .ok (.aload_n 0, 1) := by decide +kernel
theorem dJ2_getChar_3b067_12 : decode cJ2_getChar_3b067 12 = .ok (.invokestatic 48, 3) := by decide +kernel
theorem dJ2_getChar_3b067_15 : decode cJ2_getChar_3b067 15 = .ok (.if_icmp .lt 13, 3) := by decide +kernel
theorem dJ2_getChar_3b067_18 : decode cJ2_getChar_3b067 18 = .ok (.new 52, 3) := by decide +kernel
theorem dJ2_getChar_3b067_21 : decode cJ2_getChar_3b067 21 = .ok (.dup, 1) := by decide +kernel
theorem dJ2_getChar_3b067_22 : decode cJ2_getChar_3b067 22 = .ok (.ldc 54, 2) := by decide +kernel
theorem dJ2_getChar_3b067_24 : decode cJ2_getChar_3b067 24 = .ok (.invokespecial 56, 3) := by decide +kernel
theorem dJ2_getChar_3b067_27 : decode cJ2_getChar_3b067 27 = .ok (.athrow, 1) := by decide +kernel
theorem dJ2_getChar_3b067_28 : decode cJ2_getChar_3b067 28 = .ok (.iload_n 1, 1) := by decide +kernel
theorem dJ2_getChar_3b067_29 : decode cJ2_getChar_3b067 29 = .ok (.iconst 1, 1) := by decide +kernel
theorem dJ2_getChar_3b067_30 : decode cJ2_getChar_3b067 30 = .ok (.ishl, 1) := by decide +kernel
theorem dJ2_getChar_3b067_31 : decode cJ2_getChar_3b067 31 = .ok (.istore_n 1, 1) := by decide +kernel
theorem dJ2_getChar_3b067_32 : decode cJ2_getChar_3b067 32 = .ok (.aload_n 0, 1) := by decide +kernel
theorem dJ2_getChar_3b067_33 : decode cJ2_getChar_3b067 33 = .ok (.iload_n 1, 1) := by decide +kernel
theorem dJ2_getChar_3b067_34 : decode cJ2_getChar_3b067 34 = .ok (.iinc 1 1, 3) := by decide +kernel
theorem dJ2_getChar_3b067_37 : decode cJ2_getChar_3b067 37 = .ok (.baload, 1) := by decide +kernel
theorem dJ2_getChar_3b067_38 : decode cJ2_getChar_3b067 38 = .ok (.sipush 255, 3) := by decide +kernel
theorem dJ2_getChar_3b067_41 : decode cJ2_getChar_3b067 41 = .ok (.iand, 1) := by decide +kernel
theorem dJ2_getChar_3b067_42 : decode cJ2_getChar_3b067 42 = .ok (.getstatic 59, 3) := by decide +kernel
theorem dJ2_getChar_3b067_45 : decode cJ2_getChar_3b067 45 = .ok (.ishl, 1) := by decide +kernel
theorem dJ2_getChar_3b067_46 : decode cJ2_getChar_3b067 46 = .ok (.aload_n 0, 1) := by decide +kernel
theorem dJ2_getChar_3b067_47 : decode cJ2_getChar_3b067 47 = .ok (.iload_n 1, 1) := by decide +kernel
theorem dJ2_getChar_3b067_48 : decode cJ2_getChar_3b067 48 = .ok (.baload, 1) := by decide +kernel
theorem dJ2_getChar_3b067_49 : decode cJ2_getChar_3b067 49 = .ok (.sipush 255, 3) := by decide +kernel
theorem dJ2_getChar_3b067_52 : decode cJ2_getChar_3b067 52 = .ok (.iand, 1) := by decide +kernel
theorem dJ2_getChar_3b067_53 : decode cJ2_getChar_3b067 53 = .ok (.getstatic 63, 3) := by decide +kernel
theorem dJ2_getChar_3b067_56 : decode cJ2_getChar_3b067 56 = .ok (.ishl, 1) := by decide +kernel
theorem dJ2_getChar_3b067_57 : decode cJ2_getChar_3b067 57 = .ok (.ior, 1) := by decide +kernel
theorem dJ2_getChar_3b067_58 : decode cJ2_getChar_3b067 58 = .ok (.i2c, 1) := by decide +kernel
theorem dJ2_getChar_3b067_59 : decode cJ2_getChar_3b067 59 = .ok (.ireturn, 1) := by decide +kernel
theorem dJ2_length_9d52b_0 : decode cJ2_length_9d52b 0 = .ok (.aload_n 0, 1) := by decide +kernel
theorem dJ2_length_9d52b_1 : decode cJ2_length_9d52b 1 = .ok (.arraylength, 1) := by decide +kernel
theorem dJ2_length_9d52b_2 : decode cJ2_length_9d52b 2 = .ok (.iconst 1, 1) := by decide +kernel
theorem dJ2_length_9d52b_3 : decode cJ2_length_9d52b 3 = .ok (.ishr, 1) := by decide +kernel
theorem dJ2_length_9d52b_4 : decode cJ2_length_9d52b 4 = .ok (.ireturn, 1) := by decide +kernel
theorem dJ2_putCharSB_b72d1_0 : decode cJ2_putCharSB_b72d1 0 = .ok (.iload_n 1, 1) := by decide +kernel
theorem dJ2_putCharSB_b72d1_1 : decode cJ2_putCharSB_b72d1 1 = .ok (.aload_n 0, 1) := by decide +kernel
theorem dJ2_putCharSB_b72d1_2 : decode cJ2_putCharSB_b72d1 2 = .ok (.invokestatic 67, 3) := by decide +kernel
theorem dJ2_putCharSB_b72d1_5 : decode cJ2_putCharSB_b72d1 5 = .ok (.aload_n 0, 1) := by decide +kernel
theorem dJ2_putCharSB_b72d1_6 : decode cJ2_putCharSB_b72d1 6 = .ok (.iload_n 1, 1) := by decide +kernel
theorem dJ2_putCharSB_b72d1_7 : decode cJ2_putCharSB_b72d1 7 = .ok (.iload_n 2, 1) := by decide +kernel
theorem dJ2_putCharSB_b72d1_8 : decode cJ2_putCharSB_b72d1 8 = .ok (.invokestatic 111, 3) := by decide +kernel
theorem dJ2_putCharSB_b72d1_11 : decode cJ2_putCharSB_b72d1 11 = .ok (.return_, 1) := by decide +kernel
theorem dJ2_getChars_46870_0 : decode cJ2_getChars_46870 0 = .ok (.iload_n 1, 1) := by decide +kernel
theorem dJ2_getChars_46870_1 : decode cJ2_getChars_46870 1 = .ok (.iload_n 2, 1) := by decide +kernel
theorem dJ2_getChars_46870_2 : decode cJ2_getChars_46870 2 = .ok (.aload_n 3, 1) := by decide +kernel
theorem dJ2_getChars_46870_3 : decode cJ2_getChars_46870 3 = .ok (.invokestatic 96, 3) := by decide +kernel
theorem dJ2_getChars_46870_6 : decode cJ2_getChars_46870 6 = .ok (.iload_n 0, 1) := by decide +kernel
theorem dJ2_getChars_46870_7 : decode cJ2_getChars_46870 7 = .ok (.iload_n 2, 1) := by decide +kernel
theorem dJ2_getChars_46870_8 : decode cJ2_getChars_46870 8 = .ok (.aload_n 3, 1) := by decide +kernel
theorem dJ2_getChars_46870_9 : decode cJ2_getChars_46870 9 = .ok (.invokestatic 393, 3) := by decide +kernel
theorem dJ2_getChars_46870_12 : decode cJ2_getChars_46870 12 = .ok (.istore 4, 2) := by decide +kernel
theorem dJ2_getChars_46870_14 : decode cJ2_getChars_46870 14 = .ok (.getstatic 44, 3) := by decide +kernel
theorem dJ2_getChars_46870_17 : decode cJ2_getChars_46870 17 = .ok (.ifCond .ne 17, 3) := by decide +kernel
theorem dJ2_getChars_46870_20 : decode cJ2_getChars_46870 20 = .ok (.iload_n 1, 1) := by decide +kernel
theorem dJ2_getChars_46870_21 : decode cJ2_getChars_46870 21 = .ok (.iload 4, 2) := by decide +kernel
theorem dJ2_getChars_46870_23 : decode cJ2_getChars_46870 23 = .ok (.if_icmp .eq 11, 3) := by decide +kernel
theorem dJ2_getChars_46870_26 : decode cJ2_getChars_46870 26 = .ok (.new 52, 3) := by decide +kernel
theorem dJ2_getChars_46870_29 : decode cJ2_getChars_46870 29 = .ok (.dup, 1) := by decide +kernel
theorem dJ2_getChars_46870_30 : decode cJ2_getChars_46870 30 = .ok (.invokespecial 66, 3) := by decide +kernel
theorem dJ2_getChars_46870_33 : decode cJ2_getChars_46870 33 = .ok (.athrow, 1) := by decide +kernel
theorem dJ2_getChars_46870_34 : decode cJ2_getChars_46870 34 = .ok (.iload 4, 2) := by decide +kernel
theorem dJ2_getChars_46870_36 : decode cJ2_getChars_46870 36 = .ok (.ireturn, 1) := by decide +kernel
theorem dJ2_inflate_0e8fd_0 : decode cJ2_inflate_0e8fd 0 = .ok (.iload_n 3, 1) := by decide +kernel
theorem dJ2_inflate_0e8fd_1 : decode cJ2_inflate_0e8fd 1 = .ok (.iload 4, 2) := by decide +kernel
theorem dJ2_inflate_0e8fd_3 : decode cJ2_inflate_0e8fd 3 = .ok (.aload_n 2, 1) := by decide +kernel
theorem dJ2_inflate_0e8fd_4 : decode cJ2_inflate_0e8fd 4 = .ok (.invokestatic 173, 3) := by decide +kernel
theorem dJ2_inflate_0e8fd_7 : decode cJ2_inflate_0e8fd 7 = .ok (.iconst 0, 1) := by decide +kernel
theorem dJ2_inflate_0e8fd_8 : decode cJ2_inflate_0e8fd 8 = .ok (.istore 5, 2) := by decide +kernel
theorem dJ2_inflate_0e8fd_10 : decode cJ2_inflate_0e8fd 10 = .ok (.iload 5, 2) := by decide +kernel
theorem dJ2_inflate_0e8fd_12 : decode cJ2_inflate_0e8fd 12 = .ok (.iload 4, 2) := by decide +kernel
theorem dJ2_inflate_0e8fd_14 : decode cJ2_inflate_0e8fd 14 = .ok (.if_icmp .ge 27, 3) := by decide +kernel
theorem dJ2_inflate_0e8fd_17 : decode cJ2_inflate_0e8fd 17 = .ok (.aload_n 2, 1) := by decide +kernel
theorem dJ2_inflate_0e8fd_18 : decode cJ2_inflate_0e8fd 18 = .ok (.iload_n 3, 1) := by decide +kernel
theorem dJ2_inflate_0e8fd_19 : decode cJ2_inflate_0e8fd 19 = .ok (.iinc 3 1, 3) := by decide +kernel
theorem dJ2_inflate_0e8fd_22 : decode cJ2_inflate_0e8fd 22 = .ok (.aload_n 0, 1) := by decide +kernel
theorem dJ2_inflate_0e8fd_23 : decode cJ2_inflate_0e8fd 23 = .ok (.iload_n 1, 1) := by decide +kernel
theorem dJ2_inflate_0e8fd_24 : decode cJ2_inflate_0e8fd 24 = .ok (.iinc 1 1, 3) := by decide +kernel
theorem dJ2_inflate_0e8fd_27 : decode cJ2_inflate_0e8fd 27 = .ok (.baload, 1) := by decide +kernel
theorem dJ2_inflate_0e8fd_28 : decode cJ2_inflate_0e8fd 28 = .ok (.sipush 255, 3) := by decide +kernel
theorem dJ2_inflate_0e8fd_31 : decode cJ2_inflate_0e8fd 31 = .ok (.iand, 1) := by decide +kernel
theorem dJ2_inflate_0e8fd_32 : decode cJ2_inflate_0e8fd 32 = .ok (.invokestatic 111, 3) := by decide +kernel
theorem dJ2_inflate_0e8fd_35 : decode cJ2_inflate_0e8fd 35 = .ok (.iinc 5 1, 3) := by decide +kernel
theorem dJ2_inflate_0e8fd_38 : decode cJ2_inflate_0e8fd 38 = .ok (.goto (-28), 3) := by decide +kernel
theorem dJ2_inflate_0e8fd_41 : decode cJ2_inflate_0e8fd 41 = .ok (.return_, 1) := by decide +kernel
theorem dJ2_getChars_ba4f3_0 : decode cJ2_getChars_ba4f3 0 = .ok (.iload_n 1, 1) := by decide +kernel
theorem dJ2_getChars_ba4f3_1 : decode cJ2_getChars_ba4f3 1 = .ok (.istore 5, 2) := by decide +kernel
theorem dJ2_getChars_ba4f3_3 : decode cJ2_getChars_ba4f3 3 = .ok (.iload_n 0, 1) := by decide +kernel
theorem dJ2_getChars_ba4f3_4 : decode cJ2_getChars_ba4f3 4 = .ok (.ifCond .ge 7, 3) := by decide +kernel
theorem dJ2_getChars_ba4f3_7 : decode cJ2_getChars_ba4f3 7 = .ok (.iconst 1, 1) := by decide +kernel
theorem dJ2_getChars_ba4f3_8 : decode cJ2_getChars_ba4f3 8 = .ok (.goto 4, 3) := by decide +kernel
theorem dJ2_getChars_ba4f3_11 : decode cJ2_getChars_ba4f3 11 = .ok (.iconst 0, 1) := by decide +kernel
theorem dJ2_getChars_ba4f3_12 : decode cJ2_getChars_ba4f3 12 = .ok (.istore 6, 2) := by decide +kernel
theorem dJ2_getChars_ba4f3_14 : decode cJ2_getChars_ba4f3 14 = .ok (.iload 6, 2) := by decide +kernel
theorem dJ2_getChars_ba4f3_16 : decode cJ2_getChars_ba4f3 16 = .ok (.ifCond .ne 6, 3) := by decide +kernel
theorem dJ2_getChars_ba4f3_19 : decode cJ2_getChars_ba4f3 19 = .ok (.iload_n 0, 1) := by decide +kernel
theorem dJ2_getChars_ba4f3_20 : decode cJ2_getChars_ba4f3 20 = .ok (.ineg, 1) := by decide +kernel
theorem dJ2_getChars_ba4f3_21 : decode cJ2_getChars_ba4f3 21 = .ok (.istore_n 0, 1) := by decide +kernel
theorem dJ2_getChars_ba4f3_22 : decode cJ2_getChars_ba4f3 22 = .ok (.iload_n 0, 1) := by decide +kernel
theorem dJ2_getChars_ba4f3_23 : decode cJ2_getChars_ba4f3 23 = .ok (.bipush (-100), 2) := by decide +kernel
theorem dJ2_getChars_ba4f3_25 : decode cJ2_getChars_ba4f3 25 = .ok (.if_icmp .gt 51, 3) := by decide +kernel
theorem dJ2_getChars_ba4f3_28 : decode cJ2_getChars_ba4f3 28 = .ok (.iload_n 0, 1) := by decide +kernel
theorem dJ2_getChars_ba4f3_29 : decode cJ2_getChars_ba4f3 29 = .ok (.bipush 100, 2) := by decide +kernel
theorem dJ2_getChars_ba4f3_31 : decode cJ2_getChars_ba4f3 31 = .ok (.idiv, 1) := by decide +kernel
theorem dJ2_getChars_ba4f3_32 : decode cJ2_getChars_ba4f3 32 = .ok (.istore_n 3, 1) := by decide +kernel
theorem dJ2_getChars_ba4f3_33 : decode cJ2_getChars_ba4f3 33 = .ok (.iload_n 3, 1) := by decide +kernel
theorem dJ2_getChars_ba4f3_34 : decode cJ2_getChars_ba4f3 34 = .ok (.bipush 100, 2) := by decide +kernel
theorem dJ2_getChars_ba4f3_36 : decode cJ2_getChars_ba4f3 36 = .ok (.imul, 1) := by decide +kernel
theorem dJ2_getChars_ba4f3_37 : decode cJ2_getChars_ba4f3 37 = .ok (.iload_n 0, 1) := by decide +kernel
theorem dJ2_getChars_ba4f3_38 : decode cJ2_getChars_ba4f3 38 = .ok (.isub, 1) := by decide +kernel
theorem dJ2_getChars_ba4f3_39 : decode cJ2_getChars_ba4f3 39 = .ok (.istore 4, 2) := by decide +kernel
theorem dJ2_getChars_ba4f3_41 : decode cJ2_getChars_ba4f3 41 = .ok (.iload_n 3, 1) := by decide +kernel
theorem dJ2_getChars_ba4f3_42 : decode cJ2_getChars_ba4f3 42 = .ok (.istore_n 0, 1) := by decide +kernel
theorem dJ2_getChars_ba4f3_43 : decode cJ2_getChars_ba4f3 43 = .ok (.aload_n 2, 1) := by decide +kernel
theorem dJ2_getChars_ba4f3_44 : decode cJ2_getChars_ba4f3 44 = .ok (.iinc 5 (-1), 3) := by decide +kernel
theorem dJ2_getChars_ba4f3_47 : decode cJ2_getChars_ba4f3 47 = .ok (.iload 5, 2) := by decide +kernel
theorem dJ2_getChars_ba4f3_49 : decode cJ2_getChars_ba4f3 49 = .ok (.getstatic 403, 3) := by decide +kernel
theorem dJ2_getChars_ba4f3_52 : decode cJ2_getChars_ba4f3 52 = .ok (.iload 4, 2) := by decide +kernel
theorem dJ2_getChars_ba4f3_54 : decode cJ2_getChars_ba4f3 54 = .ok (.baload, 1) := by decide +kernel
theorem dJ2_getChars_ba4f3_55 : decode cJ2_getChars_ba4f3 55 = .ok (.invokestatic 111, 3) := by decide +kernel
theorem dJ2_getChars_ba4f3_58 : decode cJ2_getChars_ba4f3 58 = .ok (.aload_n 2, 1) := by decide +kernel
theorem dJ2_getChars_ba4f3_59 : decode cJ2_getChars_ba4f3 59 = .ok (.iinc 5 (-1), 3) := by decide +kernel
theorem dJ2_getChars_ba4f3_62 : decode cJ2_getChars_ba4f3 62 = .ok (.iload 5, 2) := by decide +kernel
theorem dJ2_getChars_ba4f3_64 : decode cJ2_getChars_ba4f3 64 = .ok (.getstatic 407, 3) := by decide +kernel
theorem dJ2_getChars_ba4f3_67 : decode cJ2_getChars_ba4f3 67 = .ok (.iload 4, 2) := by decide +kernel
theorem dJ2_getChars_ba4f3_69 : decode cJ2_getChars_ba4f3 69 = .ok (.baload, 1) := by decide +kernel
theorem dJ2_getChars_ba4f3_70 : decode cJ2_getChars_ba4f3 70 = .ok (.invokestatic 111, 3) := by decide +kernel
theorem dJ2_getChars_ba4f3_73 : decode cJ2_getChars_ba4f3 73 = .ok (.goto (-51), 3) := by decide +kernel
theorem dJ2_getChars_ba4f3_76 : decode cJ2_getChars_ba4f3 76 = .ok (.aload_n 2, 1) := by decide +kernel
theorem dJ2_getChars_ba4f3_77 : decode cJ2_getChars_ba4f3 77 = .ok (.iinc 5 (-1), 3) := by decide +kernel
theorem dJ2_getChars_ba4f3_80 : decode cJ2_getChars_ba4f3 80 = .ok (.iload 5, 2) := by decide +kernel
theorem dJ2_getChars_ba4f3_82 : decode cJ2_getChars_ba4f3 82 = .ok (.getstatic 403, 3) := by decide +kernel
theorem dJ2_getChars_ba4f3_85 : decode cJ2_getChars_ba4f3 85 = .ok (.iload_n 0, 1) := by decide +kernel
theorem dJ2_getChars_ba4f3_86 : decode cJ2_getChars_ba4f3 86 = .ok (.ineg, 1) := by decide +kernel
theorem dJ2_getChars_ba4f3_87 : decode cJ2_getChars_ba4f3 87 = .ok (.baload, 1) := by decide +kernel
theorem dJ2_getChars_ba4f3_88 : decode cJ2_getChars_ba4f3 88 = .ok (.invokestatic 111, 3) := by decide +kernel
theorem dJ2_getChars_ba4f3_91 : decode cJ2_getChars_ba4f3 91 = .ok (.iload_n 0, 1) := by decide +kernel
theorem dJ2_getChars_ba4f3_92 : decode cJ2_getChars_ba4f3 92 = .ok (.bipush (-9), 2) := by decide +kernel
theorem dJ2_getChars_ba4f3_94 : decode cJ2_getChars_ba4f3 94 = .ok (.if_icmp .ge 18, 3) := by decide +kernel
theorem dJ2_getChars_ba4f3_97 : decode cJ2_getChars_ba4f3 97 = .ok (.aload_n 2, 1) := by decide +kernel
theorem dJ2_getChars_ba4f3_98 : decode cJ2_getChars_ba4f3 98 = .ok (.iinc 5 (-1), 3) := by decide +kernel
theorem dJ2_getChars_ba4f3_101 : decode cJ2_getChars_ba4f3 101 = .ok (.iload 5, 2) := by decide +kernel
theorem dJ2_getChars_ba4f3_103 : decode cJ2_getChars_ba4f3 103 = .ok (.getstatic 407, 3) := by decide +kernel
theorem dJ2_getChars_ba4f3_106 : decode cJ2_getChars_ba4f3 106 = .ok (.iload_n 0, 1) := by decide +kernel
theorem dJ2_getChars_ba4f3_107 : decode cJ2_getChars_ba4f3 107 = .ok (.ineg, 1) := by decide +kernel
theorem dJ2_getChars_ba4f3_108 : decode cJ2_getChars_ba4f3 108 = .ok (.baload, 1) := by decide +kernel
theorem dJ2_getChars_ba4f3_109 : decode cJ2_getChars_ba4f3 109 = .ok (.invokestatic 111, 3) := by decide +kernel
theorem dJ2_getChars_ba4f3_112 : decode cJ2_getChars_ba4f3 112 = .ok (.iload 6, 2) := by decide +kernel
theorem dJ2_getChars_ba4f3_114 : decode cJ2_getChars_ba4f3 114 = .ok (.ifCond .eq 14, 3) := by decide +kernel
theorem dJ2_getChars_ba4f3_117 : decode cJ2_getChars_ba4f3 117 = .ok (.aload_n 2, 1) := by decide +kernel
theorem dJ2_getChars_ba4f3_118 : decode cJ2_getChars_ba4f3 118 = .ok (.iinc 5 (-1), 3) := by decide +kernel
theorem dJ2_getChars_ba4f3_121 : decode cJ2_getChars_ba4f3 121 = .ok (.iload 5, 2) := by decide +kernel
theorem dJ2_getChars_ba4f3_123 : decode cJ2_getChars_ba4f3 123 = .ok (.bipush 45, 2) := by decide +kernel
theorem dJ2_getChars_ba4f3_125 : decode cJ2_getChars_ba4f3 125 = .ok (.invokestatic 111, 3) := by decide +kernel
theorem dJ2_getChars_ba4f3_128 : decode cJ2_getChars_ba4f3 128 = .ok (.iload 5, 2) := by decide +kernel
theorem dJ2_getChars_ba4f3_130 : decode cJ2_getChars_ba4f3 130 = .ok (.ireturn, 1) := by decide +kernel
theorem dJ2_checkIndex_2214a_0 : decode cJ2_checkIndex_2214a 0 = .ok (.iload_n 0, 1) := by decide +kernel
theorem dJ2_checkIndex_2214a_1 : decode cJ2_checkIndex_2214a 1 = .ok (.aload_n 1, 1) := by decide +kernel
theorem dJ2_checkIndex_2214a_2 : decode cJ2_checkIndex_2214a 2 = .ok (.invokestatic 48, 3) := by decide +kernel
theorem dJ2_checkIndex_2214a_5 : decode cJ2_checkIndex_2214a 5 = .ok (.invokestatic 414, 3) := by decide +kernel
theorem dJ2_checkIndex_2214a_8 : decode cJ2_checkIndex_2214a 8 = .ok (.return_, 1) := by decide +kernel
theorem dJ2_checkBoundsBeginEnd_d044e_0 : decode cJ2_checkBoundsBeginEnd_d044e 0 = .ok (.iload_n 0, 1) := by decide +kernel
theorem dJ2_checkBoundsBeginEnd_d044e_1 : decode cJ2_checkBoundsBeginEnd_d044e 1 = .ok (.iload_n 1, 1) := by decide +kernel
theorem dJ2_checkBoundsBeginEnd_d044e_2 : decode cJ2_checkBoundsBeginEnd_d044e 2 = .ok (.aload_n 2, 1) := by decide +kernel
theorem dJ2_checkBoundsBeginEnd_d044e_3 : decode cJ2_checkBoundsBeginEnd_d044e 3 = .ok (.invokestatic 48, 3) := by decide +kernel
theorem dJ2_checkBoundsBeginEnd_d044e_6 : decode cJ2_checkBoundsBeginEnd_d044e 6 = .ok (.invokestatic 241, 3) := by decide +kernel
theorem dJ2_checkBoundsBeginEnd_d044e_9 : decode cJ2_checkBoundsBeginEnd_d044e 9 = .ok (.return_, 1) := by decide +kernel
theorem dJ2_checkBoundsOffCount_d044e_0 : decode cJ2_checkBoundsOffCount_d044e 0 = .ok (.iload_n 0, 1) := by decide +kernel
theorem dJ2_checkBoundsOffCount_d044e_1 : decode cJ2_checkBoundsOffCount_d044e 1 = .ok (.iload_n 1, 1) := by decide +kernel
theorem dJ2_checkBoundsOffCount_d044e_2 : decode cJ2_checkBoundsOffCount_d044e 2 = .ok (.aload_n 2, 1) := by decide +kernel
theorem dJ2_checkBoundsOffCount_d044e_3 : decode cJ2_checkBoundsOffCount_d044e 3 = .ok (.invokestatic 48, 3) := by decide +kernel
theorem dJ2_checkBoundsOffCount_d044e_6 : decode cJ2_checkBoundsOffCount_d044e 6 = .ok (.invokestatic 419, 3) := by decide +kernel
theorem dJ2_checkBoundsOffCount_d044e_9 : decode cJ2_checkBoundsOffCount_d044e 9 = .ok (.pop, 1) := by decide +kernel
theorem dJ2_checkBoundsOffCount_d044e_10 : decode cJ2_checkBoundsOffCount_d044e 10 = .ok (.return_, 1) := by decide +kernel
theorem dJxa1e45_init_da8c8_0 : decode cJxa1e45_init_da8c8 0 = .ok (.aload_n 0, 1) := by decide +kernel
theorem dJxa1e45_init_da8c8_1 : decode cJxa1e45_init_da8c8 1 = .ok (.invokespecial 1, 3) := by decide +kernel
theorem dJxa1e45_init_da8c8_4 : decode cJxa1e45_init_da8c8 4 = .ok (.return_, 1) := by decide +kernel
theorem dJxc12de_init_da8c8_0 : decode cJxc12de_init_da8c8 0 = .ok (.aload_n 0, 1) := by decide +kernel
theorem dJxc12de_init_da8c8_1 : decode cJxc12de_init_da8c8 1 = .ok (.invokespecial 1, 3) := by decide +kernel
theorem dJxc12de_init_da8c8_4 : decode cJxc12de_init_da8c8 4 = .ok (.aload_n 0, 1) := by decide +kernel
theorem dJxc12de_init_da8c8_5 : decode cJxc12de_init_da8c8 5 = .ok (.iconst 0, 1) := by decide +kernel
theorem dJxc12de_init_da8c8_6 : decode cJxc12de_init_da8c8 6 = .ok (.putfield 7, 3) := by decide +kernel
theorem dJxc12de_init_da8c8_9 : decode cJxc12de_init_da8c8 9 = .ok (.return_, 1) := by decide +kernel
theorem dJx4a65c_init_da8c8_0 : decode cJx4a65c_init_da8c8 0 = .ok (.aload_n 0, 1) := by decide +kernel
theorem dJx4a65c_init_da8c8_1 : decode cJx4a65c_init_da8c8 1 = .ok (.invokespecial 1, 3) := by decide +kernel
theorem dJx4a65c_init_da8c8_4 : decode cJx4a65c_init_da8c8 4 = .ok (.aload_n 0, 1) := by decide +kernel
theorem dJx4a65c_init_da8c8_5 : decode cJx4a65c_init_da8c8 5 = .ok (.getstatic 39, 3) := by decide +kernel
theorem dJx4a65c_init_da8c8_8 : decode cJx4a65c_init_da8c8 8 = .ok (.putfield 9, 3) := by decide +kernel
theorem dJx4a65c_init_da8c8_11 : decode cJx4a65c_init_da8c8 11 = .ok (.return_, 1) := by decide +kernel
theorem dJx4a65c_grow_92f84_0 : decode cJx4a65c_grow_92f84 0 = .ok (.aload_n 0, 1) := by decide +kernel
theorem dJx4a65c_grow_92f84_1 : decode cJx4a65c_grow_92f84 1 = .ok (.getfield 9, 3) := by decide +kernel
theorem dJx4a65c_grow_92f84_4 : decode cJx4a65c_grow_92f84 4 = .ok (.arraylength, 1) := by decide +kernel
theorem dJx4a65c_grow_92f84_5 : decode cJx4a65c_grow_92f84 5 = .ok (.istore_n 2, 1) := by decide +kernel
theorem dJx4a65c_grow_92f84_6 : decode cJx4a65c_grow_92f84 6 = .ok (.iload_n 2, 1) := by decide +kernel
theorem dJx4a65c_grow_92f84_7 : decode cJx4a65c_grow_92f84 7 = .ok (.ifCond .gt 13, 3) := by decide +kernel
theorem dJx4a65c_grow_92f84_10 : decode cJx4a65c_grow_92f84 10 = .ok (.aload_n 0, 1) := by decide +kernel
theorem dJx4a65c_grow_92f84_11 : decode cJx4a65c_grow_92f84 11 = .ok (.getfield 9, 3) := by decide +kernel
theorem dJx4a65c_grow_92f84_14 : decode cJx4a65c_grow_92f84 14 = .ok (.getstatic 39, 3) := by decide +kernel
theorem dJx4a65c_grow_92f84_17 : decode cJx4a65c_grow_92f84 17 = .ok (.if_acmp .eq 28, 3) := by decide +kernel
theorem dJx4a65c_grow_92f84_20 : decode cJx4a65c_grow_92f84 20 = .ok (.iload_n 2, 1) := by decide +kernel
theorem dJx4a65c_grow_92f84_21 : decode cJx4a65c_grow_92f84 21 = .ok (.iload_n 1, 1) := by decide +kernel
theorem dJx4a65c_grow_92f84_22 : decode cJx4a65c_grow_92f84 22 = .ok (.iload_n 2, 1) := by decide +kernel
theorem dJx4a65c_grow_92f84_23 : decode cJx4a65c_grow_92f84 23 = .ok (.isub, 1) := by decide +kernel
theorem dJx4a65c_grow_92f84_24 : decode cJx4a65c_grow_92f84 24 = .ok (.iload_n 2, 1) := by decide +kernel
theorem dJx4a65c_grow_92f84_25 : decode cJx4a65c_grow_92f84 25 = .ok (.iconst 1, 1) := by decide +kernel
theorem dJx4a65c_grow_92f84_26 : decode cJx4a65c_grow_92f84 26 = .ok (.ishr, 1) := by decide +kernel
theorem dJx4a65c_grow_92f84_27 : decode cJx4a65c_grow_92f84 27 = .ok (.invokestatic 73, 3) := by decide +kernel
theorem dJx4a65c_grow_92f84_30 : decode cJx4a65c_grow_92f84 30 = .ok (.istore_n 3, 1) := by decide +kernel
theorem dJx4a65c_grow_92f84_31 : decode cJx4a65c_grow_92f84 31 = .ok (.aload_n 0, 1) := by decide +kernel
theorem dJx4a65c_grow_92f84_32 : decode cJx4a65c_grow_92f84 32 = .ok (.aload_n 0, 1) := by decide +kernel
theorem dJx4a65c_grow_92f84_33 : decode cJx4a65c_grow_92f84 33 = .ok (.getfield 9, 3) := by decide +kernel
theorem dJx4a65c_grow_92f84_36 : decode cJx4a65c_grow_92f84 36 = .ok (.iload_n 3, 1) := by decide +kernel
theorem dJx4a65c_grow_92f84_37 : decode cJx4a65c_grow_92f84 37 = .ok (.invokestatic 66, 3) := by decide +kernel
theorem dJx4a65c_grow_92f84_40 : decode cJx4a65c_grow_92f84 40 = .ok (.dup_x1, 1) := by decide +kernel
theorem dJx4a65c_grow_92f84_41 : decode cJx4a65c_grow_92f84 41 = .ok (.putfield 9, 3) := by decide +kernel
theorem dJx4a65c_grow_92f84_44 : decode cJx4a65c_grow_92f84 44 = .ok (.areturn, 1) := by decide +kernel
theorem dJx4a65c_grow_92f84_45 : decode cJx4a65c_grow_92f84 45 = .ok (.aload_n 0, 1) := by decide +kernel
theorem dJx4a65c_grow_92f84_46 : decode cJx4a65c_grow_92f84 46 = .ok (.bipush 10, 2) := by decide +kernel
theorem dJx4a65c_grow_92f84_48 : decode cJx4a65c_grow_92f84 48 = .ok (.iload_n 1, 1) := by decide +kernel
theorem dJx4a65c_grow_92f84_49 : decode cJx4a65c_grow_92f84 49 = .ok (.invokestatic 79, 3) := by decide +kernel
theorem dJx4a65c_grow_92f84_52 : decode cJx4a65c_grow_92f84 52 = .ok (.anewarray 7, 3) := by decide +kernel
theorem dJx4a65c_grow_92f84_55 : decode cJx4a65c_grow_92f84 55 = .ok (.dup_x1, 1) := by decide +kernel
theorem dJx4a65c_grow_92f84_56 : decode cJx4a65c_grow_92f84 56 = .ok (.putfield 9, 3) := by decide +kernel
theorem dJx4a65c_grow_92f84_59 : decode cJx4a65c_grow_92f84 59 = .ok (.areturn, 1) := by decide +kernel
theorem dJx4a65c_grow_d5877_0 : decode cJx4a65c_grow_d5877 0 = .ok (.aload_n 0, 1) := by decide +kernel
theorem dJx4a65c_grow_d5877_1 : decode cJx4a65c_grow_d5877 1 = .ok (.aload_n 0, 1) := by decide +kernel
theorem dJx4a65c_grow_d5877_2 : decode cJx4a65c_grow_d5877 2 = .ok (.getfield 48, 3) := by decide +kernel
theorem dJx4a65c_grow_d5877_5 : decode cJx4a65c_grow_d5877 5 = .ok (.iconst 1, 1) := by decide +kernel
theorem dJx4a65c_grow_d5877_6 : decode cJx4a65c_grow_d5877 6 = .ok (.iadd, 1) := by decide +kernel
theorem dJx4a65c_grow_d5877_7 : decode cJx4a65c_grow_d5877 7 = .ok (.invokevirtual 69, 3) := by decide +kernel
theorem dJx4a65c_grow_d5877_10 : decode cJx4a65c_grow_d5877 10 = .ok (.areturn, 1) := by decide +kernel
theorem dJx4a65c_size_8abf5_0 : decode cJx4a65c_size_8abf5 0 = .ok (.aload_n 0, 1) := by decide +kernel
theorem dJx4a65c_size_8abf5_1 : decode cJx4a65c_size_8abf5 1 = .ok (.getfield 48, 3) := by decide +kernel
theorem dJx4a65c_size_8abf5_4 : decode cJx4a65c_size_8abf5 4 = .ok (.ireturn, 1) := by decide +kernel
theorem dJx4a65c_elementData_915e3_0 : decode cJx4a65c_elementData_915e3 0 = .ok (.aload_n 0, 1) := by decide +kernel
theorem dJx4a65c_elementData_915e3_1 : decode cJx4a65c_elementData_915e3 1 = .ok (.getfield 9, 3) := by decide +kernel
theorem dJx4a65c_elementData_915e3_4 : decode cJx4a65c_elementData_915e3 4 = .ok (.iload_n 1, 1) := by decide +kernel
theorem dJx4a65c_elementData_915e3_5 : decode cJx4a65c_elementData_915e3 5 = .ok (.aaload, 1) := by decide +kernel
theorem dJx4a65c_elementData_915e3_6 : decode cJx4a65c_elementData_915e3 6 = .ok (.areturn, 1) := by decide +kernel
theorem dJx4a65c_get_915e3_0 : decode cJx4a65c_get_915e3 0 = .ok (.iload_n 1, 1) := by decide +kernel
theorem dJx4a65c_get_915e3_1 : decode cJx4a65c_get_915e3 1 = .ok (.aload_n 0, 1) := by decide +kernel
theorem dJx4a65c_get_915e3_2 : decode cJx4a65c_get_915e3 2 = .ok (.getfield 48, 3) := by decide +kernel
theorem dJx4a65c_get_915e3_5 : decode cJx4a65c_get_915e3 5 = .ok (.invokestatic 118, 3) := by decide +kernel
theorem dJx4a65c_get_915e3_8 : decode cJx4a65c_get_915e3 8 = .ok (.pop, 1) := by decide +kernel
theorem dJx4a65c_get_915e3_9 : decode cJx4a65c_get_915e3 9 = .ok (.aload_n 0, 1) := by decide +kernel
theorem dJx4a65c_get_915e3_10 : decode cJx4a65c_get_915e3 10 = .ok (.iload_n 1, 1) := by decide +kernel
theorem dJx4a65c_get_915e3_11 : decode cJx4a65c_get_915e3 11 = .ok (.invokevirtual 123, 3) := by decide +kernel
theorem dJx4a65c_get_915e3_14 : decode cJx4a65c_get_915e3 14 = .ok (.areturn, 1) := by decide +kernel
theorem dJx4a65c_add_72be8_0 : decode cJx4a65c_add_72be8 0 = .ok (.iload_n 3, 1) := by decide +kernel
theorem dJx4a65c_add_72be8_1 : decode cJx4a65c_add_72be8 1 = .ok (.aload_n 2, 1) := by decide +kernel
theorem dJx4a65c_add_72be8_2 : decode cJx4a65c_add_72be8 2 = .ok (.arraylength, 1) := by decide +kernel
theorem dJx4a65c_add_72be8_3 : decode cJx4a65c_add_72be8 3 = .ok (.if_icmp .ne 8, 3) := by decide +kernel
theorem dJx4a65c_add_72be8_6 : decode cJx4a65c_add_72be8 6 = .ok (.aload_n 0, 1) := by decide +kernel
theorem dJx4a65c_add_72be8_7 : decode cJx4a65c_add_72be8 7 = .ok (.invokevirtual 129, 3) := by decide +kernel
theorem dJx4a65c_add_72be8_10 : decode cJx4a65c_add_72be8 10 = .ok (.astore_n 2, 1) := by decide +kernel
theorem dJx4a65c_add_72be8_11 : decode cJx4a65c_add_72be8 11 = .ok (.aload_n 2, 1) := by decide +kernel
theorem dJx4a65c_add_72be8_12 : decode cJx4a65c_add_72be8 12 = .ok (.iload_n 3, 1) := by decide +kernel
theorem dJx4a65c_add_72be8_13 : decode cJx4a65c_add_72be8 13 = .ok (.aload_n 1, 1) := by decide +kernel
theorem dJx4a65c_add_72be8_14 : decode cJx4a65c_add_72be8 14 = .ok (.aastore, 1) := by decide +kernel
theorem dJx4a65c_add_72be8_15 : decode cJx4a65c_add_72be8 15 = .ok (.aload_n 0, 1) := by decide +kernel
theorem dJx4a65c_add_72be8_16 : decode cJx4a65c_add_72be8 16 = .ok (.iload_n 3, 1) := by decide +kernel
theorem dJx4a65c_add_72be8_17 : decode cJx4a65c_add_72be8 17 = .ok (.iconst 1, 1) := by decide +kernel
theorem dJx4a65c_add_72be8_18 : decode cJx4a65c_add_72be8 18 = .ok (.iadd, 1) := by decide +kernel
theorem dJx4a65c_add_72be8_19 : decode cJx4a65c_add_72be8 19 = .ok (.putfield 48, 3) := by decide +kernel
theorem dJx4a65c_add_72be8_22 : decode cJx4a65c_add_72be8 22 = .ok (.return_, 1) := by decide +kernel
theorem dJx4a65c_add_9ea2d_0 : decode cJx4a65c_add_9ea2d 0 = .ok (.aload_n 0, 1) := by decide +kernel
theorem dJx4a65c_add_9ea2d_1 : decode cJx4a65c_add_9ea2d 1 = .ok (.dup, 1) := by decide +kernel
theorem dJx4a65c_add_9ea2d_2 : decode cJx4a65c_add_9ea2d 2 = .ok (.getfield 63, 3) := by decide +kernel
theorem dJx4a65c_add_9ea2d_5 : decode cJx4a65c_add_9ea2d 5 = .ok (.iconst 1, 1) := by decide +kernel
theorem dJx4a65c_add_9ea2d_6 : decode cJx4a65c_add_9ea2d 6 = .ok (.iadd, 1) := by decide +kernel
theorem dJx4a65c_add_9ea2d_7 : decode cJx4a65c_add_9ea2d 7 = .ok (.putfield 63, 3) := by decide +kernel
theorem dJx4a65c_add_9ea2d_10 : decode cJx4a65c_add_9ea2d 10 = .ok (.aload_n 0, 1) := by decide +kernel
theorem dJx4a65c_add_9ea2d_11 : decode cJx4a65c_add_9ea2d 11 = .ok (.aload_n 1, 1) := by decide +kernel
theorem dJx4a65c_add_9ea2d_12 : decode cJx4a65c_add_9ea2d 12 = .ok (.aload_n 0, 1) := by decide +kernel
theorem dJx4a65c_add_9ea2d_13 : decode cJx4a65c_add_9ea2d 13 = .ok (.getfield 9, 3) := by decide +kernel
theorem dJx4a65c_add_9ea2d_16 : decode cJx4a65c_add_9ea2d 16 = .ok (.aload_n 0, 1) := by decide +kernel
theorem dJx4a65c_add_9ea2d_17 : decode cJx4a65c_add_9ea2d 17 = .ok (.getfield 48, 3) := by decide +kernel
theorem dJx4a65c_add_9ea2d_20 : decode cJx4a65c_add_9ea2d 20 = .ok (.invokevirtual 131, 3) := by decide +kernel
theorem dJx4a65c_add_9ea2d_23 : decode cJx4a65c_add_9ea2d 23 = .ok (.iconst 1, 1) := by decide +kernel
theorem dJx4a65c_add_9ea2d_24 : decode cJx4a65c_add_9ea2d 24 = .ok (.ireturn, 1) := by decide +kernel
theorem dJ7_copyOf_1904c_0 : decode cJ7_copyOf_1904c 0 = .ok (.aload_n 0, 1) := by decide +kernel
theorem dJ7_copyOf_1904c_1 : decode cJ7_copyOf_1904c 1 = .ok (.iload_n 1, 1) := by decide +kernel
theorem dJ7_copyOf_1904c_2 : decode cJ7_copyOf_1904c 2 = .ok (.aload_n 0, 1) := by decide +kernel
theorem dJ7_copyOf_1904c_3 : decode cJ7_copyOf_1904c 3 = .ok (.invokevirtual 86, 3) := by decide +kernel
theorem dJ7_copyOf_1904c_6 : decode cJ7_copyOf_1904c 6 = .ok (.invokestatic 300, 3) := by decide +kernel
theorem dJ7_copyOf_1904c_9 : decode cJ7_copyOf_1904c 9 = .ok (.areturn, 1) := by decide +kernel
theorem dJ7_copyOf_6403c_0 : decode cJ7_copyOf_6403c 0 = .ok (.aload_n 2, 1) := by decide +kernel
theorem dJ7_copyOf_6403c_1 : decode cJ7_copyOf_6403c 1 = .ok (.ldc 110, 2) := by decide +kernel
theorem dJ7_copyOf_6403c_3 : decode cJ7_copyOf_6403c 3 = .ok (.if_acmp .ne 10, 3) := by decide +kernel
theorem dJ7_copyOf_6403c_6 : decode cJ7_copyOf_6403c 6 = .ok (.iload_n 1, 1) := by decide +kernel
theorem dJ7_copyOf_6403c_7 : decode cJ7_copyOf_6403c 7 = .ok (.anewarray 2, 3) := by decide +kernel
theorem dJ7_copyOf_6403c_10 : decode cJ7_copyOf_6403c 10 = .ok (.goto 14, 3) := by decide +kernel
theorem dJ7_copyOf_6403c_13 : decode cJ7_copyOf_6403c 13 = .ok (.aload_n 2, 1) := by decide +kernel
theorem dJ7_copyOf_6403c_14 : decode cJ7_copyOf_6403c 14 = .ok (.invokevirtual 90, 3) := by decide +kernel
theorem dJ7_copyOf_6403c_17 : decode cJ7_copyOf_6403c 17 = .ok (.iload_n 1, 1) := by decide +kernel
theorem dJ7_copyOf_6403c_18 : decode cJ7_copyOf_6403c 18 = .ok (.invokestatic 95, 3) := by decide +kernel
theorem dJ7_copyOf_6403c_21 : decode cJ7_copyOf_6403c 21 = .ok (.checkcast 110, 3) := by decide +kernel
theorem dJ7_copyOf_6403c_24 : decode cJ7_copyOf_6403c 24 = .ok (.astore_n 3, 1) := by decide +kernel
theorem dJ7_copyOf_6403c_25 : decode cJ7_copyOf_6403c 25 = .ok (.aload_n 0, 1) := by decide +kernel
theorem dJ7_copyOf_6403c_26 : decode cJ7_copyOf_6403c 26 = .ok (.iconst 0, 1) := by decide +kernel
theorem dJ7_copyOf_6403c_27 : decode cJ7_copyOf_6403c 27 = .ok (.aload_n 3, 1) := by decide +kernel
theorem dJ7_copyOf_6403c_28 : decode cJ7_copyOf_6403c 28 = .ok (.iconst 0, 1) := by decide +kernel
theorem dJ7_copyOf_6403c_29 : decode cJ7_copyOf_6403c 29 = .ok (.aload_n 0, 1) := by decide +kernel
theorem dJ7_copyOf_6403c_30 : decode cJ7_copyOf_6403c 30 = .ok (.arraylength, 1) := by decide +kernel
theorem dJ7_copyOf_6403c_31 : decode cJ7_copyOf_6403c 31 = .ok (.iload_n 1, 1) := by decide +kernel
theorem dJ7_copyOf_6403c_32 : decode cJ7_copyOf_6403c 32 = .ok (.invokestatic 304, 3) := by decide +kernel
theorem dJ7_copyOf_6403c_35 : decode cJ7_copyOf_6403c 35 = .ok (.invokestatic 150, 3) := by decide +kernel
theorem dJ7_copyOf_6403c_38 : decode cJ7_copyOf_6403c 38 = .ok (.aload_n 3, 1) := by decide +kernel
theorem dJ7_copyOf_6403c_39 : decode cJ7_copyOf_6403c 39 = .ok (.areturn, 1) := by decide +kernel
theorem dJ7_copyOf_9075b_0 : decode cJ7_copyOf_9075b 0 = .ok (.iload_n 1, 1) := by decide +kernel
theorem dJ7_copyOf_9075b_1 : decode cJ7_copyOf_9075b 1 = .ok (.aload_n 0, 1) := by decide +kernel
theorem dJ7_copyOf_9075b_2 : decode cJ7_copyOf_9075b 2 = .ok (.arraylength, 1) := by decide +kernel
theorem dJ7_copyOf_9075b_3 : decode cJ7_copyOf_9075b 3 = .ok (.if_icmp .ne 11, 3) := by decide +kernel
theorem dJ7_copyOf_9075b_6 : decode cJ7_copyOf_9075b 6 = .ok (.aload_n 0, 1) := by decide +kernel
theorem dJ7_copyOf_9075b_7 : decode cJ7_copyOf_9075b 7 = .ok (.invokevirtual 310, 3) := by decide +kernel
theorem dJ7_copyOf_9075b_10 : decode cJ7_copyOf_9075b 10 = .ok (.checkcast 311, 3) := by decide +kernel
theorem dJ7_copyOf_9075b_13 : decode cJ7_copyOf_9075b 13 = .ok (.areturn, 1) := by decide +kernel
theorem dJ7_copyOf_9075b_14 : decode cJ7_copyOf_9075b 14 = .ok (.iload_n 1, 1) := by decide +kernel
theorem dJ7_copyOf_9075b_15 : decode cJ7_copyOf_9075b 15 = .ok (.newarray .byte, 2) := by decide +kernel
theorem dJ7_copyOf_9075b_17 : decode cJ7_copyOf_9075b 17 = .ok (.astore_n 2, 1) := by decide +kernel
theorem dJ7_copyOf_9075b_18 : decode cJ7_copyOf_9075b 18 = .ok (.aload_n 0, 1) := by decide +kernel
theorem dJ7_copyOf_9075b_19 : decode cJ7_copyOf_9075b 19 = .ok (.iconst 0, 1) := by decide +kernel
theorem dJ7_copyOf_9075b_20 : decode cJ7_copyOf_9075b 20 = .ok (.aload_n 2, 1) := by decide +kernel
theorem dJ7_copyOf_9075b_21 : decode cJ7_copyOf_9075b 21 = .ok (.iconst 0, 1) := by decide +kernel
theorem dJ7_copyOf_9075b_22 : decode cJ7_copyOf_9075b 22 = .ok (.aload_n 0, 1) := by decide +kernel
theorem dJ7_copyOf_9075b_23 : decode cJ7_copyOf_9075b 23 = .ok (.arraylength, 1) := by decide +kernel
theorem dJ7_copyOf_9075b_24 : decode cJ7_copyOf_9075b 24 = .ok (.iload_n 1, 1) := by decide +kernel
theorem dJ7_copyOf_9075b_25 : decode cJ7_copyOf_9075b 25 = .ok (.invokestatic 304, 3) := by decide +kernel
theorem dJ7_copyOf_9075b_28 : decode cJ7_copyOf_9075b 28 = .ok (.invokestatic 150, 3) := by decide +kernel
theorem dJ7_copyOf_9075b_31 : decode cJ7_copyOf_9075b 31 = .ok (.aload_n 2, 1) := by decide +kernel
theorem dJ7_copyOf_9075b_32 : decode cJ7_copyOf_9075b 32 = .ok (.areturn, 1) := by decide +kernel
theorem dJ15_checkIndex_7cf53_0 : decode cJ15_checkIndex_7cf53 0 = .ok (.iload_n 0, 1) := by decide +kernel
theorem dJ15_checkIndex_7cf53_1 : decode cJ15_checkIndex_7cf53 1 = .ok (.iload_n 1, 1) := by decide +kernel
theorem dJ15_checkIndex_7cf53_2 : decode cJ15_checkIndex_7cf53 2 = .ok (.aconst_null, 1) := by decide +kernel
theorem dJ15_checkIndex_7cf53_3 : decode cJ15_checkIndex_7cf53 3 = .ok (.invokestatic 105, 3) := by decide +kernel
theorem dJ15_checkIndex_7cf53_6 : decode cJ15_checkIndex_7cf53 6 = .ok (.ireturn, 1) := by decide +kernel
theorem dJ8_newLength_cabcc_0 : decode cJ8_newLength_cabcc 0 = .ok (.iload_n 0, 1) := by decide +kernel
theorem dJ8_newLength_cabcc_1 : decode cJ8_newLength_cabcc 1 = .ok (.iload_n 1, 1) := by decide +kernel
theorem dJ8_newLength_cabcc_2 : decode cJ8_newLength_cabcc 2 = .ok (.iload_n 2, 1) := by decide +kernel
theorem dJ8_newLength_cabcc_3 : decode cJ8_newLength_cabcc 3 = .ok (.invokestatic 194, 3) := by decide +kernel
theorem dJ8_newLength_cabcc_6 : decode cJ8_newLength_cabcc 6 = .ok (.iadd, 1) := by decide +kernel
theorem dJ8_newLength_cabcc_7 : decode cJ8_newLength_cabcc 7 = .ok (.istore_n 3, 1) := by decide +kernel
theorem dJ8_newLength_cabcc_8 : decode cJ8_newLength_cabcc 8 = .ok (.iconst 0, 1) := by decide +kernel
theorem dJ8_newLength_cabcc_9 : decode cJ8_newLength_cabcc 9 = .ok (.iload_n 3, 1) := by decide +kernel
theorem dJ8_newLength_cabcc_10 : decode cJ8_newLength_cabcc 10 = .ok (.if_icmp .ge 11, 3) := by decide +kernel
theorem dJ8_newLength_cabcc_13 : decode cJ8_newLength_cabcc 13 = .ok (.iload_n 3, 1) := by decide +kernel
theorem dJ8_newLength_cabcc_14 : decode cJ8_newLength_cabcc 14 = .ok (.ldc 200, 2) := by decide +kernel
theorem dJ8_newLength_cabcc_16 : decode cJ8_newLength_cabcc 16 = .ok (.if_icmp .gt 5, 3) := by decide +kernel
theorem dJ8_newLength_cabcc_19 : decode cJ8_newLength_cabcc 19 = .ok (.iload_n 3, 1) := by decide +kernel
theorem dJ8_newLength_cabcc_20 : decode cJ8_newLength_cabcc 20 = .ok (.ireturn, 1) := by decide +kernel
theorem dJ8_newLength_cabcc_21 : decode cJ8_newLength_cabcc 21 = .ok (.iload_n 0, 1) := by decide +kernel
theorem dJ8_newLength_cabcc_22 : decode cJ8_newLength_cabcc 22 = .ok (.iload_n 1, 1) := by decide +kernel
theorem dJ8_newLength_cabcc_23 : decode cJ8_newLength_cabcc 23 = .ok (.invokestatic 201, 3) := by decide +kernel
theorem dJ8_newLength_cabcc_26 : decode cJ8_newLength_cabcc 26 = .ok (.ireturn, 1) := by decide +kernel
theorem dJ8_hugeLength_7cf53_0 : decode cJ8_hugeLength_7cf53 0 = .ok (.iload_n 0, 1) := by decide +kernel
theorem dJ8_hugeLength_7cf53_1 : decode cJ8_hugeLength_7cf53 1 = .ok (.iload_n 1, 1) := by decide +kernel
theorem dJ8_hugeLength_7cf53_2 : decode cJ8_hugeLength_7cf53 2 = .ok (.iadd, 1) := by decide +kernel
theorem dJ8_hugeLength_7cf53_3 : decode cJ8_hugeLength_7cf53 3 = .ok (.istore_n 2, 1) := by decide +kernel
theorem dJ8_hugeLength_7cf53_4 : decode cJ8_hugeLength_7cf53 4 = .ok (.iload_n 2, 1) := by decide +kernel
theorem dJ8_hugeLength_7cf53_5 : decode cJ8_hugeLength_7cf53 5 = .ok (.ifCond .ge 44, 3) := by decide +kernel
theorem dJ8_hugeLength_7cf53_8 : decode cJ8_hugeLength_7cf53 8 = .ok (.new 204, 3) := by decide +kernel
theorem dJ8_hugeLength_7cf53_11 : decode cJ8_hugeLength_7cf53 11 = .ok (.dup, 1) := by decide +kernel
theorem dJ8_hugeLength_7cf53_12 : decode cJ8_hugeLength_7cf53 12 = .ok (.new 89, 3) := by decide +kernel
theorem dJ8_hugeLength_7cf53_15 : decode cJ8_hugeLength_7cf53 15 = .ok (.dup, 1) := by decide +kernel
theorem dJ8_hugeLength_7cf53_16 : decode cJ8_hugeLength_7cf53 16 = .ok (.invokespecial 91, 3) := by decide +kernel
theorem dJ8_hugeLength_7cf53_19 : decode cJ8_hugeLength_7cf53 19 = .ok (.ldc 206, 2) := by decide +kernel
theorem dJ8_hugeLength_7cf53_21 : decode cJ8_hugeLength_7cf53 21 = .ok (.invokevirtual 94, 3) := by decide +kernel
theorem dJ8_hugeLength_7cf53_24 : decode cJ8_hugeLength_7cf53 24 = .ok (.iload_n 0, 1) := by decide +kernel
theorem dJ8_hugeLength_7cf53_25 : decode cJ8_hugeLength_7cf53 25 = .ok (.invokevirtual 98, 3) := by decide +kernel
theorem dJ8_hugeLength_7cf53_28 : decode cJ8_hugeLength_7cf53 28 = .ok (.ldc 208, 2) := by decide +kernel
theorem dJ8_hugeLength_7cf53_30 : decode cJ8_hugeLength_7cf53 30 = .ok (.invokevirtual 94, 3) := by decide +kernel
theorem dJ8_hugeLength_7cf53_33 : decode cJ8_hugeLength_7cf53 33 = .ok (.iload_n 1, 1) := by decide +kernel
theorem dJ8_hugeLength_7cf53_34 : decode cJ8_hugeLength_7cf53 34 = .ok (.invokevirtual 98, 3) := by decide +kernel
theorem dJ8_hugeLength_7cf53_37 : decode cJ8_hugeLength_7cf53 37 = .ok (.ldc 210, 2) := by decide +kernel
theorem dJ8_hugeLength_7cf53_39 : decode cJ8_hugeLength_7cf53 39 = .ok (.invokevirtual 94, 3) := by decide +kernel
theorem dJ8_hugeLength_7cf53_42 : decode cJ8_hugeLength_7cf53 42 = .ok (.invokevirtual 101, 3) := by decide +kernel
theorem dJ8_hugeLength_7cf53_45 : decode cJ8_hugeLength_7cf53 45 = .ok (.invokespecial 212, 3) := by decide +kernel
theorem dJ8_hugeLength_7cf53_48 : decode cJ8_hugeLength_7cf53 48 = .ok (.athrow, 1) := by decide +kernel
theorem dJ8_hugeLength_7cf53_49 : decode cJ8_hugeLength_7cf53 49 = .ok (.iload_n 2, 1) := by decide +kernel
theorem dJ8_hugeLength_7cf53_50 : decode cJ8_hugeLength_7cf53 50 = .ok (.ldc 200, 2) := by decide +kernel
theorem dJ8_hugeLength_7cf53_52 : decode cJ8_hugeLength_7cf53 52 = .ok (.if_icmp .gt 6, 3) := by decide +kernel
theorem dJ8_hugeLength_7cf53_55 : decode cJ8_hugeLength_7cf53 55 = .ok (.ldc 200, 2) := by decide +kernel
theorem dJ8_hugeLength_7cf53_57 : decode cJ8_hugeLength_7cf53 57 = .ok (.ireturn, 1) := by decide +kernel
theorem dJ8_hugeLength_7cf53_58 : decode cJ8_hugeLength_7cf53 58 = .ok (.iload_n 2, 1) := by decide +kernel
theorem dJ8_hugeLength_7cf53_59 : decode cJ8_hugeLength_7cf53 59 = .ok (.ireturn, 1) := by decide +kernel
theorem dJ3_checkIndex_8e157_0 : decode cJ3_checkIndex_8e157 0 = .ok (.iload_n 0, 1) := by decide +kernel
theorem dJ3_checkIndex_8e157_1 : decode cJ3_checkIndex_8e157 1 = .ok (.ifCond .lt 8, 3) := by decide +kernel
theorem dJ3_checkIndex_8e157_4 : decode cJ3_checkIndex_8e157 4 = .ok (.iload_n 0, 1) := by decide +kernel
theorem dJ3_checkIndex_8e157_5 : decode cJ3_checkIndex_8e157 5 = .ok (.iload_n 1, 1) := by decide +kernel
theorem dJ3_checkIndex_8e157_6 : decode cJ3_checkIndex_8e157 6 = .ok (.if_icmp .lt 10, 3) := by decide +kernel
theorem dJ3_checkIndex_8e157_9 : decode cJ3_checkIndex_8e157 9 = .ok (.aload_n 2, 1) := by decide +kernel
theorem dJ3_checkIndex_8e157_10 : decode cJ3_checkIndex_8e157 10 = .ok (.iload_n 0, 1) := by decide +kernel
theorem dJ3_checkIndex_8e157_11 : decode cJ3_checkIndex_8e157 11 = .ok (.iload_n 1, 1) := by decide +kernel
theorem dJ3_checkIndex_8e157_12 : decode cJ3_checkIndex_8e157 12 = .ok (.invokestatic 95, 3) := by decide +kernel
theorem dJ3_checkIndex_8e157_15 : decode cJ3_checkIndex_8e157 15 = .ok (.athrow, 1) := by decide +kernel
theorem dJ3_checkIndex_8e157_16 : decode cJ3_checkIndex_8e157 16 = .ok (.iload_n 0, 1) := by decide +kernel
theorem dJ3_checkIndex_8e157_17 : decode cJ3_checkIndex_8e157 17 = .ok (.ireturn, 1) := by decide +kernel
theorem dJ3_checkFromToIndex_8c36e_0 : decode cJ3_checkFromToIndex_8c36e 0 = .ok (.iload_n 0, 1) := by decide +kernel
theorem dJ3_checkFromToIndex_8c36e_1 : decode cJ3_checkFromToIndex_8c36e 1 = .ok (.ifCond .lt 13, 3) := by decide +kernel
theorem dJ3_checkFromToIndex_8c36e_4 : decode cJ3_checkFromToIndex_8c36e 4 = .ok (.iload_n 0, 1) := by decide +kernel
theorem dJ3_checkFromToIndex_8c36e_5 : decode cJ3_checkFromToIndex_8c36e 5 = .ok (.iload_n 1, 1) := by decide +kernel
theorem dJ3_checkFromToIndex_8c36e_6 : decode cJ3_checkFromToIndex_8c36e 6 = .ok (.if_icmp .gt 8, 3) := by decide +kernel
theorem dJ3_checkFromToIndex_8c36e_9 : decode cJ3_checkFromToIndex_8c36e 9 = .ok (.iload_n 1, 1) := by decide +kernel
theorem dJ3_checkFromToIndex_8c36e_10 : decode cJ3_checkFromToIndex_8c36e 10 = .ok (.iload_n 2, 1) := by decide +kernel
theorem dJ3_checkFromToIndex_8c36e_11 : decode cJ3_checkFromToIndex_8c36e 11 = .ok (.if_icmp .le 11, 3) := by decide +kernel
theorem dJ3_checkFromToIndex_8c36e_14 : decode cJ3_checkFromToIndex_8c36e 14 = .ok (.aload_n 3, 1) := by decide +kernel
theorem dJ3_checkFromToIndex_8c36e_15 : decode cJ3_checkFromToIndex_8c36e 15 = .ok (.iload_n 0, 1) := by decide +kernel
theorem dJ3_checkFromToIndex_8c36e_16 : decode cJ3_checkFromToIndex_8c36e 16 = .ok (.iload_n 1, 1) := by decide +kernel
theorem dJ3_checkFromToIndex_8c36e_17 : decode cJ3_checkFromToIndex_8c36e 17 = .ok (.iload_n 2, 1) := by decide +kernel
theorem dJ3_checkFromToIndex_8c36e_18 : decode cJ3_checkFromToIndex_8c36e 18 = .ok (.invokestatic 99, 3) := by decide +kernel
theorem dJ3_checkFromToIndex_8c36e_21 : decode cJ3_checkFromToIndex_8c36e 21 = .ok (.athrow, 1) := by decide +kernel
theorem dJ3_checkFromToIndex_8c36e_22 : decode cJ3_checkFromToIndex_8c36e 22 = .ok (.iload_n 0, 1) := by decide +kernel
theorem dJ3_checkFromToIndex_8c36e_23 : decode cJ3_checkFromToIndex_8c36e 23 = .ok (.ireturn, 1) := by decide +kernel
theorem dJ3_checkFromIndexSize_8c36e_0 : decode cJ3_checkFromIndexSize_8c36e 0 = .ok (.iload_n 2, 1) := by decide +kernel
theorem dJ3_checkFromIndexSize_8c36e_1 : decode cJ3_checkFromIndexSize_8c36e 1 = .ok (.iload_n 0, 1) := by decide +kernel
theorem dJ3_checkFromIndexSize_8c36e_2 : decode cJ3_checkFromIndexSize_8c36e 2 = .ok (.ior, 1) := by decide +kernel
theorem dJ3_checkFromIndexSize_8c36e_3 : decode cJ3_checkFromIndexSize_8c36e 3 = .ok (.iload_n 1, 1) := by decide +kernel
theorem dJ3_checkFromIndexSize_8c36e_4 : decode cJ3_checkFromIndexSize_8c36e 4 = .ok (.ior, 1) := by decide +kernel
theorem dJ3_checkFromIndexSize_8c36e_5 : decode cJ3_checkFromIndexSize_8c36e 5 = .ok (.ifCond .lt 10, 3) := by decide +kernel
theorem dJ3_checkFromIndexSize_8c36e_8 : decode cJ3_checkFromIndexSize_8c36e 8 = .ok (.iload_n 1, 1) := by decide +kernel
theorem dJ3_checkFromIndexSize_8c36e_9 : decode cJ3_checkFromIndexSize_8c36e 9 = .ok (.iload_n 2, 1) := by decide +kernel
theorem dJ3_checkFromIndexSize_8c36e_10 : decode cJ3_checkFromIndexSize_8c36e 10 = .ok (.iload_n 0, 1) := by decide +kernel
theorem dJ3_checkFromIndexSize_8c36e_11 : decode cJ3_checkFromIndexSize_8c36e 11 = .ok (.isub, 1) := by decide +kernel
theorem dJ3_checkFromIndexSize_8c36e_12 : decode cJ3_checkFromIndexSize_8c36e 12 = .ok (.if_icmp .le 11, 3) := by decide +kernel
theorem dJ3_checkFromIndexSize_8c36e_15 : decode cJ3_checkFromIndexSize_8c36e 15 = .ok (.aload_n 3, 1) := by decide +kernel
theorem dJ3_checkFromIndexSize_8c36e_16 : decode cJ3_checkFromIndexSize_8c36e 16 = .ok (.iload_n 0, 1) := by decide +kernel
theorem dJ3_checkFromIndexSize_8c36e_17 : decode cJ3_checkFromIndexSize_8c36e 17 = .ok (.iload_n 1, 1) := by decide +kernel
theorem dJ3_checkFromIndexSize_8c36e_18 : decode cJ3_checkFromIndexSize_8c36e 18 = .ok (.iload_n 2, 1) := by decide +kernel
theorem dJ3_checkFromIndexSize_8c36e_19 : decode cJ3_checkFromIndexSize_8c36e 19 = .ok (.invokestatic 103, 3) := by decide +kernel
theorem dJ3_checkFromIndexSize_8c36e_22 : decode cJ3_checkFromIndexSize_8c36e 22 = .ok (.athrow, 1) := by decide +kernel
theorem dJ3_checkFromIndexSize_8c36e_23 : decode cJ3_checkFromIndexSize_8c36e 23 = .ok (.iload_n 0, 1) := by decide +kernel
theorem dJ3_checkFromIndexSize_8c36e_24 : decode cJ3_checkFromIndexSize_8c36e 24 = .ok (.ireturn, 1) := by decide +kernel
