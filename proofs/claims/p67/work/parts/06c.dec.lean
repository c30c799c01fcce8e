theorem dX8_optimalDifference_4 : decode cX8_optimalDifference 4 = .ok (.aload_n 0, 1) := by decide +kernel
theorem dX8_optimalDifference_5 : decode cX8_optimalDifference 5 = .ok (.getfield 30, 3) := by decide +kernel
theorem dX8_optimalDifference_8 : decode cX8_optimalDifference 8 = .ok (.invokevirtual 248, 3) := by decide +kernel
theorem dX8_optimalDifference_11 : decode cX8_optimalDifference 11 = .ok (.aload_n 0, 1) := by decide +kernel
theorem dX8_optimalDifference_12 : decode cX8_optimalDifference 12 = .ok (.getfield 40, 3) := by decide +kernel
theorem dX8_optimalDifference_15 : decode cX8_optimalDifference 15 = .ok (.aload_n 0, 1) := by decide +kernel
theorem dX8_optimalDifference_16 : decode cX8_optimalDifference 16 = .ok (.getfield 30, 3) := by decide +kernel
theorem dX8_optimalDifference_19 : decode cX8_optimalDifference 19 = .ok (.invokevirtual 251, 3) := by decide +kernel
theorem dX8_optimalDifference_22 : decode cX8_optimalDifference 22 = .ok (.ireturn, 1) := by decide +kernel
theorem dX8_moveValue_0 : decode cX8_moveValue 0 = .ok (.aload_n 0, 1) := by decide +kernel
theorem dX8_moveValue_1 : decode cX8_moveValue 1 = .ok (.iload_n 1, 1) := by decide +kernel
theorem dX8_moveValue_2 : decode cX8_moveValue 2 = .ok (.invokevirtual 208, 3) := by decide +kernel
theorem dX8_moveValue_5 : decode cX8_moveValue 5 = .ok (.istore_n 2, 1) := by decide +kernel
theorem dX8_moveValue_6 : decode cX8_moveValue 6 = .ok (.aload_n 0, 1) := by decide +kernel
theorem dX8_moveValue_7 : decode cX8_moveValue 7 = .ok (.getfield 40, 3) := by decide +kernel
theorem dX8_moveValue_10 : decode cX8_moveValue 10 = .ok (.aload_n 0, 1) := by decide +kernel
theorem dX8_moveValue_11 : decode cX8_moveValue 11 = .ok (.getfield 30, 3) := by decide +kernel
theorem dX8_moveValue_14 : decode cX8_moveValue 14 = .ok (.invokevirtual 248, 3) := by decide +kernel
theorem dX8_moveValue_17 : decode cX8_moveValue 17 = .ok (.aload_n 0, 1) := by decide +kernel
theorem dX8_moveValue_18 : decode cX8_moveValue 18 = .ok (.getfield 40, 3) := by decide +kernel
theorem dX8_moveValue_21 : decode cX8_moveValue 21 = .ok (.aload_n 0, 1) := by decide +kernel
theorem dX8_moveValue_22 : decode cX8_moveValue 22 = .ok (.getfield 30, 3) := by decide +kernel
theorem dX8_moveValue_25 : decode cX8_moveValue 25 = .ok (.iload_n 2, 1) := by decide +kernel
theorem dX8_moveValue_26 : decode cX8_moveValue 26 = .ok (.invokevirtual 255, 3) := by decide +kernel
theorem dX8_moveValue_29 : decode cX8_moveValue 29 = .ok (.ireturn, 1) := by decide +kernel
theorem dX8_optimalMove_0 : decode cX8_optimalMove 0 = .ok (.aload_n 0, 1) := by decide +kernel
theorem dX8_optimalMove_1 : decode cX8_optimalMove 1 = .ok (.getfield 30, 3) := by decide +kernel
theorem dX8_optimalMove_4 : decode cX8_optimalMove 4 = .ok (.getfield 129, 3) := by decide +kernel
theorem dX8_optimalMove_7 : decode cX8_optimalMove 7 = .ok (.getfield 135, 3) := by decide +kernel
theorem dX8_optimalMove_10 : decode cX8_optimalMove 10 = .ok (.ifCond .eq 14, 3) := by decide +kernel
theorem dX8_optimalMove_13 : decode cX8_optimalMove 13 = .ok (.new 259, 3) := by decide +kernel
theorem dX8_optimalMove_16 : decode cX8_optimalMove 16 = .ok (.dup, 1) := by decide +kernel
theorem dX8_optimalMove_17 : decode cX8_optimalMove 17 = .ok (.ldc_w 261, 3) := by decide +kernel
theorem dX8_optimalMove_20 : decode cX8_optimalMove 20 = .ok (.invokespecial 263, 3) := by decide +kernel
theorem dX8_optimalMove_23 : decode cX8_optimalMove 23 = .ok (.athrow, 1) := by decide +kernel
theorem dX8_optimalMove_24 : decode cX8_optimalMove 24 = .ok (.aload_n 0, 1) := by decide +kernel
theorem dX8_optimalMove_25 : decode cX8_optimalMove 25 = .ok (.getfield 40, 3) := by decide +kernel
theorem dX8_optimalMove_28 : decode cX8_optimalMove 28 = .ok (.aload_n 0, 1) := by decide +kernel
theorem dX8_optimalMove_29 : decode cX8_optimalMove 29 = .ok (.getfield 30, 3) := by decide +kernel
theorem dX8_optimalMove_32 : decode cX8_optimalMove 32 = .ok (.invokevirtual 248, 3) := by decide +kernel
theorem dX8_optimalMove_35 : decode cX8_optimalMove 35 = .ok (.aload_n 0, 1) := by decide +kernel
theorem dX8_optimalMove_36 : decode cX8_optimalMove 36 = .ok (.aload_n 0, 1) := by decide +kernel
theorem dX8_optimalMove_37 : decode cX8_optimalMove 37 = .ok (.getfield 30, 3) := by decide +kernel
theorem dX8_optimalMove_40 : decode cX8_optimalMove 40 = .ok (.invokevirtual 264, 3) := by decide +kernel
theorem dX8_optimalMove_43 : decode cX8_optimalMove 43 = .ok (.ireturn, 1) := by decide +kernel
theorem dX8_worstMove_0 : decode cX8_worstMove 0 = .ok (.aload_n 0, 1) := by decide +kernel
theorem dX8_worstMove_1 : decode cX8_worstMove 1 = .ok (.getfield 30, 3) := by decide +kernel
theorem dX8_worstMove_4 : decode cX8_worstMove 4 = .ok (.getfield 129, 3) := by decide +kernel
theorem dX8_worstMove_7 : decode cX8_worstMove 7 = .ok (.getfield 135, 3) := by decide +kernel
theorem dX8_worstMove_10 : decode cX8_worstMove 10 = .ok (.ifCond .eq 14, 3) := by decide +kernel
theorem dX8_worstMove_13 : decode cX8_worstMove 13 = .ok (.new 259, 3) := by decide +kernel
theorem dX8_worstMove_16 : decode cX8_worstMove 16 = .ok (.dup, 1) := by decide +kernel
theorem dX8_worstMove_17 : decode cX8_worstMove 17 = .ok (.ldc_w 261, 3) := by decide +kernel
theorem dX8_worstMove_20 : decode cX8_worstMove 20 = .ok (.invokespecial 263, 3) := by decide +kernel
theorem dX8_worstMove_23 : decode cX8_worstMove 23 = .ok (.athrow, 1) := by decide +kernel
theorem dX8_worstMove_24 : decode cX8_worstMove 24 = .ok (.aload_n 0, 1) := by decide +kernel
theorem dX8_worstMove_25 : decode cX8_worstMove 25 = .ok (.getfield 40, 3) := by decide +kernel
theorem dX8_worstMove_28 : decode cX8_worstMove 28 = .ok (.aload_n 0, 1) := by decide +kernel
theorem dX8_worstMove_29 : decode cX8_worstMove 29 = .ok (.getfield 30, 3) := by decide +kernel
theorem dX8_worstMove_32 : decode cX8_worstMove 32 = .ok (.invokevirtual 248, 3) := by decide +kernel
theorem dX8_worstMove_35 : decode cX8_worstMove 35 = .ok (.iconst 0, 1) := by decide +kernel
theorem dX8_worstMove_36 : decode cX8_worstMove 36 = .ok (.istore_n 1, 1) := by decide +kernel
theorem dX8_worstMove_37 : decode cX8_worstMove 37 = .ok (.aload_n 0, 1) := by decide +kernel
theorem dX8_worstMove_38 : decode cX8_worstMove 38 = .ok (.getfield 40, 3) := by decide +kernel
theorem dX8_worstMove_41 : decode cX8_worstMove 41 = .ok (.aload_n 0, 1) := by decide +kernel
theorem dX8_worstMove_42 : decode cX8_worstMove 42 = .ok (.getfield 30, 3) := by decide +kernel
theorem dX8_worstMove_45 : decode cX8_worstMove 45 = .ok (.aload_n 0, 1) := by decide +kernel
theorem dX8_worstMove_46 : decode cX8_worstMove 46 = .ok (.getfield 30, 3) := by decide +kernel
theorem dX8_worstMove_49 : decode cX8_worstMove 49 = .ok (.iconst 0, 1) := by decide +kernel
theorem dX8_worstMove_50 : decode cX8_worstMove 50 = .ok (.invokevirtual 236, 3) := by decide +kernel
theorem dX8_worstMove_53 : decode cX8_worstMove 53 = .ok (.invokevirtual 255, 3) := by decide +kernel
theorem dX8_worstMove_56 : decode cX8_worstMove 56 = .ok (.istore_n 2, 1) := by decide +kernel
theorem dX8_worstMove_57 : decode cX8_worstMove 57 = .ok (.iconst 1, 1) := by decide +kernel
theorem dX8_worstMove_58 : decode cX8_worstMove 58 = .ok (.istore_n 3, 1) := by decide +kernel
theorem dX8_worstMove_59 : decode cX8_worstMove 59 = .ok (.iload_n 3, 1) := by decide +kernel
theorem dX8_worstMove_60 : decode cX8_worstMove 60 = .ok (.aload_n 0, 1) := by decide +kernel
theorem dX8_worstMove_61 : decode cX8_worstMove 61 = .ok (.getfield 30, 3) := by decide +kernel
theorem dX8_worstMove_64 : decode cX8_worstMove 64 = .ok (.invokevirtual 205, 3) := by decide +kernel
theorem dX8_worstMove_67 : decode cX8_worstMove 67 = .ok (.if_icmp .ge 41, 3) := by decide +kernel
theorem dX8_worstMove_70 : decode cX8_worstMove 70 = .ok (.aload_n 0, 1) := by decide +kernel
theorem dX8_worstMove_71 : decode cX8_worstMove 71 = .ok (.getfield 40, 3) := by decide +kernel
theorem dX8_worstMove_74 : decode cX8_worstMove 74 = .ok (.aload_n 0, 1) := by decide +kernel
theorem dX8_worstMove_75 : decode cX8_worstMove 75 = .ok (.getfield 30, 3) := by decide +kernel
theorem dX8_worstMove_78 : decode cX8_worstMove 78 = .ok (.aload_n 0, 1) := by decide +kernel
theorem dX8_worstMove_79 : decode cX8_worstMove 79 = .ok (.getfield 30, 3) := by decide +kernel
theorem dX8_worstMove_82 : decode cX8_worstMove 82 = .ok (.iload_n 3, 1) := by decide +kernel
theorem dX8_worstMove_83 : decode cX8_worstMove 83 = .ok (.invokevirtual 236, 3) := by decide +kernel
theorem dX8_worstMove_86 : decode cX8_worstMove 86 = .ok (.invokevirtual 255, 3) := by decide +kernel
theorem dX8_worstMove_89 : decode cX8_worstMove 89 = .ok (.istore 4, 2) := by decide +kernel
theorem dX8_worstMove_91 : decode cX8_worstMove 91 = .ok (.iload 4, 2) := by decide +kernel
theorem dX8_worstMove_93 : decode cX8_worstMove 93 = .ok (.iload_n 2, 1) := by decide +kernel
theorem dX8_worstMove_94 : decode cX8_worstMove 94 = .ok (.if_icmp .ge 8, 3) := by decide +kernel
theorem dX8_worstMove_97 : decode cX8_worstMove 97 = .ok (.iload 4, 2) := by decide +kernel
theorem dX8_worstMove_99 : decode cX8_worstMove 99 = .ok (.istore_n 2, 1) := by decide +kernel
theorem dX8_worstMove_100 : decode cX8_worstMove 100 = .ok (.iload_n 3, 1) := by decide +kernel
theorem dX8_worstMove_101 : decode cX8_worstMove 101 = .ok (.istore_n 1, 1) := by decide +kernel
theorem dX8_worstMove_102 : decode cX8_worstMove 102 = .ok (.iinc 3 1, 3) := by decide +kernel
theorem dX8_worstMove_105 : decode cX8_worstMove 105 = .ok (.goto (-46), 3) := by decide +kernel
theorem dX8_worstMove_108 : decode cX8_worstMove 108 = .ok (.iload_n 1, 1) := by decide +kernel
theorem dX8_worstMove_109 : decode cX8_worstMove 109 = .ok (.ireturn, 1) := by decide +kernel
theorem dX8_optimalMoveCount_0 : decode cX8_optimalMoveCount 0 = .ok (.aload_n 0, 1) := by decide +kernel
theorem dX8_optimalMoveCount_1 : decode cX8_optimalMoveCount 1 = .ok (.invokevirtual 267, 3) := by decide +kernel
theorem dX8_optimalMoveCount_4 : decode cX8_optimalMoveCount 4 = .ok (.ireturn, 1) := by decide +kernel
theorem dX8_isPassForced_0 : decode cX8_isPassForced 0 = .ok (.aload_n 0, 1) := by decide +kernel
theorem dX8_isPassForced_1 : decode cX8_isPassForced 1 = .ok (.getfield 30, 3) := by decide +kernel
theorem dX8_isPassForced_4 : decode cX8_isPassForced 4 = .ok (.getfield 129, 3) := by decide +kernel
theorem dX8_isPassForced_7 : decode cX8_isPassForced 7 = .ok (.getfield 135, 3) := by decide +kernel
theorem dX8_isPassForced_10 : decode cX8_isPassForced 10 = .ok (.ifCond .eq 5, 3) := by decide +kernel
theorem dX8_isPassForced_13 : decode cX8_isPassForced 13 = .ok (.iconst 0, 1) := by decide +kernel
theorem dX8_isPassForced_14 : decode cX8_isPassForced 14 = .ok (.ireturn, 1) := by decide +kernel
theorem dX8_isPassForced_15 : decode cX8_isPassForced 15 = .ok (.aload_n 0, 1) := by decide +kernel
theorem dX8_isPassForced_16 : decode cX8_isPassForced 16 = .ok (.invokevirtual 267, 3) := by decide +kernel
theorem dX8_isPassForced_19 : decode cX8_isPassForced 19 = .ok (.iconst 1, 1) := by decide +kernel
theorem dX8_isPassForced_20 : decode cX8_isPassForced 20 = .ok (.if_icmp .ne 27, 3) := by decide +kernel
theorem dX8_isPassForced_23 : decode cX8_isPassForced 23 = .ok (.aload_n 0, 1) := by decide +kernel
theorem dX8_isPassForced_24 : decode cX8_isPassForced 24 = .ok (.getfield 30, 3) := by decide +kernel
theorem dX8_isPassForced_27 : decode cX8_isPassForced 27 = .ok (.aload_n 0, 1) := by decide +kernel
theorem dX8_isPassForced_28 : decode cX8_isPassForced 28 = .ok (.aload_n 0, 1) := by decide +kernel
theorem dX8_isPassForced_29 : decode cX8_isPassForced 29 = .ok (.getfield 30, 3) := by decide +kernel
theorem dX8_isPassForced_32 : decode cX8_isPassForced 32 = .ok (.invokevirtual 264, 3) := by decide +kernel
theorem dX8_isPassForced_35 : decode cX8_isPassForced 35 = .ok (.invokevirtual 236, 3) := by decide +kernel
theorem dX8_isPassForced_38 : decode cX8_isPassForced 38 = .ok (.bipush 6, 2) := by decide +kernel
theorem dX8_isPassForced_40 : decode cX8_isPassForced 40 = .ok (.if_icmp .ne 7, 3) := by decide +kernel
theorem dX8_isPassForced_43 : decode cX8_isPassForced 43 = .ok (.iconst 1, 1) := by decide +kernel
theorem dX8_isPassForced_44 : decode cX8_isPassForced 44 = .ok (.goto 4, 3) := by decide +kernel
theorem dX8_isPassForced_47 : decode cX8_isPassForced 47 = .ok (.iconst 0, 1) := by decide +kernel
theorem dX8_isPassForced_48 : decode cX8_isPassForced 48 = .ok (.ireturn, 1) := by decide +kernel
theorem dX8_optimalLineLength_0 : decode cX8_optimalLineLength 0 = .ok (.aload_n 0, 1) := by decide +kernel
theorem dX8_optimalLineLength_1 : decode cX8_optimalLineLength 1 = .ok (.invokevirtual 270, 3) := by decide +kernel
theorem dX8_optimalLineLength_4 : decode cX8_optimalLineLength 4 = .ok (.aload_n 0, 1) := by decide +kernel
theorem dX8_optimalLineLength_5 : decode cX8_optimalLineLength 5 = .ok (.getfield 34, 3) := by decide +kernel
theorem dX8_optimalLineLength_8 : decode cX8_optimalLineLength 8 = .ok (.getfield 129, 3) := by decide +kernel
theorem dX8_optimalLineLength_11 : decode cX8_optimalLineLength 11 = .ok (.getfield 221, 3) := by decide +kernel
theorem dX8_optimalLineLength_14 : decode cX8_optimalLineLength 14 = .ok (.aload_n 0, 1) := by decide +kernel
theorem dX8_optimalLineLength_15 : decode cX8_optimalLineLength 15 = .ok (.getfield 30, 3) := by decide +kernel
theorem dX8_optimalLineLength_18 : decode cX8_optimalLineLength 18 = .ok (.getfield 129, 3) := by decide +kernel
theorem dX8_optimalLineLength_21 : decode cX8_optimalLineLength 21 = .ok (.getfield 221, 3) := by decide +kernel
theorem dX8_optimalLineLength_24 : decode cX8_optimalLineLength 24 = .ok (.isub, 1) := by decide +kernel
theorem dX8_optimalLineLength_25 : decode cX8_optimalLineLength 25 = .ok (.ireturn, 1) := by decide +kernel
theorem dX8_optimalLineScore_0 : decode cX8_optimalLineScore 0 = .ok (.aload_n 0, 1) := by decide +kernel
theorem dX8_optimalLineScore_1 : decode cX8_optimalLineScore 1 = .ok (.invokevirtual 270, 3) := by decide +kernel
theorem dX8_optimalLineScore_4 : decode cX8_optimalLineScore 4 = .ok (.aload_n 0, 1) := by decide +kernel
theorem dX8_optimalLineScore_5 : decode cX8_optimalLineScore 5 = .ok (.getfield 30, 3) := by decide +kernel
theorem dX8_optimalLineScore_8 : decode cX8_optimalLineScore 8 = .ok (.getfield 129, 3) := by decide +kernel
theorem dX8_optimalLineScore_11 : decode cX8_optimalLineScore 11 = .ok (.getfield 221, 3) := by decide +kernel
theorem dX8_optimalLineScore_14 : decode cX8_optimalLineScore 14 = .ok (.istore_n 2, 1) := by decide +kernel
theorem dX8_optimalLineScore_15 : decode cX8_optimalLineScore 15 = .ok (.iload_n 1, 1) := by decide +kernel
theorem dX8_optimalLineScore_16 : decode cX8_optimalLineScore 16 = .ok (.ifCond .lt 19, 3) := by decide +kernel
theorem dX8_optimalLineScore_19 : decode cX8_optimalLineScore 19 = .ok (.iload_n 1, 1) := by decide +kernel
theorem dX8_optimalLineScore_20 : decode cX8_optimalLineScore 20 = .ok (.aload_n 0, 1) := by decide +kernel
theorem dX8_optimalLineScore_21 : decode cX8_optimalLineScore 21 = .ok (.getfield 34, 3) := by decide +kernel
theorem dX8_optimalLineScore_24 : decode cX8_optimalLineScore 24 = .ok (.getfield 129, 3) := by decide +kernel
theorem dX8_optimalLineScore_27 : decode cX8_optimalLineScore 27 = .ok (.getfield 221, 3) := by decide +kernel
theorem dX8_optimalLineScore_30 : decode cX8_optimalLineScore 30 = .ok (.iload_n 2, 1) := by decide +kernel
theorem dX8_optimalLineScore_31 : decode cX8_optimalLineScore 31 = .ok (.isub, 1) := by decide +kernel
theorem dX8_optimalLineScore_32 : decode cX8_optimalLineScore 32 = .ok (.if_icmp .lt 14, 3) := by decide +kernel
theorem dX8_optimalLineScore_35 : decode cX8_optimalLineScore 35 = .ok (.new 273, 3) := by decide +kernel
theorem dX8_optimalLineScore_38 : decode cX8_optimalLineScore 38 = .ok (.dup, 1) := by decide +kernel
theorem dX8_optimalLineScore_39 : decode cX8_optimalLineScore 39 = .ok (.ldc_w 275, 3) := by decide +kernel
theorem dX8_optimalLineScore_42 : decode cX8_optimalLineScore 42 = .ok (.invokespecial 277, 3) := by decide +kernel
theorem dX8_optimalLineScore_45 : decode cX8_optimalLineScore 45 = .ok (.athrow, 1) := by decide +kernel
theorem dX8_optimalLineScore_46 : decode cX8_optimalLineScore 46 = .ok (.aload_n 0, 1) := by decide +kernel
theorem dX8_optimalLineScore_47 : decode cX8_optimalLineScore 47 = .ok (.getfield 34, 3) := by decide +kernel
theorem dX8_optimalLineScore_50 : decode cX8_optimalLineScore 50 = .ok (.getfield 129, 3) := by decide +kernel
theorem dX8_optimalLineScore_53 : decode cX8_optimalLineScore 53 = .ok (.getfield 227, 3) := by decide +kernel
theorem dX8_optimalLineScore_56 : decode cX8_optimalLineScore 56 = .ok (.iload_n 2, 1) := by decide +kernel
theorem dX8_optimalLineScore_57 : decode cX8_optimalLineScore 57 = .ok (.iload_n 1, 1) := by decide +kernel
theorem dX8_optimalLineScore_58 : decode cX8_optimalLineScore 58 = .ok (.iadd, 1) := by decide +kernel
theorem dX8_optimalLineScore_59 : decode cX8_optimalLineScore 59 = .ok (.invokestatic 170, 3) := by decide +kernel
theorem dX8_optimalLineScore_62 : decode cX8_optimalLineScore 62 = .ok (.ireturn, 1) := by decide +kernel
theorem dX8_chainDifference_0 : decode cX8_chainDifference 0 = .ok (.aload_n 0, 1) := by decide +kernel
theorem dX8_chainDifference_1 : decode cX8_chainDifference 1 = .ok (.iload_n 1, 1) := by decide +kernel
theorem dX8_chainDifference_2 : decode cX8_chainDifference 2 = .ok (.invokevirtual 181, 3) := by decide +kernel
theorem dX8_chainDifference_5 : decode cX8_chainDifference 5 = .ok (.aload_n 0, 1) := by decide +kernel
theorem dX8_chainDifference_6 : decode cX8_chainDifference 6 = .ok (.getfield 40, 3) := by decide +kernel
theorem dX8_chainDifference_9 : decode cX8_chainDifference 9 = .ok (.aload_n 0, 1) := by decide +kernel
theorem dX8_chainDifference_10 : decode cX8_chainDifference 10 = .ok (.getfield 30, 3) := by decide +kernel
theorem dX8_chainDifference_13 : decode cX8_chainDifference 13 = .ok (.invokevirtual 248, 3) := by decide +kernel
theorem dX8_chainDifference_16 : decode cX8_chainDifference 16 = .ok (.aload_n 0, 1) := by decide +kernel
theorem dX8_chainDifference_17 : decode cX8_chainDifference 17 = .ok (.getfield 40, 3) := by decide +kernel
theorem dX8_chainDifference_20 : decode cX8_chainDifference 20 = .ok (.aload_n 0, 1) := by decide +kernel
theorem dX8_chainDifference_21 : decode cX8_chainDifference 21 = .ok (.getfield 30, 3) := by decide +kernel
theorem dX8_chainDifference_24 : decode cX8_chainDifference 24 = .ok (.iload_n 1, 1) := by decide +kernel
theorem dX8_chainDifference_25 : decode cX8_chainDifference 25 = .ok (.invokevirtual 278, 3) := by decide +kernel
theorem dX8_chainDifference_28 : decode cX8_chainDifference 28 = .ok (.ireturn, 1) := by decide +kernel
theorem dX8_expectedLead_0 : decode cX8_expectedLead 0 = .ok (.aload_n 0, 1) := by decide +kernel
theorem dX8_expectedLead_1 : decode cX8_expectedLead 1 = .ok (.getfield 30, 3) := by decide +kernel
theorem dX8_expectedLead_4 : decode cX8_expectedLead 4 = .ok (.getfield 129, 3) := by decide +kernel
theorem dX8_expectedLead_7 : decode cX8_expectedLead 7 = .ok (.getfield 160, 3) := by decide +kernel
theorem dX8_expectedLead_10 : decode cX8_expectedLead 10 = .ok (.istore_n 1, 1) := by decide +kernel
theorem dX8_expectedLead_11 : decode cX8_expectedLead 11 = .ok (.aload_n 0, 1) := by decide +kernel
theorem dX8_expectedLead_12 : decode cX8_expectedLead 12 = .ok (.getfield 40, 3) := by decide +kernel
theorem dX8_expectedLead_15 : decode cX8_expectedLead 15 = .ok (.aload_n 0, 1) := by decide +kernel
theorem dX8_expectedLead_16 : decode cX8_expectedLead 16 = .ok (.getfield 30, 3) := by decide +kernel
theorem dX8_expectedLead_19 : decode cX8_expectedLead 19 = .ok (.invokevirtual 248, 3) := by decide +kernel
theorem dX8_expectedLead_22 : decode cX8_expectedLead 22 = .ok (.aload_n 0, 1) := by decide +kernel
theorem dX8_expectedLead_23 : decode cX8_expectedLead 23 = .ok (.getfield 30, 3) := by decide +kernel
theorem dX8_expectedLead_26 : decode cX8_expectedLead 26 = .ok (.iload_n 1, 1) := by decide +kernel
theorem dX8_expectedLead_27 : decode cX8_expectedLead 27 = .ok (.invokevirtual 245, 3) := by decide +kernel
theorem dX8_expectedLead_30 : decode cX8_expectedLead 30 = .ok (.aload_n 0, 1) := by decide +kernel
theorem dX8_expectedLead_31 : decode cX8_expectedLead 31 = .ok (.getfield 30, 3) := by decide +kernel
theorem dX8_expectedLead_34 : decode cX8_expectedLead 34 = .ok (.iconst 1, 1) := by decide +kernel
theorem dX8_expectedLead_35 : decode cX8_expectedLead 35 = .ok (.iload_n 1, 1) := by decide +kernel
theorem dX8_expectedLead_36 : decode cX8_expectedLead 36 = .ok (.isub, 1) := by decide +kernel
theorem dX8_expectedLead_37 : decode cX8_expectedLead 37 = .ok (.invokevirtual 245, 3) := by decide +kernel
theorem dX8_expectedLead_40 : decode cX8_expectedLead 40 = .ok (.isub, 1) := by decide +kernel
theorem dX8_expectedLead_41 : decode cX8_expectedLead 41 = .ok (.aload_n 0, 1) := by decide +kernel
theorem dX8_expectedLead_42 : decode cX8_expectedLead 42 = .ok (.getfield 40, 3) := by decide +kernel
theorem dX8_expectedLead_45 : decode cX8_expectedLead 45 = .ok (.aload_n 0, 1) := by decide +kernel
theorem dX8_expectedLead_46 : decode cX8_expectedLead 46 = .ok (.getfield 30, 3) := by decide +kernel
theorem dX8_expectedLead_49 : decode cX8_expectedLead 49 = .ok (.invokevirtual 251, 3) := by decide +kernel
theorem dX8_expectedLead_52 : decode cX8_expectedLead 52 = .ok (.iadd, 1) := by decide +kernel
theorem dX8_expectedLead_53 : decode cX8_expectedLead 53 = .ok (.ireturn, 1) := by decide +kernel
theorem dX8_firstBest_0 : decode cX8_firstBest 0 = .ok (.iconst 0, 1) := by decide +kernel
theorem dX8_firstBest_1 : decode cX8_firstBest 1 = .ok (.istore_n 2, 1) := by decide +kernel
theorem dX8_firstBest_2 : decode cX8_firstBest 2 = .ok (.aload_n 0, 1) := by decide +kernel
theorem dX8_firstBest_3 : decode cX8_firstBest 3 = .ok (.getfield 40, 3) := by decide +kernel
theorem dX8_firstBest_6 : decode cX8_firstBest 6 = .ok (.aload_n 1, 1) := by decide +kernel
theorem dX8_firstBest_7 : decode cX8_firstBest 7 = .ok (.aload_n 1, 1) := by decide +kernel
theorem dX8_firstBest_8 : decode cX8_firstBest 8 = .ok (.iconst 0, 1) := by decide +kernel
theorem dX8_firstBest_9 : decode cX8_firstBest 9 = .ok (.invokevirtual 236, 3) := by decide +kernel
theorem dX8_firstBest_12 : decode cX8_firstBest 12 = .ok (.invokevirtual 255, 3) := by decide +kernel
theorem dX8_firstBest_15 : decode cX8_firstBest 15 = .ok (.istore_n 3, 1) := by decide +kernel
theorem dX8_firstBest_16 : decode cX8_firstBest 16 = .ok (.iconst 1, 1) := by decide +kernel
theorem dX8_firstBest_17 : decode cX8_firstBest 17 = .ok (.istore 4, 2) := by decide +kernel
theorem dX8_firstBest_19 : decode cX8_firstBest 19 = .ok (.iload 4, 2) := by decide +kernel
theorem dX8_firstBest_21 : decode cX8_firstBest 21 = .ok (.aload_n 1, 1) := by decide +kernel
theorem dX8_firstBest_22 : decode cX8_firstBest 22 = .ok (.invokevirtual 205, 3) := by decide +kernel
theorem dX8_firstBest_25 : decode cX8_firstBest 25 = .ok (.if_icmp .ge 37, 3) := by decide +kernel
theorem dX8_firstBest_28 : decode cX8_firstBest 28 = .ok (.aload_n 0, 1) := by decide +kernel
theorem dX8_firstBest_29 : decode cX8_firstBest 29 = .ok (.getfield 40, 3) := by decide +kernel
theorem dX8_firstBest_32 : decode cX8_firstBest 32 = .ok (.aload_n 1, 1) := by decide +kernel
theorem dX8_firstBest_33 : decode cX8_firstBest 33 = .ok (.aload_n 1, 1) := by decide +kernel
theorem dX8_firstBest_34 : decode cX8_firstBest 34 = .ok (.iload 4, 2) := by decide +kernel
theorem dX8_firstBest_36 : decode cX8_firstBest 36 = .ok (.invokevirtual 236, 3) := by decide +kernel
theorem dX8_firstBest_39 : decode cX8_firstBest 39 = .ok (.invokevirtual 255, 3) := by decide +kernel
theorem dX8_firstBest_42 : decode cX8_firstBest 42 = .ok (.istore 5, 2) := by decide +kernel
theorem dX8_firstBest_44 : decode cX8_firstBest 44 = .ok (.iload 5, 2) := by decide +kernel
theorem dX8_firstBest_46 : decode cX8_firstBest 46 = .ok (.iload_n 3, 1) := by decide +kernel
theorem dX8_firstBest_47 : decode cX8_firstBest 47 = .ok (.if_icmp .le 9, 3) := by decide +kernel
theorem dX8_firstBest_50 : decode cX8_firstBest 50 = .ok (.iload 5, 2) := by decide +kernel
theorem dX8_firstBest_52 : decode cX8_firstBest 52 = .ok (.istore_n 3, 1) := by decide +kernel
theorem dX8_firstBest_53 : decode cX8_firstBest 53 = .ok (.iload 4, 2) := by decide +kernel
theorem dX8_firstBest_55 : decode cX8_firstBest 55 = .ok (.istore_n 2, 1) := by decide +kernel
theorem dX8_firstBest_56 : decode cX8_firstBest 56 = .ok (.iinc 4 1, 3) := by decide +kernel
theorem dX8_firstBest_59 : decode cX8_firstBest 59 = .ok (.goto (-40), 3) := by decide +kernel
theorem dX8_firstBest_62 : decode cX8_firstBest 62 = .ok (.iload_n 2, 1) := by decide +kernel
theorem dX8_firstBest_63 : decode cX8_firstBest 63 = .ok (.ireturn, 1) := by decide +kernel
theorem dX8_countBest_0 : decode cX8_countBest 0 = .ok (.aload_n 0, 1) := by decide +kernel
theorem dX8_countBest_1 : decode cX8_countBest 1 = .ok (.getfield 40, 3) := by decide +kernel
theorem dX8_countBest_4 : decode cX8_countBest 4 = .ok (.aload_n 0, 1) := by decide +kernel
theorem dX8_countBest_5 : decode cX8_countBest 5 = .ok (.getfield 30, 3) := by decide +kernel
theorem dX8_countBest_8 : decode cX8_countBest 8 = .ok (.invokevirtual 248, 3) := by decide +kernel
theorem dX8_countBest_11 : decode cX8_countBest 11 = .ok (.aload_n 0, 1) := by decide +kernel
theorem dX8_countBest_12 : decode cX8_countBest 12 = .ok (.getfield 40, 3) := by decide +kernel
theorem dX8_countBest_15 : decode cX8_countBest 15 = .ok (.aload_n 0, 1) := by decide +kernel
theorem dX8_countBest_16 : decode cX8_countBest 16 = .ok (.getfield 30, 3) := by decide +kernel
theorem dX8_countBest_19 : decode cX8_countBest 19 = .ok (.invokevirtual 251, 3) := by decide +kernel
theorem dX8_countBest_22 : decode cX8_countBest 22 = .ok (.istore_n 1, 1) := by decide +kernel
theorem dX8_countBest_23 : decode cX8_countBest 23 = .ok (.iconst 0, 1) := by decide +kernel
theorem dX8_countBest_24 : decode cX8_countBest 24 = .ok (.istore_n 2, 1) := by decide +kernel
theorem dX8_countBest_25 : decode cX8_countBest 25 = .ok (.iconst 0, 1) := by decide +kernel
theorem dX8_countBest_26 : decode cX8_countBest 26 = .ok (.istore_n 3, 1) := by decide +kernel
theorem dX8_countBest_27 : decode cX8_countBest 27 = .ok (.iload_n 3, 1) := by decide +kernel
theorem dX8_countBest_28 : decode cX8_countBest 28 = .ok (.aload_n 0, 1) := by decide +kernel
theorem dX8_countBest_29 : decode cX8_countBest 29 = .ok (.getfield 30, 3) := by decide +kernel
theorem dX8_countBest_32 : decode cX8_countBest 32 = .ok (.invokevirtual 205, 3) := by decide +kernel
theorem dX8_countBest_35 : decode cX8_countBest 35 = .ok (.if_icmp .ge 35, 3) := by decide +kernel
theorem dX8_countBest_38 : decode cX8_countBest 38 = .ok (.aload_n 0, 1) := by decide +kernel
theorem dX8_countBest_39 : decode cX8_countBest 39 = .ok (.getfield 40, 3) := by decide +kernel
theorem dX8_countBest_42 : decode cX8_countBest 42 = .ok (.aload_n 0, 1) := by decide +kernel
theorem dX8_countBest_43 : decode cX8_countBest 43 = .ok (.getfield 30, 3) := by decide +kernel
theorem dX8_countBest_46 : decode cX8_countBest 46 = .ok (.aload_n 0, 1) := by decide +kernel
theorem dX8_countBest_47 : decode cX8_countBest 47 = .ok (.getfield 30, 3) := by decide +kernel
theorem dX8_countBest_50 : decode cX8_countBest 50 = .ok (.iload_n 3, 1) := by decide +kernel
theorem dX8_countBest_51 : decode cX8_countBest 51 = .ok (.invokevirtual 236, 3) := by decide +kernel
theorem dX8_countBest_54 : decode cX8_countBest 54 = .ok (.invokevirtual 255, 3) := by decide +kernel
theorem dX8_countBest_57 : decode cX8_countBest 57 = .ok (.iload_n 1, 1) := by decide +kernel
theorem dX8_countBest_58 : decode cX8_countBest 58 = .ok (.if_icmp .ne 6, 3) := by decide +kernel
theorem dX8_countBest_61 : decode cX8_countBest 61 = .ok (.iinc 2 1, 3) := by decide +kernel
theorem dX8_countBest_64 : decode cX8_countBest 64 = .ok (.iinc 3 1, 3) := by decide +kernel
theorem dX8_countBest_67 : decode cX8_countBest 67 = .ok (.goto (-40), 3) := by decide +kernel
theorem dX8_countBest_70 : decode cX8_countBest 70 = .ok (.iload_n 2, 1) := by decide +kernel
theorem dX8_countBest_71 : decode cX8_countBest 71 = .ok (.ireturn, 1) := by decide +kernel
theorem dX8_playBest_0 : decode cX8_playBest 0 = .ok (.iconst 0, 1) := by decide +kernel
theorem dX8_playBest_1 : decode cX8_playBest 1 = .ok (.istore_n 3, 1) := by decide +kernel
theorem dX8_playBest_2 : decode cX8_playBest 2 = .ok (.iload_n 3, 1) := by decide +kernel
theorem dX8_playBest_3 : decode cX8_playBest 3 = .ok (.iload_n 2, 1) := by decide +kernel
theorem dX8_playBest_4 : decode cX8_playBest 4 = .ok (.if_icmp .ge 32, 3) := by decide +kernel
theorem dX8_playBest_7 : decode cX8_playBest 7 = .ok (.aload_n 1, 1) := by decide +kernel
theorem dX8_playBest_8 : decode cX8_playBest 8 = .ok (.getfield 129, 3) := by decide +kernel
theorem dX8_playBest_11 : decode cX8_playBest 11 = .ok (.getfield 135, 3) := by decide +kernel
theorem dX8_playBest_14 : decode cX8_playBest 14 = .ok (.ifCond .ne 22, 3) := by decide +kernel
theorem dX8_playBest_17 : decode cX8_playBest 17 = .ok (.aload_n 1, 1) := by decide +kernel
theorem dX8_playBest_18 : decode cX8_playBest 18 = .ok (.aload_n 1, 1) := by decide +kernel
theorem dX8_playBest_19 : decode cX8_playBest 19 = .ok (.aload_n 0, 1) := by decide +kernel
theorem dX8_playBest_20 : decode cX8_playBest 20 = .ok (.aload_n 1, 1) := by decide +kernel
theorem dX8_playBest_21 : decode cX8_playBest 21 = .ok (.invokevirtual 264, 3) := by decide +kernel
theorem dX8_playBest_24 : decode cX8_playBest 24 = .ok (.invokevirtual 236, 3) := by decide +kernel
theorem dX8_playBest_27 : decode cX8_playBest 27 = .ok (.invokevirtual 281, 3) := by decide +kernel
theorem dX8_playBest_30 : decode cX8_playBest 30 = .ok (.iinc 3 1, 3) := by decide +kernel
theorem dX8_playBest_33 : decode cX8_playBest 33 = .ok (.goto (-31), 3) := by decide +kernel
theorem dX8_playBest_36 : decode cX8_playBest 36 = .ok (.iload_n 3, 1) := by decide +kernel
theorem dX8_playBest_37 : decode cX8_playBest 37 = .ok (.ireturn, 1) := by decide +kernel
theorem dX8_tryOptimalLine_0 : decode cX8_tryOptimalLine 0 = .ok (.aload_n 0, 1) := by decide +kernel
theorem dX8_tryOptimalLine_1 : decode cX8_tryOptimalLine 1 = .ok (.getfield 40, 3) := by decide +kernel
theorem dX8_tryOptimalLine_4 : decode cX8_tryOptimalLine 4 = .ok (.aload_n 0, 1) := by decide +kernel
theorem dX8_tryOptimalLine_5 : decode cX8_tryOptimalLine 5 = .ok (.getfield 30, 3) := by decide +kernel
theorem dX8_tryOptimalLine_8 : decode cX8_tryOptimalLine 8 = .ok (.invokevirtual 248, 3) := by decide +kernel
theorem dX8_tryOptimalLine_11 : decode cX8_tryOptimalLine 11 = .ok (.aload_n 0, 1) := by decide +kernel
theorem dX8_tryOptimalLine_12 : decode cX8_tryOptimalLine 12 = .ok (.getfield 34, 3) := by decide +kernel
theorem dX8_tryOptimalLine_15 : decode cX8_tryOptimalLine 15 = .ok (.aload_n 0, 1) := by decide +kernel
theorem dX8_tryOptimalLine_16 : decode cX8_tryOptimalLine 16 = .ok (.getfield 30, 3) := by decide +kernel
theorem dX8_tryOptimalLine_19 : decode cX8_tryOptimalLine 19 = .ok (.invokevirtual 106, 3) := by decide +kernel
theorem dX8_tryOptimalLine_22 : decode cX8_tryOptimalLine 22 = .ok (.aload_n 0, 1) := by decide +kernel
theorem dX8_tryOptimalLine_23 : decode cX8_tryOptimalLine 23 = .ok (.aload_n 0, 1) := by decide +kernel
theorem dX8_tryOptimalLine_24 : decode cX8_tryOptimalLine 24 = .ok (.getfield 34, 3) := by decide +kernel
theorem dX8_tryOptimalLine_27 : decode cX8_tryOptimalLine 27 = .ok (.bipush 42, 2) := by decide +kernel
theorem dX8_tryOptimalLine_29 : decode cX8_tryOptimalLine 29 = .ok (.invokevirtual 284, 3) := by decide +kernel
theorem dX8_tryOptimalLine_32 : decode cX8_tryOptimalLine 32 = .ok (.pop, 1) := by decide +kernel
theorem dX8_tryOptimalLine_33 : decode cX8_tryOptimalLine 33 = .ok (.return_, 1) := by decide +kernel
theorem dX8_greedyMove_0 : decode cX8_greedyMove 0 = .ok (.aload_n 0, 1) := by decide +kernel
theorem dX8_greedyMove_1 : decode cX8_greedyMove 1 = .ok (.getfield 30, 3) := by decide +kernel
theorem dX8_greedyMove_4 : decode cX8_greedyMove 4 = .ok (.invokevirtual 233, 3) := by decide +kernel
theorem dX8_greedyMove_7 : decode cX8_greedyMove 7 = .ok (.istore_n 1, 1) := by decide +kernel
theorem dX8_greedyMove_8 : decode cX8_greedyMove 8 = .ok (.iload_n 1, 1) := by decide +kernel
theorem dX8_greedyMove_9 : decode cX8_greedyMove 9 = .ok (.iconst (-1), 1) := by decide +kernel
theorem dX8_greedyMove_10 : decode cX8_greedyMove 10 = .ok (.if_icmp .ne 14, 3) := by decide +kernel
theorem dX8_greedyMove_13 : decode cX8_greedyMove 13 = .ok (.new 259, 3) := by decide +kernel
theorem dX8_greedyMove_16 : decode cX8_greedyMove 16 = .ok (.dup, 1) := by decide +kernel
theorem dX8_greedyMove_17 : decode cX8_greedyMove 17 = .ok (.ldc_w 261, 3) := by decide +kernel
theorem dX8_greedyMove_20 : decode cX8_greedyMove 20 = .ok (.invokespecial 263, 3) := by decide +kernel
theorem dX8_greedyMove_23 : decode cX8_greedyMove 23 = .ok (.athrow, 1) := by decide +kernel
theorem dX8_greedyMove_24 : decode cX8_greedyMove 24 = .ok (.iload_n 1, 1) := by decide +kernel
theorem dX8_greedyMove_25 : decode cX8_greedyMove 25 = .ok (.ireturn, 1) := by decide +kernel
theorem dX8_greedyDifference_0 : decode cX8_greedyDifference 0 = .ok (.aload_n 0, 1) := by decide +kernel
theorem dX8_greedyDifference_1 : decode cX8_greedyDifference 1 = .ok (.getfield 34, 3) := by decide +kernel
theorem dX8_greedyDifference_4 : decode cX8_greedyDifference 4 = .ok (.aload_n 0, 1) := by decide +kernel
theorem dX8_greedyDifference_5 : decode cX8_greedyDifference 5 = .ok (.getfield 30, 3) := by decide +kernel
theorem dX8_greedyDifference_8 : decode cX8_greedyDifference 8 = .ok (.invokevirtual 106, 3) := by decide +kernel
theorem dX8_greedyDifference_11 : decode cX8_greedyDifference 11 = .ok (.iconst 0, 1) := by decide +kernel
theorem dX8_greedyDifference_12 : decode cX8_greedyDifference 12 = .ok (.istore_n 1, 1) := by decide +kernel
theorem dX8_greedyDifference_13 : decode cX8_greedyDifference 13 = .ok (.iload_n 1, 1) := by decide +kernel
theorem dX8_greedyDifference_14 : decode cX8_greedyDifference 14 = .ok (.bipush 42, 2) := by decide +kernel
theorem dX8_greedyDifference_16 : decode cX8_greedyDifference 16 = .ok (.if_icmp .ge 43, 3) := by decide +kernel
theorem dX8_greedyDifference_19 : decode cX8_greedyDifference 19 = .ok (.aload_n 0, 1) := by decide +kernel
theorem dX8_greedyDifference_20 : decode cX8_greedyDifference 20 = .ok (.getfield 34, 3) := by decide +kernel
theorem dX8_greedyDifference_23 : decode cX8_greedyDifference 23 = .ok (.getfield 129, 3) := by decide +kernel
theorem dX8_greedyDifference_26 : decode cX8_greedyDifference 26 = .ok (.getfield 135, 3) := by decide +kernel
theorem dX8_greedyDifference_29 : decode cX8_greedyDifference 29 = .ok (.ifCond .ne 30, 3) := by decide +kernel
theorem dX8_greedyDifference_32 : decode cX8_greedyDifference 32 = .ok (.aload_n 0, 1) := by decide +kernel
theorem dX8_greedyDifference_33 : decode cX8_greedyDifference 33 = .ok (.getfield 34, 3) := by decide +kernel
theorem dX8_greedyDifference_36 : decode cX8_greedyDifference 36 = .ok (.aload_n 0, 1) := by decide +kernel
theorem dX8_greedyDifference_37 : decode cX8_greedyDifference 37 = .ok (.getfield 34, 3) := by decide +kernel
theorem dX8_greedyDifference_40 : decode cX8_greedyDifference 40 = .ok (.aload_n 0, 1) := by decide +kernel
theorem dX8_greedyDifference_41 : decode cX8_greedyDifference 41 = .ok (.getfield 34, 3) := by decide +kernel
theorem dX8_greedyDifference_44 : decode cX8_greedyDifference 44 = .ok (.invokevirtual 233, 3) := by decide +kernel
theorem dX8_greedyDifference_47 : decode cX8_greedyDifference 47 = .ok (.invokevirtual 236, 3) := by decide +kernel
theorem dX8_greedyDifference_50 : decode cX8_greedyDifference 50 = .ok (.invokevirtual 281, 3) := by decide +kernel
theorem dX8_greedyDifference_53 : decode cX8_greedyDifference 53 = .ok (.iinc 1 1, 3) := by decide +kernel
theorem dX8_greedyDifference_56 : decode cX8_greedyDifference 56 = .ok (.goto (-43), 3) := by decide +kernel
theorem dX8_greedyDifference_59 : decode cX8_greedyDifference 59 = .ok (.aload_n 0, 1) := by decide +kernel
theorem dX8_greedyDifference_60 : decode cX8_greedyDifference 60 = .ok (.getfield 30, 3) := by decide +kernel
theorem dX8_greedyDifference_63 : decode cX8_greedyDifference 63 = .ok (.getfield 129, 3) := by decide +kernel
theorem dX8_greedyDifference_66 : decode cX8_greedyDifference 66 = .ok (.getfield 160, 3) := by decide +kernel
theorem dX8_greedyDifference_69 : decode cX8_greedyDifference 69 = .ok (.istore_n 1, 1) := by decide +kernel
theorem dX8_greedyDifference_70 : decode cX8_greedyDifference 70 = .ok (.aload_n 0, 1) := by decide +kernel
theorem dX8_greedyDifference_71 : decode cX8_greedyDifference 71 = .ok (.getfield 34, 3) := by decide +kernel
theorem dX8_greedyDifference_74 : decode cX8_greedyDifference 74 = .ok (.iload_n 1, 1) := by decide +kernel
theorem dX8_greedyDifference_75 : decode cX8_greedyDifference 75 = .ok (.invokevirtual 245, 3) := by decide +kernel
theorem dX8_greedyDifference_78 : decode cX8_greedyDifference 78 = .ok (.aload_n 0, 1) := by decide +kernel
theorem dX8_greedyDifference_79 : decode cX8_greedyDifference 79 = .ok (.getfield 30, 3) := by decide +kernel
theorem dX8_greedyDifference_82 : decode cX8_greedyDifference 82 = .ok (.iload_n 1, 1) := by decide +kernel
theorem dX8_greedyDifference_83 : decode cX8_greedyDifference 83 = .ok (.invokevirtual 245, 3) := by decide +kernel
theorem dX8_greedyDifference_86 : decode cX8_greedyDifference 86 = .ok (.isub, 1) := by decide +kernel
theorem dX8_greedyDifference_87 : decode cX8_greedyDifference 87 = .ok (.istore_n 2, 1) := by decide +kernel
theorem dX8_greedyDifference_88 : decode cX8_greedyDifference 88 = .ok (.aload_n 0, 1) := by decide +kernel
theorem dX8_greedyDifference_89 : decode cX8_greedyDifference 89 = .ok (.getfield 34, 3) := by decide +kernel
theorem dX8_greedyDifference_92 : decode cX8_greedyDifference 92 = .ok (.iconst 1, 1) := by decide +kernel
theorem dX8_greedyDifference_93 : decode cX8_greedyDifference 93 = .ok (.iload_n 1, 1) := by decide +kernel
theorem dX8_greedyDifference_94 : decode cX8_greedyDifference 94 = .ok (.isub, 1) := by decide +kernel
theorem dX8_greedyDifference_95 : decode cX8_greedyDifference 95 = .ok (.invokevirtual 245, 3) := by decide +kernel
theorem dX8_greedyDifference_98 : decode cX8_greedyDifference 98 = .ok (.aload_n 0, 1) := by decide +kernel
theorem dX8_greedyDifference_99 : decode cX8_greedyDifference 99 = .ok (.getfield 30, 3) := by decide +kernel
theorem dX8_greedyDifference_102 : decode cX8_greedyDifference 102 = .ok (.iconst 1, 1) := by decide +kernel
theorem dX8_greedyDifference_103 : decode cX8_greedyDifference 103 = .ok (.iload_n 1, 1) := by decide +kernel
theorem dX8_greedyDifference_104 : decode cX8_greedyDifference 104 = .ok (.isub, 1) := by decide +kernel
theorem dX8_greedyDifference_105 : decode cX8_greedyDifference 105 = .ok (.invokevirtual 245, 3) := by decide +kernel
theorem dX8_greedyDifference_108 : decode cX8_greedyDifference 108 = .ok (.isub, 1) := by decide +kernel
theorem dX8_greedyDifference_109 : decode cX8_greedyDifference 109 = .ok (.istore_n 3, 1) := by decide +kernel
theorem dX8_greedyDifference_110 : decode cX8_greedyDifference 110 = .ok (.iload_n 2, 1) := by decide +kernel
theorem dX8_greedyDifference_111 : decode cX8_greedyDifference 111 = .ok (.iload_n 3, 1) := by decide +kernel
theorem dX8_greedyDifference_112 : decode cX8_greedyDifference 112 = .ok (.isub, 1) := by decide +kernel
theorem dX8_greedyDifference_113 : decode cX8_greedyDifference 113 = .ok (.ireturn, 1) := by decide +kernel
theorem dX8_differenceAgainstGreedy_0 : decode cX8_differenceAgainstGreedy 0 = .ok (.aload_n 0, 1) := by decide +kernel
theorem dX8_differenceAgainstGreedy_1 : decode cX8_differenceAgainstGreedy 1 = .ok (.getfield 30, 3) := by decide +kernel
theorem dX8_differenceAgainstGreedy_4 : decode cX8_differenceAgainstGreedy 4 = .ok (.getfield 129, 3) := by decide +kernel
theorem dX8_differenceAgainstGreedy_7 : decode cX8_differenceAgainstGreedy 7 = .ok (.getfield 135, 3) := by decide +kernel
theorem dX8_differenceAgainstGreedy_10 : decode cX8_differenceAgainstGreedy 10 = .ok (.ifCond .eq 5, 3) := by decide +kernel
theorem dX8_differenceAgainstGreedy_13 : decode cX8_differenceAgainstGreedy 13 = .ok (.iconst 0, 1) := by decide +kernel
theorem dX8_differenceAgainstGreedy_14 : decode cX8_differenceAgainstGreedy 14 = .ok (.ireturn, 1) := by decide +kernel
theorem dX8_differenceAgainstGreedy_15 : decode cX8_differenceAgainstGreedy 15 = .ok (.aload_n 0, 1) := by decide +kernel
theorem dX8_differenceAgainstGreedy_16 : decode cX8_differenceAgainstGreedy 16 = .ok (.getfield 40, 3) := by decide +kernel
theorem dX8_differenceAgainstGreedy_19 : decode cX8_differenceAgainstGreedy 19 = .ok (.aload_n 0, 1) := by decide +kernel
theorem dX8_differenceAgainstGreedy_20 : decode cX8_differenceAgainstGreedy 20 = .ok (.getfield 30, 3) := by decide +kernel
theorem dX8_differenceAgainstGreedy_23 : decode cX8_differenceAgainstGreedy 23 = .ok (.invokevirtual 287, 3) := by decide +kernel
theorem dX8_differenceAgainstGreedy_26 : decode cX8_differenceAgainstGreedy 26 = .ok (.aload_n 0, 1) := by decide +kernel
theorem dX8_differenceAgainstGreedy_27 : decode cX8_differenceAgainstGreedy 27 = .ok (.getfield 40, 3) := by decide +kernel
theorem dX8_differenceAgainstGreedy_30 : decode cX8_differenceAgainstGreedy 30 = .ok (.aload_n 0, 1) := by decide +kernel
theorem dX8_differenceAgainstGreedy_31 : decode cX8_differenceAgainstGreedy 31 = .ok (.getfield 30, 3) := by decide +kernel
theorem dX8_differenceAgainstGreedy_34 : decode cX8_differenceAgainstGreedy 34 = .ok (.invokevirtual 290, 3) := by decide +kernel
theorem dX8_differenceAgainstGreedy_37 : decode cX8_differenceAgainstGreedy 37 = .ok (.ireturn, 1) := by decide +kernel
theorem dX8_greedyAgainstBest_0 : decode cX8_greedyAgainstBest 0 = .ok (.aload_n 0, 1) := by decide +kernel
theorem dX8_greedyAgainstBest_1 : decode cX8_greedyAgainstBest 1 = .ok (.getfield 30, 3) := by decide +kernel
theorem dX8_greedyAgainstBest_4 : decode cX8_greedyAgainstBest 4 = .ok (.getfield 129, 3) := by decide +kernel
theorem dX8_greedyAgainstBest_7 : decode cX8_greedyAgainstBest 7 = .ok (.getfield 135, 3) := by decide +kernel
theorem dX8_greedyAgainstBest_10 : decode cX8_greedyAgainstBest 10 = .ok (.ifCond .eq 5, 3) := by decide +kernel
theorem dX8_greedyAgainstBest_13 : decode cX8_greedyAgainstBest 13 = .ok (.iconst 0, 1) := by decide +kernel
theorem dX8_greedyAgainstBest_14 : decode cX8_greedyAgainstBest 14 = .ok (.ireturn, 1) := by decide +kernel
theorem dX8_greedyAgainstBest_15 : decode cX8_greedyAgainstBest 15 = .ok (.aload_n 0, 1) := by decide +kernel
theorem dX8_greedyAgainstBest_16 : decode cX8_greedyAgainstBest 16 = .ok (.getfield 40, 3) := by decide +kernel
theorem dX8_greedyAgainstBest_19 : decode cX8_greedyAgainstBest 19 = .ok (.aload_n 0, 1) := by decide +kernel
theorem dX8_greedyAgainstBest_20 : decode cX8_greedyAgainstBest 20 = .ok (.getfield 30, 3) := by decide +kernel
theorem dX8_greedyAgainstBest_23 : decode cX8_greedyAgainstBest 23 = .ok (.invokevirtual 287, 3) := by decide +kernel
theorem dX8_greedyAgainstBest_26 : decode cX8_greedyAgainstBest 26 = .ok (.aload_n 0, 1) := by decide +kernel
theorem dX8_greedyAgainstBest_27 : decode cX8_greedyAgainstBest 27 = .ok (.getfield 40, 3) := by decide +kernel
theorem dX8_greedyAgainstBest_30 : decode cX8_greedyAgainstBest 30 = .ok (.aload_n 0, 1) := by decide +kernel
theorem dX8_greedyAgainstBest_31 : decode cX8_greedyAgainstBest 31 = .ok (.getfield 30, 3) := by decide +kernel
theorem dX8_greedyAgainstBest_34 : decode cX8_greedyAgainstBest 34 = .ok (.invokevirtual 293, 3) := by decide +kernel
theorem dX8_greedyAgainstBest_37 : decode cX8_greedyAgainstBest 37 = .ok (.ineg, 1) := by decide +kernel
theorem dX8_greedyAgainstBest_38 : decode cX8_greedyAgainstBest 38 = .ok (.ireturn, 1) := by decide +kernel
theorem dX8_burn_0 : decode cX8_burn 0 = .ok (.aload_n 0, 1) := by decide +kernel
theorem dX8_burn_1 : decode cX8_burn 1 = .ok (.iload_n 1, 1) := by decide +kernel
theorem dX8_burn_2 : decode cX8_burn 2 = .ok (.invokevirtual 181, 3) := by decide +kernel
theorem dX8_burn_5 : decode cX8_burn 5 = .ok (.aload_n 0, 1) := by decide +kernel
theorem dX8_burn_6 : decode cX8_burn 6 = .ok (.getfield 30, 3) := by decide +kernel
theorem dX8_burn_9 : decode cX8_burn 9 = .ok (.getfield 129, 3) := by decide +kernel
theorem dX8_burn_12 : decode cX8_burn 12 = .ok (.getfield 135, 3) := by decide +kernel
theorem dX8_burn_15 : decode cX8_burn 15 = .ok (.ifCond .ne 15, 3) := by decide +kernel
theorem dX8_burn_18 : decode cX8_burn 18 = .ok (.aload_n 0, 1) := by decide +kernel
theorem dX8_burn_19 : decode cX8_burn 19 = .ok (.getfield 30, 3) := by decide +kernel
theorem dX8_burn_22 : decode cX8_burn 22 = .ok (.iload_n 1, 1) := by decide +kernel
theorem dX8_burn_23 : decode cX8_burn 23 = .ok (.invokevirtual 184, 3) := by decide +kernel
theorem dX8_burn_26 : decode cX8_burn 26 = .ok (.iconst 2, 1) := by decide +kernel
theorem dX8_burn_27 : decode cX8_burn 27 = .ok (.if_icmp .ge 14, 3) := by decide +kernel
theorem dX8_burn_30 : decode cX8_burn 30 = .ok (.new 71, 3) := by decide +kernel
theorem dX8_burn_33 : decode cX8_burn 33 = .ok (.dup, 1) := by decide +kernel
theorem dX8_burn_34 : decode cX8_burn 34 = .ok (.ldc_w 296, 3) := by decide +kernel
theorem dX8_burn_37 : decode cX8_burn 37 = .ok (.invokespecial 75, 3) := by decide +kernel
theorem dX8_burn_40 : decode cX8_burn 40 = .ok (.athrow, 1) := by decide +kernel
theorem dX8_burn_41 : decode cX8_burn 41 = .ok (.iload_n 1, 1) := by decide +kernel
theorem dX8_burn_42 : decode cX8_burn 42 = .ok (.iload_n 2, 1) := by decide +kernel
theorem dX8_burn_43 : decode cX8_burn 43 = .ok (.invokestatic 298, 3) := by decide +kernel
theorem dX8_burn_46 : decode cX8_burn 46 = .ok (.istore_n 3, 1) := by decide +kernel
theorem dX8_burn_47 : decode cX8_burn 47 = .ok (.aload_n 0, 1) := by decide +kernel
theorem dX8_burn_48 : decode cX8_burn 48 = .ok (.getfield 30, 3) := by decide +kernel
theorem dX8_burn_51 : decode cX8_burn 51 = .ok (.iload_n 3, 1) := by decide +kernel
theorem dX8_burn_52 : decode cX8_burn 52 = .ok (.invokevirtual 218, 3) := by decide +kernel
theorem dX8_burn_55 : decode cX8_burn 55 = .ok (.istore 4, 2) := by decide +kernel
theorem dX8_burn_57 : decode cX8_burn 57 = .ok (.aload_n 0, 1) := by decide +kernel
theorem dX8_burn_58 : decode cX8_burn 58 = .ok (.getfield 47, 3) := by decide +kernel
theorem dX8_burn_61 : decode cX8_burn 61 = .ok (.aload_n 0, 1) := by decide +kernel
theorem dX8_burn_62 : decode cX8_burn 62 = .ok (.getfield 30, 3) := by decide +kernel
theorem dX8_burn_65 : decode cX8_burn 65 = .ok (.getfield 129, 3) := by decide +kernel
theorem dX8_burn_68 : decode cX8_burn 68 = .ok (.invokevirtual 302, 3) := by decide +kernel
theorem dX8_burn_71 : decode cX8_burn 71 = .ok (.aload_n 0, 1) := by decide +kernel
theorem dX8_burn_72 : decode cX8_burn 72 = .ok (.getfield 30, 3) := by decide +kernel
theorem dX8_burn_75 : decode cX8_burn 75 = .ok (.iload_n 3, 1) := by decide +kernel
theorem dX8_burn_76 : decode cX8_burn 76 = .ok (.invokevirtual 281, 3) := by decide +kernel
theorem dX8_burn_79 : decode cX8_burn 79 = .ok (.iload 4, 2) := by decide +kernel
theorem dX8_burn_81 : decode cX8_burn 81 = .ok (.ireturn, 1) := by decide +kernel
theorem dX8_pass_0 : decode cX8_pass 0 = .ok (.aload_n 0, 1) := by decide +kernel
theorem dX8_pass_1 : decode cX8_pass 1 = .ok (.getfield 30, 3) := by decide +kernel
theorem dX8_pass_4 : decode cX8_pass 4 = .ok (.getfield 129, 3) := by decide +kernel
theorem dX8_pass_7 : decode cX8_pass 7 = .ok (.getfield 135, 3) := by decide +kernel
theorem dX8_pass_10 : decode cX8_pass 10 = .ok (.ifCond .eq 14, 3) := by decide +kernel
theorem dX8_pass_13 : decode cX8_pass 13 = .ok (.new 71, 3) := by decide +kernel
theorem dX8_pass_16 : decode cX8_pass 16 = .ok (.dup, 1) := by decide +kernel
theorem dX8_pass_17 : decode cX8_pass 17 = .ok (.ldc_w 261, 3) := by decide +kernel
theorem dX8_pass_20 : decode cX8_pass 20 = .ok (.invokespecial 75, 3) := by decide +kernel
theorem dX8_pass_23 : decode cX8_pass 23 = .ok (.athrow, 1) := by decide +kernel
theorem dX8_pass_24 : decode cX8_pass 24 = .ok (.aload_n 0, 1) := by decide +kernel
theorem dX8_pass_25 : decode cX8_pass 25 = .ok (.getfield 47, 3) := by decide +kernel
theorem dX8_pass_28 : decode cX8_pass 28 = .ok (.aload_n 0, 1) := by decide +kernel
theorem dX8_pass_29 : decode cX8_pass 29 = .ok (.getfield 30, 3) := by decide +kernel
theorem dX8_pass_32 : decode cX8_pass 32 = .ok (.getfield 129, 3) := by decide +kernel
theorem dX8_pass_35 : decode cX8_pass 35 = .ok (.invokevirtual 302, 3) := by decide +kernel
theorem dX8_pass_38 : decode cX8_pass 38 = .ok (.aload_n 0, 1) := by decide +kernel
theorem dX8_pass_39 : decode cX8_pass 39 = .ok (.getfield 30, 3) := by decide +kernel
theorem dX8_pass_42 : decode cX8_pass 42 = .ok (.bipush 6, 2) := by decide +kernel
theorem dX8_pass_44 : decode cX8_pass 44 = .ok (.invokevirtual 281, 3) := by decide +kernel
theorem dX8_pass_47 : decode cX8_pass 47 = .ok (.aload_n 0, 1) := by decide +kernel
theorem dX8_pass_48 : decode cX8_pass 48 = .ok (.getfield 30, 3) := by decide +kernel
theorem dX8_pass_51 : decode cX8_pass 51 = .ok (.getfield 129, 3) := by decide +kernel
theorem dX8_pass_54 : decode cX8_pass 54 = .ok (.getfield 135, 3) := by decide +kernel
theorem dX8_pass_57 : decode cX8_pass 57 = .ok (.ireturn, 1) := by decide +kernel
theorem dX8_needPlayer_0 : decode cX8_needPlayer 0 = .ok (.iload_n 1, 1) := by decide +kernel
theorem dX8_needPlayer_1 : decode cX8_needPlayer 1 = .ok (.ifCond .lt 8, 3) := by decide +kernel
theorem dX8_needPlayer_4 : decode cX8_needPlayer 4 = .ok (.iload_n 1, 1) := by decide +kernel
theorem dX8_needPlayer_5 : decode cX8_needPlayer 5 = .ok (.iconst 2, 1) := by decide +kernel
theorem dX8_needPlayer_6 : decode cX8_needPlayer 6 = .ok (.if_icmp .lt 14, 3) := by decide +kernel
theorem dX8_needPlayer_9 : decode cX8_needPlayer 9 = .ok (.new 273, 3) := by decide +kernel
theorem dX8_needPlayer_12 : decode cX8_needPlayer 12 = .ok (.dup, 1) := by decide +kernel
theorem dX8_needPlayer_13 : decode cX8_needPlayer 13 = .ok (.ldc_w 340, 3) := by decide +kernel
theorem dX8_needPlayer_16 : decode cX8_needPlayer 16 = .ok (.invokespecial 277, 3) := by decide +kernel
theorem dX8_needPlayer_19 : decode cX8_needPlayer 19 = .ok (.athrow, 1) := by decide +kernel
theorem dX8_needPlayer_20 : decode cX8_needPlayer 20 = .ok (.return_, 1) := by decide +kernel
theorem dX8_needRound_0 : decode cX8_needRound 0 = .ok (.iload_n 1, 1) := by decide +kernel
theorem dX8_needRound_1 : decode cX8_needRound 1 = .ok (.ifCond .lt 17, 3) := by decide +kernel
theorem dX8_needRound_4 : decode cX8_needRound 4 = .ok (.iload_n 1, 1) := by decide +kernel
theorem dX8_needRound_5 : decode cX8_needRound 5 = .ok (.aload_n 0, 1) := by decide +kernel
theorem dX8_needRound_6 : decode cX8_needRound 6 = .ok (.getfield 30, 3) := by decide +kernel
theorem dX8_needRound_9 : decode cX8_needRound 9 = .ok (.getfield 120, 3) := by decide +kernel
theorem dX8_needRound_12 : decode cX8_needRound 12 = .ok (.getfield 124, 3) := by decide +kernel
theorem dX8_needRound_15 : decode cX8_needRound 15 = .ok (.if_icmp .lt 14, 3) := by decide +kernel
theorem dX8_needRound_18 : decode cX8_needRound 18 = .ok (.new 273, 3) := by decide +kernel
theorem dX8_needRound_21 : decode cX8_needRound 21 = .ok (.dup, 1) := by decide +kernel
theorem dX8_needRound_22 : decode cX8_needRound 22 = .ok (.ldc_w 342, 3) := by decide +kernel
theorem dX8_needRound_25 : decode cX8_needRound 25 = .ok (.invokespecial 277, 3) := by decide +kernel
theorem dX8_needRound_28 : decode cX8_needRound 28 = .ok (.athrow, 1) := by decide +kernel
theorem dX8_needRound_29 : decode cX8_needRound 29 = .ok (.return_, 1) := by decide +kernel
theorem dX8_needChain_0 : decode cX8_needChain 0 = .ok (.iload_n 1, 1) := by decide +kernel
theorem dX8_needChain_1 : decode cX8_needChain 1 = .ok (.ifCond .lt 14, 3) := by decide +kernel
theorem dX8_needChain_4 : decode cX8_needChain 4 = .ok (.iload_n 1, 1) := by decide +kernel
theorem dX8_needChain_5 : decode cX8_needChain 5 = .ok (.aload_n 0, 1) := by decide +kernel
theorem dX8_needChain_6 : decode cX8_needChain 6 = .ok (.getfield 30, 3) := by decide +kernel
theorem dX8_needChain_9 : decode cX8_needChain 9 = .ok (.invokevirtual 177, 3) := by decide +kernel
theorem dX8_needChain_12 : decode cX8_needChain 12 = .ok (.if_icmp .lt 14, 3) := by decide +kernel
theorem dX8_needChain_15 : decode cX8_needChain 15 = .ok (.new 273, 3) := by decide +kernel
theorem dX8_needChain_18 : decode cX8_needChain 18 = .ok (.dup, 1) := by decide +kernel
theorem dX8_needChain_19 : decode cX8_needChain 19 = .ok (.ldc_w 344, 3) := by decide +kernel
theorem dX8_needChain_22 : decode cX8_needChain 22 = .ok (.invokespecial 277, 3) := by decide +kernel
theorem dX8_needChain_25 : decode cX8_needChain 25 = .ok (.athrow, 1) := by decide +kernel
theorem dX8_needChain_26 : decode cX8_needChain 26 = .ok (.return_, 1) := by decide +kernel
theorem dX8_needTile_0 : decode cX8_needTile 0 = .ok (.aload_n 0, 1) := by decide +kernel
theorem dX8_needTile_1 : decode cX8_needTile 1 = .ok (.iload_n 1, 1) := by decide +kernel
theorem dX8_needTile_2 : decode cX8_needTile 2 = .ok (.invokevirtual 181, 3) := by decide +kernel
theorem dX8_needTile_5 : decode cX8_needTile 5 = .ok (.iload_n 2, 1) := by decide +kernel
theorem dX8_needTile_6 : decode cX8_needTile 6 = .ok (.ifCond .lt 15, 3) := by decide +kernel
theorem dX8_needTile_9 : decode cX8_needTile 9 = .ok (.iload_n 2, 1) := by decide +kernel
theorem dX8_needTile_10 : decode cX8_needTile 10 = .ok (.aload_n 0, 1) := by decide +kernel
theorem dX8_needTile_11 : decode cX8_needTile 11 = .ok (.getfield 30, 3) := by decide +kernel
theorem dX8_needTile_14 : decode cX8_needTile 14 = .ok (.iload_n 1, 1) := by decide +kernel
theorem dX8_needTile_15 : decode cX8_needTile 15 = .ok (.invokevirtual 184, 3) := by decide +kernel
theorem dX8_needTile_18 : decode cX8_needTile 18 = .ok (.if_icmp .lt 14, 3) := by decide +kernel
theorem dX8_needTile_21 : decode cX8_needTile 21 = .ok (.new 273, 3) := by decide +kernel
theorem dX8_needTile_24 : decode cX8_needTile 24 = .ok (.dup, 1) := by decide +kernel
theorem dX8_needTile_25 : decode cX8_needTile 25 = .ok (.ldc_w 346, 3) := by decide +kernel
theorem dX8_needTile_28 : decode cX8_needTile 28 = .ok (.invokespecial 277, 3) := by decide +kernel
theorem dX8_needTile_31 : decode cX8_needTile 31 = .ok (.athrow, 1) := by decide +kernel
theorem dX8_needTile_32 : decode cX8_needTile 32 = .ok (.return_, 1) := by decide +kernel
theorem dX8_neededCode_0 : decode cX8_neededCode 0 = .ok (.aload_n 0, 1) := by decide +kernel
theorem dX8_neededCode_1 : decode cX8_neededCode 1 = .ok (.getfield 30, 3) := by decide +kernel
theorem dX8_neededCode_4 : decode cX8_neededCode 4 = .ok (.iload_n 1, 1) := by decide +kernel
theorem dX8_neededCode_5 : decode cX8_neededCode 5 = .ok (.invokevirtual 236, 3) := by decide +kernel
theorem dX8_neededCode_8 : decode cX8_neededCode 8 = .ok (.istore_n 2, 1) := by decide +kernel
theorem dX8_neededCode_9 : decode cX8_neededCode 9 = .ok (.iload_n 2, 1) := by decide +kernel
theorem dX8_neededCode_10 : decode cX8_neededCode 10 = .ok (.iconst (-1), 1) := by decide +kernel
theorem dX8_neededCode_11 : decode cX8_neededCode 11 = .ok (.if_icmp .ne 14, 3) := by decide +kernel
theorem dX8_neededCode_14 : decode cX8_neededCode 14 = .ok (.new 273, 3) := by decide +kernel
theorem dX8_neededCode_17 : decode cX8_neededCode 17 = .ok (.dup, 1) := by decide +kernel
theorem dX8_neededCode_18 : decode cX8_neededCode 18 = .ok (.ldc_w 350, 3) := by decide +kernel
theorem dX8_neededCode_21 : decode cX8_neededCode 21 = .ok (.invokespecial 277, 3) := by decide +kernel
theorem dX8_neededCode_24 : decode cX8_neededCode 24 = .ok (.athrow, 1) := by decide +kernel
theorem dX8_neededCode_25 : decode cX8_neededCode 25 = .ok (.iload_n 2, 1) := by decide +kernel
theorem dX8_neededCode_26 : decode cX8_neededCode 26 = .ok (.ireturn, 1) := by decide +kernel
theorem dX8_burnCode_0 : decode cX8_burnCode 0 = .ok (.iload_n 1, 1) := by decide +kernel
theorem dX8_burnCode_1 : decode cX8_burnCode 1 = .ok (.ifCond .eq 9, 3) := by decide +kernel
theorem dX8_burnCode_4 : decode cX8_burnCode 4 = .ok (.iconst 2, 1) := by decide +kernel
theorem dX8_burnCode_5 : decode cX8_burnCode 5 = .ok (.iload_n 0, 1) := by decide +kernel
theorem dX8_burnCode_6 : decode cX8_burnCode 6 = .ok (.imul, 1) := by decide +kernel
theorem dX8_burnCode_7 : decode cX8_burnCode 7 = .ok (.goto 8, 3) := by decide +kernel
theorem dX8_burnCode_10 : decode cX8_burnCode 10 = .ok (.iconst 2, 1) := by decide +kernel
theorem dX8_burnCode_11 : decode cX8_burnCode 11 = .ok (.iload_n 0, 1) := by decide +kernel
theorem dX8_burnCode_12 : decode cX8_burnCode 12 = .ok (.imul, 1) := by decide +kernel
theorem dX8_burnCode_13 : decode cX8_burnCode 13 = .ok (.iconst 1, 1) := by decide +kernel
theorem dX8_burnCode_14 : decode cX8_burnCode 14 = .ok (.iadd, 1) := by decide +kernel
theorem dX8_burnCode_15 : decode cX8_burnCode 15 = .ok (.ireturn, 1) := by decide +kernel
theorem dX8_chainOfCode_0 : decode cX8_chainOfCode 0 = .ok (.iload_n 0, 1) := by decide +kernel
theorem dX8_chainOfCode_1 : decode cX8_chainOfCode 1 = .ok (.bipush 6, 2) := by decide +kernel
theorem dX8_chainOfCode_3 : decode cX8_chainOfCode 3 = .ok (.if_icmp .ne 7, 3) := by decide +kernel
theorem dX8_chainOfCode_6 : decode cX8_chainOfCode 6 = .ok (.iconst (-1), 1) := by decide +kernel
theorem dX8_chainOfCode_7 : decode cX8_chainOfCode 7 = .ok (.goto 6, 3) := by decide +kernel
theorem dX8_chainOfCode_10 : decode cX8_chainOfCode 10 = .ok (.iload_n 0, 1) := by decide +kernel
theorem dX8_chainOfCode_11 : decode cX8_chainOfCode 11 = .ok (.iconst 1, 1) := by decide +kernel
theorem dX8_chainOfCode_12 : decode cX8_chainOfCode 12 = .ok (.ishr, 1) := by decide +kernel
theorem dX8_chainOfCode_13 : decode cX8_chainOfCode 13 = .ok (.ireturn, 1) := by decide +kernel
theorem dX8_isLeftCode_0 : decode cX8_isLeftCode 0 = .ok (.iload_n 0, 1) := by decide +kernel
theorem dX8_isLeftCode_1 : decode cX8_isLeftCode 1 = .ok (.iconst 1, 1) := by decide +kernel
theorem dX8_isLeftCode_2 : decode cX8_isLeftCode 2 = .ok (.iand, 1) := by decide +kernel
theorem dX8_isLeftCode_3 : decode cX8_isLeftCode 3 = .ok (.ifCond .ne 7, 3) := by decide +kernel
theorem dX8_isLeftCode_6 : decode cX8_isLeftCode 6 = .ok (.iconst 1, 1) := by decide +kernel
theorem dX8_isLeftCode_7 : decode cX8_isLeftCode 7 = .ok (.goto 4, 3) := by decide +kernel
theorem dX8_isLeftCode_10 : decode cX8_isLeftCode 10 = .ok (.iconst 0, 1) := by decide +kernel
theorem dX8_isLeftCode_11 : decode cX8_isLeftCode 11 = .ok (.ireturn, 1) := by decide +kernel
theorem dX8_leader_0 : decode cX8_leader 0 = .ok (.iload_n 0, 1) := by decide +kernel
theorem dX8_leader_1 : decode cX8_leader 1 = .ok (.ifCond .ne 5, 3) := by decide +kernel
theorem dX8_leader_4 : decode cX8_leader 4 = .ok (.iconst (-1), 1) := by decide +kernel
theorem dX8_leader_5 : decode cX8_leader 5 = .ok (.ireturn, 1) := by decide +kernel
theorem dX8_leader_6 : decode cX8_leader 6 = .ok (.iload_n 0, 1) := by decide +kernel
theorem dX8_leader_7 : decode cX8_leader 7 = .ok (.ifCond .le 7, 3) := by decide +kernel
theorem dX8_leader_10 : decode cX8_leader 10 = .ok (.iconst 0, 1) := by decide +kernel
theorem dX8_leader_11 : decode cX8_leader 11 = .ok (.goto 4, 3) := by decide +kernel
theorem dX8_leader_14 : decode cX8_leader 14 = .ok (.iconst 1, 1) := by decide +kernel
theorem dX8_leader_15 : decode cX8_leader 15 = .ok (.ireturn, 1) := by decide +kernel
theorem dX8_at_0 : decode cX8_at 0 = .ok (.iload_n 1, 1) := by decide +kernel
theorem dX8_at_1 : decode cX8_at 1 = .ok (.ifCond .lt 15, 3) := by decide +kernel
theorem dX8_at_4 : decode cX8_at 4 = .ok (.iload_n 1, 1) := by decide +kernel
theorem dX8_at_5 : decode cX8_at 5 = .ok (.aload_n 0, 1) := by decide +kernel
theorem dX8_at_6 : decode cX8_at 6 = .ok (.arraylength, 1) := by decide +kernel
theorem dX8_at_7 : decode cX8_at 7 = .ok (.if_icmp .ge 9, 3) := by decide +kernel
theorem dX8_at_10 : decode cX8_at 10 = .ok (.aload_n 0, 1) := by decide +kernel
theorem dX8_at_11 : decode cX8_at 11 = .ok (.iload_n 1, 1) := by decide +kernel
theorem dX8_at_12 : decode cX8_at 12 = .ok (.iaload, 1) := by decide +kernel
theorem dX8_at_13 : decode cX8_at 13 = .ok (.goto 4, 3) := by decide +kernel
theorem dX8_at_16 : decode cX8_at 16 = .ok (.iconst 0, 1) := by decide +kernel
theorem dX8_at_17 : decode cX8_at 17 = .ok (.ireturn, 1) := by decide +kernel
theorem dX8_put_0 : decode cX8_put 0 = .ok (.iload_n 1, 1) := by decide +kernel
theorem dX8_put_1 : decode cX8_put 1 = .ok (.ifCond .lt 13, 3) := by decide +kernel
theorem dX8_put_4 : decode cX8_put 4 = .ok (.iload_n 1, 1) := by decide +kernel
theorem dX8_put_5 : decode cX8_put 5 = .ok (.aload_n 0, 1) := by decide +kernel
theorem dX8_put_6 : decode cX8_put 6 = .ok (.arraylength, 1) := by decide +kernel
theorem dX8_put_7 : decode cX8_put 7 = .ok (.if_icmp .ge 7, 3) := by decide +kernel
theorem dX8_put_10 : decode cX8_put 10 = .ok (.aload_n 0, 1) := by decide +kernel
theorem dX8_put_11 : decode cX8_put 11 = .ok (.iload_n 1, 1) := by decide +kernel
theorem dX8_put_12 : decode cX8_put 12 = .ok (.iload_n 2, 1) := by decide +kernel
theorem dX8_put_13 : decode cX8_put 13 = .ok (.iastore, 1) := by decide +kernel
theorem dX8_put_14 : decode cX8_put 14 = .ok (.return_, 1) := by decide +kernel
theorem dX8_copyRow_0 : decode cX8_copyRow 0 = .ok (.aload_n 0, 1) := by decide +kernel
theorem dX8_copyRow_1 : decode cX8_copyRow 1 = .ok (.iconst 0, 1) := by decide +kernel
theorem dX8_copyRow_2 : decode cX8_copyRow 2 = .ok (.aload_n 1, 1) := by decide +kernel
theorem dX8_copyRow_3 : decode cX8_copyRow 3 = .ok (.iconst 0, 1) := by decide +kernel
theorem dX8_copyRow_4 : decode cX8_copyRow 4 = .ok (.aload_n 0, 1) := by decide +kernel
theorem dX8_copyRow_5 : decode cX8_copyRow 5 = .ok (.arraylength, 1) := by decide +kernel
theorem dX8_copyRow_6 : decode cX8_copyRow 6 = .ok (.aload_n 1, 1) := by decide +kernel
theorem dX8_copyRow_7 : decode cX8_copyRow 7 = .ok (.arraylength, 1) := by decide +kernel
theorem dX8_copyRow_8 : decode cX8_copyRow 8 = .ok (.invokestatic 352, 3) := by decide +kernel
theorem dX8_copyRow_11 : decode cX8_copyRow 11 = .ok (.invokestatic 357, 3) := by decide +kernel
theorem dX8_copyRow_14 : decode cX8_copyRow 14 = .ok (.return_, 1) := by decide +kernel
theorem dJ5_init_d00df_0 : decode cJ5_init_d00df 0 = .ok (.aload_n 0, 1) := by decide +kernel
theorem dJ5_init_d00df_1 : decode cJ5_init_d00df 1 = .ok (.invokespecial 3, 3) := by decide +kernel
theorem dJ5_init_d00df_4 : decode cJ5_init_d00df 4 = .ok (.getstatic 18, 3) := by decide +kernel
theorem dJ5_init_d00df_7 : decode cJ5_init_d00df 7 = .ok (.ifCond .eq 18, 3) := by decide +kernel
theorem dJ5_init_d00df_10 : decode cJ5_init_d00df 10 = .ok (.aload_n 0, 1) := by decide +kernel
theorem dJ5_init_d00df_11 : decode cJ5_init_d00df 11 = .ok (.iload_n 1, 1) := by decide +kernel
theorem dJ5_init_d00df_12 : decode cJ5_init_d00df 12 = .ok (.newarray .byte, 2) := by decide +kernel
theorem dJ5_init_d00df_14 : decode cJ5_init_d00df 14 = .ok (.putfield 15, 3) := by decide +kernel
theorem dJ5_init_d00df_17 : decode cJ5_init_d00df 17 = .ok (.aload_n 0, 1) := by decide +kernel
theorem dJ5_init_d00df_18 : decode cJ5_init_d00df 18 = .ok (.iconst 0, 1) := by decide +kernel
theorem dJ5_init_d00df_19 : decode cJ5_init_d00df 19 = .ok (.putfield 22, 3) := by decide +kernel
theorem dJ5_init_d00df_22 : decode cJ5_init_d00df 22 = .ok (.goto 16, 3) := by decide +kernel
theorem dJ5_init_d00df_25 : decode cJ5_init_d00df 25 = .ok (.aload_n 0, 1) := by decide +kernel
theorem dJ5_init_d00df_26 : decode cJ5_init_d00df 26 = .ok (.iload_n 1, 1) := by decide +kernel
theorem dJ5_init_d00df_27 : decode cJ5_init_d00df 27 = .ok (.invokestatic 26, 3) := by decide +kernel
theorem dJ5_init_d00df_30 : decode cJ5_init_d00df 30 = .ok (.putfield 15, 3) := by decide +kernel
theorem dJ5_init_d00df_33 : decode cJ5_init_d00df 33 = .ok (.aload_n 0, 1) := by decide +kernel
theorem dJ5_init_d00df_34 : decode cJ5_init_d00df 34 = .ok (.iconst 1, 1) := by decide +kernel
theorem dJ5_init_d00df_35 : decode cJ5_init_d00df 35 = .ok (.putfield 22, 3) := by decide +kernel
theorem dJ5_init_d00df_38 : decode cJ5_init_d00df 38 = .ok (.return_, 1) := by decide +kernel
theorem dJ5_length_8abf5_0 : decode cJ5_length_8abf5 0 = .ok (.aload_n 0, 1) := by decide +kernel
theorem dJ5_length_8abf5_1 : decode cJ5_length_8abf5 1 = .ok (.getfield 79, 3) := by decide +kernel
theorem dJ5_length_8abf5_4 : decode cJ5_length_8abf5 4 = .ok (.ireturn, 1) := by decide +kernel
theorem dJ5_ensureCapacityInternal_d00df_0 : decode cJ5_ensureCapacityInternal_d00df 0 = .ok (.aload_n 0, 1) := by decide +kernel
theorem dJ5_ensureCapacityInternal_d00df_1 : decode cJ5_ensureCapacityInternal_d00df 1 = .ok (.getfield 15, 3) := by decide +kernel
theorem dJ5_ensureCapacityInternal_d00df_4 : decode cJ5_ensureCapacityInternal_d00df 4 = .ok (.arraylength, 1) := by decide +kernel
theorem dJ5_ensureCapacityInternal_d00df_5 : decode cJ5_ensureCapacityInternal_d00df 5 = .ok (.aload_n 0, 1) := by decide +kernel
theorem dJ5_ensureCapacityInternal_d00df_6 : decode cJ5_ensureCapacityInternal_d00df 6 = .ok (.getfield 22, 3) := by decide +kernel
theorem dJ5_ensureCapacityInternal_d00df_9 : decode cJ5_ensureCapacityInternal_d00df 9 = .ok (.ishr, 1) := by decide +kernel
theorem dJ5_ensureCapacityInternal_d00df_10 : decode cJ5_ensureCapacityInternal_d00df 10 = .ok (.istore_n 2, 1) := by decide +kernel
theorem dJ5_ensureCapacityInternal_d00df_11 : decode cJ5_ensureCapacityInternal_d00df 11 = .ok (.iload_n 1, 1) := by decide +kernel
theorem dJ5_ensureCapacityInternal_d00df_12 : decode cJ5_ensureCapacityInternal_d00df 12 = .ok (.iload_n 2, 1) := by decide +kernel
theorem dJ5_ensureCapacityInternal_d00df_13 : decode cJ5_ensureCapacityInternal_d00df 13 = .ok (.isub, 1) := by decide +kernel
theorem dJ5_ensureCapacityInternal_d00df_14 : decode cJ5_ensureCapacityInternal_d00df 14 = .ok (.ifCond .le 24, 3) := by decide +kernel
theorem dJ5_ensureCapacityInternal_d00df_17 : decode cJ5_ensureCapacityInternal_d00df 17 = .ok (.aload_n 0, 1) := by decide +kernel
theorem dJ5_ensureCapacityInternal_d00df_18 : decode cJ5_ensureCapacityInternal_d00df 18 = .ok (.aload_n 0, 1) := by decide +kernel
theorem dJ5_ensureCapacityInternal_d00df_19 : decode cJ5_ensureCapacityInternal_d00df 19 = .ok (.getfield 15, 3) := by decide +kernel
theorem dJ5_ensureCapacityInternal_d00df_22 : decode cJ5_ensureCapacityInternal_d00df 22 = .ok (.aload_n 0, 1) := by decide +kernel
theorem dJ5_ensureCapacityInternal_d00df_23 : decode cJ5_ensureCapacityInternal_d00df 23 = .ok (.iload_n 1, 1) := by decide +kernel
theorem dJ5_ensureCapacityInternal_d00df_24 : decode cJ5_ensureCapacityInternal_d00df 24 = .ok (.invokevirtual 104, 3) := by decide +kernel
theorem dJ5_ensureCapacityInternal_d00df_27 : decode cJ5_ensureCapacityInternal_d00df 27 = .ok (.aload_n 0, 1) := by decide +kernel
theorem dJ5_ensureCapacityInternal_d00df_28 : decode cJ5_ensureCapacityInternal_d00df 28 = .ok (.getfield 22, 3) := by decide +kernel
theorem dJ5_ensureCapacityInternal_d00df_31 : decode cJ5_ensureCapacityInternal_d00df 31 = .ok (.ishl, 1) := by decide +kernel
theorem dJ5_ensureCapacityInternal_d00df_32 : decode cJ5_ensureCapacityInternal_d00df 32 = .ok (.invokestatic 108, 3) := by decide +kernel
theorem dJ5_ensureCapacityInternal_d00df_35 : decode cJ5_ensureCapacityInternal_d00df 35 = .ok (.putfield 15, 3) := by decide +kernel
theorem dJ5_ensureCapacityInternal_d00df_38 : decode cJ5_ensureCapacityInternal_d00df 38 = .ok (.return_, 1) := by decide +kernel
theorem dJ5_newCapacity_0f7a4_0 : decode cJ5_newCapacity_0f7a4 0 = .ok (.aload_n 0, 1) := by decide +kernel
theorem dJ5_newCapacity_0f7a4_1 : decode cJ5_newCapacity_0f7a4 1 = .ok (.getfield 15, 3) := by decide +kernel
theorem dJ5_newCapacity_0f7a4_4 : decode cJ5_newCapacity_0f7a4 4 = .ok (.arraylength, 1) := by decide +kernel
theorem dJ5_newCapacity_0f7a4_5 : decode cJ5_newCapacity_0f7a4 5 = .ok (.istore_n 2, 1) := by decide +kernel
theorem dJ5_newCapacity_0f7a4_6 : decode cJ5_newCapacity_0f7a4 6 = .ok (.iload_n 1, 1) := by decide +kernel
theorem dJ5_newCapacity_0f7a4_7 : decode cJ5_newCapacity_0f7a4 7 = .ok (.aload_n 0, 1) := by decide +kernel
theorem dJ5_newCapacity_0f7a4_8 : decode cJ5_newCapacity_0f7a4 8 = .ok (.getfield 22, 3) := by decide +kernel
theorem dJ5_newCapacity_0f7a4_11 : decode cJ5_newCapacity_0f7a4 11 = .ok (.ishl, 1) := by decide +kernel
theorem dJ5_newCapacity_0f7a4_12 : decode cJ5_newCapacity_0f7a4 12 = .ok (.istore_n 3, 1) := by decide +kernel
theorem dJ5_newCapacity_0f7a4_13 : decode cJ5_newCapacity_0f7a4 13 = .ok (.iload_n 3, 1) := by decide +kernel
theorem dJ5_newCapacity_0f7a4_14 : decode cJ5_newCapacity_0f7a4 14 = .ok (.iload_n 2, 1) := by decide +kernel
theorem dJ5_newCapacity_0f7a4_15 : decode cJ5_newCapacity_0f7a4 15 = .ok (.isub, 1) := by decide +kernel
theorem dJ5_newCapacity_0f7a4_16 : decode cJ5_newCapacity_0f7a4 16 = .ok (.istore 4, 2) := by decide +kernel
theorem dJ5_newCapacity_0f7a4_18 : decode cJ5_newCapacity_0f7a4 18 = .ok (.iload_n 2, 1) := by decide +kernel
theorem dJ5_newCapacity_0f7a4_19 : decode cJ5_newCapacity_0f7a4 19 = .ok (.iload 4, 2) := by decide +kernel
theorem dJ5_newCapacity_0f7a4_21 : decode cJ5_newCapacity_0f7a4 21 = .ok (.iload_n 2, 1) := by decide +kernel
theorem dJ5_newCapacity_0f7a4_22 : decode cJ5_newCapacity_0f7a4 22 = .ok (.iconst 2, 1) := by decide +kernel
theorem dJ5_newCapacity_0f7a4_23 : decode cJ5_newCapacity_0f7a4 23 = .ok (.aload_n 0, 1) := by decide +kernel
theorem dJ5_newCapacity_0f7a4_24 : decode cJ5_newCapacity_0f7a4 24 = .ok (.getfield 22, 3) := by decide +kernel
theorem dJ5_newCapacity_0f7a4_27 : decode cJ5_newCapacity_0f7a4 27 = .ok (.ishl, 1) := by decide +kernel
theorem dJ5_newCapacity_0f7a4_28 : decode cJ5_newCapacity_0f7a4 28 = .ok (.iadd, 1) := by decide +kernel
theorem dJ5_newCapacity_0f7a4_29 : decode cJ5_newCapacity_0f7a4 29 = .ok (.invokestatic 114, 3) := by decide +kernel
theorem dJ5_newCapacity_0f7a4_32 : decode cJ5_newCapacity_0f7a4 32 = .ok (.istore 5, 2) := by decide +kernel
theorem dJ5_newCapacity_0f7a4_34 : decode cJ5_newCapacity_0f7a4 34 = .ok (.iload 5, 2) := by decide +kernel
theorem dJ5_newCapacity_0f7a4_36 : decode cJ5_newCapacity_0f7a4 36 = .ok (.ldc 39, 2) := by decide +kernel
theorem dJ5_newCapacity_0f7a4_38 : decode cJ5_newCapacity_0f7a4 38 = .ok (.if_icmp .ne 13, 3) := by decide +kernel
theorem dJ5_newCapacity_0f7a4_41 : decode cJ5_newCapacity_0f7a4 41 = .ok (.new 120, 3) := by decide +kernel
theorem dJ5_newCapacity_0f7a4_44 : decode cJ5_newCapacity_0f7a4 44 = .ok (.dup, 1) := by decide +kernel
theorem dJ5_newCapacity_0f7a4_45 : decode cJ5_newCapacity_0f7a4 45 = .ok (.ldc 122, 2) := by decide +kernel
theorem dJ5_newCapacity_0f7a4_47 : decode cJ5_newCapacity_0f7a4 47 = .ok (.invokespecial 124, 3) := by decide +kernel
theorem dJ5_newCapacity_0f7a4_50 : decode cJ5_newCapacity_0f7a4 50 = .ok (.athrow, 1) := by decide +kernel
theorem dJ5_newCapacity_0f7a4_51 : decode cJ5_newCapacity_0f7a4 51 = .ok (.iload 5, 2) := by decide +kernel
theorem dJ5_newCapacity_0f7a4_53 : decode cJ5_newCapacity_0f7a4 53 = .ok (.aload_n 0, 1) := by decide +kernel
theorem dJ5_newCapacity_0f7a4_54 : decode cJ5_newCapacity_0f7a4 54 = .ok (.getfield 22, 3) := by decide +kernel
theorem dJ5_newCapacity_0f7a4_57 : decode cJ5_newCapacity_0f7a4 57 = .ok (.ishr, 1) := by decide +kernel
theorem dJ5_newCapacity_0f7a4_58 : decode cJ5_newCapacity_0f7a4 58 = .ok (.ireturn, 1) := by decide +kernel
theorem dJ5_append_cf1ce_0 : decode cJ5_append_cf1ce 0 = .ok (.aload_n 1, 1) := by decide +kernel
theorem dJ5_append_cf1ce_1 : decode cJ5_append_cf1ce 1 = .ok (.ifnonnull 8, 3) := by decide +kernel
theorem dJ5_append_cf1ce_4 : decode cJ5_append_cf1ce 4 = .ok (.aload_n 0, 1) := by decide +kernel
theorem dJ5_append_cf1ce_5 : decode cJ5_append_cf1ce 5 = .ok (.invokevirtual 204, 3) := by decide +kernel
theorem dJ5_append_cf1ce_8 : decode cJ5_append_cf1ce 8 = .ok (.areturn, 1) := by decide +kernel
theorem dJ5_append_cf1ce_9 : decode cJ5_append_cf1ce 9 = .ok (.aload_n 1, 1) := by decide +kernel
theorem dJ5_append_cf1ce_10 : decode cJ5_append_cf1ce 10 = .ok (.invokevirtual 32, 3) := by decide +kernel
theorem dJ5_append_cf1ce_13 : decode cJ5_append_cf1ce 13 = .ok (.istore_n 2, 1) := by decide +kernel
theorem dJ5_append_cf1ce_14 : decode cJ5_append_cf1ce 14 = .ok (.aload_n 0, 1) := by decide +kernel
theorem dJ5_append_cf1ce_15 : decode cJ5_append_cf1ce 15 = .ok (.aload_n 0, 1) := by decide +kernel
theorem dJ5_append_cf1ce_16 : decode cJ5_append_cf1ce 16 = .ok (.getfield 79, 3) := by decide +kernel
theorem dJ5_append_cf1ce_19 : decode cJ5_append_cf1ce 19 = .ok (.iload_n 2, 1) := by decide +kernel
theorem dJ5_append_cf1ce_20 : decode cJ5_append_cf1ce 20 = .ok (.iadd, 1) := by decide +kernel
theorem dJ5_append_cf1ce_21 : decode cJ5_append_cf1ce 21 = .ok (.invokevirtual 100, 3) := by decide +kernel
theorem dJ5_append_cf1ce_24 : decode cJ5_append_cf1ce 24 = .ok (.aload_n 0, 1) := by decide +kernel
theorem dJ5_append_cf1ce_25 : decode cJ5_append_cf1ce 25 = .ok (.aload_n 0, 1) := by decide +kernel
theorem dJ5_append_cf1ce_26 : decode cJ5_append_cf1ce 26 = .ok (.getfield 79, 3) := by decide +kernel
theorem dJ5_append_cf1ce_29 : decode cJ5_append_cf1ce 29 = .ok (.aload_n 1, 1) := by decide +kernel
theorem dJ5_append_cf1ce_30 : decode cJ5_append_cf1ce 30 = .ok (.invokevirtual 208, 3) := by decide +kernel
theorem dJ5_append_cf1ce_33 : decode cJ5_append_cf1ce 33 = .ok (.aload_n 0, 1) := by decide +kernel
theorem dJ5_append_cf1ce_34 : decode cJ5_append_cf1ce 34 = .ok (.dup, 1) := by decide +kernel
theorem dJ5_append_cf1ce_35 : decode cJ5_append_cf1ce 35 = .ok (.getfield 79, 3) := by decide +kernel
theorem dJ5_append_cf1ce_38 : decode cJ5_append_cf1ce 38 = .ok (.iload_n 2, 1) := by decide +kernel
theorem dJ5_append_cf1ce_39 : decode cJ5_append_cf1ce 39 = .ok (.iadd, 1) := by decide +kernel
theorem dJ5_append_cf1ce_40 : decode cJ5_append_cf1ce 40 = .ok (.putfield 79, 3) := by decide +kernel
theorem dJ5_append_cf1ce_43 : decode cJ5_append_cf1ce 43 = .ok (.aload_n 0, 1) := by decide +kernel
theorem dJ5_append_cf1ce_44 : decode cJ5_append_cf1ce 44 = .ok (.areturn, 1) := by decide +kernel
theorem dJ5_append_3fe6f_0 : decode cJ5_append_3fe6f 0 = .ok (.aload_n 0, 1) := by decide +kernel
theorem dJ5_append_3fe6f_1 : decode cJ5_append_3fe6f 1 = .ok (.aload_n 0, 1) := by decide +kernel
theorem dJ5_append_3fe6f_2 : decode cJ5_append_3fe6f 2 = .ok (.getfield 79, 3) := by decide +kernel
theorem dJ5_append_3fe6f_5 : decode cJ5_append_3fe6f 5 = .ok (.iconst 1, 1) := by decide +kernel
theorem dJ5_append_3fe6f_6 : decode cJ5_append_3fe6f 6 = .ok (.iadd, 1) := by decide +kernel
theorem dJ5_append_3fe6f_7 : decode cJ5_append_3fe6f 7 = .ok (.invokevirtual 100, 3) := by decide +kernel
theorem dJ5_append_3fe6f_10 : decode cJ5_append_3fe6f 10 = .ok (.aload_n 0, 1) := by decide +kernel
theorem dJ5_append_3fe6f_11 : decode cJ5_append_3fe6f 11 = .ok (.invokevirtual 83, 3) := by decide +kernel
theorem dJ5_append_3fe6f_14 : decode cJ5_append_3fe6f 14 = .ok (.ifCond .eq 31, 3) := by decide +kernel
theorem dJ5_append_3fe6f_17 : decode cJ5_append_3fe6f 17 = .ok (.iload_n 1, 1) := by decide +kernel
theorem dJ5_append_3fe6f_18 : decode cJ5_append_3fe6f 18 = .ok (.invokestatic 191, 3) := by decide +kernel
theorem dJ5_append_3fe6f_21 : decode cJ5_append_3fe6f 21 = .ok (.ifCond .eq 24, 3) := by decide +kernel
theorem dJ5_append_3fe6f_24 : decode cJ5_append_3fe6f 24 = .ok (.aload_n 0, 1) := by decide +kernel
theorem dJ5_append_3fe6f_25 : decode cJ5_append_3fe6f 25 = .ok (.getfield 15, 3) := by decide +kernel
theorem dJ5_append_3fe6f_28 : decode cJ5_append_3fe6f 28 = .ok (.aload_n 0, 1) := by decide +kernel
theorem dJ5_append_3fe6f_29 : decode cJ5_append_3fe6f 29 = .ok (.dup, 1) := by decide +kernel
theorem dJ5_append_3fe6f_30 : decode cJ5_append_3fe6f 30 = .ok (.getfield 79, 3) := by decide +kernel
theorem dJ5_append_3fe6f_33 : decode cJ5_append_3fe6f 33 = .ok (.dup_x1, 1) := by decide +kernel
theorem dJ5_append_3fe6f_34 : decode cJ5_append_3fe6f 34 = .ok (.iconst 1, 1) := by decide +kernel
theorem dJ5_append_3fe6f_35 : decode cJ5_append_3fe6f 35 = .ok (.iadd, 1) := by decide +kernel
theorem dJ5_append_3fe6f_36 : decode cJ5_append_3fe6f 36 = .ok (.putfield 79, 3) := by decide +kernel
theorem dJ5_append_3fe6f_39 : decode cJ5_append_3fe6f 39 = .ok (.iload_n 1, 1) := by decide +kernel
theorem dJ5_append_3fe6f_40 : decode cJ5_append_3fe6f 40 = .ok (.i2b, 1) := by decide +kernel
theorem dJ5_append_3fe6f_41 : decode cJ5_append_3fe6f 41 = .ok (.bastore, 1) := by decide +kernel
theorem dJ5_append_3fe6f_42 : decode cJ5_append_3fe6f 42 = .ok (.goto 33, 3) := by decide +kernel
theorem dJ5_append_3fe6f_45 : decode cJ5_append_3fe6f 45 = .ok (.aload_n 0, 1) := by decide +kernel
theorem dJ5_append_3fe6f_46 : decode cJ5_append_3fe6f 46 = .ok (.invokevirtual 83, 3) := by decide +kernel
theorem dJ5_append_3fe6f_49 : decode cJ5_append_3fe6f 49 = .ok (.ifCond .eq 7, 3) := by decide +kernel
theorem dJ5_append_3fe6f_52 : decode cJ5_append_3fe6f 52 = .ok (.aload_n 0, 1) := by decide +kernel
theorem dJ5_append_3fe6f_53 : decode cJ5_append_3fe6f 53 = .ok (.invokevirtual 195, 3) := by decide +kernel
theorem dJ5_append_3fe6f_56 : decode cJ5_append_3fe6f 56 = .ok (.aload_n 0, 1) := by decide +kernel
theorem dJ5_append_3fe6f_57 : decode cJ5_append_3fe6f 57 = .ok (.getfield 15, 3) := by decide +kernel
theorem dJ5_append_3fe6f_60 : decode cJ5_append_3fe6f 60 = .ok (.aload_n 0, 1) := by decide +kernel
theorem dJ5_append_3fe6f_61 : decode cJ5_append_3fe6f 61 = .ok (.dup, 1) := by decide +kernel
theorem dJ5_append_3fe6f_62 : decode cJ5_append_3fe6f 62 = .ok (.getfield 79, 3) := by decide +kernel
theorem dJ5_append_3fe6f_65 : decode cJ5_append_3fe6f 65 = .ok (.dup_x1, 1) := by decide +kernel
theorem dJ5_append_3fe6f_66 : decode cJ5_append_3fe6f 66 = .ok (.iconst 1, 1) := by decide +kernel
theorem dJ5_append_3fe6f_67 : decode cJ5_append_3fe6f 67 = .ok (.iadd, 1) := by decide +kernel
theorem dJ5_append_3fe6f_68 : decode cJ5_append_3fe6f 68 = .ok (.putfield 79, 3) := by decide +kernel
theorem dJ5_append_3fe6f_71 : decode cJ5_append_3fe6f 71 = .ok (.iload_n 1, 1) := by decide +kernel
theorem dJ5_append_3fe6f_72 : decode cJ5_append_3fe6f 72 = .ok (.invokestatic 197, 3) := by decide +kernel
theorem dJ5_append_3fe6f_75 : decode cJ5_append_3fe6f 75 = .ok (.aload_n 0, 1) := by decide +kernel
theorem dJ5_append_3fe6f_76 : decode cJ5_append_3fe6f 76 = .ok (.areturn, 1) := by decide +kernel
theorem dJ5_append_c97b9_0 : decode cJ5_append_c97b9 0 = .ok (.aload_n 0, 1) := by decide +kernel
theorem dJ5_append_c97b9_1 : decode cJ5_append_c97b9 1 = .ok (.getfield 79, 3) := by decide +kernel
theorem dJ5_append_c97b9_4 : decode cJ5_append_c97b9 4 = .ok (.istore_n 2, 1) := by decide +kernel
theorem dJ5_append_c97b9_5 : decode cJ5_append_c97b9 5 = .ok (.iload_n 2, 1) := by decide +kernel
theorem dJ5_append_c97b9_6 : decode cJ5_append_c97b9 6 = .ok (.iload_n 1, 1) := by decide +kernel
theorem dJ5_append_c97b9_7 : decode cJ5_append_c97b9 7 = .ok (.invokestatic 245, 3) := by decide +kernel
theorem dJ5_append_c97b9_10 : decode cJ5_append_c97b9 10 = .ok (.iadd, 1) := by decide +kernel
theorem dJ5_append_c97b9_11 : decode cJ5_append_c97b9 11 = .ok (.istore_n 3, 1) := by decide +kernel
theorem dJ5_append_c97b9_12 : decode cJ5_append_c97b9 12 = .ok (.aload_n 0, 1) := by decide +kernel
theorem dJ5_append_c97b9_13 : decode cJ5_append_c97b9 13 = .ok (.iload_n 3, 1) := by decide +kernel
theorem dJ5_append_c97b9_14 : decode cJ5_append_c97b9 14 = .ok (.invokevirtual 100, 3) := by decide +kernel
theorem dJ5_append_c97b9_17 : decode cJ5_append_c97b9 17 = .ok (.aload_n 0, 1) := by decide +kernel
theorem dJ5_append_c97b9_18 : decode cJ5_append_c97b9 18 = .ok (.invokevirtual 83, 3) := by decide +kernel
theorem dJ5_append_c97b9_21 : decode cJ5_append_c97b9 21 = .ok (.ifCond .eq 16, 3) := by decide +kernel
theorem dJ5_append_c97b9_24 : decode cJ5_append_c97b9 24 = .ok (.iload_n 1, 1) := by decide +kernel
theorem dJ5_append_c97b9_25 : decode cJ5_append_c97b9 25 = .ok (.iload_n 3, 1) := by decide +kernel
theorem dJ5_append_c97b9_26 : decode cJ5_append_c97b9 26 = .ok (.aload_n 0, 1) := by decide +kernel
theorem dJ5_append_c97b9_27 : decode cJ5_append_c97b9 27 = .ok (.getfield 15, 3) := by decide +kernel
theorem dJ5_append_c97b9_30 : decode cJ5_append_c97b9 30 = .ok (.invokestatic 248, 3) := by decide +kernel
theorem dJ5_append_c97b9_33 : decode cJ5_append_c97b9 33 = .ok (.pop, 1) := by decide +kernel
theorem dJ5_append_c97b9_34 : decode cJ5_append_c97b9 34 = .ok (.goto 14, 3) := by decide +kernel
theorem dJ5_append_c97b9_37 : decode cJ5_append_c97b9 37 = .ok (.iload_n 1, 1) := by decide +kernel
theorem dJ5_append_c97b9_38 : decode cJ5_append_c97b9 38 = .ok (.iload_n 2, 1) := by decide +kernel
theorem dJ5_append_c97b9_39 : decode cJ5_append_c97b9 39 = .ok (.iload_n 3, 1) := by decide +kernel
theorem dJ5_append_c97b9_40 : decode cJ5_append_c97b9 40 = .ok (.aload_n 0, 1) := by decide +kernel
theorem dJ5_append_c97b9_41 : decode cJ5_append_c97b9 41 = .ok (.getfield 15, 3) := by decide +kernel
theorem dJ5_append_c97b9_44 : decode cJ5_append_c97b9 44 = .ok (.invokestatic 251, 3) := by decide +kernel
theorem dJ5_append_c97b9_47 : decode cJ5_append_c97b9 47 = .ok (.pop, 1) := by decide +kernel
theorem dJ5_append_c97b9_48 : decode cJ5_append_c97b9 48 = .ok (.aload_n 0, 1) := by decide +kernel
theorem dJ5_append_c97b9_49 : decode cJ5_append_c97b9 49 = .ok (.iload_n 3, 1) := by decide +kernel
theorem dJ5_append_c97b9_50 : decode cJ5_append_c97b9 50 = .ok (.putfield 79, 3) := by decide +kernel
theorem dJ5_append_c97b9_53 : decode cJ5_append_c97b9 53 = .ok (.aload_n 0, 1) := by decide +kernel
theorem dJ5_append_c97b9_54 : decode cJ5_append_c97b9 54 = .ok (.areturn, 1) := by decide +kernel
theorem dJ5_getValue_6d5f1_0 : decode cJ5_getValue_6d5f1 0 = .ok (.aload_n 0, 1) := by decide +kernel
theorem dJ5_getValue_6d5f1_1 : decode cJ5_getValue_6d5f1 1 = .ok (.getfield 15, 3) := by decide +kernel
theorem dJ5_getValue_6d5f1_4 : decode cJ5_getValue_6d5f1 4 = .ok (.areturn, 1) := by decide +kernel
theorem dJ5_isLatin1_aae02_0 : decode cJ5_isLatin1_aae02 0 = .ok (.getstatic 18, 3) := by decide +kernel
theorem dJ5_isLatin1_aae02_3 : decode cJ5_isLatin1_aae02 3 = .ok (.ifCond .eq 14, 3) := by decide +kernel
theorem dJ5_isLatin1_aae02_6 : decode cJ5_isLatin1_aae02 6 = .ok (.aload_n 0, 1) := by decide +kernel
theorem dJ5_isLatin1_aae02_7 : decode cJ5_isLatin1_aae02 7 = .ok (.getfield 22, 3) := by decide +kernel
theorem dJ5_isLatin1_aae02_10 : decode cJ5_isLatin1_aae02 10 = .ok (.ifCond .ne 7, 3) := by decide +kernel
theorem dJ5_isLatin1_aae02_13 : decode cJ5_isLatin1_aae02 13 = .ok (.iconst 1, 1) := by decide +kernel
theorem dJ5_isLatin1_aae02_14 : decode cJ5_isLatin1_aae02 14 = .ok (.goto 4, 3) := by decide +kernel
theorem dJ5_isLatin1_aae02_17 : decode cJ5_isLatin1_aae02 17 = .ok (.iconst 0, 1) := by decide +kernel
theorem dJ5_isLatin1_aae02_18 : decode cJ5_isLatin1_aae02 18 = .ok (.ireturn, 1) := by decide +kernel
theorem dJ5_inflateIfNeededFor_a7421_0 : decode cJ5_inflateIfNeededFor_a7421 0 = .ok (.getstatic 18, 3) := by decide +kernel
theorem dJ5_inflateIfNeededFor_a7421_3 : decode cJ5_inflateIfNeededFor_a7421 3 = .ok (.ifCond .eq 18, 3) := by decide +kernel
theorem dJ5_inflateIfNeededFor_a7421_6 : decode cJ5_inflateIfNeededFor_a7421 6 = .ok (.aload_n 0, 1) := by decide +kernel
theorem dJ5_inflateIfNeededFor_a7421_7 : decode cJ5_inflateIfNeededFor_a7421 7 = .ok (.getfield 22, 3) := by decide +kernel
theorem dJ5_inflateIfNeededFor_a7421_10 : decode cJ5_inflateIfNeededFor_a7421 10 = .ok (.aload_n 1, 1) := by decide +kernel
theorem dJ5_inflateIfNeededFor_a7421_11 : decode cJ5_inflateIfNeededFor_a7421 11 = .ok (.invokevirtual 40, 3) := by decide +kernel
theorem dJ5_inflateIfNeededFor_a7421_14 : decode cJ5_inflateIfNeededFor_a7421 14 = .ok (.if_icmp .eq 7, 3) := by decide +kernel
theorem dJ5_inflateIfNeededFor_a7421_17 : decode cJ5_inflateIfNeededFor_a7421 17 = .ok (.aload_n 0, 1) := by decide +kernel
theorem dJ5_inflateIfNeededFor_a7421_18 : decode cJ5_inflateIfNeededFor_a7421 18 = .ok (.invokevirtual 195, 3) := by decide +kernel
theorem dJ5_inflateIfNeededFor_a7421_21 : decode cJ5_inflateIfNeededFor_a7421 21 = .ok (.return_, 1) := by decide +kernel
theorem dJ5_putStringAt_47b60_0 : decode cJ5_putStringAt_47b60 0 = .ok (.aload_n 0, 1) := by decide +kernel
theorem dJ5_putStringAt_47b60_1 : decode cJ5_putStringAt_47b60 1 = .ok (.aload_n 2, 1) := by decide +kernel
theorem dJ5_putStringAt_47b60_2 : decode cJ5_putStringAt_47b60 2 = .ok (.invokevirtual 397, 3) := by decide +kernel
theorem dJ5_putStringAt_47b60_5 : decode cJ5_putStringAt_47b60 5 = .ok (.aload_n 2, 1) := by decide +kernel
theorem dJ5_putStringAt_47b60_6 : decode cJ5_putStringAt_47b60 6 = .ok (.aload_n 0, 1) := by decide +kernel
theorem dJ5_putStringAt_47b60_7 : decode cJ5_putStringAt_47b60 7 = .ok (.getfield 15, 3) := by decide +kernel
theorem dJ5_putStringAt_47b60_10 : decode cJ5_putStringAt_47b60 10 = .ok (.iload_n 1, 1) := by decide +kernel
theorem dJ5_putStringAt_47b60_11 : decode cJ5_putStringAt_47b60 11 = .ok (.aload_n 0, 1) := by decide +kernel
theorem dJ5_putStringAt_47b60_12 : decode cJ5_putStringAt_47b60 12 = .ok (.getfield 22, 3) := by decide +kernel
theorem dJ5_putStringAt_47b60_15 : decode cJ5_putStringAt_47b60 15 = .ok (.invokevirtual 399, 3) := by decide +kernel
theorem dJ5_putStringAt_47b60_18 : decode cJ5_putStringAt_47b60 18 = .ok (.return_, 1) := by decide +kernel
theorem dJ6_getChars_ba4f3_0 : decode cJ6_getChars_ba4f3 0 = .ok (.iload_n 1, 1) := by decide +kernel
theorem dJ6_getChars_ba4f3_1 : decode cJ6_getChars_ba4f3 1 = .ok (.istore 5, 2) := by decide +kernel
theorem dJ6_getChars_ba4f3_3 : decode cJ6_getChars_ba4f3 3 = .ok (.iload_n 0, 1) := by decide +kernel
theorem dJ6_getChars_ba4f3_4 : decode cJ6_getChars_ba4f3 4 = .ok (.ifCond .ge 7, 3) := by decide +kernel
theorem dJ6_getChars_ba4f3_7 : decode cJ6_getChars_ba4f3 7 = .ok (.iconst 1, 1) := by decide +kernel
theorem dJ6_getChars_ba4f3_8 : decode cJ6_getChars_ba4f3 8 = .ok (.goto 4, 3) := by decide +kernel
theorem dJ6_getChars_ba4f3_11 : decode cJ6_getChars_ba4f3 11 = .ok (.iconst 0, 1) := by decide +kernel
theorem dJ6_getChars_ba4f3_12 : decode cJ6_getChars_ba4f3 12 = .ok (.istore 6, 2) := by decide +kernel
theorem dJ6_getChars_ba4f3_14 : decode cJ6_getChars_ba4f3 14 = .ok (.iload 6, 2) := by decide +kernel
theorem dJ6_getChars_ba4f3_16 : decode cJ6_getChars_ba4f3 16 = .ok (.ifCond .ne 6, 3) := by decide +kernel
theorem dJ6_getChars_ba4f3_19 : decode cJ6_getChars_ba4f3 19 = .ok (.iload_n 0, 1) := by decide +kernel
theorem dJ6_getChars_ba4f3_20 : decode cJ6_getChars_ba4f3 20 = .ok (.ineg, 1) := by decide +kernel
theorem dJ6_getChars_ba4f3_21 : decode cJ6_getChars_ba4f3 21 = .ok (.istore_n 0, 1) := by decide +kernel
theorem dJ6_getChars_ba4f3_22 : decode cJ6_getChars_ba4f3 22 = .ok (.iload_n 0, 1) := by decide +kernel
theorem dJ6_getChars_ba4f3_23 : decode cJ6_getChars_ba4f3 23 = .ok (.bipush (-100), 2) := by decide +kernel
theorem dJ6_getChars_ba4f3_25 : decode cJ6_getChars_ba4f3 25 = .ok (.if_icmp .gt 47, 3) := by decide +kernel
theorem dJ6_getChars_ba4f3_28 : decode cJ6_getChars_ba4f3 28 = .ok (.iload_n 0, 1) := by decide +kernel
theorem dJ6_getChars_ba4f3_29 : decode cJ6_getChars_ba4f3 29 = .ok (.bipush 100, 2) := by decide +kernel
theorem dJ6_getChars_ba4f3_31 : decode cJ6_getChars_ba4f3 31 = .ok (.idiv, 1) := by decide +kernel
theorem dJ6_getChars_ba4f3_32 : decode cJ6_getChars_ba4f3 32 = .ok (.istore_n 3, 1) := by decide +kernel
theorem dJ6_getChars_ba4f3_33 : decode cJ6_getChars_ba4f3 33 = .ok (.iload_n 3, 1) := by decide +kernel
theorem dJ6_getChars_ba4f3_34 : decode cJ6_getChars_ba4f3 34 = .ok (.bipush 100, 2) := by decide +kernel
theorem dJ6_getChars_ba4f3_36 : decode cJ6_getChars_ba4f3 36 = .ok (.imul, 1) := by decide +kernel
theorem dJ6_getChars_ba4f3_37 : decode cJ6_getChars_ba4f3 37 = .ok (.iload_n 0, 1) := by decide +kernel
theorem dJ6_getChars_ba4f3_38 : decode cJ6_getChars_ba4f3 38 = .ok (.isub, 1) := by decide +kernel
theorem dJ6_getChars_ba4f3_39 : decode cJ6_getChars_ba4f3 39 = .ok (.istore 4, 2) := by decide +kernel
theorem dJ6_getChars_ba4f3_41 : decode cJ6_getChars_ba4f3 41 = .ok (.iload_n 3, 1) := by decide +kernel
theorem dJ6_getChars_ba4f3_42 : decode cJ6_getChars_ba4f3 42 = .ok (.istore_n 0, 1) := by decide +kernel
theorem dJ6_getChars_ba4f3_43 : decode cJ6_getChars_ba4f3 43 = .ok (.aload_n 2, 1) := by decide +kernel
theorem dJ6_getChars_ba4f3_44 : decode cJ6_getChars_ba4f3 44 = .ok (.iinc 5 (-1), 3) := by decide +kernel
theorem dJ6_getChars_ba4f3_47 : decode cJ6_getChars_ba4f3 47 = .ok (.iload 5, 2) := by decide +kernel
theorem dJ6_getChars_ba4f3_49 : decode cJ6_getChars_ba4f3 49 = .ok (.getstatic 83, 3) := by decide +kernel
theorem dJ6_getChars_ba4f3_52 : decode cJ6_getChars_ba4f3 52 = .ok (.iload 4, 2) := by decide +kernel
theorem dJ6_getChars_ba4f3_54 : decode cJ6_getChars_ba4f3 54 = .ok (.baload, 1) := by decide +kernel
theorem dJ6_getChars_ba4f3_55 : decode cJ6_getChars_ba4f3 55 = .ok (.bastore, 1) := by decide +kernel
theorem dJ6_getChars_ba4f3_56 : decode cJ6_getChars_ba4f3 56 = .ok (.aload_n 2, 1) := by decide +kernel
theorem dJ6_getChars_ba4f3_57 : decode cJ6_getChars_ba4f3 57 = .ok (.iinc 5 (-1), 3) := by decide +kernel
theorem dJ6_getChars_ba4f3_60 : decode cJ6_getChars_ba4f3 60 = .ok (.iload 5, 2) := by decide +kernel
theorem dJ6_getChars_ba4f3_62 : decode cJ6_getChars_ba4f3 62 = .ok (.getstatic 87, 3) := by decide +kernel
theorem dJ6_getChars_ba4f3_65 : decode cJ6_getChars_ba4f3 65 = .ok (.iload 4, 2) := by decide +kernel
theorem dJ6_getChars_ba4f3_67 : decode cJ6_getChars_ba4f3 67 = .ok (.baload, 1) := by decide +kernel
theorem dJ6_getChars_ba4f3_68 : decode cJ6_getChars_ba4f3 68 = .ok (.bastore, 1) := by decide +kernel
theorem dJ6_getChars_ba4f3_69 : decode cJ6_getChars_ba4f3 69 = .ok (.goto (-47), 3) := by decide +kernel
theorem dJ6_getChars_ba4f3_72 : decode cJ6_getChars_ba4f3 72 = .ok (.aload_n 2, 1) := by decide +kernel
theorem dJ6_getChars_ba4f3_73 : decode cJ6_getChars_ba4f3 73 = .ok (.iinc 5 (-1), 3) := by decide +kernel
theorem dJ6_getChars_ba4f3_76 : decode cJ6_getChars_ba4f3 76 = .ok (.iload 5, 2) := by decide +kernel
theorem dJ6_getChars_ba4f3_78 : decode cJ6_getChars_ba4f3 78 = .ok (.getstatic 83, 3) := by decide +kernel
theorem dJ6_getChars_ba4f3_81 : decode cJ6_getChars_ba4f3 81 = .ok (.iload_n 0, 1) := by decide +kernel
theorem dJ6_getChars_ba4f3_82 : decode cJ6_getChars_ba4f3 82 = .ok (.ineg, 1) := by decide +kernel
theorem dJ6_getChars_ba4f3_83 : decode cJ6_getChars_ba4f3 83 = .ok (.baload, 1) := by decide +kernel
theorem dJ6_getChars_ba4f3_84 : decode cJ6_getChars_ba4f3 84 = .ok (.bastore, 1) := by decide +kernel
theorem dJ6_getChars_ba4f3_85 : decode cJ6_getChars_ba4f3 85 = .ok (.iload_n 0, 1) := by decide +kernel
theorem dJ6_getChars_ba4f3_86 : decode cJ6_getChars_ba4f3 86 = .ok (.bipush (-9), 2) := by decide +kernel
theorem dJ6_getChars_ba4f3_88 : decode cJ6_getChars_ba4f3 88 = .ok (.if_icmp .ge 16, 3) := by decide +kernel
theorem dJ6_getChars_ba4f3_91 : decode cJ6_getChars_ba4f3 91 = .ok (.aload_n 2, 1) := by decide +kernel
theorem dJ6_getChars_ba4f3_92 : decode cJ6_getChars_ba4f3 92 = .ok (.iinc 5 (-1), 3) := by decide +kernel
theorem dJ6_getChars_ba4f3_95 : decode cJ6_getChars_ba4f3 95 = .ok (.iload 5, 2) := by decide +kernel
theorem dJ6_getChars_ba4f3_97 : decode cJ6_getChars_ba4f3 97 = .ok (.getstatic 87, 3) := by decide +kernel
theorem dJ6_getChars_ba4f3_100 : decode cJ6_getChars_ba4f3 100 = .ok (.iload_n 0, 1) := by decide +kernel
theorem dJ6_getChars_ba4f3_101 : decode cJ6_getChars_ba4f3 101 = .ok (.ineg, 1) := by decide +kernel
theorem dJ6_getChars_ba4f3_102 : decode cJ6_getChars_ba4f3 102 = .ok (.baload, 1) := by decide +kernel
theorem dJ6_getChars_ba4f3_103 : decode cJ6_getChars_ba4f3 103 = .ok (.bastore, 1) := by decide +kernel
theorem dJ6_getChars_ba4f3_104 : decode cJ6_getChars_ba4f3 104 = .ok (.iload 6, 2) := by decide +kernel
theorem dJ6_getChars_ba4f3_106 : decode cJ6_getChars_ba4f3 106 = .ok (.ifCond .eq 12, 3) := by decide +kernel
theorem dJ6_getChars_ba4f3_109 : decode cJ6_getChars_ba4f3 109 = .ok (.aload_n 2, 1) := by decide +kernel
theorem dJ6_getChars_ba4f3_110 : decode cJ6_getChars_ba4f3 110 = .ok (.iinc 5 (-1), 3) := by decide +kernel
theorem dJ6_getChars_ba4f3_113 : decode cJ6_getChars_ba4f3 113 = .ok (.iload 5, 2) := by decide +kernel
theorem dJ6_getChars_ba4f3_115 : decode cJ6_getChars_ba4f3 115 = .ok (.bipush 45, 2) := by decide +kernel
theorem dJ6_getChars_ba4f3_117 : decode cJ6_getChars_ba4f3 117 = .ok (.bastore, 1) := by decide +kernel
theorem dJ6_getChars_ba4f3_118 : decode cJ6_getChars_ba4f3 118 = .ok (.iload 5, 2) := by decide +kernel
theorem dJ6_getChars_ba4f3_120 : decode cJ6_getChars_ba4f3 120 = .ok (.ireturn, 1) := by decide +kernel
theorem dJ6_stringSize_0f7a4_0 : decode cJ6_stringSize_0f7a4 0 = .ok (.iconst 1, 1) := by decide +kernel
theorem dJ6_stringSize_0f7a4_1 : decode cJ6_stringSize_0f7a4 1 = .ok (.istore_n 1, 1) := by decide +kernel
theorem dJ6_stringSize_0f7a4_2 : decode cJ6_stringSize_0f7a4 2 = .ok (.iload_n 0, 1) := by decide +kernel
theorem dJ6_stringSize_0f7a4_3 : decode cJ6_stringSize_0f7a4 3 = .ok (.ifCond .lt 8, 3) := by decide +kernel
theorem dJ6_stringSize_0f7a4_6 : decode cJ6_stringSize_0f7a4 6 = .ok (.iconst 0, 1) := by decide +kernel
theorem dJ6_stringSize_0f7a4_7 : decode cJ6_stringSize_0f7a4 7 = .ok (.istore_n 1, 1) := by decide +kernel
theorem dJ6_stringSize_0f7a4_8 : decode cJ6_stringSize_0f7a4 8 = .ok (.iload_n 0, 1) := by decide +kernel
theorem dJ6_stringSize_0f7a4_9 : decode cJ6_stringSize_0f7a4 9 = .ok (.ineg, 1) := by decide +kernel
theorem dJ6_stringSize_0f7a4_10 : decode cJ6_stringSize_0f7a4 10 = .ok (.istore_n 0, 1) := by decide +kernel
theorem dJ6_stringSize_0f7a4_11 : decode cJ6_stringSize_0f7a4 11 = .ok (.bipush (-10), 2) := by decide +kernel
theorem dJ6_stringSize_0f7a4_13 : decode cJ6_stringSize_0f7a4 13 = .ok (.istore_n 2, 1) := by decide +kernel
theorem dJ6_stringSize_0f7a4_14 : decode cJ6_stringSize_0f7a4 14 = .ok (.iconst 1, 1) := by decide +kernel
theorem dJ6_stringSize_0f7a4_15 : decode cJ6_stringSize_0f7a4 15 = .ok (.istore_n 3, 1) := by decide +kernel
theorem dJ6_stringSize_0f7a4_16 : decode cJ6_stringSize_0f7a4 16 = .ok (.iload_n 3, 1) := by decide +kernel
theorem dJ6_stringSize_0f7a4_17 : decode cJ6_stringSize_0f7a4 17 = .ok (.bipush 10, 2) := by decide +kernel
theorem dJ6_stringSize_0f7a4_19 : decode cJ6_stringSize_0f7a4 19 = .ok (.if_icmp .ge 23, 3) := by decide +kernel
theorem dJ6_stringSize_0f7a4_22 : decode cJ6_stringSize_0f7a4 22 = .ok (.iload_n 0, 1) := by decide +kernel
theorem dJ6_stringSize_0f7a4_23 : decode cJ6_stringSize_0f7a4 23 = .ok (.iload_n 2, 1) := by decide +kernel
theorem dJ6_stringSize_0f7a4_24 : decode cJ6_stringSize_0f7a4 24 = .ok (.if_icmp .le 7, 3) := by decide +kernel
theorem dJ6_stringSize_0f7a4_27 : decode cJ6_stringSize_0f7a4 27 = .ok (.iload_n 3, 1) := by decide +kernel
theorem dJ6_stringSize_0f7a4_28 : decode cJ6_stringSize_0f7a4 28 = .ok (.iload_n 1, 1) := by decide +kernel
theorem dJ6_stringSize_0f7a4_29 : decode cJ6_stringSize_0f7a4 29 = .ok (.iadd, 1) := by decide +kernel
theorem dJ6_stringSize_0f7a4_30 : decode cJ6_stringSize_0f7a4 30 = .ok (.ireturn, 1) := by decide +kernel
theorem dJ6_stringSize_0f7a4_31 : decode cJ6_stringSize_0f7a4 31 = .ok (.bipush 10, 2) := by decide +kernel
theorem dJ6_stringSize_0f7a4_33 : decode cJ6_stringSize_0f7a4 33 = .ok (.iload_n 2, 1) := by decide +kernel
theorem dJ6_stringSize_0f7a4_34 : decode cJ6_stringSize_0f7a4 34 = .ok (.imul, 1) := by decide +kernel
theorem dJ6_stringSize_0f7a4_35 : decode cJ6_stringSize_0f7a4 35 = .ok (.istore_n 2, 1) := by decide +kernel
theorem dJ6_stringSize_0f7a4_36 : decode cJ6_stringSize_0f7a4 36 = .ok (.iinc 3 1, 3) := by decide +kernel
theorem dJ6_stringSize_0f7a4_39 : decode cJ6_stringSize_0f7a4 39 = .ok (.goto (-23), 3) := by decide +kernel
theorem dJ6_stringSize_0f7a4_42 : decode cJ6_stringSize_0f7a4 42 = .ok (.bipush 10, 2) := by decide +kernel
theorem dJ6_stringSize_0f7a4_44 : decode cJ6_stringSize_0f7a4 44 = .ok (.iload_n 1, 1) := by decide +kernel
theorem dJ6_stringSize_0f7a4_45 : decode cJ6_stringSize_0f7a4 45 = .ok (.iadd, 1) := by decide +kernel
theorem dJ6_stringSize_0f7a4_46 : decode cJ6_stringSize_0f7a4 46 = .ok (.ireturn, 1) := by decide +kernel
theorem dJ0_init_81219_0 : decode cJ0_init_81219 0 = .ok (.aload_n 0, 1) := by decide +kernel
theorem dJ0_init_81219_1 : decode cJ0_init_81219 1 = .ok (.aload_n 1, 1) := by decide +kernel
theorem dJ0_init_81219_2 : decode cJ0_init_81219 2 = .ok (.aconst_null, 1) := by decide +kernel
theorem dJ0_init_81219_3 : decode cJ0_init_81219 3 = .ok (.invokespecial 489, 3) := by decide +kernel
theorem dJ0_init_81219_6 : decode cJ0_init_81219 6 = .ok (.return_, 1) := by decide +kernel
theorem dJ0_length_8abf5_0 : decode cJ0_length_8abf5 0 = .ok (.aload_n 0, 1) := by decide +kernel
theorem dJ0_length_8abf5_1 : decode cJ0_length_8abf5 1 = .ok (.getfield 9, 3) := by decide +kernel
theorem dJ0_length_8abf5_4 : decode cJ0_length_8abf5 4 = .ok (.arraylength, 1) := by decide +kernel
theorem dJ0_length_8abf5_5 : decode cJ0_length_8abf5 5 = .ok (.aload_n 0, 1) := by decide +kernel
theorem dJ0_length_8abf5_6 : decode cJ0_length_8abf5 6 = .ok (.invokevirtual 335, 3) := by decide +kernel
theorem dJ0_length_8abf5_9 : decode cJ0_length_8abf5 9 = .ok (.ishr, 1) := by decide +kernel
theorem dJ0_length_8abf5_10 : decode cJ0_length_8abf5 10 = .ok (.ireturn, 1) := by decide +kernel
theorem dJ0_charAt_5068e_0 : decode cJ0_charAt_5068e 0 = .ok (.aload_n 0, 1) := by decide +kernel
theorem dJ0_charAt_5068e_1 : decode cJ0_charAt_5068e 1 = .ok (.invokevirtual 492, 3) := by decide +kernel
theorem dJ0_charAt_5068e_4 : decode cJ0_charAt_5068e 4 = .ok (.ifCond .eq 12, 3) := by decide +kernel
theorem dJ0_charAt_5068e_7 : decode cJ0_charAt_5068e 7 = .ok (.aload_n 0, 1) := by decide +kernel
theorem dJ0_charAt_5068e_8 : decode cJ0_charAt_5068e 8 = .ok (.getfield 9, 3) := by decide +kernel
theorem dJ0_charAt_5068e_11 : decode cJ0_charAt_5068e 11 = .ok (.iload_n 1, 1) := by decide +kernel
theorem dJ0_charAt_5068e_12 : decode cJ0_charAt_5068e 12 = .ok (.invokestatic 495, 3) := by decide +kernel
theorem dJ0_charAt_5068e_15 : decode cJ0_charAt_5068e 15 = .ok (.ireturn, 1) := by decide +kernel
theorem dJ0_charAt_5068e_16 : decode cJ0_charAt_5068e 16 = .ok (.aload_n 0, 1) := by decide +kernel
theorem dJ0_charAt_5068e_17 : decode cJ0_charAt_5068e 17 = .ok (.getfield 9, 3) := by decide +kernel
theorem dJ0_charAt_5068e_20 : decode cJ0_charAt_5068e 20 = .ok (.iload_n 1, 1) := by decide +kernel
theorem dJ0_charAt_5068e_21 : decode cJ0_charAt_5068e 21 = .ok (.invokestatic 498, 3) := by decide +kernel
theorem dJ0_charAt_5068e_24 : decode cJ0_charAt_5068e 24 = .ok (.ireturn, 1) := by decide +kernel
theorem dJ0_getBytes_840e7_0 : decode cJ0_getBytes_840e7 0 = .ok (.aload_n 0, 1) := by decide +kernel
theorem dJ0_getBytes_840e7_1 : decode cJ0_getBytes_840e7 1 = .ok (.invokevirtual 335, 3) := by decide +kernel
theorem dJ0_getBytes_840e7_4 : decode cJ0_getBytes_840e7 4 = .ok (.iload_n 3, 1) := by decide +kernel
theorem dJ0_getBytes_840e7_5 : decode cJ0_getBytes_840e7 5 = .ok (.if_icmp .ne 23, 3) := by decide +kernel
theorem dJ0_getBytes_840e7_8 : decode cJ0_getBytes_840e7 8 = .ok (.aload_n 0, 1) := by decide +kernel
theorem dJ0_getBytes_840e7_9 : decode cJ0_getBytes_840e7 9 = .ok (.getfield 9, 3) := by decide +kernel
theorem dJ0_getBytes_840e7_12 : decode cJ0_getBytes_840e7 12 = .ok (.iconst 0, 1) := by decide +kernel
theorem dJ0_getBytes_840e7_13 : decode cJ0_getBytes_840e7 13 = .ok (.aload_n 1, 1) := by decide +kernel
theorem dJ0_getBytes_840e7_14 : decode cJ0_getBytes_840e7 14 = .ok (.iload_n 2, 1) := by decide +kernel
theorem dJ0_getBytes_840e7_15 : decode cJ0_getBytes_840e7 15 = .ok (.iload_n 3, 1) := by decide +kernel
theorem dJ0_getBytes_840e7_16 : decode cJ0_getBytes_840e7 16 = .ok (.ishl, 1) := by decide +kernel
theorem dJ0_getBytes_840e7_17 : decode cJ0_getBytes_840e7 17 = .ok (.aload_n 0, 1) := by decide +kernel
theorem dJ0_getBytes_840e7_18 : decode cJ0_getBytes_840e7 18 = .ok (.getfield 9, 3) := by decide +kernel
theorem dJ0_getBytes_840e7_21 : decode cJ0_getBytes_840e7 21 = .ok (.arraylength, 1) := by decide +kernel
theorem dJ0_getBytes_840e7_22 : decode cJ0_getBytes_840e7 22 = .ok (.invokestatic 212, 3) := by decide +kernel
theorem dJ0_getBytes_840e7_25 : decode cJ0_getBytes_840e7 25 = .ok (.goto 18, 3) := by decide +kernel
theorem dJ0_getBytes_840e7_28 : decode cJ0_getBytes_840e7 28 = .ok (.aload_n 0, 1) := by decide +kernel
theorem dJ0_getBytes_840e7_29 : decode cJ0_getBytes_840e7 29 = .ok (.getfield 9, 3) := by decide +kernel
theorem dJ0_getBytes_840e7_32 : decode cJ0_getBytes_840e7 32 = .ok (.iconst 0, 1) := by decide +kernel
theorem dJ0_getBytes_840e7_33 : decode cJ0_getBytes_840e7 33 = .ok (.aload_n 1, 1) := by decide +kernel
theorem dJ0_getBytes_840e7_34 : decode cJ0_getBytes_840e7 34 = .ok (.iload_n 2, 1) := by decide +kernel
theorem dJ0_getBytes_840e7_35 : decode cJ0_getBytes_840e7 35 = .ok (.aload_n 0, 1) := by decide +kernel
theorem dJ0_getBytes_840e7_36 : decode cJ0_getBytes_840e7 36 = .ok (.getfield 9, 3) := by decide +kernel
theorem dJ0_getBytes_840e7_39 : decode cJ0_getBytes_840e7 39 = .ok (.arraylength, 1) := by decide +kernel
theorem dJ0_getBytes_840e7_40 : decode cJ0_getBytes_840e7 40 = .ok (.invokestatic 106, 3) := by decide +kernel
theorem dJ0_getBytes_840e7_43 : decode cJ0_getBytes_840e7 43 = .ok (.return_, 1) := by decide +kernel
theorem dJ0_init_db425_0 : decode cJ0_init_db425 0 = .ok (.aload_n 0, 1) := by decide +kernel
theorem dJ0_init_db425_1 : decode cJ0_init_db425 1 = .ok (.invokespecial 1, 3) := by decide +kernel
theorem dJ0_init_db425_4 : decode cJ0_init_db425 4 = .ok (.aload_n 1, 1) := by decide +kernel
theorem dJ0_init_db425_5 : decode cJ0_init_db425 5 = .ok (.invokevirtual 552, 3) := by decide +kernel
theorem dJ0_init_db425_8 : decode cJ0_init_db425 8 = .ok (.astore_n 3, 1) := by decide +kernel
theorem dJ0_init_db425_9 : decode cJ0_init_db425 9 = .ok (.aload_n 1, 1) := by decide +kernel
theorem dJ0_init_db425_10 : decode cJ0_init_db425 10 = .ok (.invokevirtual 549, 3) := by decide +kernel
theorem dJ0_init_db425_13 : decode cJ0_init_db425 13 = .ok (.istore 4, 2) := by decide +kernel
theorem dJ0_init_db425_15 : decode cJ0_init_db425 15 = .ok (.aload_n 1, 1) := by decide +kernel
theorem dJ0_init_db425_16 : decode cJ0_init_db425 16 = .ok (.invokevirtual 1047, 3) := by decide +kernel
theorem dJ0_init_db425_19 : decode cJ0_init_db425 19 = .ok (.ifCond .eq 22, 3) := by decide +kernel
theorem dJ0_init_db425_22 : decode cJ0_init_db425 22 = .ok (.aload_n 0, 1) := by decide +kernel
theorem dJ0_init_db425_23 : decode cJ0_init_db425 23 = .ok (.iconst 0, 1) := by decide +kernel
theorem dJ0_init_db425_24 : decode cJ0_init_db425 24 = .ok (.putfield 15, 3) := by decide +kernel
theorem dJ0_init_db425_27 : decode cJ0_init_db425 27 = .ok (.aload_n 0, 1) := by decide +kernel
theorem dJ0_init_db425_28 : decode cJ0_init_db425 28 = .ok (.aload_n 3, 1) := by decide +kernel
theorem dJ0_init_db425_29 : decode cJ0_init_db425 29 = .ok (.iconst 0, 1) := by decide +kernel
theorem dJ0_init_db425_30 : decode cJ0_init_db425 30 = .ok (.iload 4, 2) := by decide +kernel
theorem dJ0_init_db425_32 : decode cJ0_init_db425 32 = .ok (.invokestatic 54, 3) := by decide +kernel
theorem dJ0_init_db425_35 : decode cJ0_init_db425 35 = .ok (.putfield 9, 3) := by decide +kernel
theorem dJ0_init_db425_38 : decode cJ0_init_db425 38 = .ok (.goto 59, 3) := by decide +kernel
theorem dJ0_init_db425_41 : decode cJ0_init_db425 41 = .ok (.getstatic 38, 3) := by decide +kernel
theorem dJ0_init_db425_44 : decode cJ0_init_db425 44 = .ok (.ifCond .eq 35, 3) := by decide +kernel
theorem dJ0_init_db425_47 : decode cJ0_init_db425 47 = .ok (.aload_n 1, 1) := by decide +kernel
theorem dJ0_init_db425_48 : decode cJ0_init_db425 48 = .ok (.getfield 1048, 3) := by decide +kernel
theorem dJ0_init_db425_51 : decode cJ0_init_db425 51 = .ok (.ifCond .eq 28, 3) := by decide +kernel
theorem dJ0_init_db425_54 : decode cJ0_init_db425 54 = .ok (.aload_n 0, 1) := by decide +kernel
theorem dJ0_init_db425_55 : decode cJ0_init_db425 55 = .ok (.aload_n 3, 1) := by decide +kernel
theorem dJ0_init_db425_56 : decode cJ0_init_db425 56 = .ok (.iconst 0, 1) := by decide +kernel
theorem dJ0_init_db425_57 : decode cJ0_init_db425 57 = .ok (.iload 4, 2) := by decide +kernel
theorem dJ0_init_db425_59 : decode cJ0_init_db425 59 = .ok (.invokestatic 1051, 3) := by decide +kernel
theorem dJ0_init_db425_62 : decode cJ0_init_db425 62 = .ok (.putfield 9, 3) := by decide +kernel
theorem dJ0_init_db425_65 : decode cJ0_init_db425 65 = .ok (.aload_n 0, 1) := by decide +kernel
theorem dJ0_init_db425_66 : decode cJ0_init_db425 66 = .ok (.aload_n 0, 1) := by decide +kernel
theorem dJ0_init_db425_67 : decode cJ0_init_db425 67 = .ok (.getfield 9, 3) := by decide +kernel
theorem dJ0_init_db425_70 : decode cJ0_init_db425 70 = .ok (.iload 4, 2) := by decide +kernel
theorem dJ0_init_db425_72 : decode cJ0_init_db425 72 = .ok (.invokestatic 47, 3) := by decide +kernel
theorem dJ0_init_db425_75 : decode cJ0_init_db425 75 = .ok (.putfield 15, 3) := by decide +kernel
theorem dJ0_init_db425_78 : decode cJ0_init_db425 78 = .ok (.return_, 1) := by decide +kernel
theorem dJ0_init_db425_79 : decode cJ0_init_db425 79 = .ok (.aload_n 0, 1) := by decide +kernel
theorem dJ0_init_db425_80 : decode cJ0_init_db425 80 = .ok (.iconst 1, 1) := by decide +kernel
theorem dJ0_init_db425_81 : decode cJ0_init_db425 81 = .ok (.putfield 15, 3) := by decide +kernel
theorem dJ0_init_db425_84 : decode cJ0_init_db425 84 = .ok (.aload_n 0, 1) := by decide +kernel
theorem dJ0_init_db425_85 : decode cJ0_init_db425 85 = .ok (.aload_n 3, 1) := by decide +kernel
theorem dJ0_init_db425_86 : decode cJ0_init_db425 86 = .ok (.iconst 0, 1) := by decide +kernel
theorem dJ0_init_db425_87 : decode cJ0_init_db425 87 = .ok (.iload 4, 2) := by decide +kernel
theorem dJ0_init_db425_89 : decode cJ0_init_db425 89 = .ok (.iconst 1, 1) := by decide +kernel
theorem dJ0_init_db425_90 : decode cJ0_init_db425 90 = .ok (.ishl, 1) := by decide +kernel
theorem dJ0_init_db425_91 : decode cJ0_init_db425 91 = .ok (.invokestatic 54, 3) := by decide +kernel
theorem dJ0_init_db425_94 : decode cJ0_init_db425 94 = .ok (.putfield 9, 3) := by decide +kernel
theorem dJ0_init_db425_97 : decode cJ0_init_db425 97 = .ok (.return_, 1) := by decide +kernel
theorem dJ0_coder_7d493_0 : decode cJ0_coder_7d493 0 = .ok (.getstatic 38, 3) := by decide +kernel
theorem dJ0_coder_7d493_3 : decode cJ0_coder_7d493 3 = .ok (.ifCond .eq 10, 3) := by decide +kernel
theorem dJ0_coder_7d493_6 : decode cJ0_coder_7d493 6 = .ok (.aload_n 0, 1) := by decide +kernel
theorem dJ0_coder_7d493_7 : decode cJ0_coder_7d493 7 = .ok (.getfield 15, 3) := by decide +kernel
theorem dJ0_coder_7d493_10 : decode cJ0_coder_7d493 10 = .ok (.goto 4, 3) := by decide +kernel
theorem dJ0_coder_7d493_13 : decode cJ0_coder_7d493 13 = .ok (.iconst 1, 1) := by decide +kernel
theorem dJ0_coder_7d493_14 : decode cJ0_coder_7d493 14 = .ok (.ireturn, 1) := by decide +kernel
theorem dJ0_isLatin1_aae02_0 : decode cJ0_isLatin1_aae02 0 = .ok (.getstatic 38, 3) := by decide +kernel
theorem dJ0_isLatin1_aae02_3 : decode cJ0_isLatin1_aae02 3 = .ok (.ifCond .eq 14, 3) := by decide +kernel
theorem dJ0_isLatin1_aae02_6 : decode cJ0_isLatin1_aae02 6 = .ok (.aload_n 0, 1) := by decide +kernel
theorem dJ0_isLatin1_aae02_7 : decode cJ0_isLatin1_aae02 7 = .ok (.getfield 15, 3) := by decide +kernel
theorem dJ0_isLatin1_aae02_10 : decode cJ0_isLatin1_aae02 10 = .ok (.ifCond .ne 7, 3) := by decide +kernel
theorem dJ0_isLatin1_aae02_13 : decode cJ0_isLatin1_aae02 13 = .ok (.iconst 1, 1) := by decide +kernel
theorem dJ0_isLatin1_aae02_14 : decode cJ0_isLatin1_aae02 14 = .ok (.goto 4, 3) := by decide +kernel
theorem dJ0_isLatin1_aae02_17 : decode cJ0_isLatin1_aae02 17 = .ok (.iconst 0, 1) := by decide +kernel
theorem dJ0_isLatin1_aae02_18 : decode cJ0_isLatin1_aae02 18 = .ok (.ireturn, 1) := by decide +kernel
theorem dJ0_checkIndex_df160_0 : decode cJ0_checkIndex_df160 0 = .ok (.iload_n 0, 1) := by decide +kernel
theorem dJ0_checkIndex_df160_1 : decode cJ0_checkIndex_df160 1 = .ok (.iload_n 1, 1) := by decide +kernel
theorem dJ0_checkIndex_df160_2 : decode cJ0_checkIndex_df160 2 = .ok (.getstatic 1053, 3) := by decide +kernel
theorem dJ0_checkIndex_df160_5 : decode cJ0_checkIndex_df160 5 = .ok (.invokestatic 1059, 3) := by decide +kernel
theorem dJ0_checkIndex_df160_8 : decode cJ0_checkIndex_df160 8 = .ok (.pop, 1) := by decide +kernel
theorem dJ0_checkIndex_df160_9 : decode cJ0_checkIndex_df160 9 = .ok (.return_, 1) := by decide +kernel
theorem dJ4_init_da8c8_0 : decode cJ4_init_da8c8 0 = .ok (.aload_n 0, 1) := by decide +kernel
theorem dJ4_init_da8c8_1 : decode cJ4_init_da8c8 1 = .ok (.bipush 16, 2) := by decide +kernel
theorem dJ4_init_da8c8_3 : decode cJ4_init_da8c8 3 = .ok (.invokespecial 1, 3) := by decide +kernel
theorem dJ4_init_da8c8_6 : decode cJ4_init_da8c8 6 = .ok (.return_, 1) := by decide +kernel
theorem dJ4_append_15ec4_0 : decode cJ4_append_15ec4 0 = .ok (.aload_n 0, 1) := by decide +kernel
theorem dJ4_append_15ec4_1 : decode cJ4_append_15ec4 1 = .ok (.aload_n 1, 1) := by decide +kernel
theorem dJ4_append_15ec4_2 : decode cJ4_append_15ec4 2 = .ok (.invokespecial 29, 3) := by decide +kernel
theorem dJ4_append_15ec4_5 : decode cJ4_append_15ec4 5 = .ok (.pop, 1) := by decide +kernel
theorem dJ4_append_15ec4_6 : decode cJ4_append_15ec4 6 = .ok (.aload_n 0, 1) := by decide +kernel
theorem dJ4_append_15ec4_7 : decode cJ4_append_15ec4 7 = .ok (.areturn, 1) := by decide +kernel
theorem dJ4_append_cf468_0 : decode cJ4_append_cf468 0 = .ok (.aload_n 0, 1) := by decide +kernel
theorem dJ4_append_cf468_1 : decode cJ4_append_cf468 1 = .ok (.iload_n 1, 1) := by decide +kernel
theorem dJ4_append_cf468_2 : decode cJ4_append_cf468 2 = .ok (.invokespecial 50, 3) := by decide +kernel
theorem dJ4_append_cf468_5 : decode cJ4_append_cf468 5 = .ok (.pop, 1) := by decide +kernel
theorem dJ4_append_cf468_6 : decode cJ4_append_cf468 6 = .ok (.aload_n 0, 1) := by decide +kernel
theorem dJ4_append_cf468_7 : decode cJ4_append_cf468 7 = .ok (.areturn, 1) := by decide +kernel
theorem dJ4_append_bf812_0 : decode cJ4_append_bf812 0 = .ok (.aload_n 0, 1) := by decide +kernel
theorem dJ4_append_bf812_1 : decode cJ4_append_bf812 1 = .ok (.iload_n 1, 1) := by decide +kernel
theorem dJ4_append_bf812_2 : decode cJ4_append_bf812 2 = .ok (.invokespecial 53, 3) := by decide +kernel
theorem dJ4_append_bf812_5 : decode cJ4_append_bf812 5 = .ok (.pop, 1) := by decide +kernel
theorem dJ4_append_bf812_6 : decode cJ4_append_bf812 6 = .ok (.aload_n 0, 1) := by decide +kernel
theorem dJ4_append_bf812_7 : decode cJ4_append_bf812 7 = .ok (.areturn, 1) := by decide +kernel
theorem dJ4_toString_0e30d_0 : decode cJ4_toString_0e30d 0 = .ok (.new 18, 3) := by decide +kernel
theorem dJ4_toString_0e30d_3 : decode cJ4_toString_0e30d 3 = .ok (.dup, 1) := by decide +kernel
theorem dJ4_toString_0e30d_4 : decode cJ4_toString_0e30d 4 = .ok (.aload_n 0, 1) := by decide +kernel
theorem dJ4_toString_0e30d_5 : decode cJ4_toString_0e30d 5 = .ok (.invokespecial 137, 3) := by decide +kernel
theorem dJ4_toString_0e30d_8 : decode cJ4_toString_0e30d 8 = .ok (.areturn, 1) := by decide +kernel
theorem dJ1_charAt_3b067_0 : decode cJ1_charAt_3b067 0 = .ok (.iload_n 1, 1) := by decide +kernel
theorem dJ1_charAt_3b067_1 : decode cJ1_charAt_3b067 1 = .ok (.aload_n 0, 1) := by decide +kernel
theorem dJ1_charAt_3b067_2 : decode cJ1_charAt_3b067 2 = .ok (.arraylength, 1) := by decide +kernel
theorem dJ1_charAt_3b067_3 : decode cJ1_charAt_3b067 3 = .ok (.invokestatic 9, 3) := by decide +kernel
theorem dJ1_charAt_3b067_6 : decode cJ1_charAt_3b067 6 = .ok (.aload_n 0, 1) := by decide +kernel
theorem dJ1_charAt_3b067_7 : decode cJ1_charAt_3b067 7 = .ok (.iload_n 1, 1) := by decide +kernel
theorem dJ1_charAt_3b067_8 : decode cJ1_charAt_3b067 8 = .ok (.baload, 1) := by decide +kernel
theorem dJ1_charAt_3b067_9 : decode cJ1_charAt_3b067 9 = .ok (.sipush 255, 3) := by decide +kernel
theorem dJ1_charAt_3b067_12 : decode cJ1_charAt_3b067 12 = .ok (.iand, 1) := by decide +kernel
theorem dJ1_charAt_3b067_13 : decode cJ1_charAt_3b067 13 = .ok (.i2c, 1) := by decide +kernel
theorem dJ1_charAt_3b067_14 : decode cJ1_charAt_3b067 14 = .ok (.ireturn, 1) := by decide +kernel
theorem dJ1_canEncode_fc78d_0 : decode cJ1_canEncode_fc78d 0 = .ok (.iload_n 0, 1) := by decide +kernel
theorem dJ1_canEncode_fc78d_1 : decode cJ1_canEncode_fc78d 1 = .ok (.sipush 255, 3) := by decide +kernel
theorem dJ1_canEncode_fc78d_4 : decode cJ1_canEncode_fc78d 4 = .ok (.if_icmp .gt 7, 3) := by decide +kernel
theorem dJ1_canEncode_fc78d_7 : decode cJ1_canEncode_fc78d 7 = .ok (.iconst 1, 1) := by decide +kernel
theorem dJ1_canEncode_fc78d_8 : decode cJ1_canEncode_fc78d 8 = .ok (.goto 4, 3) := by decide +kernel
theorem dJ1_canEncode_fc78d_11 : decode cJ1_canEncode_fc78d 11 = .ok (.iconst 0, 1) := by decide +kernel
theorem dJ1_canEncode_fc78d_12 : decode cJ1_canEncode_fc78d 12 = .ok (.ireturn, 1) := by decide +kernel
theorem dJ7_copyOf_9075b_0 : decode cJ7_copyOf_9075b 0 = .ok (.iload_n 1, 1) := by decide +kernel
theorem dJ7_copyOf_9075b_1 : decode cJ7_copyOf_9075b 1 = .ok (.aload_n 0, 1) := by decide +kernel
theorem dJ7_copyOf_9075b_2 : decode cJ7_copyOf_9075b 2 = .ok (.arraylength, 1) := by decide +kernel
theorem dJ7_copyOf_9075b_3 : decode cJ7_copyOf_9075b 3 = .ok (.if_icmp .ne 11, 3) := by decide +kernel
theorem dJ7_copyOf_9075b_6 : decode cJ7_copyOf_9075b 6 = .ok (.aload_n 0, 1) := by decide +kernel
theorem dJ7_copyOf_9075b_7 : decode cJ7_copyOf_9075b 7 = .ok (.invokevirtual 310, 3) := by decide +kernel
theorem dJ7_copyOf_9075b_10 : decode cJ7_copyOf_9075b 10 = .ok (.checkcast 311, 3) := by decide +kernel
theorem dJ7_copyOf_9075b_13 : decode cJ7_copyOf_9075b 13 = .ok (.areturn, 1) := by decide +kernel
theorem dJ7_copyOf_9075b_14 : decode cJ7_copyOf_9075b 14 = .ok (.iload_n 1, 1) := by decide +kernel
theorem dJ7_copyOf_9075b_15 : decode cJ7_copyOf_9075b 15 = .ok (.newarray .byte, 2) := by decide +kernel
theorem dJ7_copyOf_9075b_17 : decode cJ7_copyOf_9075b 17 = .ok (.astore_n 2, 1) := by decide +kernel
theorem dJ7_copyOf_9075b_18 : decode cJ7_copyOf_9075b 18 = .ok (.aload_n 0, 1) := by decide +kernel
theorem dJ7_copyOf_9075b_19 : decode cJ7_copyOf_9075b 19 = .ok (.iconst 0, 1) := by decide +kernel
theorem dJ7_copyOf_9075b_20 : decode cJ7_copyOf_9075b 20 = .ok (.aload_n 2, 1) := by decide +kernel
theorem dJ7_copyOf_9075b_21 : decode cJ7_copyOf_9075b 21 = .ok (.iconst 0, 1) := by decide +kernel
theorem dJ7_copyOf_9075b_22 : decode cJ7_copyOf_9075b 22 = .ok (.aload_n 0, 1) := by decide +kernel
theorem dJ7_copyOf_9075b_23 : decode cJ7_copyOf_9075b 23 = .ok (.arraylength, 1) := by decide +kernel
theorem dJ7_copyOf_9075b_24 : decode cJ7_copyOf_9075b 24 = .ok (.iload_n 1, 1) := by decide +kernel
theorem dJ7_copyOf_9075b_25 : decode cJ7_copyOf_9075b 25 = .ok (.invokestatic 304, 3) := by decide +kernel
theorem dJ7_copyOf_9075b_28 : decode cJ7_copyOf_9075b 28 = .ok (.invokestatic 150, 3) := by decide +kernel
theorem dJ7_copyOf_9075b_31 : decode cJ7_copyOf_9075b 31 = .ok (.aload_n 2, 1) := by decide +kernel
theorem dJ7_copyOf_9075b_32 : decode cJ7_copyOf_9075b 32 = .ok (.areturn, 1) := by decide +kernel
theorem dJ7_checkLength_df160_0 : decode cJ7_checkLength_df160 0 = .ok (.iload_n 1, 1) := by decide +kernel
theorem dJ7_checkLength_df160_1 : decode cJ7_checkLength_df160 1 = .ok (.iload_n 0, 1) := by decide +kernel
theorem dJ7_checkLength_df160_2 : decode cJ7_checkLength_df160 2 = .ok (.if_icmp .ge 35, 3) := by decide +kernel
theorem dJ7_checkLength_df160_5 : decode cJ7_checkLength_df160 5 = .ok (.new 43, 3) := by decide +kernel
theorem dJ7_checkLength_df160_8 : decode cJ7_checkLength_df160 8 = .ok (.dup, 1) := by decide +kernel
theorem dJ7_checkLength_df160_9 : decode cJ7_checkLength_df160 9 = .ok (.new 45, 3) := by decide +kernel
theorem dJ7_checkLength_df160_12 : decode cJ7_checkLength_df160 12 = .ok (.dup, 1) := by decide +kernel
theorem dJ7_checkLength_df160_13 : decode cJ7_checkLength_df160 13 = .ok (.invokespecial 47, 3) := by decide +kernel
theorem dJ7_checkLength_df160_16 : decode cJ7_checkLength_df160 16 = .ok (.iload_n 0, 1) := by decide +kernel
theorem dJ7_checkLength_df160_17 : decode cJ7_checkLength_df160 17 = .ok (.invokevirtual 54, 3) := by decide +kernel
theorem dJ7_checkLength_df160_20 : decode cJ7_checkLength_df160 20 = .ok (.ldc_w 337, 3) := by decide +kernel
theorem dJ7_checkLength_df160_23 : decode cJ7_checkLength_df160 23 = .ok (.invokevirtual 50, 3) := by decide +kernel
theorem dJ7_checkLength_df160_26 : decode cJ7_checkLength_df160 26 = .ok (.iload_n 1, 1) := by decide +kernel
theorem dJ7_checkLength_df160_27 : decode cJ7_checkLength_df160 27 = .ok (.invokevirtual 54, 3) := by decide +kernel
theorem dJ7_checkLength_df160_30 : decode cJ7_checkLength_df160 30 = .ok (.invokevirtual 61, 3) := by decide +kernel
theorem dJ7_checkLength_df160_33 : decode cJ7_checkLength_df160 33 = .ok (.invokespecial 65, 3) := by decide +kernel
theorem dJ7_checkLength_df160_36 : decode cJ7_checkLength_df160 36 = .ok (.athrow, 1) := by decide +kernel
theorem dJ7_checkLength_df160_37 : decode cJ7_checkLength_df160 37 = .ok (.return_, 1) := by decide +kernel
theorem dJ7_copyOfRange_39247_0 : decode cJ7_copyOfRange_39247 0 = .ok (.iload_n 1, 1) := by decide +kernel
theorem dJ7_copyOfRange_39247_1 : decode cJ7_copyOfRange_39247 1 = .ok (.ifCond .ne 9, 3) := by decide +kernel
theorem dJ7_copyOfRange_39247_4 : decode cJ7_copyOfRange_39247 4 = .ok (.iload_n 2, 1) := by decide +kernel
theorem dJ7_copyOfRange_39247_5 : decode cJ7_copyOfRange_39247 5 = .ok (.aload_n 0, 1) := by decide +kernel
theorem dJ7_copyOfRange_39247_6 : decode cJ7_copyOfRange_39247 6 = .ok (.arraylength, 1) := by decide +kernel
theorem dJ7_copyOfRange_39247_7 : decode cJ7_copyOfRange_39247 7 = .ok (.if_icmp .eq 10, 3) := by decide +kernel
theorem dJ7_copyOfRange_39247_10 : decode cJ7_copyOfRange_39247 10 = .ok (.aload_n 0, 1) := by decide +kernel
theorem dJ7_copyOfRange_39247_11 : decode cJ7_copyOfRange_39247 11 = .ok (.iload_n 1, 1) := by decide +kernel
theorem dJ7_copyOfRange_39247_12 : decode cJ7_copyOfRange_39247 12 = .ok (.iload_n 2, 1) := by decide +kernel
theorem dJ7_copyOfRange_39247_13 : decode cJ7_copyOfRange_39247 13 = .ok (.invokestatic 339, 3) := by decide +kernel
theorem dJ7_copyOfRange_39247_16 : decode cJ7_copyOfRange_39247 16 = .ok (.areturn, 1) := by decide +kernel
theorem dJ7_copyOfRange_39247_17 : decode cJ7_copyOfRange_39247 17 = .ok (.aload_n 0, 1) := by decide +kernel
theorem dJ7_copyOfRange_39247_18 : decode cJ7_copyOfRange_39247 18 = .ok (.invokevirtual 310, 3) := by decide +kernel
theorem dJ7_copyOfRange_39247_21 : decode cJ7_copyOfRange_39247 21 = .ok (.checkcast 311, 3) := by decide +kernel
theorem dJ7_copyOfRange_39247_24 : decode cJ7_copyOfRange_39247 24 = .ok (.areturn, 1) := by decide +kernel
theorem dJ7_copyOfRangeByte_39247_0 : decode cJ7_copyOfRangeByte_39247 0 = .ok (.iload_n 1, 1) := by decide +kernel
theorem dJ7_copyOfRangeByte_39247_1 : decode cJ7_copyOfRangeByte_39247 1 = .ok (.iload_n 2, 1) := by decide +kernel
theorem dJ7_copyOfRangeByte_39247_2 : decode cJ7_copyOfRangeByte_39247 2 = .ok (.invokestatic 343, 3) := by decide +kernel
theorem dJ7_copyOfRangeByte_39247_5 : decode cJ7_copyOfRangeByte_39247 5 = .ok (.iload_n 2, 1) := by decide +kernel
theorem dJ7_copyOfRangeByte_39247_6 : decode cJ7_copyOfRangeByte_39247 6 = .ok (.iload_n 1, 1) := by decide +kernel
theorem dJ7_copyOfRangeByte_39247_7 : decode cJ7_copyOfRangeByte_39247 7 = .ok (.isub, 1) := by decide +kernel
theorem dJ7_copyOfRangeByte_39247_8 : decode cJ7_copyOfRangeByte_39247 8 = .ok (.istore_n 3, 1) := by decide +kernel
theorem dJ7_copyOfRangeByte_39247_9 : decode cJ7_copyOfRangeByte_39247 9 = .ok (.iload_n 3, 1) := by decide +kernel
theorem dJ7_copyOfRangeByte_39247_10 : decode cJ7_copyOfRangeByte_39247 10 = .ok (.newarray .byte, 2) := by decide +kernel
theorem dJ7_copyOfRangeByte_39247_12 : decode cJ7_copyOfRangeByte_39247 12 = .ok (.astore 4, 2) := by decide +kernel
theorem dJ7_copyOfRangeByte_39247_14 : decode cJ7_copyOfRangeByte_39247 14 = .ok (.aload_n 0, 1) := by decide +kernel
theorem dJ7_copyOfRangeByte_39247_15 : decode cJ7_copyOfRangeByte_39247 15 = .ok (.iload_n 1, 1) := by decide +kernel
theorem dJ7_copyOfRangeByte_39247_16 : decode cJ7_copyOfRangeByte_39247 16 = .ok (.aload 4, 2) := by decide +kernel
theorem dJ7_copyOfRangeByte_39247_18 : decode cJ7_copyOfRangeByte_39247 18 = .ok (.iconst 0, 1) := by decide +kernel
theorem dJ7_copyOfRangeByte_39247_19 : decode cJ7_copyOfRangeByte_39247 19 = .ok (.aload_n 0, 1) := by decide +kernel
theorem dJ7_copyOfRangeByte_39247_20 : decode cJ7_copyOfRangeByte_39247 20 = .ok (.arraylength, 1) := by decide +kernel
theorem dJ7_copyOfRangeByte_39247_21 : decode cJ7_copyOfRangeByte_39247 21 = .ok (.iload_n 1, 1) := by decide +kernel
theorem dJ7_copyOfRangeByte_39247_22 : decode cJ7_copyOfRangeByte_39247 22 = .ok (.isub, 1) := by decide +kernel
theorem dJ7_copyOfRangeByte_39247_23 : decode cJ7_copyOfRangeByte_39247 23 = .ok (.iload_n 3, 1) := by decide +kernel
theorem dJ7_copyOfRangeByte_39247_24 : decode cJ7_copyOfRangeByte_39247 24 = .ok (.invokestatic 304, 3) := by decide +kernel
theorem dJ7_copyOfRangeByte_39247_27 : decode cJ7_copyOfRangeByte_39247 27 = .ok (.invokestatic 150, 3) := by decide +kernel
theorem dJ7_copyOfRangeByte_39247_30 : decode cJ7_copyOfRangeByte_39247 30 = .ok (.aload 4, 2) := by decide +kernel
theorem dJ7_copyOfRangeByte_39247_32 : decode cJ7_copyOfRangeByte_39247 32 = .ok (.areturn, 1) := by decide +kernel
theorem dJ8_newLength_cabcc_0 : decode cJ8_newLength_cabcc 0 = .ok (.iload_n 0, 1) := by decide +kernel
theorem dJ8_newLength_cabcc_1 : decode cJ8_newLength_cabcc 1 = .ok (.iload_n 1, 1) := by decide +kernel
theorem dJ8_newLength_cabcc_2 : decode cJ8_newLength_cabcc 2 = .ok (.iload_n 2, 1) := by decide +kernel
theorem dJ8_newLength_cabcc_3 : decode cJ8_newLength_cabcc 3 = .ok (.invokestatic 194, 3) := by decide +kernel
theorem dJ8_newLength_cabcc_6 : decode cJ8_newLength_cabcc 6 = .ok (.iadd, 1) := by decide +kernel
theorem dJ8_newLength_cabcc_7 : decode cJ8_newLength_cabcc 7 = .ok (.istore_n 3, 1) := by decide +kernel
theorem dJ8_newLength_cabcc_8 : decode cJ8_newLength_cabcc 8 = .ok (.iconst 0, 1) := by decide +kernel
theorem dJ8_newLength_cabcc_9 : decode cJ8_newLength_cabcc 9 = .ok (.iload_n 3, 1) := by decide +kernel
theorem dJ8_newLength_cabcc_10 : decode cJ8_newLength_cabcc 10 = .ok (.if_icmp .ge 11, 3) := by decide +kernel
theorem dJ8_newLength_cabcc_13 : decode cJ8_newLength_cabcc 13 = .ok (.iload_n 3, 1) := by decide +kernel
theorem dJ8_newLength_cabcc_14 : decode cJ8_newLength_cabcc 14 = .ok (.ldc 200, 2) := by decide +kernel
theorem dJ8_newLength_cabcc_16 : decode cJ8_newLength_cabcc 16 = .ok (.if_icmp .gt 5, 3) := by decide +kernel
theorem dJ8_newLength_cabcc_19 : decode cJ8_newLength_cabcc 19 = .ok (.iload_n 3, 1) := by decide +kernel
theorem dJ8_newLength_cabcc_20 : decode cJ8_newLength_cabcc 20 = .ok (.ireturn, 1) := by decide +kernel
theorem dJ8_newLength_cabcc_21 : decode cJ8_newLength_cabcc 21 = .ok (.iload_n 0, 1) := by decide +kernel
theorem dJ8_newLength_cabcc_22 : decode cJ8_newLength_cabcc 22 = .ok (.iload_n 1, 1) := by decide +kernel
theorem dJ8_newLength_cabcc_23 : decode cJ8_newLength_cabcc 23 = .ok (.invokestatic 201, 3) := by decide +kernel
theorem dJ8_newLength_cabcc_26 : decode cJ8_newLength_cabcc 26 = .ok (.ireturn, 1) := by decide +kernel
theorem dJ3_checkIndex_8e157_0 : decode cJ3_checkIndex_8e157 0 = .ok (.iload_n 0, 1) := by decide +kernel
theorem dJ3_checkIndex_8e157_1 : decode cJ3_checkIndex_8e157 1 = .ok (.ifCond .lt 8, 3) := by decide +kernel
theorem dJ3_checkIndex_8e157_4 : decode cJ3_checkIndex_8e157 4 = .ok (.iload_n 0, 1) := by decide +kernel
theorem dJ3_checkIndex_8e157_5 : decode cJ3_checkIndex_8e157 5 = .ok (.iload_n 1, 1) := by decide +kernel
theorem dJ3_checkIndex_8e157_6 : decode cJ3_checkIndex_8e157 6 = .ok (.if_icmp .lt 10, 3) := by decide +kernel
theorem dJ3_checkIndex_8e157_9 : decode cJ3_checkIndex_8e157 9 = .ok (.aload_n 2, 1) := by decide +kernel
theorem dJ3_checkIndex_8e157_10 : decode cJ3_checkIndex_8e157 10 = .ok (.iload_n 0, 1) := by decide +kernel
theorem dJ3_checkIndex_8e157_11 : decode cJ3_checkIndex_8e157 11 = .ok (.iload_n 1, 1) := by decide +kernel
theorem dJ3_checkIndex_8e157_12 : decode cJ3_checkIndex_8e157 12 = .ok (.invokestatic 95, 3) := by decide +kernel
theorem dJ3_checkIndex_8e157_15 : decode cJ3_checkIndex_8e157 15 = .ok (.athrow, 1) := by decide +kernel
theorem dJ3_checkIndex_8e157_16 : decode cJ3_checkIndex_8e157 16 = .ok (.iload_n 0, 1) := by decide +kernel
theorem dJ3_checkIndex_8e157_17 : decode cJ3_checkIndex_8e157 17 = .ok (.ireturn, 1) := by decide +kernel
theorem dL_cell_0 : decode cL_cell 0 = .ok (.iload_n 1, 1) := by decide +kernel
theorem dL_cell_1 : decode cL_cell 1 = .ok (.aload_n 0, 1) := by decide +kernel
theorem dL_cell_2 : decode cL_cell 2 = .ok (.arraylength, 1) := by decide +kernel
theorem dL_cell_3 : decode cL_cell 3 = .ok (.if_icmp .ge 9, 3) := by decide +kernel
theorem dL_cell_6 : decode cL_cell 6 = .ok (.aload_n 0, 1) := by decide +kernel
theorem dL_cell_7 : decode cL_cell 7 = .ok (.iload_n 1, 1) := by decide +kernel
theorem dL_cell_8 : decode cL_cell 8 = .ok (.iaload, 1) := by decide +kernel
theorem dL_cell_9 : decode cL_cell 9 = .ok (.goto 4, 3) := by decide +kernel
theorem dL_cell_12 : decode cL_cell 12 = .ok (.iconst 0, 1) := by decide +kernel
theorem dL_cell_13 : decode cL_cell 13 = .ok (.ireturn, 1) := by decide +kernel
theorem dL_part_0 : decode cL_part 0 = .ok (.iload_n 0, 1) := by decide +kernel
theorem dL_part_1 : decode cL_part 1 = .ok (.ldc 7, 2) := by decide +kernel
theorem dL_part_3 : decode cL_part 3 = .ok (.iand, 1) := by decide +kernel
theorem dL_part_4 : decode cL_part 4 = .ok (.iload_n 1, 1) := by decide +kernel
theorem dL_part_5 : decode cL_part 5 = .ok (.irem, 1) := by decide +kernel
theorem dL_part_6 : decode cL_part 6 = .ok (.ireturn, 1) := by decide +kernel
theorem dL_four_0 : decode cL_four 0 = .ok (.iconst 0, 1) := by decide +kernel
theorem dL_four_1 : decode cL_four 1 = .ok (.istore_n 2, 1) := by decide +kernel
theorem dL_four_2 : decode cL_four 2 = .ok (.iload_n 1, 1) := by decide +kernel
theorem dL_four_3 : decode cL_four 3 = .ok (.istore_n 3, 1) := by decide +kernel
theorem dL_four_4 : decode cL_four 4 = .ok (.iload_n 3, 1) := by decide +kernel
theorem dL_four_5 : decode cL_four 5 = .ok (.iload_n 1, 1) := by decide +kernel
theorem dL_four_6 : decode cL_four 6 = .ok (.iconst 4, 1) := by decide +kernel
theorem dL_four_7 : decode cL_four 7 = .ok (.iadd, 1) := by decide +kernel
theorem dL_four_8 : decode cL_four 8 = .ok (.if_icmp .ge 37, 3) := by decide +kernel
theorem dL_four_11 : decode cL_four 11 = .ok (.iload_n 2, 1) := by decide +kernel
theorem dL_four_12 : decode cL_four 12 = .ok (.bipush 8, 2) := by decide +kernel
theorem dL_four_14 : decode cL_four 14 = .ok (.ishl, 1) := by decide +kernel
theorem dL_four_15 : decode cL_four 15 = .ok (.iload_n 3, 1) := by decide +kernel
theorem dL_four_16 : decode cL_four 16 = .ok (.aload_n 0, 1) := by decide +kernel
theorem dL_four_17 : decode cL_four 17 = .ok (.invokevirtual 8, 3) := by decide +kernel
theorem dL_four_20 : decode cL_four 20 = .ok (.if_icmp .ge 15, 3) := by decide +kernel
theorem dL_four_23 : decode cL_four 23 = .ok (.aload_n 0, 1) := by decide +kernel
theorem dL_four_24 : decode cL_four 24 = .ok (.iload_n 3, 1) := by decide +kernel
theorem dL_four_25 : decode cL_four 25 = .ok (.invokevirtual 14, 3) := by decide +kernel
theorem dL_four_28 : decode cL_four 28 = .ok (.sipush 255, 3) := by decide +kernel
theorem dL_four_31 : decode cL_four 31 = .ok (.iand, 1) := by decide +kernel
theorem dL_four_32 : decode cL_four 32 = .ok (.goto 5, 3) := by decide +kernel
theorem dL_four_35 : decode cL_four 35 = .ok (.bipush 32, 2) := by decide +kernel
theorem dL_four_37 : decode cL_four 37 = .ok (.ior, 1) := by decide +kernel
theorem dL_four_38 : decode cL_four 38 = .ok (.istore_n 2, 1) := by decide +kernel
theorem dL_four_39 : decode cL_four 39 = .ok (.iinc 3 1, 3) := by decide +kernel
theorem dL_four_42 : decode cL_four 42 = .ok (.goto (-38), 3) := by decide +kernel
theorem dL_four_45 : decode cL_four 45 = .ok (.iload_n 2, 1) := by decide +kernel
theorem dL_four_46 : decode cL_four 46 = .ok (.ireturn, 1) := by decide +kernel
theorem dL_adds_0 : decode cL_adds 0 = .ok (.aload_n 0, 1) := by decide +kernel
theorem dL_adds_1 : decode cL_adds 1 = .ok (.aload_n 1, 1) := by decide +kernel
theorem dL_adds_2 : decode cL_adds 2 = .ok (.iload_n 2, 1) := by decide +kernel
theorem dL_adds_3 : decode cL_adds 3 = .ok (.invokestatic 18, 3) := by decide +kernel
theorem dL_adds_6 : decode cL_adds 6 = .ok (.aload_n 1, 1) := by decide +kernel
theorem dL_adds_7 : decode cL_adds 7 = .ok (.iload_n 2, 1) := by decide +kernel
theorem dL_adds_8 : decode cL_adds 8 = .ok (.iconst 4, 1) := by decide +kernel
theorem dL_adds_9 : decode cL_adds 9 = .ok (.iadd, 1) := by decide +kernel
theorem dL_adds_10 : decode cL_adds 10 = .ok (.invokestatic 18, 3) := by decide +kernel
theorem dL_adds_13 : decode cL_adds 13 = .ok (.aload_n 1, 1) := by decide +kernel
theorem dL_adds_14 : decode cL_adds 14 = .ok (.iload_n 2, 1) := by decide +kernel
theorem dL_adds_15 : decode cL_adds 15 = .ok (.bipush 8, 2) := by decide +kernel
theorem dL_adds_17 : decode cL_adds 17 = .ok (.iadd, 1) := by decide +kernel
theorem dL_adds_18 : decode cL_adds 18 = .ok (.invokestatic 18, 3) := by decide +kernel
theorem dL_adds_21 : decode cL_adds 21 = .ok (.aload_n 1, 1) := by decide +kernel
theorem dL_adds_22 : decode cL_adds 22 = .ok (.iload_n 2, 1) := by decide +kernel
theorem dL_adds_23 : decode cL_adds 23 = .ok (.bipush 12, 2) := by decide +kernel
