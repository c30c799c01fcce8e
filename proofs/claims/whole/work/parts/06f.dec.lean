theorem dX9_greatestOf_10 : decode cX9_greatestOf 10 = .ok (.invokevirtual 59, 3) := by decide +kernel
theorem dX9_greatestOf_13 : decode cX9_greatestOf 13 = .ok (.if_icmp .ge 30, 3) := by decide +kernel
theorem dX9_greatestOf_16 : decode cX9_greatestOf 16 = .ok (.aload_n 0, 1) := by decide +kernel
theorem dX9_greatestOf_17 : decode cX9_greatestOf 17 = .ok (.invokevirtual 88, 3) := by decide +kernel
theorem dX9_greatestOf_20 : decode cX9_greatestOf 20 = .ok (.ifCond .ne 23, 3) := by decide +kernel
theorem dX9_greatestOf_23 : decode cX9_greatestOf 23 = .ok (.iload_n 2, 1) := by decide +kernel
theorem dX9_greatestOf_24 : decode cX9_greatestOf 24 = .ok (.aload_n 0, 1) := by decide +kernel
theorem dX9_greatestOf_25 : decode cX9_greatestOf 25 = .ok (.iload_n 3, 1) := by decide +kernel
theorem dX9_greatestOf_26 : decode cX9_greatestOf 26 = .ok (.invokevirtual 259, 3) := by decide +kernel
theorem dX9_greatestOf_29 : decode cX9_greatestOf 29 = .ok (.aload_n 0, 1) := by decide +kernel
theorem dX9_greatestOf_30 : decode cX9_greatestOf 30 = .ok (.iload_n 3, 1) := by decide +kernel
theorem dX9_greatestOf_31 : decode cX9_greatestOf 31 = .ok (.invokevirtual 274, 3) := by decide +kernel
theorem dX9_greatestOf_34 : decode cX9_greatestOf 34 = .ok (.isub, 1) := by decide +kernel
theorem dX9_greatestOf_35 : decode cX9_greatestOf 35 = .ok (.iadd, 1) := by decide +kernel
theorem dX9_greatestOf_36 : decode cX9_greatestOf 36 = .ok (.istore_n 2, 1) := by decide +kernel
theorem dX9_greatestOf_37 : decode cX9_greatestOf 37 = .ok (.iinc 3 1, 3) := by decide +kernel
theorem dX9_greatestOf_40 : decode cX9_greatestOf 40 = .ok (.goto (-32), 3) := by decide +kernel
theorem dX9_greatestOf_43 : decode cX9_greatestOf 43 = .ok (.iload_n 2, 1) := by decide +kernel
theorem dX9_greatestOf_44 : decode cX9_greatestOf 44 = .ok (.ireturn, 1) := by decide +kernel
theorem dX9_greatestPossibleScore_0 : decode cX9_greatestPossibleScore 0 = .ok (.aload_n 0, 1) := by decide +kernel
theorem dX9_greatestPossibleScore_1 : decode cX9_greatestPossibleScore 1 = .ok (.iconst 0, 1) := by decide +kernel
theorem dX9_greatestPossibleScore_2 : decode cX9_greatestPossibleScore 2 = .ok (.putfield 40, 3) := by decide +kernel
theorem dX9_greatestPossibleScore_5 : decode cX9_greatestPossibleScore 5 = .ok (.iload_n 1, 1) := by decide +kernel
theorem dX9_greatestPossibleScore_6 : decode cX9_greatestPossibleScore 6 = .ok (.invokestatic 244, 3) := by decide +kernel
theorem dX9_greatestPossibleScore_9 : decode cX9_greatestPossibleScore 9 = .ok (.ifCond .eq 11, 3) := by decide +kernel
theorem dX9_greatestPossibleScore_12 : decode cX9_greatestPossibleScore 12 = .ok (.aload_n 0, 1) := by decide +kernel
theorem dX9_greatestPossibleScore_13 : decode cX9_greatestPossibleScore 13 = .ok (.iload_n 1, 1) := by decide +kernel
theorem dX9_greatestPossibleScore_14 : decode cX9_greatestPossibleScore 14 = .ok (.invokevirtual 277, 3) := by decide +kernel
theorem dX9_greatestPossibleScore_17 : decode cX9_greatestPossibleScore 17 = .ok (.goto 8, 3) := by decide +kernel
theorem dX9_greatestPossibleScore_20 : decode cX9_greatestPossibleScore 20 = .ok (.aload_n 0, 1) := by decide +kernel
theorem dX9_greatestPossibleScore_21 : decode cX9_greatestPossibleScore 21 = .ok (.iconst 1, 1) := by decide +kernel
theorem dX9_greatestPossibleScore_22 : decode cX9_greatestPossibleScore 22 = .ok (.invokevirtual 219, 3) := by decide +kernel
theorem dX9_greatestPossibleScore_25 : decode cX9_greatestPossibleScore 25 = .ok (.ireturn, 1) := by decide +kernel
theorem dX9_canStillWin_0 : decode cX9_canStillWin 0 = .ok (.aload_n 0, 1) := by decide +kernel
theorem dX9_canStillWin_1 : decode cX9_canStillWin 1 = .ok (.iconst 0, 1) := by decide +kernel
theorem dX9_canStillWin_2 : decode cX9_canStillWin 2 = .ok (.putfield 40, 3) := by decide +kernel
theorem dX9_canStillWin_5 : decode cX9_canStillWin 5 = .ok (.iload_n 1, 1) := by decide +kernel
theorem dX9_canStillWin_6 : decode cX9_canStillWin 6 = .ok (.invokestatic 244, 3) := by decide +kernel
theorem dX9_canStillWin_9 : decode cX9_canStillWin 9 = .ok (.ifCond .eq 26, 3) := by decide +kernel
theorem dX9_canStillWin_12 : decode cX9_canStillWin 12 = .ok (.aload_n 0, 1) := by decide +kernel
theorem dX9_canStillWin_13 : decode cX9_canStillWin 13 = .ok (.iload_n 1, 1) := by decide +kernel
theorem dX9_canStillWin_14 : decode cX9_canStillWin 14 = .ok (.invokevirtual 277, 3) := by decide +kernel
theorem dX9_canStillWin_17 : decode cX9_canStillWin 17 = .ok (.aload_n 0, 1) := by decide +kernel
theorem dX9_canStillWin_18 : decode cX9_canStillWin 18 = .ok (.iconst 1, 1) := by decide +kernel
theorem dX9_canStillWin_19 : decode cX9_canStillWin 19 = .ok (.iload_n 1, 1) := by decide +kernel
theorem dX9_canStillWin_20 : decode cX9_canStillWin 20 = .ok (.isub, 1) := by decide +kernel
theorem dX9_canStillWin_21 : decode cX9_canStillWin 21 = .ok (.invokevirtual 271, 3) := by decide +kernel
theorem dX9_canStillWin_24 : decode cX9_canStillWin 24 = .ok (.if_icmp .le 7, 3) := by decide +kernel
theorem dX9_canStillWin_27 : decode cX9_canStillWin 27 = .ok (.iconst 1, 1) := by decide +kernel
theorem dX9_canStillWin_28 : decode cX9_canStillWin 28 = .ok (.goto 21, 3) := by decide +kernel
theorem dX9_canStillWin_31 : decode cX9_canStillWin 31 = .ok (.iconst 0, 1) := by decide +kernel
theorem dX9_canStillWin_32 : decode cX9_canStillWin 32 = .ok (.goto 17, 3) := by decide +kernel
theorem dX9_canStillWin_35 : decode cX9_canStillWin 35 = .ok (.aload_n 0, 1) := by decide +kernel
theorem dX9_canStillWin_36 : decode cX9_canStillWin 36 = .ok (.iconst 1, 1) := by decide +kernel
theorem dX9_canStillWin_37 : decode cX9_canStillWin 37 = .ok (.invokevirtual 219, 3) := by decide +kernel
theorem dX9_canStillWin_40 : decode cX9_canStillWin 40 = .ok (.iconst 1, 1) := by decide +kernel
theorem dX9_canStillWin_41 : decode cX9_canStillWin 41 = .ok (.if_icmp .ne 7, 3) := by decide +kernel
theorem dX9_canStillWin_44 : decode cX9_canStillWin 44 = .ok (.iconst 1, 1) := by decide +kernel
theorem dX9_canStillWin_45 : decode cX9_canStillWin 45 = .ok (.goto 4, 3) := by decide +kernel
theorem dX9_canStillWin_48 : decode cX9_canStillWin 48 = .ok (.iconst 0, 1) := by decide +kernel
theorem dX9_canStillWin_49 : decode cX9_canStillWin 49 = .ok (.ireturn, 1) := by decide +kernel
theorem dX9_worstMove_0 : decode cX9_worstMove 0 = .ok (.aload_n 0, 1) := by decide +kernel
theorem dX9_worstMove_1 : decode cX9_worstMove 1 = .ok (.iconst 0, 1) := by decide +kernel
theorem dX9_worstMove_2 : decode cX9_worstMove 2 = .ok (.putfield 40, 3) := by decide +kernel
theorem dX9_worstMove_5 : decode cX9_worstMove 5 = .ok (.aload_n 0, 1) := by decide +kernel
theorem dX9_worstMove_6 : decode cX9_worstMove 6 = .ok (.invokevirtual 88, 3) := by decide +kernel
theorem dX9_worstMove_9 : decode cX9_worstMove 9 = .ok (.ifCond .eq 9, 3) := by decide +kernel
theorem dX9_worstMove_12 : decode cX9_worstMove 12 = .ok (.aload_n 0, 1) := by decide +kernel
theorem dX9_worstMove_13 : decode cX9_worstMove 13 = .ok (.iconst 1, 1) := by decide +kernel
theorem dX9_worstMove_14 : decode cX9_worstMove 14 = .ok (.invokevirtual 219, 3) := by decide +kernel
theorem dX9_worstMove_17 : decode cX9_worstMove 17 = .ok (.ireturn, 1) := by decide +kernel
theorem dX9_worstMove_18 : decode cX9_worstMove 18 = .ok (.aload_n 0, 1) := by decide +kernel
theorem dX9_worstMove_19 : decode cX9_worstMove 19 = .ok (.invokevirtual 138, 3) := by decide +kernel
theorem dX9_worstMove_22 : decode cX9_worstMove 22 = .ok (.iconst 0, 1) := by decide +kernel
theorem dX9_worstMove_23 : decode cX9_worstMove 23 = .ok (.istore_n 1, 1) := by decide +kernel
theorem dX9_worstMove_24 : decode cX9_worstMove 24 = .ok (.iconst 1, 1) := by decide +kernel
theorem dX9_worstMove_25 : decode cX9_worstMove 25 = .ok (.istore_n 2, 1) := by decide +kernel
theorem dX9_worstMove_26 : decode cX9_worstMove 26 = .ok (.iload_n 2, 1) := by decide +kernel
theorem dX9_worstMove_27 : decode cX9_worstMove 27 = .ok (.aload_n 0, 1) := by decide +kernel
theorem dX9_worstMove_28 : decode cX9_worstMove 28 = .ok (.invokevirtual 129, 3) := by decide +kernel
theorem dX9_worstMove_31 : decode cX9_worstMove 31 = .ok (.if_icmp .ge 32, 3) := by decide +kernel
theorem dX9_worstMove_34 : decode cX9_worstMove 34 = .ok (.aload_n 0, 1) := by decide +kernel
theorem dX9_worstMove_35 : decode cX9_worstMove 35 = .ok (.aload_n 0, 1) := by decide +kernel
theorem dX9_worstMove_36 : decode cX9_worstMove 36 = .ok (.iload_n 2, 1) := by decide +kernel
theorem dX9_worstMove_37 : decode cX9_worstMove 37 = .ok (.invokevirtual 132, 3) := by decide +kernel
theorem dX9_worstMove_40 : decode cX9_worstMove 40 = .ok (.invokevirtual 135, 3) := by decide +kernel
theorem dX9_worstMove_43 : decode cX9_worstMove 43 = .ok (.aload_n 0, 1) := by decide +kernel
theorem dX9_worstMove_44 : decode cX9_worstMove 44 = .ok (.aload_n 0, 1) := by decide +kernel
theorem dX9_worstMove_45 : decode cX9_worstMove 45 = .ok (.iload_n 1, 1) := by decide +kernel
theorem dX9_worstMove_46 : decode cX9_worstMove 46 = .ok (.invokevirtual 132, 3) := by decide +kernel
theorem dX9_worstMove_49 : decode cX9_worstMove 49 = .ok (.invokevirtual 135, 3) := by decide +kernel
theorem dX9_worstMove_52 : decode cX9_worstMove 52 = .ok (.if_icmp .ge 5, 3) := by decide +kernel
theorem dX9_worstMove_55 : decode cX9_worstMove 55 = .ok (.iload_n 2, 1) := by decide +kernel
theorem dX9_worstMove_56 : decode cX9_worstMove 56 = .ok (.istore_n 1, 1) := by decide +kernel
theorem dX9_worstMove_57 : decode cX9_worstMove 57 = .ok (.iinc 2 1, 3) := by decide +kernel
theorem dX9_worstMove_60 : decode cX9_worstMove 60 = .ok (.goto (-34), 3) := by decide +kernel
theorem dX9_worstMove_63 : decode cX9_worstMove 63 = .ok (.iload_n 1, 1) := by decide +kernel
theorem dX9_worstMove_64 : decode cX9_worstMove 64 = .ok (.ireturn, 1) := by decide +kernel
theorem dX9_optimalDifference_0 : decode cX9_optimalDifference 0 = .ok (.aload_n 0, 1) := by decide +kernel
theorem dX9_optimalDifference_1 : decode cX9_optimalDifference 1 = .ok (.iconst 0, 1) := by decide +kernel
theorem dX9_optimalDifference_2 : decode cX9_optimalDifference 2 = .ok (.putfield 40, 3) := by decide +kernel
theorem dX9_optimalDifference_5 : decode cX9_optimalDifference 5 = .ok (.aload_n 0, 1) := by decide +kernel
theorem dX9_optimalDifference_6 : decode cX9_optimalDifference 6 = .ok (.invokevirtual 138, 3) := by decide +kernel
theorem dX9_optimalDifference_9 : decode cX9_optimalDifference 9 = .ok (.aload_n 0, 1) := by decide +kernel
theorem dX9_optimalDifference_10 : decode cX9_optimalDifference 10 = .ok (.invokevirtual 280, 3) := by decide +kernel
theorem dX9_optimalDifference_13 : decode cX9_optimalDifference 13 = .ok (.ireturn, 1) := by decide +kernel
theorem dX9_moveValue_0 : decode cX9_moveValue 0 = .ok (.aload_n 0, 1) := by decide +kernel
theorem dX9_moveValue_1 : decode cX9_moveValue 1 = .ok (.iconst 0, 1) := by decide +kernel
theorem dX9_moveValue_2 : decode cX9_moveValue 2 = .ok (.putfield 40, 3) := by decide +kernel
theorem dX9_moveValue_5 : decode cX9_moveValue 5 = .ok (.aload_n 0, 1) := by decide +kernel
theorem dX9_moveValue_6 : decode cX9_moveValue 6 = .ok (.iload_n 1, 1) := by decide +kernel
theorem dX9_moveValue_7 : decode cX9_moveValue 7 = .ok (.invokevirtual 265, 3) := by decide +kernel
theorem dX9_moveValue_10 : decode cX9_moveValue 10 = .ok (.ifCond .ne 9, 3) := by decide +kernel
theorem dX9_moveValue_13 : decode cX9_moveValue 13 = .ok (.aload_n 0, 1) := by decide +kernel
theorem dX9_moveValue_14 : decode cX9_moveValue 14 = .ok (.iconst 1, 1) := by decide +kernel
theorem dX9_moveValue_15 : decode cX9_moveValue 15 = .ok (.invokevirtual 219, 3) := by decide +kernel
theorem dX9_moveValue_18 : decode cX9_moveValue 18 = .ok (.ireturn, 1) := by decide +kernel
theorem dX9_moveValue_19 : decode cX9_moveValue 19 = .ok (.aload_n 0, 1) := by decide +kernel
theorem dX9_moveValue_20 : decode cX9_moveValue 20 = .ok (.invokevirtual 138, 3) := by decide +kernel
theorem dX9_moveValue_23 : decode cX9_moveValue 23 = .ok (.aload_n 0, 1) := by decide +kernel
theorem dX9_moveValue_24 : decode cX9_moveValue 24 = .ok (.aload_n 0, 1) := by decide +kernel
theorem dX9_moveValue_25 : decode cX9_moveValue 25 = .ok (.iload_n 1, 1) := by decide +kernel
theorem dX9_moveValue_26 : decode cX9_moveValue 26 = .ok (.invokevirtual 132, 3) := by decide +kernel
theorem dX9_moveValue_29 : decode cX9_moveValue 29 = .ok (.invokevirtual 135, 3) := by decide +kernel
theorem dX9_moveValue_32 : decode cX9_moveValue 32 = .ok (.ireturn, 1) := by decide +kernel
theorem dX9_optimalMove_0 : decode cX9_optimalMove 0 = .ok (.aload_n 0, 1) := by decide +kernel
theorem dX9_optimalMove_1 : decode cX9_optimalMove 1 = .ok (.iconst 0, 1) := by decide +kernel
theorem dX9_optimalMove_2 : decode cX9_optimalMove 2 = .ok (.putfield 40, 3) := by decide +kernel
theorem dX9_optimalMove_5 : decode cX9_optimalMove 5 = .ok (.aload_n 0, 1) := by decide +kernel
theorem dX9_optimalMove_6 : decode cX9_optimalMove 6 = .ok (.invokevirtual 88, 3) := by decide +kernel
theorem dX9_optimalMove_9 : decode cX9_optimalMove 9 = .ok (.ifCond .eq 9, 3) := by decide +kernel
theorem dX9_optimalMove_12 : decode cX9_optimalMove 12 = .ok (.aload_n 0, 1) := by decide +kernel
theorem dX9_optimalMove_13 : decode cX9_optimalMove 13 = .ok (.iconst 1, 1) := by decide +kernel
theorem dX9_optimalMove_14 : decode cX9_optimalMove 14 = .ok (.invokevirtual 219, 3) := by decide +kernel
theorem dX9_optimalMove_17 : decode cX9_optimalMove 17 = .ok (.ireturn, 1) := by decide +kernel
theorem dX9_optimalMove_18 : decode cX9_optimalMove 18 = .ok (.aload_n 0, 1) := by decide +kernel
theorem dX9_optimalMove_19 : decode cX9_optimalMove 19 = .ok (.invokevirtual 138, 3) := by decide +kernel
theorem dX9_optimalMove_22 : decode cX9_optimalMove 22 = .ok (.aload_n 0, 1) := by decide +kernel
theorem dX9_optimalMove_23 : decode cX9_optimalMove 23 = .ok (.invokevirtual 141, 3) := by decide +kernel
theorem dX9_optimalMove_26 : decode cX9_optimalMove 26 = .ok (.ireturn, 1) := by decide +kernel
theorem dX9_manyOptimal_0 : decode cX9_manyOptimal 0 = .ok (.iconst 0, 1) := by decide +kernel
theorem dX9_manyOptimal_1 : decode cX9_manyOptimal 1 = .ok (.istore_n 1, 1) := by decide +kernel
theorem dX9_manyOptimal_2 : decode cX9_manyOptimal 2 = .ok (.aload_n 0, 1) := by decide +kernel
theorem dX9_manyOptimal_3 : decode cX9_manyOptimal 3 = .ok (.invokevirtual 129, 3) := by decide +kernel
theorem dX9_manyOptimal_6 : decode cX9_manyOptimal 6 = .ok (.istore_n 2, 1) := by decide +kernel
theorem dX9_manyOptimal_7 : decode cX9_manyOptimal 7 = .ok (.iconst 0, 1) := by decide +kernel
theorem dX9_manyOptimal_8 : decode cX9_manyOptimal 8 = .ok (.istore_n 3, 1) := by decide +kernel
theorem dX9_manyOptimal_9 : decode cX9_manyOptimal 9 = .ok (.iload_n 3, 1) := by decide +kernel
theorem dX9_manyOptimal_10 : decode cX9_manyOptimal 10 = .ok (.iload_n 2, 1) := by decide +kernel
theorem dX9_manyOptimal_11 : decode cX9_manyOptimal 11 = .ok (.if_icmp .ge 28, 3) := by decide +kernel
theorem dX9_manyOptimal_14 : decode cX9_manyOptimal 14 = .ok (.aload_n 0, 1) := by decide +kernel
theorem dX9_manyOptimal_15 : decode cX9_manyOptimal 15 = .ok (.aload_n 0, 1) := by decide +kernel
theorem dX9_manyOptimal_16 : decode cX9_manyOptimal 16 = .ok (.iload_n 3, 1) := by decide +kernel
theorem dX9_manyOptimal_17 : decode cX9_manyOptimal 17 = .ok (.invokevirtual 132, 3) := by decide +kernel
theorem dX9_manyOptimal_20 : decode cX9_manyOptimal 20 = .ok (.invokevirtual 135, 3) := by decide +kernel
theorem dX9_manyOptimal_23 : decode cX9_manyOptimal 23 = .ok (.aload_n 0, 1) := by decide +kernel
theorem dX9_manyOptimal_24 : decode cX9_manyOptimal 24 = .ok (.invokevirtual 280, 3) := by decide +kernel
theorem dX9_manyOptimal_27 : decode cX9_manyOptimal 27 = .ok (.if_icmp .ne 6, 3) := by decide +kernel
theorem dX9_manyOptimal_30 : decode cX9_manyOptimal 30 = .ok (.iinc 1 1, 3) := by decide +kernel
theorem dX9_manyOptimal_33 : decode cX9_manyOptimal 33 = .ok (.iinc 3 1, 3) := by decide +kernel
theorem dX9_manyOptimal_36 : decode cX9_manyOptimal 36 = .ok (.goto (-27), 3) := by decide +kernel
theorem dX9_manyOptimal_39 : decode cX9_manyOptimal 39 = .ok (.iload_n 1, 1) := by decide +kernel
theorem dX9_manyOptimal_40 : decode cX9_manyOptimal 40 = .ok (.ireturn, 1) := by decide +kernel
theorem dX9_optimalMoveCount_0 : decode cX9_optimalMoveCount 0 = .ok (.aload_n 0, 1) := by decide +kernel
theorem dX9_optimalMoveCount_1 : decode cX9_optimalMoveCount 1 = .ok (.iconst 0, 1) := by decide +kernel
theorem dX9_optimalMoveCount_2 : decode cX9_optimalMoveCount 2 = .ok (.putfield 40, 3) := by decide +kernel
theorem dX9_optimalMoveCount_5 : decode cX9_optimalMoveCount 5 = .ok (.aload_n 0, 1) := by decide +kernel
theorem dX9_optimalMoveCount_6 : decode cX9_optimalMoveCount 6 = .ok (.invokevirtual 138, 3) := by decide +kernel
theorem dX9_optimalMoveCount_9 : decode cX9_optimalMoveCount 9 = .ok (.aload_n 0, 1) := by decide +kernel
theorem dX9_optimalMoveCount_10 : decode cX9_optimalMoveCount 10 = .ok (.invokevirtual 283, 3) := by decide +kernel
theorem dX9_optimalMoveCount_13 : decode cX9_optimalMoveCount 13 = .ok (.ireturn, 1) := by decide +kernel
theorem dX9_isPassForced_0 : decode cX9_isPassForced 0 = .ok (.aload_n 0, 1) := by decide +kernel
theorem dX9_isPassForced_1 : decode cX9_isPassForced 1 = .ok (.iconst 0, 1) := by decide +kernel
theorem dX9_isPassForced_2 : decode cX9_isPassForced 2 = .ok (.putfield 40, 3) := by decide +kernel
theorem dX9_isPassForced_5 : decode cX9_isPassForced 5 = .ok (.aload_n 0, 1) := by decide +kernel
theorem dX9_isPassForced_6 : decode cX9_isPassForced 6 = .ok (.invokevirtual 138, 3) := by decide +kernel
theorem dX9_isPassForced_9 : decode cX9_isPassForced 9 = .ok (.aload_n 0, 1) := by decide +kernel
theorem dX9_isPassForced_10 : decode cX9_isPassForced 10 = .ok (.invokevirtual 283, 3) := by decide +kernel
theorem dX9_isPassForced_13 : decode cX9_isPassForced 13 = .ok (.iconst 1, 1) := by decide +kernel
theorem dX9_isPassForced_14 : decode cX9_isPassForced 14 = .ok (.if_icmp .ne 20, 3) := by decide +kernel
theorem dX9_isPassForced_17 : decode cX9_isPassForced 17 = .ok (.aload_n 0, 1) := by decide +kernel
theorem dX9_isPassForced_18 : decode cX9_isPassForced 18 = .ok (.bipush 6, 2) := by decide +kernel
theorem dX9_isPassForced_20 : decode cX9_isPassForced 20 = .ok (.invokevirtual 135, 3) := by decide +kernel
theorem dX9_isPassForced_23 : decode cX9_isPassForced 23 = .ok (.aload_n 0, 1) := by decide +kernel
theorem dX9_isPassForced_24 : decode cX9_isPassForced 24 = .ok (.invokevirtual 280, 3) := by decide +kernel
theorem dX9_isPassForced_27 : decode cX9_isPassForced 27 = .ok (.if_icmp .ne 7, 3) := by decide +kernel
theorem dX9_isPassForced_30 : decode cX9_isPassForced 30 = .ok (.iconst 1, 1) := by decide +kernel
theorem dX9_isPassForced_31 : decode cX9_isPassForced 31 = .ok (.goto 4, 3) := by decide +kernel
theorem dX9_isPassForced_34 : decode cX9_isPassForced 34 = .ok (.iconst 0, 1) := by decide +kernel
theorem dX9_isPassForced_35 : decode cX9_isPassForced 35 = .ok (.ireturn, 1) := by decide +kernel
theorem dX9_optimalLineLength_0 : decode cX9_optimalLineLength 0 = .ok (.aload_n 0, 1) := by decide +kernel
theorem dX9_optimalLineLength_1 : decode cX9_optimalLineLength 1 = .ok (.iconst 0, 1) := by decide +kernel
theorem dX9_optimalLineLength_2 : decode cX9_optimalLineLength 2 = .ok (.putfield 40, 3) := by decide +kernel
theorem dX9_optimalLineLength_5 : decode cX9_optimalLineLength 5 = .ok (.aload_n 0, 1) := by decide +kernel
theorem dX9_optimalLineLength_6 : decode cX9_optimalLineLength 6 = .ok (.invokevirtual 286, 3) := by decide +kernel
theorem dX9_optimalLineLength_9 : decode cX9_optimalLineLength 9 = .ok (.aload_n 0, 1) := by decide +kernel
theorem dX9_optimalLineLength_10 : decode cX9_optimalLineLength 10 = .ok (.bipush 48, 2) := by decide +kernel
theorem dX9_optimalLineLength_12 : decode cX9_optimalLineLength 12 = .ok (.invokevirtual 289, 3) := by decide +kernel
theorem dX9_optimalLineLength_15 : decode cX9_optimalLineLength 15 = .ok (.istore_n 1, 1) := by decide +kernel
theorem dX9_optimalLineLength_16 : decode cX9_optimalLineLength 16 = .ok (.aload_n 0, 1) := by decide +kernel
theorem dX9_optimalLineLength_17 : decode cX9_optimalLineLength 17 = .ok (.iconst 0, 1) := by decide +kernel
theorem dX9_optimalLineLength_18 : decode cX9_optimalLineLength 18 = .ok (.putfield 43, 3) := by decide +kernel
theorem dX9_optimalLineLength_21 : decode cX9_optimalLineLength 21 = .ok (.iload_n 1, 1) := by decide +kernel
theorem dX9_optimalLineLength_22 : decode cX9_optimalLineLength 22 = .ok (.ireturn, 1) := by decide +kernel
theorem dX9_optimalLineScore_0 : decode cX9_optimalLineScore 0 = .ok (.aload_n 0, 1) := by decide +kernel
theorem dX9_optimalLineScore_1 : decode cX9_optimalLineScore 1 = .ok (.iconst 0, 1) := by decide +kernel
theorem dX9_optimalLineScore_2 : decode cX9_optimalLineScore 2 = .ok (.putfield 40, 3) := by decide +kernel
theorem dX9_optimalLineScore_5 : decode cX9_optimalLineScore 5 = .ok (.iload_n 1, 1) := by decide +kernel
theorem dX9_optimalLineScore_6 : decode cX9_optimalLineScore 6 = .ok (.ifCond .ge 9, 3) := by decide +kernel
theorem dX9_optimalLineScore_9 : decode cX9_optimalLineScore 9 = .ok (.aload_n 0, 1) := by decide +kernel
theorem dX9_optimalLineScore_10 : decode cX9_optimalLineScore 10 = .ok (.iconst 1, 1) := by decide +kernel
theorem dX9_optimalLineScore_11 : decode cX9_optimalLineScore 11 = .ok (.invokevirtual 219, 3) := by decide +kernel
theorem dX9_optimalLineScore_14 : decode cX9_optimalLineScore 14 = .ok (.ireturn, 1) := by decide +kernel
theorem dX9_optimalLineScore_15 : decode cX9_optimalLineScore 15 = .ok (.aload_n 0, 1) := by decide +kernel
theorem dX9_optimalLineScore_16 : decode cX9_optimalLineScore 16 = .ok (.invokevirtual 286, 3) := by decide +kernel
theorem dX9_optimalLineScore_19 : decode cX9_optimalLineScore 19 = .ok (.aload_n 0, 1) := by decide +kernel
theorem dX9_optimalLineScore_20 : decode cX9_optimalLineScore 20 = .ok (.iload_n 1, 1) := by decide +kernel
theorem dX9_optimalLineScore_21 : decode cX9_optimalLineScore 21 = .ok (.invokevirtual 289, 3) := by decide +kernel
theorem dX9_optimalLineScore_24 : decode cX9_optimalLineScore 24 = .ok (.istore_n 2, 1) := by decide +kernel
theorem dX9_optimalLineScore_25 : decode cX9_optimalLineScore 25 = .ok (.iload_n 2, 1) := by decide +kernel
theorem dX9_optimalLineScore_26 : decode cX9_optimalLineScore 26 = .ok (.iload_n 1, 1) := by decide +kernel
theorem dX9_optimalLineScore_27 : decode cX9_optimalLineScore 27 = .ok (.if_icmp .ne 14, 3) := by decide +kernel
theorem dX9_optimalLineScore_30 : decode cX9_optimalLineScore 30 = .ok (.aload_n 0, 1) := by decide +kernel
theorem dX9_optimalLineScore_31 : decode cX9_optimalLineScore 31 = .ok (.invokevirtual 88, 3) := by decide +kernel
theorem dX9_optimalLineScore_34 : decode cX9_optimalLineScore 34 = .ok (.ifCond .ne 7, 3) := by decide +kernel
theorem dX9_optimalLineScore_37 : decode cX9_optimalLineScore 37 = .ok (.iconst 1, 1) := by decide +kernel
theorem dX9_optimalLineScore_38 : decode cX9_optimalLineScore 38 = .ok (.goto 4, 3) := by decide +kernel
theorem dX9_optimalLineScore_41 : decode cX9_optimalLineScore 41 = .ok (.iconst 0, 1) := by decide +kernel
theorem dX9_optimalLineScore_42 : decode cX9_optimalLineScore 42 = .ok (.istore_n 3, 1) := by decide +kernel
theorem dX9_optimalLineScore_43 : decode cX9_optimalLineScore 43 = .ok (.iload_n 3, 1) := by decide +kernel
theorem dX9_optimalLineScore_44 : decode cX9_optimalLineScore 44 = .ok (.ifCond .eq 18, 3) := by decide +kernel
theorem dX9_optimalLineScore_47 : decode cX9_optimalLineScore 47 = .ok (.aload_n 0, 1) := by decide +kernel
theorem dX9_optimalLineScore_48 : decode cX9_optimalLineScore 48 = .ok (.aload_n 0, 1) := by decide +kernel
theorem dX9_optimalLineScore_49 : decode cX9_optimalLineScore 49 = .ok (.aload_n 0, 1) := by decide +kernel
theorem dX9_optimalLineScore_50 : decode cX9_optimalLineScore 50 = .ok (.invokevirtual 141, 3) := by decide +kernel
theorem dX9_optimalLineScore_53 : decode cX9_optimalLineScore 53 = .ok (.invokevirtual 132, 3) := by decide +kernel
theorem dX9_optimalLineScore_56 : decode cX9_optimalLineScore 56 = .ok (.invokevirtual 94, 3) := by decide +kernel
theorem dX9_optimalLineScore_59 : decode cX9_optimalLineScore 59 = .ok (.goto 4, 3) := by decide +kernel
theorem dX9_optimalLineScore_62 : decode cX9_optimalLineScore 62 = .ok (.iconst 0, 1) := by decide +kernel
theorem dX9_optimalLineScore_63 : decode cX9_optimalLineScore 63 = .ok (.istore 4, 2) := by decide +kernel
theorem dX9_optimalLineScore_65 : decode cX9_optimalLineScore 65 = .ok (.aload_n 0, 1) := by decide +kernel
theorem dX9_optimalLineScore_66 : decode cX9_optimalLineScore 66 = .ok (.iconst 0, 1) := by decide +kernel
theorem dX9_optimalLineScore_67 : decode cX9_optimalLineScore 67 = .ok (.putfield 43, 3) := by decide +kernel
theorem dX9_optimalLineScore_70 : decode cX9_optimalLineScore 70 = .ok (.iload_n 3, 1) := by decide +kernel
theorem dX9_optimalLineScore_71 : decode cX9_optimalLineScore 71 = .ok (.ifCond .eq 8, 3) := by decide +kernel
theorem dX9_optimalLineScore_74 : decode cX9_optimalLineScore 74 = .ok (.iload 4, 2) := by decide +kernel
theorem dX9_optimalLineScore_76 : decode cX9_optimalLineScore 76 = .ok (.goto 8, 3) := by decide +kernel
theorem dX9_optimalLineScore_79 : decode cX9_optimalLineScore 79 = .ok (.aload_n 0, 1) := by decide +kernel
theorem dX9_optimalLineScore_80 : decode cX9_optimalLineScore 80 = .ok (.iconst 1, 1) := by decide +kernel
theorem dX9_optimalLineScore_81 : decode cX9_optimalLineScore 81 = .ok (.invokevirtual 219, 3) := by decide +kernel
theorem dX9_optimalLineScore_84 : decode cX9_optimalLineScore 84 = .ok (.ireturn, 1) := by decide +kernel
theorem dX9_chainDifference_0 : decode cX9_chainDifference 0 = .ok (.aload_n 0, 1) := by decide +kernel
theorem dX9_chainDifference_1 : decode cX9_chainDifference 1 = .ok (.iconst 0, 1) := by decide +kernel
theorem dX9_chainDifference_2 : decode cX9_chainDifference 2 = .ok (.putfield 40, 3) := by decide +kernel
theorem dX9_chainDifference_5 : decode cX9_chainDifference 5 = .ok (.aload_n 0, 1) := by decide +kernel
theorem dX9_chainDifference_6 : decode cX9_chainDifference 6 = .ok (.iload_n 1, 1) := by decide +kernel
theorem dX9_chainDifference_7 : decode cX9_chainDifference 7 = .ok (.invokevirtual 216, 3) := by decide +kernel
theorem dX9_chainDifference_10 : decode cX9_chainDifference 10 = .ok (.ifCond .ne 9, 3) := by decide +kernel
theorem dX9_chainDifference_13 : decode cX9_chainDifference 13 = .ok (.aload_n 0, 1) := by decide +kernel
theorem dX9_chainDifference_14 : decode cX9_chainDifference 14 = .ok (.iconst 1, 1) := by decide +kernel
theorem dX9_chainDifference_15 : decode cX9_chainDifference 15 = .ok (.invokevirtual 219, 3) := by decide +kernel
theorem dX9_chainDifference_18 : decode cX9_chainDifference 18 = .ok (.ireturn, 1) := by decide +kernel
theorem dX9_chainDifference_19 : decode cX9_chainDifference 19 = .ok (.aload_n 0, 1) := by decide +kernel
theorem dX9_chainDifference_20 : decode cX9_chainDifference 20 = .ok (.invokevirtual 286, 3) := by decide +kernel
theorem dX9_chainDifference_23 : decode cX9_chainDifference 23 = .ok (.iconst 0, 1) := by decide +kernel
theorem dX9_chainDifference_24 : decode cX9_chainDifference 24 = .ok (.istore_n 2, 1) := by decide +kernel
theorem dX9_chainDifference_25 : decode cX9_chainDifference 25 = .ok (.iload_n 2, 1) := by decide +kernel
theorem dX9_chainDifference_26 : decode cX9_chainDifference 26 = .ok (.aload_n 0, 1) := by decide +kernel
theorem dX9_chainDifference_27 : decode cX9_chainDifference 27 = .ok (.invokevirtual 59, 3) := by decide +kernel
theorem dX9_chainDifference_30 : decode cX9_chainDifference 30 = .ok (.if_icmp .ge 30, 3) := by decide +kernel
theorem dX9_chainDifference_33 : decode cX9_chainDifference 33 = .ok (.iload_n 2, 1) := by decide +kernel
theorem dX9_chainDifference_34 : decode cX9_chainDifference 34 = .ok (.iload_n 1, 1) := by decide +kernel
theorem dX9_chainDifference_35 : decode cX9_chainDifference 35 = .ok (.if_icmp .eq 19, 3) := by decide +kernel
theorem dX9_chainDifference_38 : decode cX9_chainDifference 38 = .ok (.aload_n 0, 1) := by decide +kernel
theorem dX9_chainDifference_39 : decode cX9_chainDifference 39 = .ok (.bipush 37, 2) := by decide +kernel
theorem dX9_chainDifference_41 : decode cX9_chainDifference 41 = .ok (.iload_n 2, 1) := by decide +kernel
theorem dX9_chainDifference_42 : decode cX9_chainDifference 42 = .ok (.iadd, 1) := by decide +kernel
theorem dX9_chainDifference_43 : decode cX9_chainDifference 43 = .ok (.aload_n 0, 1) := by decide +kernel
theorem dX9_chainDifference_44 : decode cX9_chainDifference 44 = .ok (.bipush 34, 2) := by decide +kernel
theorem dX9_chainDifference_46 : decode cX9_chainDifference 46 = .ok (.iload_n 2, 1) := by decide +kernel
theorem dX9_chainDifference_47 : decode cX9_chainDifference 47 = .ok (.iadd, 1) := by decide +kernel
theorem dX9_chainDifference_48 : decode cX9_chainDifference 48 = .ok (.invokevirtual 46, 3) := by decide +kernel
theorem dX9_chainDifference_51 : decode cX9_chainDifference 51 = .ok (.invokevirtual 32, 3) := by decide +kernel
theorem dX9_chainDifference_54 : decode cX9_chainDifference 54 = .ok (.iinc 2 1, 3) := by decide +kernel
theorem dX9_chainDifference_57 : decode cX9_chainDifference 57 = .ok (.goto (-32), 3) := by decide +kernel
theorem dX9_chainDifference_60 : decode cX9_chainDifference 60 = .ok (.aload_n 0, 1) := by decide +kernel
theorem dX9_chainDifference_61 : decode cX9_chainDifference 61 = .ok (.iconst 0, 1) := by decide +kernel
theorem dX9_chainDifference_62 : decode cX9_chainDifference 62 = .ok (.invokevirtual 115, 3) := by decide +kernel
theorem dX9_chainDifference_65 : decode cX9_chainDifference 65 = .ok (.istore_n 2, 1) := by decide +kernel
theorem dX9_chainDifference_66 : decode cX9_chainDifference 66 = .ok (.aload_n 0, 1) := by decide +kernel
theorem dX9_chainDifference_67 : decode cX9_chainDifference 67 = .ok (.iconst 0, 1) := by decide +kernel
theorem dX9_chainDifference_68 : decode cX9_chainDifference 68 = .ok (.putfield 43, 3) := by decide +kernel
theorem dX9_chainDifference_71 : decode cX9_chainDifference 71 = .ok (.iload_n 2, 1) := by decide +kernel
theorem dX9_chainDifference_72 : decode cX9_chainDifference 72 = .ok (.ireturn, 1) := by decide +kernel
theorem dX9_expectedLead_0 : decode cX9_expectedLead 0 = .ok (.aload_n 0, 1) := by decide +kernel
theorem dX9_expectedLead_1 : decode cX9_expectedLead 1 = .ok (.iconst 0, 1) := by decide +kernel
theorem dX9_expectedLead_2 : decode cX9_expectedLead 2 = .ok (.putfield 40, 3) := by decide +kernel
theorem dX9_expectedLead_5 : decode cX9_expectedLead 5 = .ok (.aload_n 0, 1) := by decide +kernel
theorem dX9_expectedLead_6 : decode cX9_expectedLead 6 = .ok (.invokevirtual 138, 3) := by decide +kernel
theorem dX9_expectedLead_9 : decode cX9_expectedLead 9 = .ok (.aload_n 0, 1) := by decide +kernel
theorem dX9_expectedLead_10 : decode cX9_expectedLead 10 = .ok (.iconst 2, 1) := by decide +kernel
theorem dX9_expectedLead_11 : decode cX9_expectedLead 11 = .ok (.invokevirtual 46, 3) := by decide +kernel
theorem dX9_expectedLead_14 : decode cX9_expectedLead 14 = .ok (.istore_n 1, 1) := by decide +kernel
theorem dX9_expectedLead_15 : decode cX9_expectedLead 15 = .ok (.aload_n 0, 1) := by decide +kernel
theorem dX9_expectedLead_16 : decode cX9_expectedLead 16 = .ok (.iload_n 1, 1) := by decide +kernel
theorem dX9_expectedLead_17 : decode cX9_expectedLead 17 = .ok (.invokevirtual 271, 3) := by decide +kernel
theorem dX9_expectedLead_20 : decode cX9_expectedLead 20 = .ok (.aload_n 0, 1) := by decide +kernel
theorem dX9_expectedLead_21 : decode cX9_expectedLead 21 = .ok (.iconst 1, 1) := by decide +kernel
theorem dX9_expectedLead_22 : decode cX9_expectedLead 22 = .ok (.iload_n 1, 1) := by decide +kernel
theorem dX9_expectedLead_23 : decode cX9_expectedLead 23 = .ok (.isub, 1) := by decide +kernel
theorem dX9_expectedLead_24 : decode cX9_expectedLead 24 = .ok (.invokevirtual 271, 3) := by decide +kernel
theorem dX9_expectedLead_27 : decode cX9_expectedLead 27 = .ok (.isub, 1) := by decide +kernel
theorem dX9_expectedLead_28 : decode cX9_expectedLead 28 = .ok (.aload_n 0, 1) := by decide +kernel
theorem dX9_expectedLead_29 : decode cX9_expectedLead 29 = .ok (.invokevirtual 280, 3) := by decide +kernel
theorem dX9_expectedLead_32 : decode cX9_expectedLead 32 = .ok (.iadd, 1) := by decide +kernel
theorem dX9_expectedLead_33 : decode cX9_expectedLead 33 = .ok (.ireturn, 1) := by decide +kernel
theorem dX9_greedyMove_0 : decode cX9_greedyMove 0 = .ok (.aload_n 0, 1) := by decide +kernel
theorem dX9_greedyMove_1 : decode cX9_greedyMove 1 = .ok (.iconst 0, 1) := by decide +kernel
theorem dX9_greedyMove_2 : decode cX9_greedyMove 2 = .ok (.putfield 40, 3) := by decide +kernel
theorem dX9_greedyMove_5 : decode cX9_greedyMove 5 = .ok (.aload_n 0, 1) := by decide +kernel
theorem dX9_greedyMove_6 : decode cX9_greedyMove 6 = .ok (.invokevirtual 88, 3) := by decide +kernel
theorem dX9_greedyMove_9 : decode cX9_greedyMove 9 = .ok (.ifCond .eq 9, 3) := by decide +kernel
theorem dX9_greedyMove_12 : decode cX9_greedyMove 12 = .ok (.aload_n 0, 1) := by decide +kernel
theorem dX9_greedyMove_13 : decode cX9_greedyMove 13 = .ok (.iconst 1, 1) := by decide +kernel
theorem dX9_greedyMove_14 : decode cX9_greedyMove 14 = .ok (.invokevirtual 219, 3) := by decide +kernel
theorem dX9_greedyMove_17 : decode cX9_greedyMove 17 = .ok (.ireturn, 1) := by decide +kernel
theorem dX9_greedyMove_18 : decode cX9_greedyMove 18 = .ok (.iconst 0, 1) := by decide +kernel
theorem dX9_greedyMove_19 : decode cX9_greedyMove 19 = .ok (.istore_n 1, 1) := by decide +kernel
theorem dX9_greedyMove_20 : decode cX9_greedyMove 20 = .ok (.aload_n 0, 1) := by decide +kernel
theorem dX9_greedyMove_21 : decode cX9_greedyMove 21 = .ok (.iload_n 1, 1) := by decide +kernel
theorem dX9_greedyMove_22 : decode cX9_greedyMove 22 = .ok (.invokevirtual 132, 3) := by decide +kernel
theorem dX9_greedyMove_25 : decode cX9_greedyMove 25 = .ok (.aload_n 0, 1) := by decide +kernel
theorem dX9_greedyMove_26 : decode cX9_greedyMove 26 = .ok (.invokevirtual 150, 3) := by decide +kernel
theorem dX9_greedyMove_29 : decode cX9_greedyMove 29 = .ok (.if_icmp .eq 9, 3) := by decide +kernel
theorem dX9_greedyMove_32 : decode cX9_greedyMove 32 = .ok (.iinc 1 1, 3) := by decide +kernel
theorem dX9_greedyMove_35 : decode cX9_greedyMove 35 = .ok (.goto (-15), 3) := by decide +kernel
theorem dX9_greedyMove_38 : decode cX9_greedyMove 38 = .ok (.iload_n 1, 1) := by decide +kernel
theorem dX9_greedyMove_39 : decode cX9_greedyMove 39 = .ok (.ireturn, 1) := by decide +kernel
theorem dX9_greedyDifference_0 : decode cX9_greedyDifference 0 = .ok (.aload_n 0, 1) := by decide +kernel
theorem dX9_greedyDifference_1 : decode cX9_greedyDifference 1 = .ok (.iconst 0, 1) := by decide +kernel
theorem dX9_greedyDifference_2 : decode cX9_greedyDifference 2 = .ok (.putfield 40, 3) := by decide +kernel
theorem dX9_greedyDifference_5 : decode cX9_greedyDifference 5 = .ok (.aload_n 0, 1) := by decide +kernel
theorem dX9_greedyDifference_6 : decode cX9_greedyDifference 6 = .ok (.iconst 0, 1) := by decide +kernel
theorem dX9_greedyDifference_7 : decode cX9_greedyDifference 7 = .ok (.bipush 11, 2) := by decide +kernel
theorem dX9_greedyDifference_9 : decode cX9_greedyDifference 9 = .ok (.invokevirtual 56, 3) := by decide +kernel
theorem dX9_greedyDifference_12 : decode cX9_greedyDifference 12 = .ok (.aload_n 0, 1) := by decide +kernel
theorem dX9_greedyDifference_13 : decode cX9_greedyDifference 13 = .ok (.sipush 2552, 3) := by decide +kernel
theorem dX9_greedyDifference_16 : decode cX9_greedyDifference 16 = .ok (.putfield 43, 3) := by decide +kernel
theorem dX9_greedyDifference_19 : decode cX9_greedyDifference 19 = .ok (.iconst 0, 1) := by decide +kernel
theorem dX9_greedyDifference_20 : decode cX9_greedyDifference 20 = .ok (.istore_n 1, 1) := by decide +kernel
theorem dX9_greedyDifference_21 : decode cX9_greedyDifference 21 = .ok (.iconst 1, 1) := by decide +kernel
theorem dX9_greedyDifference_22 : decode cX9_greedyDifference 22 = .ok (.istore_n 2, 1) := by decide +kernel
theorem dX9_greedyDifference_23 : decode cX9_greedyDifference 23 = .ok (.aload_n 0, 1) := by decide +kernel
theorem dX9_greedyDifference_24 : decode cX9_greedyDifference 24 = .ok (.invokevirtual 88, 3) := by decide +kernel
theorem dX9_greedyDifference_27 : decode cX9_greedyDifference 27 = .ok (.ifCond .ne 30, 3) := by decide +kernel
theorem dX9_greedyDifference_30 : decode cX9_greedyDifference 30 = .ok (.iload_n 1, 1) := by decide +kernel
theorem dX9_greedyDifference_31 : decode cX9_greedyDifference 31 = .ok (.iload_n 2, 1) := by decide +kernel
theorem dX9_greedyDifference_32 : decode cX9_greedyDifference 32 = .ok (.aload_n 0, 1) := by decide +kernel
theorem dX9_greedyDifference_33 : decode cX9_greedyDifference 33 = .ok (.aload_n 0, 1) := by decide +kernel
theorem dX9_greedyDifference_34 : decode cX9_greedyDifference 34 = .ok (.invokevirtual 150, 3) := by decide +kernel
theorem dX9_greedyDifference_37 : decode cX9_greedyDifference 37 = .ok (.invokevirtual 94, 3) := by decide +kernel
theorem dX9_greedyDifference_40 : decode cX9_greedyDifference 40 = .ok (.imul, 1) := by decide +kernel
theorem dX9_greedyDifference_41 : decode cX9_greedyDifference 41 = .ok (.iadd, 1) := by decide +kernel
theorem dX9_greedyDifference_42 : decode cX9_greedyDifference 42 = .ok (.istore_n 1, 1) := by decide +kernel
theorem dX9_greedyDifference_43 : decode cX9_greedyDifference 43 = .ok (.aload_n 0, 1) := by decide +kernel
theorem dX9_greedyDifference_44 : decode cX9_greedyDifference 44 = .ok (.aload_n 0, 1) := by decide +kernel
theorem dX9_greedyDifference_45 : decode cX9_greedyDifference 45 = .ok (.invokevirtual 150, 3) := by decide +kernel
theorem dX9_greedyDifference_48 : decode cX9_greedyDifference 48 = .ok (.invokevirtual 144, 3) := by decide +kernel
theorem dX9_greedyDifference_51 : decode cX9_greedyDifference 51 = .ok (.iload_n 2, 1) := by decide +kernel
theorem dX9_greedyDifference_52 : decode cX9_greedyDifference 52 = .ok (.ineg, 1) := by decide +kernel
theorem dX9_greedyDifference_53 : decode cX9_greedyDifference 53 = .ok (.istore_n 2, 1) := by decide +kernel
theorem dX9_greedyDifference_54 : decode cX9_greedyDifference 54 = .ok (.goto (-31), 3) := by decide +kernel
theorem dX9_greedyDifference_57 : decode cX9_greedyDifference 57 = .ok (.aload_n 0, 1) := by decide +kernel
theorem dX9_greedyDifference_58 : decode cX9_greedyDifference 58 = .ok (.iconst 0, 1) := by decide +kernel
theorem dX9_greedyDifference_59 : decode cX9_greedyDifference 59 = .ok (.putfield 43, 3) := by decide +kernel
theorem dX9_greedyDifference_62 : decode cX9_greedyDifference 62 = .ok (.iload_n 1, 1) := by decide +kernel
theorem dX9_greedyDifference_63 : decode cX9_greedyDifference 63 = .ok (.ireturn, 1) := by decide +kernel
theorem dX9_differenceAgainstGreedy_0 : decode cX9_differenceAgainstGreedy 0 = .ok (.aload_n 0, 1) := by decide +kernel
theorem dX9_differenceAgainstGreedy_1 : decode cX9_differenceAgainstGreedy 1 = .ok (.iconst 0, 1) := by decide +kernel
theorem dX9_differenceAgainstGreedy_2 : decode cX9_differenceAgainstGreedy 2 = .ok (.putfield 40, 3) := by decide +kernel
theorem dX9_differenceAgainstGreedy_5 : decode cX9_differenceAgainstGreedy 5 = .ok (.aload_n 0, 1) := by decide +kernel
theorem dX9_differenceAgainstGreedy_6 : decode cX9_differenceAgainstGreedy 6 = .ok (.invokevirtual 88, 3) := by decide +kernel
theorem dX9_differenceAgainstGreedy_9 : decode cX9_differenceAgainstGreedy 9 = .ok (.ifCond .eq 5, 3) := by decide +kernel
theorem dX9_differenceAgainstGreedy_12 : decode cX9_differenceAgainstGreedy 12 = .ok (.iconst 0, 1) := by decide +kernel
theorem dX9_differenceAgainstGreedy_13 : decode cX9_differenceAgainstGreedy 13 = .ok (.ireturn, 1) := by decide +kernel
theorem dX9_differenceAgainstGreedy_14 : decode cX9_differenceAgainstGreedy 14 = .ok (.aload_n 0, 1) := by decide +kernel
theorem dX9_differenceAgainstGreedy_15 : decode cX9_differenceAgainstGreedy 15 = .ok (.invokevirtual 138, 3) := by decide +kernel
theorem dX9_differenceAgainstGreedy_18 : decode cX9_differenceAgainstGreedy 18 = .ok (.aload_n 0, 1) := by decide +kernel
theorem dX9_differenceAgainstGreedy_19 : decode cX9_differenceAgainstGreedy 19 = .ok (.aload_n 0, 1) := by decide +kernel
theorem dX9_differenceAgainstGreedy_20 : decode cX9_differenceAgainstGreedy 20 = .ok (.iconst 4, 1) := by decide +kernel
theorem dX9_differenceAgainstGreedy_21 : decode cX9_differenceAgainstGreedy 21 = .ok (.invokevirtual 46, 3) := by decide +kernel
theorem dX9_differenceAgainstGreedy_24 : decode cX9_differenceAgainstGreedy 24 = .ok (.iconst 1, 1) := by decide +kernel
theorem dX9_differenceAgainstGreedy_25 : decode cX9_differenceAgainstGreedy 25 = .ok (.if_icmp .ne 7, 3) := by decide +kernel
theorem dX9_differenceAgainstGreedy_28 : decode cX9_differenceAgainstGreedy 28 = .ok (.iconst 1, 1) := by decide +kernel
theorem dX9_differenceAgainstGreedy_29 : decode cX9_differenceAgainstGreedy 29 = .ok (.goto 4, 3) := by decide +kernel
theorem dX9_differenceAgainstGreedy_32 : decode cX9_differenceAgainstGreedy 32 = .ok (.iconst 0, 1) := by decide +kernel
theorem dX9_differenceAgainstGreedy_33 : decode cX9_differenceAgainstGreedy 33 = .ok (.invokevirtual 153, 3) := by decide +kernel
theorem dX9_differenceAgainstGreedy_36 : decode cX9_differenceAgainstGreedy 36 = .ok (.ireturn, 1) := by decide +kernel
theorem dX9_greedyAgainstBest_0 : decode cX9_greedyAgainstBest 0 = .ok (.aload_n 0, 1) := by decide +kernel
theorem dX9_greedyAgainstBest_1 : decode cX9_greedyAgainstBest 1 = .ok (.iconst 0, 1) := by decide +kernel
theorem dX9_greedyAgainstBest_2 : decode cX9_greedyAgainstBest 2 = .ok (.putfield 40, 3) := by decide +kernel
theorem dX9_greedyAgainstBest_5 : decode cX9_greedyAgainstBest 5 = .ok (.aload_n 0, 1) := by decide +kernel
theorem dX9_greedyAgainstBest_6 : decode cX9_greedyAgainstBest 6 = .ok (.invokevirtual 88, 3) := by decide +kernel
theorem dX9_greedyAgainstBest_9 : decode cX9_greedyAgainstBest 9 = .ok (.ifCond .eq 5, 3) := by decide +kernel
theorem dX9_greedyAgainstBest_12 : decode cX9_greedyAgainstBest 12 = .ok (.iconst 0, 1) := by decide +kernel
theorem dX9_greedyAgainstBest_13 : decode cX9_greedyAgainstBest 13 = .ok (.ireturn, 1) := by decide +kernel
theorem dX9_greedyAgainstBest_14 : decode cX9_greedyAgainstBest 14 = .ok (.aload_n 0, 1) := by decide +kernel
theorem dX9_greedyAgainstBest_15 : decode cX9_greedyAgainstBest 15 = .ok (.invokevirtual 138, 3) := by decide +kernel
theorem dX9_greedyAgainstBest_18 : decode cX9_greedyAgainstBest 18 = .ok (.aload_n 0, 1) := by decide +kernel
theorem dX9_greedyAgainstBest_19 : decode cX9_greedyAgainstBest 19 = .ok (.invokevirtual 150, 3) := by decide +kernel
theorem dX9_greedyAgainstBest_22 : decode cX9_greedyAgainstBest 22 = .ok (.istore_n 1, 1) := by decide +kernel
theorem dX9_greedyAgainstBest_23 : decode cX9_greedyAgainstBest 23 = .ok (.aload_n 0, 1) := by decide +kernel
theorem dX9_greedyAgainstBest_24 : decode cX9_greedyAgainstBest 24 = .ok (.iload_n 1, 1) := by decide +kernel
theorem dX9_greedyAgainstBest_25 : decode cX9_greedyAgainstBest 25 = .ok (.invokevirtual 94, 3) := by decide +kernel
theorem dX9_greedyAgainstBest_28 : decode cX9_greedyAgainstBest 28 = .ok (.istore_n 2, 1) := by decide +kernel
theorem dX9_greedyAgainstBest_29 : decode cX9_greedyAgainstBest 29 = .ok (.aload_n 0, 1) := by decide +kernel
theorem dX9_greedyAgainstBest_30 : decode cX9_greedyAgainstBest 30 = .ok (.iload_n 1, 1) := by decide +kernel
theorem dX9_greedyAgainstBest_31 : decode cX9_greedyAgainstBest 31 = .ok (.invokevirtual 100, 3) := by decide +kernel
theorem dX9_greedyAgainstBest_34 : decode cX9_greedyAgainstBest 34 = .ok (.iload_n 2, 1) := by decide +kernel
theorem dX9_greedyAgainstBest_35 : decode cX9_greedyAgainstBest 35 = .ok (.aload_n 0, 1) := by decide +kernel
theorem dX9_greedyAgainstBest_36 : decode cX9_greedyAgainstBest 36 = .ok (.iconst 0, 1) := by decide +kernel
theorem dX9_greedyAgainstBest_37 : decode cX9_greedyAgainstBest 37 = .ok (.invokevirtual 153, 3) := by decide +kernel
theorem dX9_greedyAgainstBest_40 : decode cX9_greedyAgainstBest 40 = .ok (.isub, 1) := by decide +kernel
theorem dX9_greedyAgainstBest_41 : decode cX9_greedyAgainstBest 41 = .ok (.istore_n 3, 1) := by decide +kernel
theorem dX9_greedyAgainstBest_42 : decode cX9_greedyAgainstBest 42 = .ok (.aload_n 0, 1) := by decide +kernel
theorem dX9_greedyAgainstBest_43 : decode cX9_greedyAgainstBest 43 = .ok (.iload_n 1, 1) := by decide +kernel
theorem dX9_greedyAgainstBest_44 : decode cX9_greedyAgainstBest 44 = .ok (.invokevirtual 126, 3) := by decide +kernel
theorem dX9_greedyAgainstBest_47 : decode cX9_greedyAgainstBest 47 = .ok (.iload_n 3, 1) := by decide +kernel
theorem dX9_greedyAgainstBest_48 : decode cX9_greedyAgainstBest 48 = .ok (.ireturn, 1) := by decide +kernel
theorem dX9_burn_0 : decode cX9_burn 0 = .ok (.aload_n 0, 1) := by decide +kernel
theorem dX9_burn_1 : decode cX9_burn 1 = .ok (.iconst 0, 1) := by decide +kernel
theorem dX9_burn_2 : decode cX9_burn 2 = .ok (.putfield 40, 3) := by decide +kernel
theorem dX9_burn_5 : decode cX9_burn 5 = .ok (.aload_n 0, 1) := by decide +kernel
theorem dX9_burn_6 : decode cX9_burn 6 = .ok (.iload_n 1, 1) := by decide +kernel
theorem dX9_burn_7 : decode cX9_burn 7 = .ok (.invokevirtual 216, 3) := by decide +kernel
theorem dX9_burn_10 : decode cX9_burn 10 = .ok (.ifCond .ne 9, 3) := by decide +kernel
theorem dX9_burn_13 : decode cX9_burn 13 = .ok (.aload_n 0, 1) := by decide +kernel
theorem dX9_burn_14 : decode cX9_burn 14 = .ok (.iconst 1, 1) := by decide +kernel
theorem dX9_burn_15 : decode cX9_burn 15 = .ok (.invokevirtual 219, 3) := by decide +kernel
theorem dX9_burn_18 : decode cX9_burn 18 = .ok (.ireturn, 1) := by decide +kernel
theorem dX9_burn_19 : decode cX9_burn 19 = .ok (.aload_n 0, 1) := by decide +kernel
theorem dX9_burn_20 : decode cX9_burn 20 = .ok (.invokevirtual 88, 3) := by decide +kernel
theorem dX9_burn_23 : decode cX9_burn 23 = .ok (.ifCond .ne 11, 3) := by decide +kernel
theorem dX9_burn_26 : decode cX9_burn 26 = .ok (.aload_n 0, 1) := by decide +kernel
theorem dX9_burn_27 : decode cX9_burn 27 = .ok (.iload_n 1, 1) := by decide +kernel
theorem dX9_burn_28 : decode cX9_burn 28 = .ok (.invokevirtual 81, 3) := by decide +kernel
theorem dX9_burn_31 : decode cX9_burn 31 = .ok (.ifCond .ne 9, 3) := by decide +kernel
theorem dX9_burn_34 : decode cX9_burn 34 = .ok (.aload_n 0, 1) := by decide +kernel
theorem dX9_burn_35 : decode cX9_burn 35 = .ok (.iconst 2, 1) := by decide +kernel
theorem dX9_burn_36 : decode cX9_burn 36 = .ok (.invokevirtual 219, 3) := by decide +kernel
theorem dX9_burn_39 : decode cX9_burn 39 = .ok (.ireturn, 1) := by decide +kernel
theorem dX9_burn_40 : decode cX9_burn 40 = .ok (.aload_n 0, 1) := by decide +kernel
theorem dX9_burn_41 : decode cX9_burn 41 = .ok (.invokevirtual 292, 3) := by decide +kernel
theorem dX9_burn_44 : decode cX9_burn 44 = .ok (.aload_n 0, 1) := by decide +kernel
theorem dX9_burn_45 : decode cX9_burn 45 = .ok (.iconst 2, 1) := by decide +kernel
theorem dX9_burn_46 : decode cX9_burn 46 = .ok (.iload_n 1, 1) := by decide +kernel
theorem dX9_burn_47 : decode cX9_burn 47 = .ok (.imul, 1) := by decide +kernel
theorem dX9_burn_48 : decode cX9_burn 48 = .ok (.iload_n 2, 1) := by decide +kernel
theorem dX9_burn_49 : decode cX9_burn 49 = .ok (.ifCond .eq 7, 3) := by decide +kernel
theorem dX9_burn_52 : decode cX9_burn 52 = .ok (.iconst 0, 1) := by decide +kernel
theorem dX9_burn_53 : decode cX9_burn 53 = .ok (.goto 4, 3) := by decide +kernel
theorem dX9_burn_56 : decode cX9_burn 56 = .ok (.iconst 1, 1) := by decide +kernel
theorem dX9_burn_57 : decode cX9_burn 57 = .ok (.iadd, 1) := by decide +kernel
theorem dX9_burn_58 : decode cX9_burn 58 = .ok (.invokevirtual 144, 3) := by decide +kernel
theorem dX9_burn_61 : decode cX9_burn 61 = .ok (.aload_n 0, 1) := by decide +kernel
theorem dX9_burn_62 : decode cX9_burn 62 = .ok (.sipush 184, 3) := by decide +kernel
theorem dX9_burn_65 : decode cX9_burn 65 = .ok (.aload_n 0, 1) := by decide +kernel
theorem dX9_burn_66 : decode cX9_burn 66 = .ok (.iconst 5, 1) := by decide +kernel
theorem dX9_burn_67 : decode cX9_burn 67 = .ok (.invokevirtual 46, 3) := by decide +kernel
theorem dX9_burn_70 : decode cX9_burn 70 = .ok (.iadd, 1) := by decide +kernel
theorem dX9_burn_71 : decode cX9_burn 71 = .ok (.iconst 1, 1) := by decide +kernel
theorem dX9_burn_72 : decode cX9_burn 72 = .ok (.isub, 1) := by decide +kernel
theorem dX9_burn_73 : decode cX9_burn 73 = .ok (.invokevirtual 46, 3) := by decide +kernel
theorem dX9_burn_76 : decode cX9_burn 76 = .ok (.ireturn, 1) := by decide +kernel
theorem dX9_pass_0 : decode cX9_pass 0 = .ok (.aload_n 0, 1) := by decide +kernel
theorem dX9_pass_1 : decode cX9_pass 1 = .ok (.iconst 0, 1) := by decide +kernel
theorem dX9_pass_2 : decode cX9_pass 2 = .ok (.putfield 40, 3) := by decide +kernel
theorem dX9_pass_5 : decode cX9_pass 5 = .ok (.aload_n 0, 1) := by decide +kernel
theorem dX9_pass_6 : decode cX9_pass 6 = .ok (.invokevirtual 88, 3) := by decide +kernel
theorem dX9_pass_9 : decode cX9_pass 9 = .ok (.ifCond .eq 18, 3) := by decide +kernel
theorem dX9_pass_12 : decode cX9_pass 12 = .ok (.aload_n 0, 1) := by decide +kernel
theorem dX9_pass_13 : decode cX9_pass 13 = .ok (.iconst 1, 1) := by decide +kernel
theorem dX9_pass_14 : decode cX9_pass 14 = .ok (.invokevirtual 219, 3) := by decide +kernel
theorem dX9_pass_17 : decode cX9_pass 17 = .ok (.iconst 1, 1) := by decide +kernel
theorem dX9_pass_18 : decode cX9_pass 18 = .ok (.if_icmp .ne 7, 3) := by decide +kernel
theorem dX9_pass_21 : decode cX9_pass 21 = .ok (.iconst 1, 1) := by decide +kernel
theorem dX9_pass_22 : decode cX9_pass 22 = .ok (.goto 4, 3) := by decide +kernel
theorem dX9_pass_25 : decode cX9_pass 25 = .ok (.iconst 0, 1) := by decide +kernel
theorem dX9_pass_26 : decode cX9_pass 26 = .ok (.ireturn, 1) := by decide +kernel
theorem dX9_pass_27 : decode cX9_pass 27 = .ok (.aload_n 0, 1) := by decide +kernel
theorem dX9_pass_28 : decode cX9_pass 28 = .ok (.invokevirtual 292, 3) := by decide +kernel
theorem dX9_pass_31 : decode cX9_pass 31 = .ok (.aload_n 0, 1) := by decide +kernel
theorem dX9_pass_32 : decode cX9_pass 32 = .ok (.bipush 6, 2) := by decide +kernel
theorem dX9_pass_34 : decode cX9_pass 34 = .ok (.invokevirtual 144, 3) := by decide +kernel
theorem dX9_pass_37 : decode cX9_pass 37 = .ok (.aload_n 0, 1) := by decide +kernel
theorem dX9_pass_38 : decode cX9_pass 38 = .ok (.invokevirtual 88, 3) := by decide +kernel
theorem dX9_pass_41 : decode cX9_pass 41 = .ok (.ireturn, 1) := by decide +kernel
theorem dX9_playOptimally_0 : decode cX9_playOptimally 0 = .ok (.aload_n 0, 1) := by decide +kernel
theorem dX9_playOptimally_1 : decode cX9_playOptimally 1 = .ok (.iconst 0, 1) := by decide +kernel
theorem dX9_playOptimally_2 : decode cX9_playOptimally 2 = .ok (.putfield 40, 3) := by decide +kernel
theorem dX9_playOptimally_5 : decode cX9_playOptimally 5 = .ok (.iload_n 1, 1) := by decide +kernel
theorem dX9_playOptimally_6 : decode cX9_playOptimally 6 = .ok (.iconst 1, 1) := by decide +kernel
theorem dX9_playOptimally_7 : decode cX9_playOptimally 7 = .ok (.if_icmp .lt 9, 3) := by decide +kernel
theorem dX9_playOptimally_10 : decode cX9_playOptimally 10 = .ok (.iload_n 1, 1) := by decide +kernel
theorem dX9_playOptimally_11 : decode cX9_playOptimally 11 = .ok (.bipush 30, 2) := by decide +kernel
theorem dX9_playOptimally_13 : decode cX9_playOptimally 13 = .ok (.if_icmp .le 9, 3) := by decide +kernel
theorem dX9_playOptimally_16 : decode cX9_playOptimally 16 = .ok (.aload_n 0, 1) := by decide +kernel
theorem dX9_playOptimally_17 : decode cX9_playOptimally 17 = .ok (.iconst 1, 1) := by decide +kernel
theorem dX9_playOptimally_18 : decode cX9_playOptimally 18 = .ok (.invokevirtual 219, 3) := by decide +kernel
theorem dX9_playOptimally_21 : decode cX9_playOptimally 21 = .ok (.ireturn, 1) := by decide +kernel
theorem dX9_playOptimally_22 : decode cX9_playOptimally 22 = .ok (.aload_n 0, 1) := by decide +kernel
theorem dX9_playOptimally_23 : decode cX9_playOptimally 23 = .ok (.invokevirtual 292, 3) := by decide +kernel
theorem dX9_playOptimally_26 : decode cX9_playOptimally 26 = .ok (.aload_n 0, 1) := by decide +kernel
theorem dX9_playOptimally_27 : decode cX9_playOptimally 27 = .ok (.invokevirtual 138, 3) := by decide +kernel
theorem dX9_playOptimally_30 : decode cX9_playOptimally 30 = .ok (.aload_n 0, 1) := by decide +kernel
theorem dX9_playOptimally_31 : decode cX9_playOptimally 31 = .ok (.iload_n 1, 1) := by decide +kernel
theorem dX9_playOptimally_32 : decode cX9_playOptimally 32 = .ok (.invokevirtual 289, 3) := by decide +kernel
theorem dX9_playOptimally_35 : decode cX9_playOptimally 35 = .ok (.ireturn, 1) := by decide +kernel
theorem dX9_goesOn_0 : decode cX9_goesOn 0 = .ok (.aload_n 0, 1) := by decide +kernel
theorem dX9_goesOn_1 : decode cX9_goesOn 1 = .ok (.iconst 0, 1) := by decide +kernel
theorem dX9_goesOn_2 : decode cX9_goesOn 2 = .ok (.invokevirtual 271, 3) := by decide +kernel
theorem dX9_goesOn_5 : decode cX9_goesOn 5 = .ok (.aload_n 0, 1) := by decide +kernel
theorem dX9_goesOn_6 : decode cX9_goesOn 6 = .ok (.iconst 1, 1) := by decide +kernel
theorem dX9_goesOn_7 : decode cX9_goesOn 7 = .ok (.invokevirtual 271, 3) := by decide +kernel
theorem dX9_goesOn_10 : decode cX9_goesOn 10 = .ok (.isub, 1) := by decide +kernel
theorem dX9_goesOn_11 : decode cX9_goesOn 11 = .ok (.istore_n 1, 1) := by decide +kernel
theorem dX9_goesOn_12 : decode cX9_goesOn 12 = .ok (.iload_n 1, 1) := by decide +kernel
theorem dX9_goesOn_13 : decode cX9_goesOn 13 = .ok (.ifCond .ne 11, 3) := by decide +kernel
theorem dX9_goesOn_16 : decode cX9_goesOn 16 = .ok (.aload_n 0, 1) := by decide +kernel
theorem dX9_goesOn_17 : decode cX9_goesOn 17 = .ok (.iconst 3, 1) := by decide +kernel
theorem dX9_goesOn_18 : decode cX9_goesOn 18 = .ok (.invokevirtual 46, 3) := by decide +kernel
theorem dX9_goesOn_21 : decode cX9_goesOn 21 = .ok (.goto 12, 3) := by decide +kernel
theorem dX9_goesOn_24 : decode cX9_goesOn 24 = .ok (.iload_n 1, 1) := by decide +kernel
theorem dX9_goesOn_25 : decode cX9_goesOn 25 = .ok (.ifCond .le 7, 3) := by decide +kernel
theorem dX9_goesOn_28 : decode cX9_goesOn 28 = .ok (.iconst 1, 1) := by decide +kernel
theorem dX9_goesOn_29 : decode cX9_goesOn 29 = .ok (.goto 4, 3) := by decide +kernel
theorem dX9_goesOn_32 : decode cX9_goesOn 32 = .ok (.iconst 0, 1) := by decide +kernel
theorem dX9_goesOn_33 : decode cX9_goesOn 33 = .ok (.istore_n 2, 1) := by decide +kernel
theorem dX9_goesOn_34 : decode cX9_goesOn 34 = .ok (.aload_n 0, 1) := by decide +kernel
theorem dX9_goesOn_35 : decode cX9_goesOn 35 = .ok (.iconst 1, 1) := by decide +kernel
theorem dX9_goesOn_36 : decode cX9_goesOn 36 = .ok (.iconst 1, 1) := by decide +kernel
theorem dX9_goesOn_37 : decode cX9_goesOn 37 = .ok (.invokevirtual 97, 3) := by decide +kernel
theorem dX9_goesOn_40 : decode cX9_goesOn 40 = .ok (.aload_n 0, 1) := by decide +kernel
theorem dX9_goesOn_41 : decode cX9_goesOn 41 = .ok (.iload_n 2, 1) := by decide +kernel
theorem dX9_goesOn_42 : decode cX9_goesOn 42 = .ok (.invokevirtual 36, 3) := by decide +kernel
theorem dX9_goesOn_45 : decode cX9_goesOn 45 = .ok (.return_, 1) := by decide +kernel
theorem dX9_startNextRound_0 : decode cX9_startNextRound 0 = .ok (.aload_n 0, 1) := by decide +kernel
theorem dX9_startNextRound_1 : decode cX9_startNextRound 1 = .ok (.iconst 0, 1) := by decide +kernel
theorem dX9_startNextRound_2 : decode cX9_startNextRound 2 = .ok (.putfield 40, 3) := by decide +kernel
theorem dX9_startNextRound_5 : decode cX9_startNextRound 5 = .ok (.aload_n 0, 1) := by decide +kernel
theorem dX9_startNextRound_6 : decode cX9_startNextRound 6 = .ok (.invokevirtual 88, 3) := by decide +kernel
theorem dX9_startNextRound_9 : decode cX9_startNextRound 9 = .ok (.ifCond .eq 10, 3) := by decide +kernel
theorem dX9_startNextRound_12 : decode cX9_startNextRound 12 = .ok (.aload_n 0, 1) := by decide +kernel
theorem dX9_startNextRound_13 : decode cX9_startNextRound 13 = .ok (.invokevirtual 210, 3) := by decide +kernel
theorem dX9_startNextRound_16 : decode cX9_startNextRound 16 = .ok (.ifCond .eq 9, 3) := by decide +kernel
theorem dX9_startNextRound_19 : decode cX9_startNextRound 19 = .ok (.aload_n 0, 1) := by decide +kernel
theorem dX9_startNextRound_20 : decode cX9_startNextRound 20 = .ok (.iconst 1, 1) := by decide +kernel
theorem dX9_startNextRound_21 : decode cX9_startNextRound 21 = .ok (.invokevirtual 219, 3) := by decide +kernel
theorem dX9_startNextRound_24 : decode cX9_startNextRound 24 = .ok (.ireturn, 1) := by decide +kernel
theorem dX9_startNextRound_25 : decode cX9_startNextRound 25 = .ok (.aload_n 0, 1) := by decide +kernel
theorem dX9_startNextRound_26 : decode cX9_startNextRound 26 = .ok (.invokevirtual 292, 3) := by decide +kernel
theorem dX9_startNextRound_29 : decode cX9_startNextRound 29 = .ok (.aload_n 0, 1) := by decide +kernel
theorem dX9_startNextRound_30 : decode cX9_startNextRound 30 = .ok (.invokevirtual 213, 3) := by decide +kernel
theorem dX9_startNextRound_33 : decode cX9_startNextRound 33 = .ok (.aload_n 0, 1) := by decide +kernel
theorem dX9_startNextRound_34 : decode cX9_startNextRound 34 = .ok (.iconst 1, 1) := by decide +kernel
theorem dX9_startNextRound_35 : decode cX9_startNextRound 35 = .ok (.invokevirtual 46, 3) := by decide +kernel
theorem dX9_startNextRound_38 : decode cX9_startNextRound 38 = .ok (.ireturn, 1) := by decide +kernel
theorem dX9_undo_0 : decode cX9_undo 0 = .ok (.aload_n 0, 1) := by decide +kernel
theorem dX9_undo_1 : decode cX9_undo 1 = .ok (.iconst 0, 1) := by decide +kernel
theorem dX9_undo_2 : decode cX9_undo 2 = .ok (.putfield 40, 3) := by decide +kernel
theorem dX9_undo_5 : decode cX9_undo 5 = .ok (.aload_n 0, 1) := by decide +kernel
theorem dX9_undo_6 : decode cX9_undo 6 = .ok (.getfield 53, 3) := by decide +kernel
theorem dX9_undo_9 : decode cX9_undo 9 = .ok (.ifCond .ne 9, 3) := by decide +kernel
theorem dX9_undo_12 : decode cX9_undo 12 = .ok (.aload_n 0, 1) := by decide +kernel
theorem dX9_undo_13 : decode cX9_undo 13 = .ok (.iconst 1, 1) := by decide +kernel
theorem dX9_undo_14 : decode cX9_undo 14 = .ok (.invokevirtual 219, 3) := by decide +kernel
theorem dX9_undo_17 : decode cX9_undo 17 = .ok (.ireturn, 1) := by decide +kernel
theorem dX9_undo_18 : decode cX9_undo 18 = .ok (.aload_n 0, 1) := by decide +kernel
theorem dX9_undo_19 : decode cX9_undo 19 = .ok (.dup, 1) := by decide +kernel
theorem dX9_undo_20 : decode cX9_undo 20 = .ok (.getfield 53, 3) := by decide +kernel
theorem dX9_undo_23 : decode cX9_undo 23 = .ok (.iconst 1, 1) := by decide +kernel
theorem dX9_undo_24 : decode cX9_undo 24 = .ok (.isub, 1) := by decide +kernel
theorem dX9_undo_25 : decode cX9_undo 25 = .ok (.putfield 53, 3) := by decide +kernel
theorem dX9_undo_28 : decode cX9_undo 28 = .ok (.aload_n 0, 1) := by decide +kernel
theorem dX9_undo_29 : decode cX9_undo 29 = .ok (.iconst 1, 1) := by decide +kernel
theorem dX9_undo_30 : decode cX9_undo 30 = .ok (.aload_n 0, 1) := by decide +kernel
theorem dX9_undo_31 : decode cX9_undo 31 = .ok (.getfield 50, 3) := by decide +kernel
theorem dX9_undo_34 : decode cX9_undo 34 = .ok (.aload_n 0, 1) := by decide +kernel
theorem dX9_undo_35 : decode cX9_undo 35 = .ok (.getfield 53, 3) := by decide +kernel
theorem dX9_undo_38 : decode cX9_undo 38 = .ok (.iadd, 1) := by decide +kernel
theorem dX9_undo_39 : decode cX9_undo 39 = .ok (.bipush 8, 2) := by decide +kernel
theorem dX9_undo_41 : decode cX9_undo 41 = .ok (.irem, 1) := by decide +kernel
theorem dX9_undo_42 : decode cX9_undo 42 = .ok (.iadd, 1) := by decide +kernel
theorem dX9_undo_43 : decode cX9_undo 43 = .ok (.iconst 0, 1) := by decide +kernel
theorem dX9_undo_44 : decode cX9_undo 44 = .ok (.invokevirtual 56, 3) := by decide +kernel
theorem dX9_undo_47 : decode cX9_undo 47 = .ok (.aload_n 0, 1) := by decide +kernel
theorem dX9_undo_48 : decode cX9_undo 48 = .ok (.getfield 53, 3) := by decide +kernel
theorem dX9_undo_51 : decode cX9_undo 51 = .ok (.ireturn, 1) := by decide +kernel
theorem dX9_save_0 : decode cX9_save 0 = .ok (.aload_n 0, 1) := by decide +kernel
theorem dX9_save_1 : decode cX9_save 1 = .ok (.iconst 0, 1) := by decide +kernel
theorem dX9_save_2 : decode cX9_save 2 = .ok (.putfield 40, 3) := by decide +kernel
theorem dX9_save_5 : decode cX9_save 5 = .ok (.aload_n 0, 1) := by decide +kernel
theorem dX9_save_6 : decode cX9_save 6 = .ok (.iconst 0, 1) := by decide +kernel
theorem dX9_save_7 : decode cX9_save 7 = .ok (.bipush 9, 2) := by decide +kernel
theorem dX9_save_9 : decode cX9_save 9 = .ok (.invokevirtual 56, 3) := by decide +kernel
theorem dX9_save_12 : decode cX9_save 12 = .ok (.aload_n 0, 1) := by decide +kernel
theorem dX9_save_13 : decode cX9_save 13 = .ok (.iconst 1, 1) := by decide +kernel
theorem dX9_save_14 : decode cX9_save 14 = .ok (.putfield 231, 3) := by decide +kernel
theorem dX9_save_17 : decode cX9_save 17 = .ok (.aload_n 0, 1) := by decide +kernel
theorem dX9_save_18 : decode cX9_save 18 = .ok (.iconst 5, 1) := by decide +kernel
theorem dX9_save_19 : decode cX9_save 19 = .ok (.invokevirtual 46, 3) := by decide +kernel
theorem dX9_save_22 : decode cX9_save 22 = .ok (.ireturn, 1) := by decide +kernel
theorem dX9_restore_0 : decode cX9_restore 0 = .ok (.aload_n 0, 1) := by decide +kernel
theorem dX9_restore_1 : decode cX9_restore 1 = .ok (.iconst 0, 1) := by decide +kernel
theorem dX9_restore_2 : decode cX9_restore 2 = .ok (.putfield 40, 3) := by decide +kernel
theorem dX9_restore_5 : decode cX9_restore 5 = .ok (.aload_n 0, 1) := by decide +kernel
theorem dX9_restore_6 : decode cX9_restore 6 = .ok (.getfield 231, 3) := by decide +kernel
theorem dX9_restore_9 : decode cX9_restore 9 = .ok (.ifCond .ne 9, 3) := by decide +kernel
theorem dX9_restore_12 : decode cX9_restore 12 = .ok (.aload_n 0, 1) := by decide +kernel
theorem dX9_restore_13 : decode cX9_restore 13 = .ok (.iconst 1, 1) := by decide +kernel
theorem dX9_restore_14 : decode cX9_restore 14 = .ok (.invokevirtual 219, 3) := by decide +kernel
theorem dX9_restore_17 : decode cX9_restore 17 = .ok (.ireturn, 1) := by decide +kernel
theorem dX9_restore_18 : decode cX9_restore 18 = .ok (.aload_n 0, 1) := by decide +kernel
theorem dX9_restore_19 : decode cX9_restore 19 = .ok (.invokevirtual 292, 3) := by decide +kernel
theorem dX9_restore_22 : decode cX9_restore 22 = .ok (.aload_n 0, 1) := by decide +kernel
theorem dX9_restore_23 : decode cX9_restore 23 = .ok (.bipush 9, 2) := by decide +kernel
theorem dX9_restore_25 : decode cX9_restore 25 = .ok (.iconst 0, 1) := by decide +kernel
theorem dX9_restore_26 : decode cX9_restore 26 = .ok (.invokevirtual 56, 3) := by decide +kernel
theorem dX9_restore_29 : decode cX9_restore 29 = .ok (.aload_n 0, 1) := by decide +kernel
theorem dX9_restore_30 : decode cX9_restore 30 = .ok (.iconst 5, 1) := by decide +kernel
theorem dX9_restore_31 : decode cX9_restore 31 = .ok (.invokevirtual 46, 3) := by decide +kernel
theorem dX9_restore_34 : decode cX9_restore 34 = .ok (.ireturn, 1) := by decide +kernel
theorem dX9_writes_0 : decode cX9_writes 0 = .ok (.aload_n 0, 1) := by decide +kernel
theorem dX9_writes_1 : decode cX9_writes 1 = .ok (.getfield 17, 3) := by decide +kernel
theorem dX9_writes_4 : decode cX9_writes 4 = .ok (.aload_n 0, 1) := by decide +kernel
theorem dX9_writes_5 : decode cX9_writes 5 = .ok (.getfield 295, 3) := by decide +kernel
theorem dX9_writes_8 : decode cX9_writes 8 = .ok (.iload_n 1, 1) := by decide +kernel
theorem dX9_writes_9 : decode cX9_writes 9 = .ok (.i2c, 1) := by decide +kernel
theorem dX9_writes_10 : decode cX9_writes 10 = .ok (.castore, 1) := by decide +kernel
theorem dX9_writes_11 : decode cX9_writes 11 = .ok (.aload_n 0, 1) := by decide +kernel
theorem dX9_writes_12 : decode cX9_writes 12 = .ok (.dup, 1) := by decide +kernel
theorem dX9_writes_13 : decode cX9_writes 13 = .ok (.getfield 295, 3) := by decide +kernel
theorem dX9_writes_16 : decode cX9_writes 16 = .ok (.iconst 1, 1) := by decide +kernel
theorem dX9_writes_17 : decode cX9_writes 17 = .ok (.iadd, 1) := by decide +kernel
theorem dX9_writes_18 : decode cX9_writes 18 = .ok (.putfield 295, 3) := by decide +kernel
theorem dX9_writes_21 : decode cX9_writes 21 = .ok (.return_, 1) := by decide +kernel
theorem dX9_formatChain_0 : decode cX9_formatChain 0 = .ok (.aload_n 0, 1) := by decide +kernel
theorem dX9_formatChain_1 : decode cX9_formatChain 1 = .ok (.iconst 0, 1) := by decide +kernel
theorem dX9_formatChain_2 : decode cX9_formatChain 2 = .ok (.putfield 40, 3) := by decide +kernel
theorem dX9_formatChain_5 : decode cX9_formatChain 5 = .ok (.aload_n 0, 1) := by decide +kernel
theorem dX9_formatChain_6 : decode cX9_formatChain 6 = .ok (.iload_n 1, 1) := by decide +kernel
theorem dX9_formatChain_7 : decode cX9_formatChain 7 = .ok (.invokevirtual 216, 3) := by decide +kernel
theorem dX9_formatChain_10 : decode cX9_formatChain 10 = .ok (.ifCond .ne 9, 3) := by decide +kernel
theorem dX9_formatChain_13 : decode cX9_formatChain 13 = .ok (.aload_n 0, 1) := by decide +kernel
theorem dX9_formatChain_14 : decode cX9_formatChain 14 = .ok (.iconst 1, 1) := by decide +kernel
theorem dX9_formatChain_15 : decode cX9_formatChain 15 = .ok (.invokevirtual 219, 3) := by decide +kernel
theorem dX9_formatChain_18 : decode cX9_formatChain 18 = .ok (.ireturn, 1) := by decide +kernel
theorem dX9_formatChain_19 : decode cX9_formatChain 19 = .ok (.aload_n 0, 1) := by decide +kernel
theorem dX9_formatChain_20 : decode cX9_formatChain 20 = .ok (.iconst 0, 1) := by decide +kernel
theorem dX9_formatChain_21 : decode cX9_formatChain 21 = .ok (.putfield 295, 3) := by decide +kernel
theorem dX9_formatChain_24 : decode cX9_formatChain 24 = .ok (.iconst 0, 1) := by decide +kernel
theorem dX9_formatChain_25 : decode cX9_formatChain 25 = .ok (.istore_n 2, 1) := by decide +kernel
theorem dX9_formatChain_26 : decode cX9_formatChain 26 = .ok (.iload_n 2, 1) := by decide +kernel
theorem dX9_formatChain_27 : decode cX9_formatChain 27 = .ok (.aload_n 0, 1) := by decide +kernel
theorem dX9_formatChain_28 : decode cX9_formatChain 28 = .ok (.iload_n 1, 1) := by decide +kernel
theorem dX9_formatChain_29 : decode cX9_formatChain 29 = .ok (.invokevirtual 71, 3) := by decide +kernel
theorem dX9_formatChain_32 : decode cX9_formatChain 32 = .ok (.if_icmp .ge 51, 3) := by decide +kernel
theorem dX9_formatChain_35 : decode cX9_formatChain 35 = .ok (.iload_n 2, 1) := by decide +kernel
theorem dX9_formatChain_36 : decode cX9_formatChain 36 = .ok (.ifCond .le 9, 3) := by decide +kernel
theorem dX9_formatChain_39 : decode cX9_formatChain 39 = .ok (.aload_n 0, 1) := by decide +kernel
theorem dX9_formatChain_40 : decode cX9_formatChain 40 = .ok (.bipush 45, 2) := by decide +kernel
theorem dX9_formatChain_42 : decode cX9_formatChain 42 = .ok (.invokevirtual 298, 3) := by decide +kernel
theorem dX9_formatChain_45 : decode cX9_formatChain 45 = .ok (.aload_n 0, 1) := by decide +kernel
theorem dX9_formatChain_46 : decode cX9_formatChain 46 = .ok (.bipush 48, 2) := by decide +kernel
theorem dX9_formatChain_48 : decode cX9_formatChain 48 = .ok (.aload_n 0, 1) := by decide +kernel
theorem dX9_formatChain_49 : decode cX9_formatChain 49 = .ok (.iload_n 1, 1) := by decide +kernel
theorem dX9_formatChain_50 : decode cX9_formatChain 50 = .ok (.iload_n 2, 1) := by decide +kernel
theorem dX9_formatChain_51 : decode cX9_formatChain 51 = .ok (.invokevirtual 256, 3) := by decide +kernel
theorem dX9_formatChain_54 : decode cX9_formatChain 54 = .ok (.bipush 10, 2) := by decide +kernel
theorem dX9_formatChain_56 : decode cX9_formatChain 56 = .ok (.idiv, 1) := by decide +kernel
theorem dX9_formatChain_57 : decode cX9_formatChain 57 = .ok (.iadd, 1) := by decide +kernel
theorem dX9_formatChain_58 : decode cX9_formatChain 58 = .ok (.invokevirtual 298, 3) := by decide +kernel
theorem dX9_formatChain_61 : decode cX9_formatChain 61 = .ok (.aload_n 0, 1) := by decide +kernel
theorem dX9_formatChain_62 : decode cX9_formatChain 62 = .ok (.bipush 48, 2) := by decide +kernel
theorem dX9_formatChain_64 : decode cX9_formatChain 64 = .ok (.aload_n 0, 1) := by decide +kernel
theorem dX9_formatChain_65 : decode cX9_formatChain 65 = .ok (.iload_n 1, 1) := by decide +kernel
theorem dX9_formatChain_66 : decode cX9_formatChain 66 = .ok (.iload_n 2, 1) := by decide +kernel
theorem dX9_formatChain_67 : decode cX9_formatChain 67 = .ok (.invokevirtual 256, 3) := by decide +kernel
theorem dX9_formatChain_70 : decode cX9_formatChain 70 = .ok (.bipush 10, 2) := by decide +kernel
theorem dX9_formatChain_72 : decode cX9_formatChain 72 = .ok (.irem, 1) := by decide +kernel
theorem dX9_formatChain_73 : decode cX9_formatChain 73 = .ok (.iadd, 1) := by decide +kernel
theorem dX9_formatChain_74 : decode cX9_formatChain 74 = .ok (.invokevirtual 298, 3) := by decide +kernel
theorem dX9_formatChain_77 : decode cX9_formatChain 77 = .ok (.iinc 2 1, 3) := by decide +kernel
theorem dX9_formatChain_80 : decode cX9_formatChain 80 = .ok (.goto (-54), 3) := by decide +kernel
theorem dX9_formatChain_83 : decode cX9_formatChain 83 = .ok (.aload_n 0, 1) := by decide +kernel
theorem dX9_formatChain_84 : decode cX9_formatChain 84 = .ok (.getfield 295, 3) := by decide +kernel
theorem dX9_formatChain_87 : decode cX9_formatChain 87 = .ok (.ireturn, 1) := by decide +kernel
theorem dX9_writesLog_0 : decode cX9_writesLog 0 = .ok (.aload_n 0, 1) := by decide +kernel
theorem dX9_writesLog_1 : decode cX9_writesLog 1 = .ok (.iconst 0, 1) := by decide +kernel
theorem dX9_writesLog_2 : decode cX9_writesLog 2 = .ok (.putfield 295, 3) := by decide +kernel
theorem dX9_writesLog_5 : decode cX9_writesLog 5 = .ok (.iload_n 1, 1) := by decide +kernel
theorem dX9_writesLog_6 : decode cX9_writesLog 6 = .ok (.istore_n 2, 1) := by decide +kernel
theorem dX9_writesLog_7 : decode cX9_writesLog 7 = .ok (.iload_n 2, 1) := by decide +kernel
theorem dX9_writesLog_8 : decode cX9_writesLog 8 = .ok (.aload_n 0, 1) := by decide +kernel
theorem dX9_writesLog_9 : decode cX9_writesLog 9 = .ok (.iconst 5, 1) := by decide +kernel
theorem dX9_writesLog_10 : decode cX9_writesLog 10 = .ok (.invokevirtual 46, 3) := by decide +kernel
theorem dX9_writesLog_13 : decode cX9_writesLog 13 = .ok (.if_icmp .ge 72, 3) := by decide +kernel
theorem dX9_writesLog_16 : decode cX9_writesLog 16 = .ok (.iload_n 2, 1) := by decide +kernel
theorem dX9_writesLog_17 : decode cX9_writesLog 17 = .ok (.iload_n 1, 1) := by decide +kernel
theorem dX9_writesLog_18 : decode cX9_writesLog 18 = .ok (.if_icmp .le 9, 3) := by decide +kernel
theorem dX9_writesLog_21 : decode cX9_writesLog 21 = .ok (.aload_n 0, 1) := by decide +kernel
theorem dX9_writesLog_22 : decode cX9_writesLog 22 = .ok (.bipush 32, 2) := by decide +kernel
theorem dX9_writesLog_24 : decode cX9_writesLog 24 = .ok (.invokevirtual 298, 3) := by decide +kernel
theorem dX9_writesLog_27 : decode cX9_writesLog 27 = .ok (.aload_n 0, 1) := by decide +kernel
theorem dX9_writesLog_28 : decode cX9_writesLog 28 = .ok (.sipush 136, 3) := by decide +kernel
theorem dX9_writesLog_31 : decode cX9_writesLog 31 = .ok (.iload_n 2, 1) := by decide +kernel
theorem dX9_writesLog_32 : decode cX9_writesLog 32 = .ok (.iadd, 1) := by decide +kernel
theorem dX9_writesLog_33 : decode cX9_writesLog 33 = .ok (.invokevirtual 46, 3) := by decide +kernel
theorem dX9_writesLog_36 : decode cX9_writesLog 36 = .ok (.istore_n 3, 1) := by decide +kernel
theorem dX9_writesLog_37 : decode cX9_writesLog 37 = .ok (.iload_n 3, 1) := by decide +kernel
theorem dX9_writesLog_38 : decode cX9_writesLog 38 = .ok (.bipush 6, 2) := by decide +kernel
theorem dX9_writesLog_40 : decode cX9_writesLog 40 = .ok (.if_icmp .ne 12, 3) := by decide +kernel
theorem dX9_writesLog_43 : decode cX9_writesLog 43 = .ok (.aload_n 0, 1) := by decide +kernel
theorem dX9_writesLog_44 : decode cX9_writesLog 44 = .ok (.bipush 80, 2) := by decide +kernel
theorem dX9_writesLog_46 : decode cX9_writesLog 46 = .ok (.invokevirtual 298, 3) := by decide +kernel
theorem dX9_writesLog_49 : decode cX9_writesLog 49 = .ok (.goto 30, 3) := by decide +kernel
theorem dX9_writesLog_52 : decode cX9_writesLog 52 = .ok (.aload_n 0, 1) := by decide +kernel
theorem dX9_writesLog_53 : decode cX9_writesLog 53 = .ok (.iload_n 3, 1) := by decide +kernel
theorem dX9_writesLog_54 : decode cX9_writesLog 54 = .ok (.iconst 2, 1) := by decide +kernel
theorem dX9_writesLog_55 : decode cX9_writesLog 55 = .ok (.irem, 1) := by decide +kernel
theorem dX9_writesLog_56 : decode cX9_writesLog 56 = .ok (.ifCond .ne 8, 3) := by decide +kernel
theorem dX9_writesLog_59 : decode cX9_writesLog 59 = .ok (.bipush 76, 2) := by decide +kernel
theorem dX9_writesLog_61 : decode cX9_writesLog 61 = .ok (.goto 5, 3) := by decide +kernel
theorem dX9_writesLog_64 : decode cX9_writesLog 64 = .ok (.bipush 82, 2) := by decide +kernel
theorem dX9_writesLog_66 : decode cX9_writesLog 66 = .ok (.invokevirtual 298, 3) := by decide +kernel
theorem dX9_writesLog_69 : decode cX9_writesLog 69 = .ok (.aload_n 0, 1) := by decide +kernel
theorem dX9_writesLog_70 : decode cX9_writesLog 70 = .ok (.bipush 48, 2) := by decide +kernel
theorem dX9_writesLog_72 : decode cX9_writesLog 72 = .ok (.iload_n 3, 1) := by decide +kernel
theorem dX9_writesLog_73 : decode cX9_writesLog 73 = .ok (.iconst 2, 1) := by decide +kernel
theorem dX9_writesLog_74 : decode cX9_writesLog 74 = .ok (.idiv, 1) := by decide +kernel
theorem dX9_writesLog_75 : decode cX9_writesLog 75 = .ok (.iadd, 1) := by decide +kernel
theorem dX9_writesLog_76 : decode cX9_writesLog 76 = .ok (.invokevirtual 298, 3) := by decide +kernel
theorem dX9_writesLog_79 : decode cX9_writesLog 79 = .ok (.iinc 2 1, 3) := by decide +kernel
theorem dX9_writesLog_82 : decode cX9_writesLog 82 = .ok (.goto (-75), 3) := by decide +kernel
theorem dX9_writesLog_85 : decode cX9_writesLog 85 = .ok (.return_, 1) := by decide +kernel
theorem dX9_formatLog_0 : decode cX9_formatLog 0 = .ok (.aload_n 0, 1) := by decide +kernel
theorem dX9_formatLog_1 : decode cX9_formatLog 1 = .ok (.iconst 0, 1) := by decide +kernel
theorem dX9_formatLog_2 : decode cX9_formatLog 2 = .ok (.putfield 40, 3) := by decide +kernel
theorem dX9_formatLog_5 : decode cX9_formatLog 5 = .ok (.aload_n 0, 1) := by decide +kernel
theorem dX9_formatLog_6 : decode cX9_formatLog 6 = .ok (.iconst 0, 1) := by decide +kernel
theorem dX9_formatLog_7 : decode cX9_formatLog 7 = .ok (.invokevirtual 301, 3) := by decide +kernel
theorem dX9_formatLog_10 : decode cX9_formatLog 10 = .ok (.aload_n 0, 1) := by decide +kernel
theorem dX9_formatLog_11 : decode cX9_formatLog 11 = .ok (.getfield 295, 3) := by decide +kernel
theorem dX9_formatLog_14 : decode cX9_formatLog 14 = .ok (.ireturn, 1) := by decide +kernel
theorem dX9_formatOptimalLine_0 : decode cX9_formatOptimalLine 0 = .ok (.aload_n 0, 1) := by decide +kernel
theorem dX9_formatOptimalLine_1 : decode cX9_formatOptimalLine 1 = .ok (.iconst 0, 1) := by decide +kernel
theorem dX9_formatOptimalLine_2 : decode cX9_formatOptimalLine 2 = .ok (.putfield 40, 3) := by decide +kernel
theorem dX9_formatOptimalLine_5 : decode cX9_formatOptimalLine 5 = .ok (.aload_n 0, 1) := by decide +kernel
theorem dX9_formatOptimalLine_6 : decode cX9_formatOptimalLine 6 = .ok (.iconst 5, 1) := by decide +kernel
theorem dX9_formatOptimalLine_7 : decode cX9_formatOptimalLine 7 = .ok (.invokevirtual 46, 3) := by decide +kernel
theorem dX9_formatOptimalLine_10 : decode cX9_formatOptimalLine 10 = .ok (.istore_n 1, 1) := by decide +kernel
theorem dX9_formatOptimalLine_11 : decode cX9_formatOptimalLine 11 = .ok (.aload_n 0, 1) := by decide +kernel
theorem dX9_formatOptimalLine_12 : decode cX9_formatOptimalLine 12 = .ok (.invokevirtual 286, 3) := by decide +kernel
theorem dX9_formatOptimalLine_15 : decode cX9_formatOptimalLine 15 = .ok (.aload_n 0, 1) := by decide +kernel
theorem dX9_formatOptimalLine_16 : decode cX9_formatOptimalLine 16 = .ok (.bipush 48, 2) := by decide +kernel
theorem dX9_formatOptimalLine_18 : decode cX9_formatOptimalLine 18 = .ok (.invokevirtual 289, 3) := by decide +kernel
theorem dX9_formatOptimalLine_21 : decode cX9_formatOptimalLine 21 = .ok (.pop, 1) := by decide +kernel
theorem dX9_formatOptimalLine_22 : decode cX9_formatOptimalLine 22 = .ok (.aload_n 0, 1) := by decide +kernel
theorem dX9_formatOptimalLine_23 : decode cX9_formatOptimalLine 23 = .ok (.iload_n 1, 1) := by decide +kernel
theorem dX9_formatOptimalLine_24 : decode cX9_formatOptimalLine 24 = .ok (.invokevirtual 301, 3) := by decide +kernel
theorem dX9_formatOptimalLine_27 : decode cX9_formatOptimalLine 27 = .ok (.aload_n 0, 1) := by decide +kernel
theorem dX9_formatOptimalLine_28 : decode cX9_formatOptimalLine 28 = .ok (.iconst 0, 1) := by decide +kernel
theorem dX9_formatOptimalLine_29 : decode cX9_formatOptimalLine 29 = .ok (.putfield 43, 3) := by decide +kernel
theorem dX9_formatOptimalLine_32 : decode cX9_formatOptimalLine 32 = .ok (.aload_n 0, 1) := by decide +kernel
theorem dX9_formatOptimalLine_33 : decode cX9_formatOptimalLine 33 = .ok (.getfield 295, 3) := by decide +kernel
theorem dX9_formatOptimalLine_36 : decode cX9_formatOptimalLine 36 = .ok (.ireturn, 1) := by decide +kernel
theorem dX9_formattedCharacter_0 : decode cX9_formattedCharacter 0 = .ok (.aload_n 0, 1) := by decide +kernel
theorem dX9_formattedCharacter_1 : decode cX9_formattedCharacter 1 = .ok (.iconst 0, 1) := by decide +kernel
theorem dX9_formattedCharacter_2 : decode cX9_formattedCharacter 2 = .ok (.putfield 40, 3) := by decide +kernel
theorem dX9_formattedCharacter_5 : decode cX9_formattedCharacter 5 = .ok (.iload_n 1, 1) := by decide +kernel
theorem dX9_formattedCharacter_6 : decode cX9_formattedCharacter 6 = .ok (.ifCond .lt 11, 3) := by decide +kernel
theorem dX9_formattedCharacter_9 : decode cX9_formattedCharacter 9 = .ok (.iload_n 1, 1) := by decide +kernel
theorem dX9_formattedCharacter_10 : decode cX9_formattedCharacter 10 = .ok (.aload_n 0, 1) := by decide +kernel
theorem dX9_formattedCharacter_11 : decode cX9_formattedCharacter 11 = .ok (.getfield 295, 3) := by decide +kernel
theorem dX9_formattedCharacter_14 : decode cX9_formattedCharacter 14 = .ok (.if_icmp .lt 12, 3) := by decide +kernel
theorem dX9_formattedCharacter_17 : decode cX9_formattedCharacter 17 = .ok (.aload_n 0, 1) := by decide +kernel
theorem dX9_formattedCharacter_18 : decode cX9_formattedCharacter 18 = .ok (.iconst 1, 1) := by decide +kernel
theorem dX9_formattedCharacter_19 : decode cX9_formattedCharacter 19 = .ok (.invokevirtual 219, 3) := by decide +kernel
theorem dX9_formattedCharacter_22 : decode cX9_formattedCharacter 22 = .ok (.i2c, 1) := by decide +kernel
theorem dX9_formattedCharacter_23 : decode cX9_formattedCharacter 23 = .ok (.goto 9, 3) := by decide +kernel
theorem dX9_formattedCharacter_26 : decode cX9_formattedCharacter 26 = .ok (.aload_n 0, 1) := by decide +kernel
theorem dX9_formattedCharacter_27 : decode cX9_formattedCharacter 27 = .ok (.getfield 17, 3) := by decide +kernel
theorem dX9_formattedCharacter_30 : decode cX9_formattedCharacter 30 = .ok (.iload_n 1, 1) := by decide +kernel
theorem dX9_formattedCharacter_31 : decode cX9_formattedCharacter 31 = .ok (.caload, 1) := by decide +kernel
theorem dX9_formattedCharacter_32 : decode cX9_formattedCharacter 32 = .ok (.ireturn, 1) := by decide +kernel
theorem dL_append_0 : decode cL_append 0 = .ok (.aload 6, 2) := by decide +kernel
theorem dL_append_2 : decode cL_append 2 = .ok (.iconst 0, 1) := by decide +kernel
theorem dL_append_3 : decode cL_append 3 = .ok (.aload_n 0, 1) := by decide +kernel
theorem dL_append_4 : decode cL_append 4 = .ok (.iload_n 1, 1) := by decide +kernel
theorem dL_append_5 : decode cL_append 5 = .ok (.iload_n 2, 1) := by decide +kernel
theorem dL_append_6 : decode cL_append 6 = .ok (.iload_n 3, 1) := by decide +kernel
theorem dL_append_7 : decode cL_append 7 = .ok (.iload 4, 2) := by decide +kernel
theorem dL_append_9 : decode cL_append 9 = .ok (.iload 5, 2) := by decide +kernel
theorem dL_append_11 : decode cL_append 11 = .ok (.invokevirtual 7, 3) := by decide +kernel
theorem dL_append_14 : decode cL_append 14 = .ok (.i2l, 1) := by decide +kernel
theorem dL_append_15 : decode cL_append 15 = .ok (.lastore, 1) := by decide +kernel
theorem dL_append_16 : decode cL_append 16 = .ok (.goto 7, 3) := by decide +kernel
theorem dL_append_19 : decode cL_append 19 = .ok (.astore 7, 2) := by decide +kernel
theorem dL_append_21 : decode cL_append 21 = .ok (.iconst 1, 1) := by decide +kernel
theorem dL_append_22 : decode cL_append 22 = .ok (.ireturn, 1) := by decide +kernel
theorem dL_append_23 : decode cL_append 23 = .ok (.iconst 0, 1) := by decide +kernel
theorem dL_append_24 : decode cL_append 24 = .ok (.ireturn, 1) := by decide +kernel
theorem dL_truncate_0 : decode cL_truncate 0 = .ok (.aload_n 0, 1) := by decide +kernel
theorem dL_truncate_1 : decode cL_truncate 1 = .ok (.iload_n 1, 1) := by decide +kernel
theorem dL_truncate_2 : decode cL_truncate 2 = .ok (.invokevirtual 15, 3) := by decide +kernel
theorem dL_truncate_5 : decode cL_truncate 5 = .ok (.goto 6, 3) := by decide +kernel
theorem dL_truncate_8 : decode cL_truncate 8 = .ok (.astore_n 2, 1) := by decide +kernel
theorem dL_truncate_9 : decode cL_truncate 9 = .ok (.iconst 1, 1) := by decide +kernel
theorem dL_truncate_10 : decode cL_truncate 10 = .ok (.ireturn, 1) := by decide +kernel
theorem dL_truncate_11 : decode cL_truncate 11 = .ok (.iconst 0, 1) := by decide +kernel
theorem dL_truncate_12 : decode cL_truncate 12 = .ok (.ireturn, 1) := by decide +kernel
theorem dL_load_0 : decode cL_load 0 = .ok (.aload_n 1, 1) := by decide +kernel
theorem dL_load_1 : decode cL_load 1 = .ok (.iconst 0, 1) := by decide +kernel
theorem dL_load_2 : decode cL_load 2 = .ok (.aload_n 0, 1) := by decide +kernel
theorem dL_load_3 : decode cL_load 3 = .ok (.invokevirtual 21, 3) := by decide +kernel
theorem dL_load_6 : decode cL_load 6 = .ok (.i2l, 1) := by decide +kernel
theorem dL_load_7 : decode cL_load 7 = .ok (.lastore, 1) := by decide +kernel
theorem dL_load_8 : decode cL_load 8 = .ok (.goto 6, 3) := by decide +kernel
theorem dL_load_11 : decode cL_load 11 = .ok (.astore_n 2, 1) := by decide +kernel
theorem dL_load_12 : decode cL_load 12 = .ok (.iconst 1, 1) := by decide +kernel
theorem dL_load_13 : decode cL_load 13 = .ok (.ireturn, 1) := by decide +kernel
theorem dL_load_14 : decode cL_load 14 = .ok (.iconst 0, 1) := by decide +kernel
theorem dL_load_15 : decode cL_load 15 = .ok (.ireturn, 1) := by decide +kernel
theorem dL_roundWinner_0 : decode cL_roundWinner 0 = .ok (.aload_n 2, 1) := by decide +kernel
theorem dL_roundWinner_1 : decode cL_roundWinner 1 = .ok (.iconst 0, 1) := by decide +kernel
theorem dL_roundWinner_2 : decode cL_roundWinner 2 = .ok (.aload_n 0, 1) := by decide +kernel
theorem dL_roundWinner_3 : decode cL_roundWinner 3 = .ok (.iload_n 1, 1) := by decide +kernel
theorem dL_roundWinner_4 : decode cL_roundWinner 4 = .ok (.invokevirtual 25, 3) := by decide +kernel
theorem dL_roundWinner_7 : decode cL_roundWinner 7 = .ok (.i2l, 1) := by decide +kernel
theorem dL_roundWinner_8 : decode cL_roundWinner 8 = .ok (.lastore, 1) := by decide +kernel
theorem dL_roundWinner_9 : decode cL_roundWinner 9 = .ok (.goto 6, 3) := by decide +kernel
theorem dL_roundWinner_12 : decode cL_roundWinner 12 = .ok (.astore_n 3, 1) := by decide +kernel
theorem dL_roundWinner_13 : decode cL_roundWinner 13 = .ok (.iconst 1, 1) := by decide +kernel
theorem dL_roundWinner_14 : decode cL_roundWinner 14 = .ok (.ireturn, 1) := by decide +kernel
theorem dL_roundWinner_15 : decode cL_roundWinner 15 = .ok (.iconst 0, 1) := by decide +kernel
theorem dL_roundWinner_16 : decode cL_roundWinner 16 = .ok (.ireturn, 1) := by decide +kernel
theorem dL_roundsWon_0 : decode cL_roundsWon 0 = .ok (.aload_n 2, 1) := by decide +kernel
theorem dL_roundsWon_1 : decode cL_roundsWon 1 = .ok (.iconst 0, 1) := by decide +kernel
theorem dL_roundsWon_2 : decode cL_roundsWon 2 = .ok (.aload_n 0, 1) := by decide +kernel
theorem dL_roundsWon_3 : decode cL_roundsWon 3 = .ok (.iload_n 1, 1) := by decide +kernel
theorem dL_roundsWon_4 : decode cL_roundsWon 4 = .ok (.invokevirtual 31, 3) := by decide +kernel
theorem dL_roundsWon_7 : decode cL_roundsWon 7 = .ok (.i2l, 1) := by decide +kernel
theorem dL_roundsWon_8 : decode cL_roundsWon 8 = .ok (.lastore, 1) := by decide +kernel
theorem dL_roundsWon_9 : decode cL_roundsWon 9 = .ok (.goto 6, 3) := by decide +kernel
theorem dL_roundsWon_12 : decode cL_roundsWon 12 = .ok (.astore_n 3, 1) := by decide +kernel
theorem dL_roundsWon_13 : decode cL_roundsWon 13 = .ok (.iconst 1, 1) := by decide +kernel
theorem dL_roundsWon_14 : decode cL_roundsWon 14 = .ok (.ireturn, 1) := by decide +kernel
theorem dL_roundsWon_15 : decode cL_roundsWon 15 = .ok (.iconst 0, 1) := by decide +kernel
theorem dL_roundsWon_16 : decode cL_roundsWon 16 = .ok (.ireturn, 1) := by decide +kernel
theorem dL_roundScore_0 : decode cL_roundScore 0 = .ok (.aload_n 3, 1) := by decide +kernel
theorem dL_roundScore_1 : decode cL_roundScore 1 = .ok (.iconst 0, 1) := by decide +kernel
theorem dL_roundScore_2 : decode cL_roundScore 2 = .ok (.aload_n 0, 1) := by decide +kernel
theorem dL_roundScore_3 : decode cL_roundScore 3 = .ok (.iload_n 1, 1) := by decide +kernel
theorem dL_roundScore_4 : decode cL_roundScore 4 = .ok (.iload_n 2, 1) := by decide +kernel
theorem dL_roundScore_5 : decode cL_roundScore 5 = .ok (.invokevirtual 34, 3) := by decide +kernel
theorem dL_roundScore_8 : decode cL_roundScore 8 = .ok (.i2l, 1) := by decide +kernel
theorem dL_roundScore_9 : decode cL_roundScore 9 = .ok (.lastore, 1) := by decide +kernel
theorem dL_roundScore_10 : decode cL_roundScore 10 = .ok (.goto 7, 3) := by decide +kernel
theorem dL_roundScore_13 : decode cL_roundScore 13 = .ok (.astore 4, 2) := by decide +kernel
theorem dL_roundScore_15 : decode cL_roundScore 15 = .ok (.iconst 1, 1) := by decide +kernel
theorem dL_roundScore_16 : decode cL_roundScore 16 = .ok (.ireturn, 1) := by decide +kernel
theorem dL_roundScore_17 : decode cL_roundScore 17 = .ok (.iconst 0, 1) := by decide +kernel
theorem dL_roundScore_18 : decode cL_roundScore 18 = .ok (.ireturn, 1) := by decide +kernel
theorem dL_totalScore_0 : decode cL_totalScore 0 = .ok (.aload_n 2, 1) := by decide +kernel
theorem dL_totalScore_1 : decode cL_totalScore 1 = .ok (.iconst 0, 1) := by decide +kernel
theorem dL_totalScore_2 : decode cL_totalScore 2 = .ok (.aload_n 0, 1) := by decide +kernel
theorem dL_totalScore_3 : decode cL_totalScore 3 = .ok (.iload_n 1, 1) := by decide +kernel
theorem dL_totalScore_4 : decode cL_totalScore 4 = .ok (.invokevirtual 38, 3) := by decide +kernel
theorem dL_totalScore_7 : decode cL_totalScore 7 = .ok (.i2l, 1) := by decide +kernel
theorem dL_totalScore_8 : decode cL_totalScore 8 = .ok (.lastore, 1) := by decide +kernel
theorem dL_totalScore_9 : decode cL_totalScore 9 = .ok (.goto 6, 3) := by decide +kernel
theorem dL_totalScore_12 : decode cL_totalScore 12 = .ok (.astore_n 3, 1) := by decide +kernel
theorem dL_totalScore_13 : decode cL_totalScore 13 = .ok (.iconst 1, 1) := by decide +kernel
theorem dL_totalScore_14 : decode cL_totalScore 14 = .ok (.ireturn, 1) := by decide +kernel
theorem dL_totalScore_15 : decode cL_totalScore 15 = .ok (.iconst 0, 1) := by decide +kernel
theorem dL_totalScore_16 : decode cL_totalScore 16 = .ok (.ireturn, 1) := by decide +kernel
theorem dL_tilesBurnt_0 : decode cL_tilesBurnt 0 = .ok (.aload_n 2, 1) := by decide +kernel
theorem dL_tilesBurnt_1 : decode cL_tilesBurnt 1 = .ok (.iconst 0, 1) := by decide +kernel
theorem dL_tilesBurnt_2 : decode cL_tilesBurnt 2 = .ok (.aload_n 0, 1) := by decide +kernel
theorem dL_tilesBurnt_3 : decode cL_tilesBurnt 3 = .ok (.iload_n 1, 1) := by decide +kernel
theorem dL_tilesBurnt_4 : decode cL_tilesBurnt 4 = .ok (.invokevirtual 41, 3) := by decide +kernel
theorem dL_tilesBurnt_7 : decode cL_tilesBurnt 7 = .ok (.i2l, 1) := by decide +kernel
theorem dL_tilesBurnt_8 : decode cL_tilesBurnt 8 = .ok (.lastore, 1) := by decide +kernel
theorem dL_tilesBurnt_9 : decode cL_tilesBurnt 9 = .ok (.goto 6, 3) := by decide +kernel
theorem dL_tilesBurnt_12 : decode cL_tilesBurnt 12 = .ok (.astore_n 3, 1) := by decide +kernel
theorem dL_tilesBurnt_13 : decode cL_tilesBurnt 13 = .ok (.iconst 1, 1) := by decide +kernel
theorem dL_tilesBurnt_14 : decode cL_tilesBurnt 14 = .ok (.ireturn, 1) := by decide +kernel
theorem dL_tilesBurnt_15 : decode cL_tilesBurnt 15 = .ok (.iconst 0, 1) := by decide +kernel
theorem dL_tilesBurnt_16 : decode cL_tilesBurnt 16 = .ok (.ireturn, 1) := by decide +kernel
theorem dL_passes_0 : decode cL_passes 0 = .ok (.aload_n 2, 1) := by decide +kernel
theorem dL_passes_1 : decode cL_passes 1 = .ok (.iconst 0, 1) := by decide +kernel
theorem dL_passes_2 : decode cL_passes 2 = .ok (.aload_n 0, 1) := by decide +kernel
theorem dL_passes_3 : decode cL_passes 3 = .ok (.iload_n 1, 1) := by decide +kernel
theorem dL_passes_4 : decode cL_passes 4 = .ok (.invokevirtual 44, 3) := by decide +kernel
theorem dL_passes_7 : decode cL_passes 7 = .ok (.i2l, 1) := by decide +kernel
theorem dL_passes_8 : decode cL_passes 8 = .ok (.lastore, 1) := by decide +kernel
theorem dL_passes_9 : decode cL_passes 9 = .ok (.goto 6, 3) := by decide +kernel
theorem dL_passes_12 : decode cL_passes 12 = .ok (.astore_n 3, 1) := by decide +kernel
theorem dL_passes_13 : decode cL_passes 13 = .ok (.iconst 1, 1) := by decide +kernel
theorem dL_passes_14 : decode cL_passes 14 = .ok (.ireturn, 1) := by decide +kernel
theorem dL_passes_15 : decode cL_passes 15 = .ok (.iconst 0, 1) := by decide +kernel
theorem dL_passes_16 : decode cL_passes 16 = .ok (.ireturn, 1) := by decide +kernel
theorem dL_meanTileScore_0 : decode cL_meanTileScore 0 = .ok (.aload_n 2, 1) := by decide +kernel
theorem dL_meanTileScore_1 : decode cL_meanTileScore 1 = .ok (.iconst 0, 1) := by decide +kernel
theorem dL_meanTileScore_2 : decode cL_meanTileScore 2 = .ok (.aload_n 0, 1) := by decide +kernel
theorem dL_meanTileScore_3 : decode cL_meanTileScore 3 = .ok (.iload_n 1, 1) := by decide +kernel
theorem dL_meanTileScore_4 : decode cL_meanTileScore 4 = .ok (.invokevirtual 47, 3) := by decide +kernel
theorem dL_meanTileScore_7 : decode cL_meanTileScore 7 = .ok (.dastore, 1) := by decide +kernel
theorem dL_meanTileScore_8 : decode cL_meanTileScore 8 = .ok (.goto 6, 3) := by decide +kernel
theorem dL_meanTileScore_11 : decode cL_meanTileScore 11 = .ok (.astore_n 3, 1) := by decide +kernel
theorem dL_meanTileScore_12 : decode cL_meanTileScore 12 = .ok (.iconst 1, 1) := by decide +kernel
theorem dL_meanTileScore_13 : decode cL_meanTileScore 13 = .ok (.ireturn, 1) := by decide +kernel
theorem dL_meanTileScore_14 : decode cL_meanTileScore 14 = .ok (.iconst 0, 1) := by decide +kernel
theorem dL_meanTileScore_15 : decode cL_meanTileScore 15 = .ok (.ireturn, 1) := by decide +kernel
theorem dL_chainLength_0 : decode cL_chainLength 0 = .ok (.aload_n 2, 1) := by decide +kernel
theorem dL_chainLength_1 : decode cL_chainLength 1 = .ok (.iconst 0, 1) := by decide +kernel
theorem dL_chainLength_2 : decode cL_chainLength 2 = .ok (.aload_n 0, 1) := by decide +kernel
theorem dL_chainLength_3 : decode cL_chainLength 3 = .ok (.iload_n 1, 1) := by decide +kernel
theorem dL_chainLength_4 : decode cL_chainLength 4 = .ok (.invokevirtual 51, 3) := by decide +kernel
theorem dL_chainLength_7 : decode cL_chainLength 7 = .ok (.i2l, 1) := by decide +kernel
theorem dL_chainLength_8 : decode cL_chainLength 8 = .ok (.lastore, 1) := by decide +kernel
theorem dL_chainLength_9 : decode cL_chainLength 9 = .ok (.goto 6, 3) := by decide +kernel
theorem dL_chainLength_12 : decode cL_chainLength 12 = .ok (.astore_n 3, 1) := by decide +kernel
theorem dL_chainLength_13 : decode cL_chainLength 13 = .ok (.iconst 1, 1) := by decide +kernel
theorem dL_chainLength_14 : decode cL_chainLength 14 = .ok (.ireturn, 1) := by decide +kernel
theorem dL_chainLength_15 : decode cL_chainLength 15 = .ok (.iconst 0, 1) := by decide +kernel
theorem dL_chainLength_16 : decode cL_chainLength 16 = .ok (.ireturn, 1) := by decide +kernel
theorem dL_leftPips_0 : decode cL_leftPips 0 = .ok (.aload_n 3, 1) := by decide +kernel
theorem dL_leftPips_1 : decode cL_leftPips 1 = .ok (.iconst 0, 1) := by decide +kernel
theorem dL_leftPips_2 : decode cL_leftPips 2 = .ok (.aload_n 0, 1) := by decide +kernel
theorem dL_leftPips_3 : decode cL_leftPips 3 = .ok (.iload_n 1, 1) := by decide +kernel
theorem dL_leftPips_4 : decode cL_leftPips 4 = .ok (.iload_n 2, 1) := by decide +kernel
theorem dL_leftPips_5 : decode cL_leftPips 5 = .ok (.invokevirtual 54, 3) := by decide +kernel
theorem dL_leftPips_8 : decode cL_leftPips 8 = .ok (.i2l, 1) := by decide +kernel
theorem dL_leftPips_9 : decode cL_leftPips 9 = .ok (.lastore, 1) := by decide +kernel
theorem dL_leftPips_10 : decode cL_leftPips 10 = .ok (.goto 7, 3) := by decide +kernel
theorem dL_leftPips_13 : decode cL_leftPips 13 = .ok (.astore 4, 2) := by decide +kernel
theorem dL_leftPips_15 : decode cL_leftPips 15 = .ok (.iconst 1, 1) := by decide +kernel
theorem dL_leftPips_16 : decode cL_leftPips 16 = .ok (.ireturn, 1) := by decide +kernel
theorem dL_leftPips_17 : decode cL_leftPips 17 = .ok (.iconst 0, 1) := by decide +kernel
theorem dL_leftPips_18 : decode cL_leftPips 18 = .ok (.ireturn, 1) := by decide +kernel
theorem dL_rightPips_0 : decode cL_rightPips 0 = .ok (.aload_n 3, 1) := by decide +kernel
theorem dL_rightPips_1 : decode cL_rightPips 1 = .ok (.iconst 0, 1) := by decide +kernel
theorem dL_rightPips_2 : decode cL_rightPips 2 = .ok (.aload_n 0, 1) := by decide +kernel
theorem dL_rightPips_3 : decode cL_rightPips 3 = .ok (.iload_n 1, 1) := by decide +kernel
theorem dL_rightPips_4 : decode cL_rightPips 4 = .ok (.iload_n 2, 1) := by decide +kernel
theorem dL_rightPips_5 : decode cL_rightPips 5 = .ok (.invokevirtual 57, 3) := by decide +kernel
theorem dL_rightPips_8 : decode cL_rightPips 8 = .ok (.i2l, 1) := by decide +kernel
theorem dL_rightPips_9 : decode cL_rightPips 9 = .ok (.lastore, 1) := by decide +kernel
theorem dL_rightPips_10 : decode cL_rightPips 10 = .ok (.goto 7, 3) := by decide +kernel
theorem dL_rightPips_13 : decode cL_rightPips 13 = .ok (.astore 4, 2) := by decide +kernel
theorem dL_rightPips_15 : decode cL_rightPips 15 = .ok (.iconst 1, 1) := by decide +kernel
theorem dL_rightPips_16 : decode cL_rightPips 16 = .ok (.ireturn, 1) := by decide +kernel
theorem dL_rightPips_17 : decode cL_rightPips 17 = .ok (.iconst 0, 1) := by decide +kernel
theorem dL_rightPips_18 : decode cL_rightPips 18 = .ok (.ireturn, 1) := by decide +kernel
theorem dL_tileScore_0 : decode cL_tileScore 0 = .ok (.aload_n 3, 1) := by decide +kernel
theorem dL_tileScore_1 : decode cL_tileScore 1 = .ok (.iconst 0, 1) := by decide +kernel
theorem dL_tileScore_2 : decode cL_tileScore 2 = .ok (.aload_n 0, 1) := by decide +kernel
theorem dL_tileScore_3 : decode cL_tileScore 3 = .ok (.iload_n 1, 1) := by decide +kernel
theorem dL_tileScore_4 : decode cL_tileScore 4 = .ok (.iload_n 2, 1) := by decide +kernel
theorem dL_tileScore_5 : decode cL_tileScore 5 = .ok (.invokevirtual 60, 3) := by decide +kernel
theorem dL_tileScore_8 : decode cL_tileScore 8 = .ok (.i2l, 1) := by decide +kernel
theorem dL_tileScore_9 : decode cL_tileScore 9 = .ok (.lastore, 1) := by decide +kernel
theorem dL_tileScore_10 : decode cL_tileScore 10 = .ok (.goto 7, 3) := by decide +kernel
theorem dL_tileScore_13 : decode cL_tileScore 13 = .ok (.astore 4, 2) := by decide +kernel
theorem dL_tileScore_15 : decode cL_tileScore 15 = .ok (.iconst 1, 1) := by decide +kernel
theorem dL_tileScore_16 : decode cL_tileScore 16 = .ok (.ireturn, 1) := by decide +kernel
theorem dL_tileScore_17 : decode cL_tileScore 17 = .ok (.iconst 0, 1) := by decide +kernel
theorem dL_tileScore_18 : decode cL_tileScore 18 = .ok (.ireturn, 1) := by decide +kernel
theorem dL_chainScore_0 : decode cL_chainScore 0 = .ok (.aload_n 2, 1) := by decide +kernel
theorem dL_chainScore_1 : decode cL_chainScore 1 = .ok (.iconst 0, 1) := by decide +kernel
theorem dL_chainScore_2 : decode cL_chainScore 2 = .ok (.aload_n 0, 1) := by decide +kernel
theorem dL_chainScore_3 : decode cL_chainScore 3 = .ok (.iload_n 1, 1) := by decide +kernel
theorem dL_chainScore_4 : decode cL_chainScore 4 = .ok (.invokevirtual 63, 3) := by decide +kernel
theorem dL_chainScore_7 : decode cL_chainScore 7 = .ok (.i2l, 1) := by decide +kernel
theorem dL_chainScore_8 : decode cL_chainScore 8 = .ok (.lastore, 1) := by decide +kernel
theorem dL_chainScore_9 : decode cL_chainScore 9 = .ok (.goto 6, 3) := by decide +kernel
theorem dL_chainScore_12 : decode cL_chainScore 12 = .ok (.astore_n 3, 1) := by decide +kernel
theorem dL_chainScore_13 : decode cL_chainScore 13 = .ok (.iconst 1, 1) := by decide +kernel
theorem dL_chainScore_14 : decode cL_chainScore 14 = .ok (.ireturn, 1) := by decide +kernel
theorem dL_chainScore_15 : decode cL_chainScore 15 = .ok (.iconst 0, 1) := by decide +kernel
theorem dL_chainScore_16 : decode cL_chainScore 16 = .ok (.ireturn, 1) := by decide +kernel
theorem dL_tilesWith_0 : decode cL_tilesWith 0 = .ok (.aload_n 2, 1) := by decide +kernel
theorem dL_tilesWith_1 : decode cL_tilesWith 1 = .ok (.iconst 0, 1) := by decide +kernel
theorem dL_tilesWith_2 : decode cL_tilesWith 2 = .ok (.aload_n 0, 1) := by decide +kernel
theorem dL_tilesWith_3 : decode cL_tilesWith 3 = .ok (.iload_n 1, 1) := by decide +kernel
theorem dL_tilesWith_4 : decode cL_tilesWith 4 = .ok (.invokevirtual 66, 3) := by decide +kernel
theorem dL_tilesWith_7 : decode cL_tilesWith 7 = .ok (.i2l, 1) := by decide +kernel
theorem dL_tilesWith_8 : decode cL_tilesWith 8 = .ok (.lastore, 1) := by decide +kernel
theorem dL_tilesWith_9 : decode cL_tilesWith 9 = .ok (.goto 6, 3) := by decide +kernel
theorem dL_tilesWith_12 : decode cL_tilesWith 12 = .ok (.astore_n 3, 1) := by decide +kernel
theorem dL_tilesWith_13 : decode cL_tilesWith 13 = .ok (.iconst 1, 1) := by decide +kernel
theorem dL_tilesWith_14 : decode cL_tilesWith 14 = .ok (.ireturn, 1) := by decide +kernel
theorem dL_tilesWith_15 : decode cL_tilesWith 15 = .ok (.iconst 0, 1) := by decide +kernel
theorem dL_tilesWith_16 : decode cL_tilesWith 16 = .ok (.ireturn, 1) := by decide +kernel
theorem dL_isPass_0 : decode cL_isPass 0 = .ok (.aload_n 2, 1) := by decide +kernel
theorem dL_isPass_1 : decode cL_isPass 1 = .ok (.iconst 0, 1) := by decide +kernel
theorem dL_isPass_2 : decode cL_isPass 2 = .ok (.aload_n 0, 1) := by decide +kernel
theorem dL_isPass_3 : decode cL_isPass 3 = .ok (.iload_n 1, 1) := by decide +kernel
theorem dL_isPass_4 : decode cL_isPass 4 = .ok (.invokevirtual 69, 3) := by decide +kernel
theorem dL_isPass_7 : decode cL_isPass 7 = .ok (.ifCond .eq 7, 3) := by decide +kernel
theorem dL_isPass_10 : decode cL_isPass 10 = .ok (.lconst 1, 1) := by decide +kernel
theorem dL_isPass_11 : decode cL_isPass 11 = .ok (.goto 4, 3) := by decide +kernel
theorem dL_isPass_14 : decode cL_isPass 14 = .ok (.lconst 0, 1) := by decide +kernel
theorem dL_isPass_15 : decode cL_isPass 15 = .ok (.lastore, 1) := by decide +kernel
theorem dL_isPass_16 : decode cL_isPass 16 = .ok (.goto 6, 3) := by decide +kernel
theorem dL_isPass_19 : decode cL_isPass 19 = .ok (.astore_n 3, 1) := by decide +kernel
theorem dL_isPass_20 : decode cL_isPass 20 = .ok (.iconst 1, 1) := by decide +kernel
theorem dL_isPass_21 : decode cL_isPass 21 = .ok (.ireturn, 1) := by decide +kernel
theorem dL_isPass_22 : decode cL_isPass 22 = .ok (.iconst 0, 1) := by decide +kernel
theorem dL_isPass_23 : decode cL_isPass 23 = .ok (.ireturn, 1) := by decide +kernel
theorem dL_moveChain_0 : decode cL_moveChain 0 = .ok (.aload_n 2, 1) := by decide +kernel
theorem dL_moveChain_1 : decode cL_moveChain 1 = .ok (.iconst 0, 1) := by decide +kernel
theorem dL_moveChain_2 : decode cL_moveChain 2 = .ok (.aload_n 0, 1) := by decide +kernel
theorem dL_moveChain_3 : decode cL_moveChain 3 = .ok (.iload_n 1, 1) := by decide +kernel
theorem dL_moveChain_4 : decode cL_moveChain 4 = .ok (.invokevirtual 73, 3) := by decide +kernel
theorem dL_moveChain_7 : decode cL_moveChain 7 = .ok (.i2l, 1) := by decide +kernel
theorem dL_moveChain_8 : decode cL_moveChain 8 = .ok (.lastore, 1) := by decide +kernel
theorem dL_moveChain_9 : decode cL_moveChain 9 = .ok (.goto 6, 3) := by decide +kernel
theorem dL_moveChain_12 : decode cL_moveChain 12 = .ok (.astore_n 3, 1) := by decide +kernel
theorem dL_moveChain_13 : decode cL_moveChain 13 = .ok (.iconst 1, 1) := by decide +kernel
theorem dL_moveChain_14 : decode cL_moveChain 14 = .ok (.ireturn, 1) := by decide +kernel
theorem dL_moveChain_15 : decode cL_moveChain 15 = .ok (.iconst 0, 1) := by decide +kernel
theorem dL_moveChain_16 : decode cL_moveChain 16 = .ok (.ireturn, 1) := by decide +kernel
theorem dL_isLeftBurn_0 : decode cL_isLeftBurn 0 = .ok (.aload_n 2, 1) := by decide +kernel
theorem dL_isLeftBurn_1 : decode cL_isLeftBurn 1 = .ok (.iconst 0, 1) := by decide +kernel
theorem dL_isLeftBurn_2 : decode cL_isLeftBurn 2 = .ok (.aload_n 0, 1) := by decide +kernel
theorem dL_isLeftBurn_3 : decode cL_isLeftBurn 3 = .ok (.iload_n 1, 1) := by decide +kernel
theorem dL_isLeftBurn_4 : decode cL_isLeftBurn 4 = .ok (.invokevirtual 76, 3) := by decide +kernel
theorem dL_isLeftBurn_7 : decode cL_isLeftBurn 7 = .ok (.ifCond .eq 7, 3) := by decide +kernel
theorem dL_isLeftBurn_10 : decode cL_isLeftBurn 10 = .ok (.lconst 1, 1) := by decide +kernel
theorem dL_isLeftBurn_11 : decode cL_isLeftBurn 11 = .ok (.goto 4, 3) := by decide +kernel
theorem dL_isLeftBurn_14 : decode cL_isLeftBurn 14 = .ok (.lconst 0, 1) := by decide +kernel
theorem dL_isLeftBurn_15 : decode cL_isLeftBurn 15 = .ok (.lastore, 1) := by decide +kernel
theorem dL_isLeftBurn_16 : decode cL_isLeftBurn 16 = .ok (.goto 6, 3) := by decide +kernel
theorem dL_isLeftBurn_19 : decode cL_isLeftBurn 19 = .ok (.astore_n 3, 1) := by decide +kernel
theorem dL_isLeftBurn_20 : decode cL_isLeftBurn 20 = .ok (.iconst 1, 1) := by decide +kernel
theorem dL_isLeftBurn_21 : decode cL_isLeftBurn 21 = .ok (.ireturn, 1) := by decide +kernel
theorem dL_isLeftBurn_22 : decode cL_isLeftBurn 22 = .ok (.iconst 0, 1) := by decide +kernel
theorem dL_isLeftBurn_23 : decode cL_isLeftBurn 23 = .ok (.ireturn, 1) := by decide +kernel
theorem dL_moveScore_0 : decode cL_moveScore 0 = .ok (.aload_n 2, 1) := by decide +kernel
theorem dL_moveScore_1 : decode cL_moveScore 1 = .ok (.iconst 0, 1) := by decide +kernel
theorem dL_moveScore_2 : decode cL_moveScore 2 = .ok (.aload_n 0, 1) := by decide +kernel
theorem dL_moveScore_3 : decode cL_moveScore 3 = .ok (.iload_n 1, 1) := by decide +kernel
theorem dL_moveScore_4 : decode cL_moveScore 4 = .ok (.invokevirtual 79, 3) := by decide +kernel
theorem dL_moveScore_7 : decode cL_moveScore 7 = .ok (.i2l, 1) := by decide +kernel
theorem dL_moveScore_8 : decode cL_moveScore 8 = .ok (.lastore, 1) := by decide +kernel
theorem dL_moveScore_9 : decode cL_moveScore 9 = .ok (.goto 6, 3) := by decide +kernel
theorem dL_moveScore_12 : decode cL_moveScore 12 = .ok (.astore_n 3, 1) := by decide +kernel
theorem dL_moveScore_13 : decode cL_moveScore 13 = .ok (.iconst 1, 1) := by decide +kernel
theorem dL_moveScore_14 : decode cL_moveScore 14 = .ok (.ireturn, 1) := by decide +kernel
theorem dL_moveScore_15 : decode cL_moveScore 15 = .ok (.iconst 0, 1) := by decide +kernel
theorem dL_moveScore_16 : decode cL_moveScore 16 = .ok (.ireturn, 1) := by decide +kernel
theorem dL_loggedScore_0 : decode cL_loggedScore 0 = .ok (.aload_n 2, 1) := by decide +kernel
theorem dL_loggedScore_1 : decode cL_loggedScore 1 = .ok (.iconst 0, 1) := by decide +kernel
theorem dL_loggedScore_2 : decode cL_loggedScore 2 = .ok (.aload_n 0, 1) := by decide +kernel
theorem dL_loggedScore_3 : decode cL_loggedScore 3 = .ok (.iload_n 1, 1) := by decide +kernel
theorem dL_loggedScore_4 : decode cL_loggedScore 4 = .ok (.invokevirtual 82, 3) := by decide +kernel
theorem dL_loggedScore_7 : decode cL_loggedScore 7 = .ok (.i2l, 1) := by decide +kernel
theorem dL_loggedScore_8 : decode cL_loggedScore 8 = .ok (.lastore, 1) := by decide +kernel
theorem dL_loggedScore_9 : decode cL_loggedScore 9 = .ok (.goto 6, 3) := by decide +kernel
theorem dL_loggedScore_12 : decode cL_loggedScore 12 = .ok (.astore_n 3, 1) := by decide +kernel
theorem dL_loggedScore_13 : decode cL_loggedScore 13 = .ok (.iconst 1, 1) := by decide +kernel
theorem dL_loggedScore_14 : decode cL_loggedScore 14 = .ok (.ireturn, 1) := by decide +kernel
theorem dL_loggedScore_15 : decode cL_loggedScore 15 = .ok (.iconst 0, 1) := by decide +kernel
theorem dL_loggedScore_16 : decode cL_loggedScore 16 = .ok (.ireturn, 1) := by decide +kernel
theorem dL_loggedChain_0 : decode cL_loggedChain 0 = .ok (.aload_n 2, 1) := by decide +kernel
theorem dL_loggedChain_1 : decode cL_loggedChain 1 = .ok (.iconst 0, 1) := by decide +kernel
theorem dL_loggedChain_2 : decode cL_loggedChain 2 = .ok (.aload_n 0, 1) := by decide +kernel
theorem dL_loggedChain_3 : decode cL_loggedChain 3 = .ok (.iload_n 1, 1) := by decide +kernel
theorem dL_loggedChain_4 : decode cL_loggedChain 4 = .ok (.invokevirtual 85, 3) := by decide +kernel
theorem dL_loggedChain_7 : decode cL_loggedChain 7 = .ok (.i2l, 1) := by decide +kernel
theorem dL_loggedChain_8 : decode cL_loggedChain 8 = .ok (.lastore, 1) := by decide +kernel
theorem dL_loggedChain_9 : decode cL_loggedChain 9 = .ok (.goto 6, 3) := by decide +kernel
theorem dL_loggedChain_12 : decode cL_loggedChain 12 = .ok (.astore_n 3, 1) := by decide +kernel
theorem dL_loggedChain_13 : decode cL_loggedChain 13 = .ok (.iconst 1, 1) := by decide +kernel
theorem dL_loggedChain_14 : decode cL_loggedChain 14 = .ok (.ireturn, 1) := by decide +kernel
theorem dL_loggedChain_15 : decode cL_loggedChain 15 = .ok (.iconst 0, 1) := by decide +kernel
theorem dL_loggedChain_16 : decode cL_loggedChain 16 = .ok (.ireturn, 1) := by decide +kernel
theorem dL_greatestPossibleScore_0 : decode cL_greatestPossibleScore 0 = .ok (.aload_n 2, 1) := by decide +kernel
theorem dL_greatestPossibleScore_1 : decode cL_greatestPossibleScore 1 = .ok (.iconst 0, 1) := by decide +kernel
theorem dL_greatestPossibleScore_2 : decode cL_greatestPossibleScore 2 = .ok (.aload_n 0, 1) := by decide +kernel
theorem dL_greatestPossibleScore_3 : decode cL_greatestPossibleScore 3 = .ok (.iload_n 1, 1) := by decide +kernel
theorem dL_greatestPossibleScore_4 : decode cL_greatestPossibleScore 4 = .ok (.invokevirtual 88, 3) := by decide +kernel
theorem dL_greatestPossibleScore_7 : decode cL_greatestPossibleScore 7 = .ok (.i2l, 1) := by decide +kernel
theorem dL_greatestPossibleScore_8 : decode cL_greatestPossibleScore 8 = .ok (.lastore, 1) := by decide +kernel
theorem dL_greatestPossibleScore_9 : decode cL_greatestPossibleScore 9 = .ok (.goto 6, 3) := by decide +kernel
theorem dL_greatestPossibleScore_12 : decode cL_greatestPossibleScore 12 = .ok (.astore_n 3, 1) := by decide +kernel
theorem dL_greatestPossibleScore_13 : decode cL_greatestPossibleScore 13 = .ok (.iconst 1, 1) := by decide +kernel
theorem dL_greatestPossibleScore_14 : decode cL_greatestPossibleScore 14 = .ok (.ireturn, 1) := by decide +kernel
theorem dL_greatestPossibleScore_15 : decode cL_greatestPossibleScore 15 = .ok (.iconst 0, 1) := by decide +kernel
theorem dL_greatestPossibleScore_16 : decode cL_greatestPossibleScore 16 = .ok (.ireturn, 1) := by decide +kernel
theorem dL_canStillWin_0 : decode cL_canStillWin 0 = .ok (.aload_n 2, 1) := by decide +kernel
theorem dL_canStillWin_1 : decode cL_canStillWin 1 = .ok (.iconst 0, 1) := by decide +kernel
theorem dL_canStillWin_2 : decode cL_canStillWin 2 = .ok (.aload_n 0, 1) := by decide +kernel
theorem dL_canStillWin_3 : decode cL_canStillWin 3 = .ok (.iload_n 1, 1) := by decide +kernel
theorem dL_canStillWin_4 : decode cL_canStillWin 4 = .ok (.invokevirtual 91, 3) := by decide +kernel
theorem dL_canStillWin_7 : decode cL_canStillWin 7 = .ok (.ifCond .eq 7, 3) := by decide +kernel
theorem dL_canStillWin_10 : decode cL_canStillWin 10 = .ok (.lconst 1, 1) := by decide +kernel
theorem dL_canStillWin_11 : decode cL_canStillWin 11 = .ok (.goto 4, 3) := by decide +kernel
theorem dL_canStillWin_14 : decode cL_canStillWin 14 = .ok (.lconst 0, 1) := by decide +kernel
theorem dL_canStillWin_15 : decode cL_canStillWin 15 = .ok (.lastore, 1) := by decide +kernel
theorem dL_canStillWin_16 : decode cL_canStillWin 16 = .ok (.goto 6, 3) := by decide +kernel
theorem dL_canStillWin_19 : decode cL_canStillWin 19 = .ok (.astore_n 3, 1) := by decide +kernel
theorem dL_canStillWin_20 : decode cL_canStillWin 20 = .ok (.iconst 1, 1) := by decide +kernel
theorem dL_canStillWin_21 : decode cL_canStillWin 21 = .ok (.ireturn, 1) := by decide +kernel
theorem dL_canStillWin_22 : decode cL_canStillWin 22 = .ok (.iconst 0, 1) := by decide +kernel
theorem dL_canStillWin_23 : decode cL_canStillWin 23 = .ok (.ireturn, 1) := by decide +kernel
theorem dL_moveValue_0 : decode cL_moveValue 0 = .ok (.aload_n 2, 1) := by decide +kernel
theorem dL_moveValue_1 : decode cL_moveValue 1 = .ok (.iconst 0, 1) := by decide +kernel
theorem dL_moveValue_2 : decode cL_moveValue 2 = .ok (.aload_n 0, 1) := by decide +kernel
theorem dL_moveValue_3 : decode cL_moveValue 3 = .ok (.iload_n 1, 1) := by decide +kernel
theorem dL_moveValue_4 : decode cL_moveValue 4 = .ok (.invokevirtual 94, 3) := by decide +kernel
theorem dL_moveValue_7 : decode cL_moveValue 7 = .ok (.i2l, 1) := by decide +kernel
theorem dL_moveValue_8 : decode cL_moveValue 8 = .ok (.lastore, 1) := by decide +kernel
theorem dL_moveValue_9 : decode cL_moveValue 9 = .ok (.goto 6, 3) := by decide +kernel
theorem dL_moveValue_12 : decode cL_moveValue 12 = .ok (.astore_n 3, 1) := by decide +kernel
theorem dL_moveValue_13 : decode cL_moveValue 13 = .ok (.iconst 1, 1) := by decide +kernel
theorem dL_moveValue_14 : decode cL_moveValue 14 = .ok (.ireturn, 1) := by decide +kernel
theorem dL_moveValue_15 : decode cL_moveValue 15 = .ok (.iconst 0, 1) := by decide +kernel
theorem dL_moveValue_16 : decode cL_moveValue 16 = .ok (.ireturn, 1) := by decide +kernel
theorem dL_optimalMove_0 : decode cL_optimalMove 0 = .ok (.aload_n 1, 1) := by decide +kernel
theorem dL_optimalMove_1 : decode cL_optimalMove 1 = .ok (.iconst 0, 1) := by decide +kernel
theorem dL_optimalMove_2 : decode cL_optimalMove 2 = .ok (.aload_n 0, 1) := by decide +kernel
theorem dL_optimalMove_3 : decode cL_optimalMove 3 = .ok (.invokevirtual 97, 3) := by decide +kernel
theorem dL_optimalMove_6 : decode cL_optimalMove 6 = .ok (.i2l, 1) := by decide +kernel
theorem dL_optimalMove_7 : decode cL_optimalMove 7 = .ok (.lastore, 1) := by decide +kernel
theorem dL_optimalMove_8 : decode cL_optimalMove 8 = .ok (.goto 6, 3) := by decide +kernel
theorem dL_optimalMove_11 : decode cL_optimalMove 11 = .ok (.astore_n 2, 1) := by decide +kernel
theorem dL_optimalMove_12 : decode cL_optimalMove 12 = .ok (.iconst 1, 1) := by decide +kernel
theorem dL_optimalMove_13 : decode cL_optimalMove 13 = .ok (.ireturn, 1) := by decide +kernel
theorem dL_optimalMove_14 : decode cL_optimalMove 14 = .ok (.iconst 0, 1) := by decide +kernel
theorem dL_optimalMove_15 : decode cL_optimalMove 15 = .ok (.ireturn, 1) := by decide +kernel
theorem dL_worstMove_0 : decode cL_worstMove 0 = .ok (.aload_n 1, 1) := by decide +kernel
theorem dL_worstMove_1 : decode cL_worstMove 1 = .ok (.iconst 0, 1) := by decide +kernel
theorem dL_worstMove_2 : decode cL_worstMove 2 = .ok (.aload_n 0, 1) := by decide +kernel
theorem dL_worstMove_3 : decode cL_worstMove 3 = .ok (.invokevirtual 102, 3) := by decide +kernel
theorem dL_worstMove_6 : decode cL_worstMove 6 = .ok (.i2l, 1) := by decide +kernel
theorem dL_worstMove_7 : decode cL_worstMove 7 = .ok (.lastore, 1) := by decide +kernel
theorem dL_worstMove_8 : decode cL_worstMove 8 = .ok (.goto 6, 3) := by decide +kernel
theorem dL_worstMove_11 : decode cL_worstMove 11 = .ok (.astore_n 2, 1) := by decide +kernel
theorem dL_worstMove_12 : decode cL_worstMove 12 = .ok (.iconst 1, 1) := by decide +kernel
theorem dL_worstMove_13 : decode cL_worstMove 13 = .ok (.ireturn, 1) := by decide +kernel
theorem dL_worstMove_14 : decode cL_worstMove 14 = .ok (.iconst 0, 1) := by decide +kernel
theorem dL_worstMove_15 : decode cL_worstMove 15 = .ok (.ireturn, 1) := by decide +kernel
theorem dL_optimalLineScore_0 : decode cL_optimalLineScore 0 = .ok (.aload_n 2, 1) := by decide +kernel
theorem dL_optimalLineScore_1 : decode cL_optimalLineScore 1 = .ok (.iconst 0, 1) := by decide +kernel
theorem dL_optimalLineScore_2 : decode cL_optimalLineScore 2 = .ok (.aload_n 0, 1) := by decide +kernel
theorem dL_optimalLineScore_3 : decode cL_optimalLineScore 3 = .ok (.iload_n 1, 1) := by decide +kernel
theorem dL_optimalLineScore_4 : decode cL_optimalLineScore 4 = .ok (.invokevirtual 105, 3) := by decide +kernel
theorem dL_optimalLineScore_7 : decode cL_optimalLineScore 7 = .ok (.i2l, 1) := by decide +kernel
theorem dL_optimalLineScore_8 : decode cL_optimalLineScore 8 = .ok (.lastore, 1) := by decide +kernel
theorem dL_optimalLineScore_9 : decode cL_optimalLineScore 9 = .ok (.goto 6, 3) := by decide +kernel
theorem dL_optimalLineScore_12 : decode cL_optimalLineScore 12 = .ok (.astore_n 3, 1) := by decide +kernel
theorem dL_optimalLineScore_13 : decode cL_optimalLineScore 13 = .ok (.iconst 1, 1) := by decide +kernel
theorem dL_optimalLineScore_14 : decode cL_optimalLineScore 14 = .ok (.ireturn, 1) := by decide +kernel
theorem dL_optimalLineScore_15 : decode cL_optimalLineScore 15 = .ok (.iconst 0, 1) := by decide +kernel
theorem dL_optimalLineScore_16 : decode cL_optimalLineScore 16 = .ok (.ireturn, 1) := by decide +kernel
theorem dL_chainDifference_0 : decode cL_chainDifference 0 = .ok (.aload_n 2, 1) := by decide +kernel
theorem dL_chainDifference_1 : decode cL_chainDifference 1 = .ok (.iconst 0, 1) := by decide +kernel
theorem dL_chainDifference_2 : decode cL_chainDifference 2 = .ok (.aload_n 0, 1) := by decide +kernel
theorem dL_chainDifference_3 : decode cL_chainDifference 3 = .ok (.iload_n 1, 1) := by decide +kernel
theorem dL_chainDifference_4 : decode cL_chainDifference 4 = .ok (.invokevirtual 108, 3) := by decide +kernel
theorem dL_chainDifference_7 : decode cL_chainDifference 7 = .ok (.i2l, 1) := by decide +kernel
theorem dL_chainDifference_8 : decode cL_chainDifference 8 = .ok (.lastore, 1) := by decide +kernel
theorem dL_chainDifference_9 : decode cL_chainDifference 9 = .ok (.goto 6, 3) := by decide +kernel
theorem dL_chainDifference_12 : decode cL_chainDifference 12 = .ok (.astore_n 3, 1) := by decide +kernel
theorem dL_chainDifference_13 : decode cL_chainDifference 13 = .ok (.iconst 1, 1) := by decide +kernel
theorem dL_chainDifference_14 : decode cL_chainDifference 14 = .ok (.ireturn, 1) := by decide +kernel
theorem dL_chainDifference_15 : decode cL_chainDifference 15 = .ok (.iconst 0, 1) := by decide +kernel
theorem dL_chainDifference_16 : decode cL_chainDifference 16 = .ok (.ireturn, 1) := by decide +kernel
theorem dL_greedyMove_0 : decode cL_greedyMove 0 = .ok (.aload_n 1, 1) := by decide +kernel
theorem dL_greedyMove_1 : decode cL_greedyMove 1 = .ok (.iconst 0, 1) := by decide +kernel
theorem dL_greedyMove_2 : decode cL_greedyMove 2 = .ok (.aload_n 0, 1) := by decide +kernel
theorem dL_greedyMove_3 : decode cL_greedyMove 3 = .ok (.invokevirtual 111, 3) := by decide +kernel
theorem dL_greedyMove_6 : decode cL_greedyMove 6 = .ok (.i2l, 1) := by decide +kernel
theorem dL_greedyMove_7 : decode cL_greedyMove 7 = .ok (.lastore, 1) := by decide +kernel
theorem dL_greedyMove_8 : decode cL_greedyMove 8 = .ok (.goto 6, 3) := by decide +kernel
theorem dL_greedyMove_11 : decode cL_greedyMove 11 = .ok (.astore_n 2, 1) := by decide +kernel
theorem dL_greedyMove_12 : decode cL_greedyMove 12 = .ok (.iconst 1, 1) := by decide +kernel
theorem dL_greedyMove_13 : decode cL_greedyMove 13 = .ok (.ireturn, 1) := by decide +kernel
theorem dL_greedyMove_14 : decode cL_greedyMove 14 = .ok (.iconst 0, 1) := by decide +kernel
theorem dL_greedyMove_15 : decode cL_greedyMove 15 = .ok (.ireturn, 1) := by decide +kernel
theorem dL_burn_0 : decode cL_burn 0 = .ok (.aload_n 3, 1) := by decide +kernel
theorem dL_burn_1 : decode cL_burn 1 = .ok (.iconst 0, 1) := by decide +kernel
theorem dL_burn_2 : decode cL_burn 2 = .ok (.aload_n 0, 1) := by decide +kernel
theorem dL_burn_3 : decode cL_burn 3 = .ok (.iload_n 1, 1) := by decide +kernel
theorem dL_burn_4 : decode cL_burn 4 = .ok (.iload_n 2, 1) := by decide +kernel
theorem dL_burn_5 : decode cL_burn 5 = .ok (.invokevirtual 114, 3) := by decide +kernel
theorem dL_burn_8 : decode cL_burn 8 = .ok (.i2l, 1) := by decide +kernel
theorem dL_burn_9 : decode cL_burn 9 = .ok (.lastore, 1) := by decide +kernel
theorem dL_burn_10 : decode cL_burn 10 = .ok (.goto 11, 3) := by decide +kernel
theorem dL_burn_13 : decode cL_burn 13 = .ok (.astore 4, 2) := by decide +kernel
theorem dL_burn_15 : decode cL_burn 15 = .ok (.iconst 1, 1) := by decide +kernel
theorem dL_burn_16 : decode cL_burn 16 = .ok (.ireturn, 1) := by decide +kernel
theorem dL_burn_17 : decode cL_burn 17 = .ok (.astore 4, 2) := by decide +kernel
theorem dL_burn_19 : decode cL_burn 19 = .ok (.iconst 2, 1) := by decide +kernel
theorem dL_burn_20 : decode cL_burn 20 = .ok (.ireturn, 1) := by decide +kernel
theorem dL_burn_21 : decode cL_burn 21 = .ok (.iconst 0, 1) := by decide +kernel
theorem dL_burn_22 : decode cL_burn 22 = .ok (.ireturn, 1) := by decide +kernel
theorem dL_pass_0 : decode cL_pass 0 = .ok (.aload_n 1, 1) := by decide +kernel
theorem dL_pass_1 : decode cL_pass 1 = .ok (.iconst 0, 1) := by decide +kernel
theorem dL_pass_2 : decode cL_pass 2 = .ok (.aload_n 0, 1) := by decide +kernel
theorem dL_pass_3 : decode cL_pass 3 = .ok (.invokevirtual 118, 3) := by decide +kernel
theorem dL_pass_6 : decode cL_pass 6 = .ok (.ifCond .eq 7, 3) := by decide +kernel
theorem dL_pass_9 : decode cL_pass 9 = .ok (.lconst 1, 1) := by decide +kernel
theorem dL_pass_10 : decode cL_pass 10 = .ok (.goto 4, 3) := by decide +kernel
theorem dL_pass_13 : decode cL_pass 13 = .ok (.lconst 0, 1) := by decide +kernel
theorem dL_pass_14 : decode cL_pass 14 = .ok (.lastore, 1) := by decide +kernel
theorem dL_pass_15 : decode cL_pass 15 = .ok (.goto 6, 3) := by decide +kernel
theorem dL_pass_18 : decode cL_pass 18 = .ok (.astore_n 2, 1) := by decide +kernel
theorem dL_pass_19 : decode cL_pass 19 = .ok (.iconst 1, 1) := by decide +kernel
theorem dL_pass_20 : decode cL_pass 20 = .ok (.ireturn, 1) := by decide +kernel
theorem dL_pass_21 : decode cL_pass 21 = .ok (.iconst 0, 1) := by decide +kernel
theorem dL_pass_22 : decode cL_pass 22 = .ok (.ireturn, 1) := by decide +kernel
theorem dL_playOptimally_0 : decode cL_playOptimally 0 = .ok (.aload_n 2, 1) := by decide +kernel
theorem dL_playOptimally_1 : decode cL_playOptimally 1 = .ok (.iconst 0, 1) := by decide +kernel
theorem dL_playOptimally_2 : decode cL_playOptimally 2 = .ok (.aload_n 0, 1) := by decide +kernel
theorem dL_playOptimally_3 : decode cL_playOptimally 3 = .ok (.iload_n 1, 1) := by decide +kernel
theorem dL_playOptimally_4 : decode cL_playOptimally 4 = .ok (.invokevirtual 122, 3) := by decide +kernel
theorem dL_playOptimally_7 : decode cL_playOptimally 7 = .ok (.i2l, 1) := by decide +kernel
theorem dL_playOptimally_8 : decode cL_playOptimally 8 = .ok (.lastore, 1) := by decide +kernel
theorem dL_playOptimally_9 : decode cL_playOptimally 9 = .ok (.goto 6, 3) := by decide +kernel
theorem dL_playOptimally_12 : decode cL_playOptimally 12 = .ok (.astore_n 3, 1) := by decide +kernel
theorem dL_playOptimally_13 : decode cL_playOptimally 13 = .ok (.iconst 1, 1) := by decide +kernel
theorem dL_playOptimally_14 : decode cL_playOptimally 14 = .ok (.ireturn, 1) := by decide +kernel
theorem dL_playOptimally_15 : decode cL_playOptimally 15 = .ok (.iconst 0, 1) := by decide +kernel
theorem dL_playOptimally_16 : decode cL_playOptimally 16 = .ok (.ireturn, 1) := by decide +kernel
theorem dL_startNextRound_0 : decode cL_startNextRound 0 = .ok (.aload_n 1, 1) := by decide +kernel
theorem dL_startNextRound_1 : decode cL_startNextRound 1 = .ok (.iconst 0, 1) := by decide +kernel
theorem dL_startNextRound_2 : decode cL_startNextRound 2 = .ok (.aload_n 0, 1) := by decide +kernel
theorem dL_startNextRound_3 : decode cL_startNextRound 3 = .ok (.invokevirtual 125, 3) := by decide +kernel
theorem dL_startNextRound_6 : decode cL_startNextRound 6 = .ok (.i2l, 1) := by decide +kernel
theorem dL_startNextRound_7 : decode cL_startNextRound 7 = .ok (.lastore, 1) := by decide +kernel
theorem dL_startNextRound_8 : decode cL_startNextRound 8 = .ok (.goto 6, 3) := by decide +kernel
theorem dL_startNextRound_11 : decode cL_startNextRound 11 = .ok (.astore_n 2, 1) := by decide +kernel
theorem dL_startNextRound_12 : decode cL_startNextRound 12 = .ok (.iconst 1, 1) := by decide +kernel
theorem dL_startNextRound_13 : decode cL_startNextRound 13 = .ok (.ireturn, 1) := by decide +kernel
theorem dL_startNextRound_14 : decode cL_startNextRound 14 = .ok (.iconst 0, 1) := by decide +kernel
theorem dL_startNextRound_15 : decode cL_startNextRound 15 = .ok (.ireturn, 1) := by decide +kernel
theorem dL_undo_0 : decode cL_undo 0 = .ok (.aload_n 1, 1) := by decide +kernel
theorem dL_undo_1 : decode cL_undo 1 = .ok (.iconst 0, 1) := by decide +kernel
theorem dL_undo_2 : decode cL_undo 2 = .ok (.aload_n 0, 1) := by decide +kernel
theorem dL_undo_3 : decode cL_undo 3 = .ok (.invokevirtual 128, 3) := by decide +kernel
theorem dL_undo_6 : decode cL_undo 6 = .ok (.i2l, 1) := by decide +kernel
theorem dL_undo_7 : decode cL_undo 7 = .ok (.lastore, 1) := by decide +kernel
theorem dL_undo_8 : decode cL_undo 8 = .ok (.goto 6, 3) := by decide +kernel
theorem dL_undo_11 : decode cL_undo 11 = .ok (.astore_n 2, 1) := by decide +kernel
theorem dL_undo_12 : decode cL_undo 12 = .ok (.iconst 1, 1) := by decide +kernel
theorem dL_undo_13 : decode cL_undo 13 = .ok (.ireturn, 1) := by decide +kernel
theorem dL_undo_14 : decode cL_undo 14 = .ok (.iconst 0, 1) := by decide +kernel
theorem dL_undo_15 : decode cL_undo 15 = .ok (.ireturn, 1) := by decide +kernel
theorem dL_restore_0 : decode cL_restore 0 = .ok (.aload_n 1, 1) := by decide +kernel
theorem dL_restore_1 : decode cL_restore 1 = .ok (.iconst 0, 1) := by decide +kernel
theorem dL_restore_2 : decode cL_restore 2 = .ok (.aload_n 0, 1) := by decide +kernel
theorem dL_restore_3 : decode cL_restore 3 = .ok (.invokevirtual 131, 3) := by decide +kernel
theorem dL_restore_6 : decode cL_restore 6 = .ok (.i2l, 1) := by decide +kernel
theorem dL_restore_7 : decode cL_restore 7 = .ok (.lastore, 1) := by decide +kernel
theorem dL_restore_8 : decode cL_restore 8 = .ok (.goto 6, 3) := by decide +kernel
theorem dL_restore_11 : decode cL_restore 11 = .ok (.astore_n 2, 1) := by decide +kernel
theorem dL_restore_12 : decode cL_restore 12 = .ok (.iconst 1, 1) := by decide +kernel
theorem dL_restore_13 : decode cL_restore 13 = .ok (.ireturn, 1) := by decide +kernel
theorem dL_restore_14 : decode cL_restore 14 = .ok (.iconst 0, 1) := by decide +kernel
theorem dL_restore_15 : decode cL_restore 15 = .ok (.ireturn, 1) := by decide +kernel
theorem dL_formatChain_0 : decode cL_formatChain 0 = .ok (.aload_n 2, 1) := by decide +kernel
theorem dL_formatChain_1 : decode cL_formatChain 1 = .ok (.iconst 0, 1) := by decide +kernel
theorem dL_formatChain_2 : decode cL_formatChain 2 = .ok (.aload_n 0, 1) := by decide +kernel
theorem dL_formatChain_3 : decode cL_formatChain 3 = .ok (.iload_n 1, 1) := by decide +kernel
theorem dL_formatChain_4 : decode cL_formatChain 4 = .ok (.invokevirtual 134, 3) := by decide +kernel
theorem dL_formatChain_7 : decode cL_formatChain 7 = .ok (.i2l, 1) := by decide +kernel
theorem dL_formatChain_8 : decode cL_formatChain 8 = .ok (.lastore, 1) := by decide +kernel
theorem dL_formatChain_9 : decode cL_formatChain 9 = .ok (.goto 6, 3) := by decide +kernel
theorem dL_formatChain_12 : decode cL_formatChain 12 = .ok (.astore_n 3, 1) := by decide +kernel
theorem dL_formatChain_13 : decode cL_formatChain 13 = .ok (.iconst 1, 1) := by decide +kernel
theorem dL_formatChain_14 : decode cL_formatChain 14 = .ok (.ireturn, 1) := by decide +kernel
theorem dL_formatChain_15 : decode cL_formatChain 15 = .ok (.iconst 0, 1) := by decide +kernel
theorem dL_formatChain_16 : decode cL_formatChain 16 = .ok (.ireturn, 1) := by decide +kernel
theorem dL_formattedCharacter_0 : decode cL_formattedCharacter 0 = .ok (.aload_n 2, 1) := by decide +kernel
theorem dL_formattedCharacter_1 : decode cL_formattedCharacter 1 = .ok (.iconst 0, 1) := by decide +kernel
theorem dL_formattedCharacter_2 : decode cL_formattedCharacter 2 = .ok (.aload_n 0, 1) := by decide +kernel
theorem dL_formattedCharacter_3 : decode cL_formattedCharacter 3 = .ok (.iload_n 1, 1) := by decide +kernel
theorem dL_formattedCharacter_4 : decode cL_formattedCharacter 4 = .ok (.invokevirtual 137, 3) := by decide +kernel
theorem dL_formattedCharacter_7 : decode cL_formattedCharacter 7 = .ok (.i2l, 1) := by decide +kernel
theorem dL_formattedCharacter_8 : decode cL_formattedCharacter 8 = .ok (.lastore, 1) := by decide +kernel
theorem dL_formattedCharacter_9 : decode cL_formattedCharacter 9 = .ok (.goto 6, 3) := by decide +kernel
theorem dL_formattedCharacter_12 : decode cL_formattedCharacter 12 = .ok (.astore_n 3, 1) := by decide +kernel
theorem dL_formattedCharacter_13 : decode cL_formattedCharacter 13 = .ok (.iconst 1, 1) := by decide +kernel
theorem dL_formattedCharacter_14 : decode cL_formattedCharacter 14 = .ok (.ireturn, 1) := by decide +kernel
theorem dL_formattedCharacter_15 : decode cL_formattedCharacter 15 = .ok (.iconst 0, 1) := by decide +kernel
theorem dL_formattedCharacter_16 : decode cL_formattedCharacter 16 = .ok (.ireturn, 1) := by decide +kernel
