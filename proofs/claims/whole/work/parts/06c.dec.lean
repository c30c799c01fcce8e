theorem dX8_load_12 : decode cX8_load 12 = .ok (.invokevirtual 91, 3) := by decide +kernel
theorem dX8_load_15 : decode cX8_load 15 = .ok (.ifCond .eq 17, 3) := by decide +kernel
theorem dX8_load_18 : decode cX8_load 18 = .ok (.aload_n 0, 1) := by decide +kernel
theorem dX8_load_19 : decode cX8_load 19 = .ok (.getfield 23, 3) := by decide +kernel
theorem dX8_load_22 : decode cX8_load 22 = .ok (.invokevirtual 95, 3) := by decide +kernel
theorem dX8_load_25 : decode cX8_load 25 = .ok (.ifCond .eq 7, 3) := by decide +kernel
theorem dX8_load_28 : decode cX8_load 28 = .ok (.iconst 1, 1) := by decide +kernel
theorem dX8_load_29 : decode cX8_load 29 = .ok (.goto 4, 3) := by decide +kernel
theorem dX8_load_32 : decode cX8_load 32 = .ok (.iconst 0, 1) := by decide +kernel
theorem dX8_load_33 : decode cX8_load 33 = .ok (.istore_n 1, 1) := by decide +kernel
theorem dX8_load_34 : decode cX8_load 34 = .ok (.aload_n 0, 1) := by decide +kernel
theorem dX8_load_35 : decode cX8_load 35 = .ok (.iconst 0, 1) := by decide +kernel
theorem dX8_load_36 : decode cX8_load 36 = .ok (.putfield 68, 3) := by decide +kernel
theorem dX8_load_39 : decode cX8_load 39 = .ok (.aload_n 0, 1) := by decide +kernel
theorem dX8_load_40 : decode cX8_load 40 = .ok (.aload_n 0, 1) := by decide +kernel
theorem dX8_load_41 : decode cX8_load 41 = .ok (.getfield 23, 3) := by decide +kernel
theorem dX8_load_44 : decode cX8_load 44 = .ok (.getfield 99, 3) := by decide +kernel
theorem dX8_load_47 : decode cX8_load 47 = .ok (.putfield 13, 3) := by decide +kernel
theorem dX8_load_50 : decode cX8_load 50 = .ok (.aload_n 0, 1) := by decide +kernel
theorem dX8_load_51 : decode cX8_load 51 = .ok (.aload_n 0, 1) := by decide +kernel
theorem dX8_load_52 : decode cX8_load 52 = .ok (.getfield 23, 3) := by decide +kernel
theorem dX8_load_55 : decode cX8_load 55 = .ok (.getfield 100, 3) := by decide +kernel
theorem dX8_load_58 : decode cX8_load 58 = .ok (.putfield 17, 3) := by decide +kernel
theorem dX8_load_61 : decode cX8_load 61 = .ok (.iload_n 1, 1) := by decide +kernel
theorem dX8_load_62 : decode cX8_load 62 = .ok (.ifCond .ne 13, 3) := by decide +kernel
theorem dX8_load_65 : decode cX8_load 65 = .ok (.new 86, 3) := by decide +kernel
theorem dX8_load_68 : decode cX8_load 68 = .ok (.dup, 1) := by decide +kernel
theorem dX8_load_69 : decode cX8_load 69 = .ok (.ldc 101, 2) := by decide +kernel
theorem dX8_load_71 : decode cX8_load 71 = .ok (.invokespecial 90, 3) := by decide +kernel
theorem dX8_load_74 : decode cX8_load 74 = .ok (.athrow, 1) := by decide +kernel
theorem dX8_load_75 : decode cX8_load 75 = .ok (.aload_n 0, 1) := by decide +kernel
theorem dX8_load_76 : decode cX8_load 76 = .ok (.getfield 30, 3) := by decide +kernel
theorem dX8_load_79 : decode cX8_load 79 = .ok (.aload_n 0, 1) := by decide +kernel
theorem dX8_load_80 : decode cX8_load 80 = .ok (.getfield 23, 3) := by decide +kernel
theorem dX8_load_83 : decode cX8_load 83 = .ok (.getfield 103, 3) := by decide +kernel
theorem dX8_load_86 : decode cX8_load 86 = .ok (.invokevirtual 106, 3) := by decide +kernel
theorem dX8_load_89 : decode cX8_load 89 = .ok (.aload_n 0, 1) := by decide +kernel
theorem dX8_load_90 : decode cX8_load 90 = .ok (.getfield 47, 3) := by decide +kernel
theorem dX8_load_93 : decode cX8_load 93 = .ok (.invokevirtual 110, 3) := by decide +kernel
theorem dX8_load_96 : decode cX8_load 96 = .ok (.aload_n 0, 1) := by decide +kernel
theorem dX8_load_97 : decode cX8_load 97 = .ok (.iconst 0, 1) := by decide +kernel
theorem dX8_load_98 : decode cX8_load 98 = .ok (.putfield 113, 3) := by decide +kernel
theorem dX8_load_101 : decode cX8_load 101 = .ok (.aload_n 0, 1) := by decide +kernel
theorem dX8_load_102 : decode cX8_load 102 = .ok (.getfield 40, 3) := by decide +kernel
theorem dX8_load_105 : decode cX8_load 105 = .ok (.invokevirtual 117, 3) := by decide +kernel
theorem dX8_load_108 : decode cX8_load 108 = .ok (.aload_n 0, 1) := by decide +kernel
theorem dX8_load_109 : decode cX8_load 109 = .ok (.getfield 30, 3) := by decide +kernel
theorem dX8_load_112 : decode cX8_load 112 = .ok (.getfield 120, 3) := by decide +kernel
theorem dX8_load_115 : decode cX8_load 115 = .ok (.getfield 124, 3) := by decide +kernel
theorem dX8_load_118 : decode cX8_load 118 = .ok (.ireturn, 1) := by decide +kernel
theorem dX8_errorKind_0 : decode cX8_errorKind 0 = .ok (.aload_n 0, 1) := by decide +kernel
theorem dX8_errorKind_1 : decode cX8_errorKind 1 = .ok (.getfield 13, 3) := by decide +kernel
theorem dX8_errorKind_4 : decode cX8_errorKind 4 = .ok (.ireturn, 1) := by decide +kernel
theorem dX8_errorPosition_0 : decode cX8_errorPosition 0 = .ok (.aload_n 0, 1) := by decide +kernel
theorem dX8_errorPosition_1 : decode cX8_errorPosition 1 = .ok (.getfield 17, 3) := by decide +kernel
theorem dX8_errorPosition_4 : decode cX8_errorPosition 4 = .ok (.ireturn, 1) := by decide +kernel
theorem dX8_roundCount_0 : decode cX8_roundCount 0 = .ok (.aload_n 0, 1) := by decide +kernel
theorem dX8_roundCount_1 : decode cX8_roundCount 1 = .ok (.getfield 30, 3) := by decide +kernel
theorem dX8_roundCount_4 : decode cX8_roundCount 4 = .ok (.getfield 120, 3) := by decide +kernel
theorem dX8_roundCount_7 : decode cX8_roundCount 7 = .ok (.getfield 124, 3) := by decide +kernel
theorem dX8_roundCount_10 : decode cX8_roundCount 10 = .ok (.ireturn, 1) := by decide +kernel
theorem dX8_currentRound_0 : decode cX8_currentRound 0 = .ok (.aload_n 0, 1) := by decide +kernel
theorem dX8_currentRound_1 : decode cX8_currentRound 1 = .ok (.getfield 30, 3) := by decide +kernel
theorem dX8_currentRound_4 : decode cX8_currentRound 4 = .ok (.getfield 129, 3) := by decide +kernel
theorem dX8_currentRound_7 : decode cX8_currentRound 7 = .ok (.getfield 132, 3) := by decide +kernel
theorem dX8_currentRound_10 : decode cX8_currentRound 10 = .ok (.ireturn, 1) := by decide +kernel
theorem dX8_isRoundOver_0 : decode cX8_isRoundOver 0 = .ok (.aload_n 0, 1) := by decide +kernel
theorem dX8_isRoundOver_1 : decode cX8_isRoundOver 1 = .ok (.getfield 30, 3) := by decide +kernel
theorem dX8_isRoundOver_4 : decode cX8_isRoundOver 4 = .ok (.getfield 129, 3) := by decide +kernel
theorem dX8_isRoundOver_7 : decode cX8_isRoundOver 7 = .ok (.getfield 135, 3) := by decide +kernel
theorem dX8_isRoundOver_10 : decode cX8_isRoundOver 10 = .ok (.ireturn, 1) := by decide +kernel
theorem dX8_isMatchOver_0 : decode cX8_isMatchOver 0 = .ok (.aload_n 0, 1) := by decide +kernel
theorem dX8_isMatchOver_1 : decode cX8_isMatchOver 1 = .ok (.getfield 30, 3) := by decide +kernel
theorem dX8_isMatchOver_4 : decode cX8_isMatchOver 4 = .ok (.invokevirtual 138, 3) := by decide +kernel
theorem dX8_isMatchOver_7 : decode cX8_isMatchOver 7 = .ok (.ifCond .eq 20, 3) := by decide +kernel
theorem dX8_isMatchOver_10 : decode cX8_isMatchOver 10 = .ok (.aload_n 0, 1) := by decide +kernel
theorem dX8_isMatchOver_11 : decode cX8_isMatchOver 11 = .ok (.getfield 30, 3) := by decide +kernel
theorem dX8_isMatchOver_14 : decode cX8_isMatchOver 14 = .ok (.getfield 129, 3) := by decide +kernel
theorem dX8_isMatchOver_17 : decode cX8_isMatchOver 17 = .ok (.getfield 135, 3) := by decide +kernel
theorem dX8_isMatchOver_20 : decode cX8_isMatchOver 20 = .ok (.ifCond .eq 7, 3) := by decide +kernel
theorem dX8_isMatchOver_23 : decode cX8_isMatchOver 23 = .ok (.iconst 1, 1) := by decide +kernel
theorem dX8_isMatchOver_24 : decode cX8_isMatchOver 24 = .ok (.goto 4, 3) := by decide +kernel
theorem dX8_isMatchOver_27 : decode cX8_isMatchOver 27 = .ok (.iconst 0, 1) := by decide +kernel
theorem dX8_isMatchOver_28 : decode cX8_isMatchOver 28 = .ok (.ireturn, 1) := by decide +kernel
theorem dX8_roundWinner_0 : decode cX8_roundWinner 0 = .ok (.aload_n 0, 1) := by decide +kernel
theorem dX8_roundWinner_1 : decode cX8_roundWinner 1 = .ok (.iload_n 1, 1) := by decide +kernel
theorem dX8_roundWinner_2 : decode cX8_roundWinner 2 = .ok (.invokevirtual 141, 3) := by decide +kernel
theorem dX8_roundWinner_5 : decode cX8_roundWinner 5 = .ok (.aload_n 0, 1) := by decide +kernel
theorem dX8_roundWinner_6 : decode cX8_roundWinner 6 = .ok (.getfield 30, 3) := by decide +kernel
theorem dX8_roundWinner_9 : decode cX8_roundWinner 9 = .ok (.iload_n 1, 1) := by decide +kernel
theorem dX8_roundWinner_10 : decode cX8_roundWinner 10 = .ok (.invokevirtual 144, 3) := by decide +kernel
theorem dX8_roundWinner_13 : decode cX8_roundWinner 13 = .ok (.ireturn, 1) := by decide +kernel
theorem dX8_roundsWon_0 : decode cX8_roundsWon 0 = .ok (.aload_n 0, 1) := by decide +kernel
theorem dX8_roundsWon_1 : decode cX8_roundsWon 1 = .ok (.iload_n 1, 1) := by decide +kernel
theorem dX8_roundsWon_2 : decode cX8_roundsWon 2 = .ok (.invokevirtual 148, 3) := by decide +kernel
theorem dX8_roundsWon_5 : decode cX8_roundsWon 5 = .ok (.aload_n 0, 1) := by decide +kernel
theorem dX8_roundsWon_6 : decode cX8_roundsWon 6 = .ok (.getfield 30, 3) := by decide +kernel
theorem dX8_roundsWon_9 : decode cX8_roundsWon 9 = .ok (.iload_n 1, 1) := by decide +kernel
theorem dX8_roundsWon_10 : decode cX8_roundsWon 10 = .ok (.invokevirtual 151, 3) := by decide +kernel
theorem dX8_roundsWon_13 : decode cX8_roundsWon 13 = .ok (.ireturn, 1) := by decide +kernel
theorem dX8_matchWinner_0 : decode cX8_matchWinner 0 = .ok (.aload_n 0, 1) := by decide +kernel
theorem dX8_matchWinner_1 : decode cX8_matchWinner 1 = .ok (.getfield 30, 3) := by decide +kernel
theorem dX8_matchWinner_4 : decode cX8_matchWinner 4 = .ok (.invokevirtual 138, 3) := by decide +kernel
theorem dX8_matchWinner_7 : decode cX8_matchWinner 7 = .ok (.ifCond .eq 16, 3) := by decide +kernel
theorem dX8_matchWinner_10 : decode cX8_matchWinner 10 = .ok (.aload_n 0, 1) := by decide +kernel
theorem dX8_matchWinner_11 : decode cX8_matchWinner 11 = .ok (.getfield 30, 3) := by decide +kernel
theorem dX8_matchWinner_14 : decode cX8_matchWinner 14 = .ok (.getfield 129, 3) := by decide +kernel
theorem dX8_matchWinner_17 : decode cX8_matchWinner 17 = .ok (.getfield 135, 3) := by decide +kernel
theorem dX8_matchWinner_20 : decode cX8_matchWinner 20 = .ok (.ifCond .ne 5, 3) := by decide +kernel
theorem dX8_matchWinner_23 : decode cX8_matchWinner 23 = .ok (.iconst (-1), 1) := by decide +kernel
theorem dX8_matchWinner_24 : decode cX8_matchWinner 24 = .ok (.ireturn, 1) := by decide +kernel
theorem dX8_matchWinner_25 : decode cX8_matchWinner 25 = .ok (.aload_n 0, 1) := by decide +kernel
theorem dX8_matchWinner_26 : decode cX8_matchWinner 26 = .ok (.getfield 30, 3) := by decide +kernel
theorem dX8_matchWinner_29 : decode cX8_matchWinner 29 = .ok (.iconst 0, 1) := by decide +kernel
theorem dX8_matchWinner_30 : decode cX8_matchWinner 30 = .ok (.invokevirtual 151, 3) := by decide +kernel
theorem dX8_matchWinner_33 : decode cX8_matchWinner 33 = .ok (.aload_n 0, 1) := by decide +kernel
theorem dX8_matchWinner_34 : decode cX8_matchWinner 34 = .ok (.getfield 30, 3) := by decide +kernel
theorem dX8_matchWinner_37 : decode cX8_matchWinner 37 = .ok (.iconst 1, 1) := by decide +kernel
theorem dX8_matchWinner_38 : decode cX8_matchWinner 38 = .ok (.invokevirtual 151, 3) := by decide +kernel
theorem dX8_matchWinner_41 : decode cX8_matchWinner 41 = .ok (.isub, 1) := by decide +kernel
theorem dX8_matchWinner_42 : decode cX8_matchWinner 42 = .ok (.istore_n 1, 1) := by decide +kernel
theorem dX8_matchWinner_43 : decode cX8_matchWinner 43 = .ok (.iload_n 1, 1) := by decide +kernel
theorem dX8_matchWinner_44 : decode cX8_matchWinner 44 = .ok (.ifCond .ne 21, 3) := by decide +kernel
theorem dX8_matchWinner_47 : decode cX8_matchWinner 47 = .ok (.aload_n 0, 1) := by decide +kernel
theorem dX8_matchWinner_48 : decode cX8_matchWinner 48 = .ok (.getfield 30, 3) := by decide +kernel
theorem dX8_matchWinner_51 : decode cX8_matchWinner 51 = .ok (.iconst 0, 1) := by decide +kernel
theorem dX8_matchWinner_52 : decode cX8_matchWinner 52 = .ok (.invokevirtual 154, 3) := by decide +kernel
theorem dX8_matchWinner_55 : decode cX8_matchWinner 55 = .ok (.aload_n 0, 1) := by decide +kernel
theorem dX8_matchWinner_56 : decode cX8_matchWinner 56 = .ok (.getfield 30, 3) := by decide +kernel
theorem dX8_matchWinner_59 : decode cX8_matchWinner 59 = .ok (.iconst 1, 1) := by decide +kernel
theorem dX8_matchWinner_60 : decode cX8_matchWinner 60 = .ok (.invokevirtual 154, 3) := by decide +kernel
theorem dX8_matchWinner_63 : decode cX8_matchWinner 63 = .ok (.isub, 1) := by decide +kernel
theorem dX8_matchWinner_64 : decode cX8_matchWinner 64 = .ok (.istore_n 1, 1) := by decide +kernel
theorem dX8_matchWinner_65 : decode cX8_matchWinner 65 = .ok (.iload_n 1, 1) := by decide +kernel
theorem dX8_matchWinner_66 : decode cX8_matchWinner 66 = .ok (.invokestatic 157, 3) := by decide +kernel
theorem dX8_matchWinner_69 : decode cX8_matchWinner 69 = .ok (.ireturn, 1) := by decide +kernel
theorem dX8_playerToMove_0 : decode cX8_playerToMove 0 = .ok (.aload_n 0, 1) := by decide +kernel
theorem dX8_playerToMove_1 : decode cX8_playerToMove 1 = .ok (.getfield 30, 3) := by decide +kernel
theorem dX8_playerToMove_4 : decode cX8_playerToMove 4 = .ok (.getfield 129, 3) := by decide +kernel
theorem dX8_playerToMove_7 : decode cX8_playerToMove 7 = .ok (.getfield 160, 3) := by decide +kernel
theorem dX8_playerToMove_10 : decode cX8_playerToMove 10 = .ok (.ireturn, 1) := by decide +kernel
theorem dX8_roundScore_0 : decode cX8_roundScore 0 = .ok (.aload_n 0, 1) := by decide +kernel
theorem dX8_roundScore_1 : decode cX8_roundScore 1 = .ok (.iload_n 1, 1) := by decide +kernel
theorem dX8_roundScore_2 : decode cX8_roundScore 2 = .ok (.invokevirtual 141, 3) := by decide +kernel
theorem dX8_roundScore_5 : decode cX8_roundScore 5 = .ok (.aload_n 0, 1) := by decide +kernel
theorem dX8_roundScore_6 : decode cX8_roundScore 6 = .ok (.iload_n 2, 1) := by decide +kernel
theorem dX8_roundScore_7 : decode cX8_roundScore 7 = .ok (.invokevirtual 148, 3) := by decide +kernel
theorem dX8_roundScore_10 : decode cX8_roundScore 10 = .ok (.aload_n 0, 1) := by decide +kernel
theorem dX8_roundScore_11 : decode cX8_roundScore 11 = .ok (.getfield 30, 3) := by decide +kernel
theorem dX8_roundScore_14 : decode cX8_roundScore 14 = .ok (.iload_n 1, 1) := by decide +kernel
theorem dX8_roundScore_15 : decode cX8_roundScore 15 = .ok (.iload_n 2, 1) := by decide +kernel
theorem dX8_roundScore_16 : decode cX8_roundScore 16 = .ok (.invokevirtual 163, 3) := by decide +kernel
theorem dX8_roundScore_19 : decode cX8_roundScore 19 = .ok (.ireturn, 1) := by decide +kernel
theorem dX8_totalScore_0 : decode cX8_totalScore 0 = .ok (.aload_n 0, 1) := by decide +kernel
theorem dX8_totalScore_1 : decode cX8_totalScore 1 = .ok (.iload_n 1, 1) := by decide +kernel
theorem dX8_totalScore_2 : decode cX8_totalScore 2 = .ok (.invokevirtual 148, 3) := by decide +kernel
theorem dX8_totalScore_5 : decode cX8_totalScore 5 = .ok (.aload_n 0, 1) := by decide +kernel
theorem dX8_totalScore_6 : decode cX8_totalScore 6 = .ok (.getfield 30, 3) := by decide +kernel
theorem dX8_totalScore_9 : decode cX8_totalScore 9 = .ok (.iload_n 1, 1) := by decide +kernel
theorem dX8_totalScore_10 : decode cX8_totalScore 10 = .ok (.invokevirtual 154, 3) := by decide +kernel
theorem dX8_totalScore_13 : decode cX8_totalScore 13 = .ok (.ireturn, 1) := by decide +kernel
theorem dX8_tilesBurnt_0 : decode cX8_tilesBurnt 0 = .ok (.aload_n 0, 1) := by decide +kernel
theorem dX8_tilesBurnt_1 : decode cX8_tilesBurnt 1 = .ok (.iload_n 1, 1) := by decide +kernel
theorem dX8_tilesBurnt_2 : decode cX8_tilesBurnt 2 = .ok (.invokevirtual 148, 3) := by decide +kernel
theorem dX8_tilesBurnt_5 : decode cX8_tilesBurnt 5 = .ok (.aload_n 0, 1) := by decide +kernel
theorem dX8_tilesBurnt_6 : decode cX8_tilesBurnt 6 = .ok (.getfield 30, 3) := by decide +kernel
theorem dX8_tilesBurnt_9 : decode cX8_tilesBurnt 9 = .ok (.getfield 129, 3) := by decide +kernel
theorem dX8_tilesBurnt_12 : decode cX8_tilesBurnt 12 = .ok (.getfield 167, 3) := by decide +kernel
theorem dX8_tilesBurnt_15 : decode cX8_tilesBurnt 15 = .ok (.iload_n 1, 1) := by decide +kernel
theorem dX8_tilesBurnt_16 : decode cX8_tilesBurnt 16 = .ok (.invokestatic 170, 3) := by decide +kernel
theorem dX8_tilesBurnt_19 : decode cX8_tilesBurnt 19 = .ok (.ireturn, 1) := by decide +kernel
theorem dX8_passes_0 : decode cX8_passes 0 = .ok (.aload_n 0, 1) := by decide +kernel
theorem dX8_passes_1 : decode cX8_passes 1 = .ok (.iload_n 1, 1) := by decide +kernel
theorem dX8_passes_2 : decode cX8_passes 2 = .ok (.invokevirtual 148, 3) := by decide +kernel
theorem dX8_passes_5 : decode cX8_passes 5 = .ok (.aload_n 0, 1) := by decide +kernel
theorem dX8_passes_6 : decode cX8_passes 6 = .ok (.getfield 30, 3) := by decide +kernel
theorem dX8_passes_9 : decode cX8_passes 9 = .ok (.getfield 129, 3) := by decide +kernel
theorem dX8_passes_12 : decode cX8_passes 12 = .ok (.getfield 174, 3) := by decide +kernel
theorem dX8_passes_15 : decode cX8_passes 15 = .ok (.iload_n 1, 1) := by decide +kernel
theorem dX8_passes_16 : decode cX8_passes 16 = .ok (.invokestatic 170, 3) := by decide +kernel
theorem dX8_passes_19 : decode cX8_passes 19 = .ok (.ireturn, 1) := by decide +kernel
theorem dX8_meanTileScore_0 : decode cX8_meanTileScore 0 = .ok (.aload_n 0, 1) := by decide +kernel
theorem dX8_meanTileScore_1 : decode cX8_meanTileScore 1 = .ok (.iload_n 1, 1) := by decide +kernel
theorem dX8_meanTileScore_2 : decode cX8_meanTileScore 2 = .ok (.invokevirtual 148, 3) := by decide +kernel
theorem dX8_meanTileScore_5 : decode cX8_meanTileScore 5 = .ok (.aload_n 0, 1) := by decide +kernel
theorem dX8_meanTileScore_6 : decode cX8_meanTileScore 6 = .ok (.getfield 30, 3) := by decide +kernel
theorem dX8_meanTileScore_9 : decode cX8_meanTileScore 9 = .ok (.getfield 129, 3) := by decide +kernel
theorem dX8_meanTileScore_12 : decode cX8_meanTileScore 12 = .ok (.getfield 167, 3) := by decide +kernel
theorem dX8_meanTileScore_15 : decode cX8_meanTileScore 15 = .ok (.iload_n 1, 1) := by decide +kernel
theorem dX8_meanTileScore_16 : decode cX8_meanTileScore 16 = .ok (.invokestatic 170, 3) := by decide +kernel
theorem dX8_meanTileScore_19 : decode cX8_meanTileScore 19 = .ok (.istore_n 2, 1) := by decide +kernel
theorem dX8_meanTileScore_20 : decode cX8_meanTileScore 20 = .ok (.iload_n 2, 1) := by decide +kernel
theorem dX8_meanTileScore_21 : decode cX8_meanTileScore 21 = .ok (.ifCond .ne 7, 3) := by decide +kernel
theorem dX8_meanTileScore_24 : decode cX8_meanTileScore 24 = .ok (.dconst 0, 1) := by decide +kernel
theorem dX8_meanTileScore_25 : decode cX8_meanTileScore 25 = .ok (.goto 15, 3) := by decide +kernel
theorem dX8_meanTileScore_28 : decode cX8_meanTileScore 28 = .ok (.aload_n 0, 1) := by decide +kernel
theorem dX8_meanTileScore_29 : decode cX8_meanTileScore 29 = .ok (.getfield 30, 3) := by decide +kernel
theorem dX8_meanTileScore_32 : decode cX8_meanTileScore 32 = .ok (.iload_n 1, 1) := by decide +kernel
theorem dX8_meanTileScore_33 : decode cX8_meanTileScore 33 = .ok (.invokevirtual 154, 3) := by decide +kernel
theorem dX8_meanTileScore_36 : decode cX8_meanTileScore 36 = .ok (.i2d, 1) := by decide +kernel
theorem dX8_meanTileScore_37 : decode cX8_meanTileScore 37 = .ok (.iload_n 2, 1) := by decide +kernel
theorem dX8_meanTileScore_38 : decode cX8_meanTileScore 38 = .ok (.i2d, 1) := by decide +kernel
theorem dX8_meanTileScore_39 : decode cX8_meanTileScore 39 = .ok (.ddiv, 1) := by decide +kernel
theorem dX8_meanTileScore_40 : decode cX8_meanTileScore 40 = .ok (.dreturn, 1) := by decide +kernel
theorem dX8_chainCount_0 : decode cX8_chainCount 0 = .ok (.aload_n 0, 1) := by decide +kernel
theorem dX8_chainCount_1 : decode cX8_chainCount 1 = .ok (.getfield 30, 3) := by decide +kernel
theorem dX8_chainCount_4 : decode cX8_chainCount 4 = .ok (.invokevirtual 177, 3) := by decide +kernel
theorem dX8_chainCount_7 : decode cX8_chainCount 7 = .ok (.ireturn, 1) := by decide +kernel
theorem dX8_chainLength_0 : decode cX8_chainLength 0 = .ok (.aload_n 0, 1) := by decide +kernel
theorem dX8_chainLength_1 : decode cX8_chainLength 1 = .ok (.iload_n 1, 1) := by decide +kernel
theorem dX8_chainLength_2 : decode cX8_chainLength 2 = .ok (.invokevirtual 181, 3) := by decide +kernel
theorem dX8_chainLength_5 : decode cX8_chainLength 5 = .ok (.aload_n 0, 1) := by decide +kernel
theorem dX8_chainLength_6 : decode cX8_chainLength 6 = .ok (.getfield 30, 3) := by decide +kernel
theorem dX8_chainLength_9 : decode cX8_chainLength 9 = .ok (.iload_n 1, 1) := by decide +kernel
theorem dX8_chainLength_10 : decode cX8_chainLength 10 = .ok (.invokevirtual 184, 3) := by decide +kernel
theorem dX8_chainLength_13 : decode cX8_chainLength 13 = .ok (.ireturn, 1) := by decide +kernel
theorem dX8_leftPips_0 : decode cX8_leftPips 0 = .ok (.aload_n 0, 1) := by decide +kernel
theorem dX8_leftPips_1 : decode cX8_leftPips 1 = .ok (.iload_n 1, 1) := by decide +kernel
theorem dX8_leftPips_2 : decode cX8_leftPips 2 = .ok (.iload_n 2, 1) := by decide +kernel
theorem dX8_leftPips_3 : decode cX8_leftPips 3 = .ok (.invokevirtual 187, 3) := by decide +kernel
theorem dX8_leftPips_6 : decode cX8_leftPips 6 = .ok (.aload_n 0, 1) := by decide +kernel
theorem dX8_leftPips_7 : decode cX8_leftPips 7 = .ok (.getfield 30, 3) := by decide +kernel
theorem dX8_leftPips_10 : decode cX8_leftPips 10 = .ok (.iload_n 1, 1) := by decide +kernel
theorem dX8_leftPips_11 : decode cX8_leftPips 11 = .ok (.iload_n 2, 1) := by decide +kernel
theorem dX8_leftPips_12 : decode cX8_leftPips 12 = .ok (.invokevirtual 191, 3) := by decide +kernel
theorem dX8_leftPips_15 : decode cX8_leftPips 15 = .ok (.ireturn, 1) := by decide +kernel
theorem dX8_rightPips_0 : decode cX8_rightPips 0 = .ok (.aload_n 0, 1) := by decide +kernel
theorem dX8_rightPips_1 : decode cX8_rightPips 1 = .ok (.iload_n 1, 1) := by decide +kernel
theorem dX8_rightPips_2 : decode cX8_rightPips 2 = .ok (.iload_n 2, 1) := by decide +kernel
theorem dX8_rightPips_3 : decode cX8_rightPips 3 = .ok (.invokevirtual 187, 3) := by decide +kernel
theorem dX8_rightPips_6 : decode cX8_rightPips 6 = .ok (.aload_n 0, 1) := by decide +kernel
theorem dX8_rightPips_7 : decode cX8_rightPips 7 = .ok (.getfield 30, 3) := by decide +kernel
theorem dX8_rightPips_10 : decode cX8_rightPips 10 = .ok (.iload_n 1, 1) := by decide +kernel
theorem dX8_rightPips_11 : decode cX8_rightPips 11 = .ok (.iload_n 2, 1) := by decide +kernel
theorem dX8_rightPips_12 : decode cX8_rightPips 12 = .ok (.invokevirtual 194, 3) := by decide +kernel
theorem dX8_rightPips_15 : decode cX8_rightPips 15 = .ok (.ireturn, 1) := by decide +kernel
theorem dX8_tileScore_0 : decode cX8_tileScore 0 = .ok (.aload_n 0, 1) := by decide +kernel
theorem dX8_tileScore_1 : decode cX8_tileScore 1 = .ok (.iload_n 1, 1) := by decide +kernel
theorem dX8_tileScore_2 : decode cX8_tileScore 2 = .ok (.iload_n 2, 1) := by decide +kernel
theorem dX8_tileScore_3 : decode cX8_tileScore 3 = .ok (.invokevirtual 187, 3) := by decide +kernel
theorem dX8_tileScore_6 : decode cX8_tileScore 6 = .ok (.aload_n 0, 1) := by decide +kernel
theorem dX8_tileScore_7 : decode cX8_tileScore 7 = .ok (.getfield 30, 3) := by decide +kernel
theorem dX8_tileScore_10 : decode cX8_tileScore 10 = .ok (.iload_n 1, 1) := by decide +kernel
theorem dX8_tileScore_11 : decode cX8_tileScore 11 = .ok (.iload_n 2, 1) := by decide +kernel
theorem dX8_tileScore_12 : decode cX8_tileScore 12 = .ok (.invokevirtual 197, 3) := by decide +kernel
theorem dX8_tileScore_15 : decode cX8_tileScore 15 = .ok (.ireturn, 1) := by decide +kernel
theorem dX8_chainScore_0 : decode cX8_chainScore 0 = .ok (.aload_n 0, 1) := by decide +kernel
theorem dX8_chainScore_1 : decode cX8_chainScore 1 = .ok (.iload_n 1, 1) := by decide +kernel
theorem dX8_chainScore_2 : decode cX8_chainScore 2 = .ok (.invokevirtual 181, 3) := by decide +kernel
theorem dX8_chainScore_5 : decode cX8_chainScore 5 = .ok (.aload_n 0, 1) := by decide +kernel
theorem dX8_chainScore_6 : decode cX8_chainScore 6 = .ok (.getfield 30, 3) := by decide +kernel
theorem dX8_chainScore_9 : decode cX8_chainScore 9 = .ok (.iload_n 1, 1) := by decide +kernel
theorem dX8_chainScore_10 : decode cX8_chainScore 10 = .ok (.invokevirtual 200, 3) := by decide +kernel
theorem dX8_chainScore_13 : decode cX8_chainScore 13 = .ok (.ireturn, 1) := by decide +kernel
theorem dX8_remainingScore_0 : decode cX8_remainingScore 0 = .ok (.iconst 0, 1) := by decide +kernel
theorem dX8_remainingScore_1 : decode cX8_remainingScore 1 = .ok (.istore_n 1, 1) := by decide +kernel
theorem dX8_remainingScore_2 : decode cX8_remainingScore 2 = .ok (.iconst 0, 1) := by decide +kernel
theorem dX8_remainingScore_3 : decode cX8_remainingScore 3 = .ok (.istore_n 2, 1) := by decide +kernel
theorem dX8_remainingScore_4 : decode cX8_remainingScore 4 = .ok (.iload_n 2, 1) := by decide +kernel
theorem dX8_remainingScore_5 : decode cX8_remainingScore 5 = .ok (.aload_n 0, 1) := by decide +kernel
theorem dX8_remainingScore_6 : decode cX8_remainingScore 6 = .ok (.getfield 30, 3) := by decide +kernel
theorem dX8_remainingScore_9 : decode cX8_remainingScore 9 = .ok (.invokevirtual 177, 3) := by decide +kernel
theorem dX8_remainingScore_12 : decode cX8_remainingScore 12 = .ok (.if_icmp .ge 20, 3) := by decide +kernel
theorem dX8_remainingScore_15 : decode cX8_remainingScore 15 = .ok (.iload_n 1, 1) := by decide +kernel
theorem dX8_remainingScore_16 : decode cX8_remainingScore 16 = .ok (.aload_n 0, 1) := by decide +kernel
theorem dX8_remainingScore_17 : decode cX8_remainingScore 17 = .ok (.getfield 30, 3) := by decide +kernel
theorem dX8_remainingScore_20 : decode cX8_remainingScore 20 = .ok (.iload_n 2, 1) := by decide +kernel
theorem dX8_remainingScore_21 : decode cX8_remainingScore 21 = .ok (.invokevirtual 200, 3) := by decide +kernel
theorem dX8_remainingScore_24 : decode cX8_remainingScore 24 = .ok (.iadd, 1) := by decide +kernel
theorem dX8_remainingScore_25 : decode cX8_remainingScore 25 = .ok (.istore_n 1, 1) := by decide +kernel
theorem dX8_remainingScore_26 : decode cX8_remainingScore 26 = .ok (.iinc 2 1, 3) := by decide +kernel
theorem dX8_remainingScore_29 : decode cX8_remainingScore 29 = .ok (.goto (-25), 3) := by decide +kernel
theorem dX8_remainingScore_32 : decode cX8_remainingScore 32 = .ok (.iload_n 1, 1) := by decide +kernel
theorem dX8_remainingScore_33 : decode cX8_remainingScore 33 = .ok (.ireturn, 1) := by decide +kernel
theorem dX8_tilesWith_0 : decode cX8_tilesWith 0 = .ok (.iload_n 1, 1) := by decide +kernel
theorem dX8_tilesWith_1 : decode cX8_tilesWith 1 = .ok (.ifCond .lt 9, 3) := by decide +kernel
theorem dX8_tilesWith_4 : decode cX8_tilesWith 4 = .ok (.iload_n 1, 1) := by decide +kernel
theorem dX8_tilesWith_5 : decode cX8_tilesWith 5 = .ok (.bipush 6, 2) := by decide +kernel
theorem dX8_tilesWith_7 : decode cX8_tilesWith 7 = .ok (.if_icmp .le 13, 3) := by decide +kernel
theorem dX8_tilesWith_10 : decode cX8_tilesWith 10 = .ok (.new 86, 3) := by decide +kernel
theorem dX8_tilesWith_13 : decode cX8_tilesWith 13 = .ok (.dup, 1) := by decide +kernel
theorem dX8_tilesWith_14 : decode cX8_tilesWith 14 = .ok (.ldc 203, 2) := by decide +kernel
theorem dX8_tilesWith_16 : decode cX8_tilesWith 16 = .ok (.invokespecial 90, 3) := by decide +kernel
theorem dX8_tilesWith_19 : decode cX8_tilesWith 19 = .ok (.athrow, 1) := by decide +kernel
theorem dX8_tilesWith_20 : decode cX8_tilesWith 20 = .ok (.iconst 0, 1) := by decide +kernel
theorem dX8_tilesWith_21 : decode cX8_tilesWith 21 = .ok (.istore_n 2, 1) := by decide +kernel
theorem dX8_tilesWith_22 : decode cX8_tilesWith 22 = .ok (.iconst 0, 1) := by decide +kernel
theorem dX8_tilesWith_23 : decode cX8_tilesWith 23 = .ok (.istore_n 3, 1) := by decide +kernel
theorem dX8_tilesWith_24 : decode cX8_tilesWith 24 = .ok (.iload_n 3, 1) := by decide +kernel
theorem dX8_tilesWith_25 : decode cX8_tilesWith 25 = .ok (.aload_n 0, 1) := by decide +kernel
theorem dX8_tilesWith_26 : decode cX8_tilesWith 26 = .ok (.getfield 30, 3) := by decide +kernel
theorem dX8_tilesWith_29 : decode cX8_tilesWith 29 = .ok (.invokevirtual 177, 3) := by decide +kernel
theorem dX8_tilesWith_32 : decode cX8_tilesWith 32 = .ok (.if_icmp .ge 62, 3) := by decide +kernel
theorem dX8_tilesWith_35 : decode cX8_tilesWith 35 = .ok (.iconst 0, 1) := by decide +kernel
theorem dX8_tilesWith_36 : decode cX8_tilesWith 36 = .ok (.istore 4, 2) := by decide +kernel
theorem dX8_tilesWith_38 : decode cX8_tilesWith 38 = .ok (.iload 4, 2) := by decide +kernel
theorem dX8_tilesWith_40 : decode cX8_tilesWith 40 = .ok (.aload_n 0, 1) := by decide +kernel
theorem dX8_tilesWith_41 : decode cX8_tilesWith 41 = .ok (.getfield 30, 3) := by decide +kernel
theorem dX8_tilesWith_44 : decode cX8_tilesWith 44 = .ok (.iload_n 3, 1) := by decide +kernel
theorem dX8_tilesWith_45 : decode cX8_tilesWith 45 = .ok (.invokevirtual 184, 3) := by decide +kernel
theorem dX8_tilesWith_48 : decode cX8_tilesWith 48 = .ok (.if_icmp .ge 40, 3) := by decide +kernel
theorem dX8_tilesWith_51 : decode cX8_tilesWith 51 = .ok (.aload_n 0, 1) := by decide +kernel
theorem dX8_tilesWith_52 : decode cX8_tilesWith 52 = .ok (.getfield 30, 3) := by decide +kernel
theorem dX8_tilesWith_55 : decode cX8_tilesWith 55 = .ok (.iload_n 3, 1) := by decide +kernel
theorem dX8_tilesWith_56 : decode cX8_tilesWith 56 = .ok (.iload 4, 2) := by decide +kernel
theorem dX8_tilesWith_58 : decode cX8_tilesWith 58 = .ok (.invokevirtual 191, 3) := by decide +kernel
theorem dX8_tilesWith_61 : decode cX8_tilesWith 61 = .ok (.iload_n 1, 1) := by decide +kernel
theorem dX8_tilesWith_62 : decode cX8_tilesWith 62 = .ok (.if_icmp .eq 17, 3) := by decide +kernel
theorem dX8_tilesWith_65 : decode cX8_tilesWith 65 = .ok (.aload_n 0, 1) := by decide +kernel
theorem dX8_tilesWith_66 : decode cX8_tilesWith 66 = .ok (.getfield 30, 3) := by decide +kernel
theorem dX8_tilesWith_69 : decode cX8_tilesWith 69 = .ok (.iload_n 3, 1) := by decide +kernel
theorem dX8_tilesWith_70 : decode cX8_tilesWith 70 = .ok (.iload 4, 2) := by decide +kernel
theorem dX8_tilesWith_72 : decode cX8_tilesWith 72 = .ok (.invokevirtual 194, 3) := by decide +kernel
theorem dX8_tilesWith_75 : decode cX8_tilesWith 75 = .ok (.iload_n 1, 1) := by decide +kernel
theorem dX8_tilesWith_76 : decode cX8_tilesWith 76 = .ok (.if_icmp .ne 6, 3) := by decide +kernel
theorem dX8_tilesWith_79 : decode cX8_tilesWith 79 = .ok (.iinc 2 1, 3) := by decide +kernel
theorem dX8_tilesWith_82 : decode cX8_tilesWith 82 = .ok (.iinc 4 1, 3) := by decide +kernel
theorem dX8_tilesWith_85 : decode cX8_tilesWith 85 = .ok (.goto (-47), 3) := by decide +kernel
theorem dX8_tilesWith_88 : decode cX8_tilesWith 88 = .ok (.iinc 3 1, 3) := by decide +kernel
theorem dX8_tilesWith_91 : decode cX8_tilesWith 91 = .ok (.goto (-67), 3) := by decide +kernel
theorem dX8_tilesWith_94 : decode cX8_tilesWith 94 = .ok (.iload_n 2, 1) := by decide +kernel
theorem dX8_tilesWith_95 : decode cX8_tilesWith 95 = .ok (.ireturn, 1) := by decide +kernel
theorem dX8_doubleCount_0 : decode cX8_doubleCount 0 = .ok (.iconst 0, 1) := by decide +kernel
theorem dX8_doubleCount_1 : decode cX8_doubleCount 1 = .ok (.istore_n 1, 1) := by decide +kernel
theorem dX8_doubleCount_2 : decode cX8_doubleCount 2 = .ok (.iconst 0, 1) := by decide +kernel
theorem dX8_doubleCount_3 : decode cX8_doubleCount 3 = .ok (.istore_n 2, 1) := by decide +kernel
theorem dX8_doubleCount_4 : decode cX8_doubleCount 4 = .ok (.iload_n 2, 1) := by decide +kernel
theorem dX8_doubleCount_5 : decode cX8_doubleCount 5 = .ok (.aload_n 0, 1) := by decide +kernel
theorem dX8_doubleCount_6 : decode cX8_doubleCount 6 = .ok (.getfield 30, 3) := by decide +kernel
theorem dX8_doubleCount_9 : decode cX8_doubleCount 9 = .ok (.invokevirtual 177, 3) := by decide +kernel
theorem dX8_doubleCount_12 : decode cX8_doubleCount 12 = .ok (.if_icmp .ge 53, 3) := by decide +kernel
theorem dX8_doubleCount_15 : decode cX8_doubleCount 15 = .ok (.iconst 0, 1) := by decide +kernel
theorem dX8_doubleCount_16 : decode cX8_doubleCount 16 = .ok (.istore_n 3, 1) := by decide +kernel
theorem dX8_doubleCount_17 : decode cX8_doubleCount 17 = .ok (.iload_n 3, 1) := by decide +kernel
theorem dX8_doubleCount_18 : decode cX8_doubleCount 18 = .ok (.aload_n 0, 1) := by decide +kernel
theorem dX8_doubleCount_19 : decode cX8_doubleCount 19 = .ok (.getfield 30, 3) := by decide +kernel
theorem dX8_doubleCount_22 : decode cX8_doubleCount 22 = .ok (.iload_n 2, 1) := by decide +kernel
theorem dX8_doubleCount_23 : decode cX8_doubleCount 23 = .ok (.invokevirtual 184, 3) := by decide +kernel
theorem dX8_doubleCount_26 : decode cX8_doubleCount 26 = .ok (.if_icmp .ge 33, 3) := by decide +kernel
theorem dX8_doubleCount_29 : decode cX8_doubleCount 29 = .ok (.aload_n 0, 1) := by decide +kernel
theorem dX8_doubleCount_30 : decode cX8_doubleCount 30 = .ok (.getfield 30, 3) := by decide +kernel
theorem dX8_doubleCount_33 : decode cX8_doubleCount 33 = .ok (.iload_n 2, 1) := by decide +kernel
theorem dX8_doubleCount_34 : decode cX8_doubleCount 34 = .ok (.iload_n 3, 1) := by decide +kernel
theorem dX8_doubleCount_35 : decode cX8_doubleCount 35 = .ok (.invokevirtual 191, 3) := by decide +kernel
theorem dX8_doubleCount_38 : decode cX8_doubleCount 38 = .ok (.aload_n 0, 1) := by decide +kernel
theorem dX8_doubleCount_39 : decode cX8_doubleCount 39 = .ok (.getfield 30, 3) := by decide +kernel
theorem dX8_doubleCount_42 : decode cX8_doubleCount 42 = .ok (.iload_n 2, 1) := by decide +kernel
theorem dX8_doubleCount_43 : decode cX8_doubleCount 43 = .ok (.iload_n 3, 1) := by decide +kernel
theorem dX8_doubleCount_44 : decode cX8_doubleCount 44 = .ok (.invokevirtual 194, 3) := by decide +kernel
theorem dX8_doubleCount_47 : decode cX8_doubleCount 47 = .ok (.if_icmp .ne 6, 3) := by decide +kernel
theorem dX8_doubleCount_50 : decode cX8_doubleCount 50 = .ok (.iinc 1 1, 3) := by decide +kernel
theorem dX8_doubleCount_53 : decode cX8_doubleCount 53 = .ok (.iinc 3 1, 3) := by decide +kernel
theorem dX8_doubleCount_56 : decode cX8_doubleCount 56 = .ok (.goto (-39), 3) := by decide +kernel
theorem dX8_doubleCount_59 : decode cX8_doubleCount 59 = .ok (.iinc 2 1, 3) := by decide +kernel
theorem dX8_doubleCount_62 : decode cX8_doubleCount 62 = .ok (.goto (-58), 3) := by decide +kernel
theorem dX8_doubleCount_65 : decode cX8_doubleCount 65 = .ok (.iload_n 1, 1) := by decide +kernel
theorem dX8_doubleCount_66 : decode cX8_doubleCount 66 = .ok (.ireturn, 1) := by decide +kernel
theorem dX8_moveCount_0 : decode cX8_moveCount 0 = .ok (.aload_n 0, 1) := by decide +kernel
theorem dX8_moveCount_1 : decode cX8_moveCount 1 = .ok (.getfield 30, 3) := by decide +kernel
theorem dX8_moveCount_4 : decode cX8_moveCount 4 = .ok (.invokevirtual 205, 3) := by decide +kernel
theorem dX8_moveCount_7 : decode cX8_moveCount 7 = .ok (.ireturn, 1) := by decide +kernel
theorem dX8_isPass_0 : decode cX8_isPass 0 = .ok (.aload_n 0, 1) := by decide +kernel
theorem dX8_isPass_1 : decode cX8_isPass 1 = .ok (.iload_n 1, 1) := by decide +kernel
theorem dX8_isPass_2 : decode cX8_isPass 2 = .ok (.invokevirtual 208, 3) := by decide +kernel
theorem dX8_isPass_5 : decode cX8_isPass 5 = .ok (.bipush 6, 2) := by decide +kernel
theorem dX8_isPass_7 : decode cX8_isPass 7 = .ok (.if_icmp .ne 7, 3) := by decide +kernel
theorem dX8_isPass_10 : decode cX8_isPass 10 = .ok (.iconst 1, 1) := by decide +kernel
theorem dX8_isPass_11 : decode cX8_isPass 11 = .ok (.goto 4, 3) := by decide +kernel
theorem dX8_isPass_14 : decode cX8_isPass 14 = .ok (.iconst 0, 1) := by decide +kernel
theorem dX8_isPass_15 : decode cX8_isPass 15 = .ok (.ireturn, 1) := by decide +kernel
theorem dX8_moveChain_0 : decode cX8_moveChain 0 = .ok (.aload_n 0, 1) := by decide +kernel
theorem dX8_moveChain_1 : decode cX8_moveChain 1 = .ok (.iload_n 1, 1) := by decide +kernel
theorem dX8_moveChain_2 : decode cX8_moveChain 2 = .ok (.invokevirtual 208, 3) := by decide +kernel
theorem dX8_moveChain_5 : decode cX8_moveChain 5 = .ok (.invokestatic 211, 3) := by decide +kernel
theorem dX8_moveChain_8 : decode cX8_moveChain 8 = .ok (.ireturn, 1) := by decide +kernel
theorem dX8_isLeftBurn_0 : decode cX8_isLeftBurn 0 = .ok (.aload_n 0, 1) := by decide +kernel
theorem dX8_isLeftBurn_1 : decode cX8_isLeftBurn 1 = .ok (.iload_n 1, 1) := by decide +kernel
theorem dX8_isLeftBurn_2 : decode cX8_isLeftBurn 2 = .ok (.invokevirtual 208, 3) := by decide +kernel
theorem dX8_isLeftBurn_5 : decode cX8_isLeftBurn 5 = .ok (.istore_n 2, 1) := by decide +kernel
theorem dX8_isLeftBurn_6 : decode cX8_isLeftBurn 6 = .ok (.iload_n 2, 1) := by decide +kernel
theorem dX8_isLeftBurn_7 : decode cX8_isLeftBurn 7 = .ok (.bipush 6, 2) := by decide +kernel
theorem dX8_isLeftBurn_9 : decode cX8_isLeftBurn 9 = .ok (.if_icmp .eq 14, 3) := by decide +kernel
theorem dX8_isLeftBurn_12 : decode cX8_isLeftBurn 12 = .ok (.iload_n 2, 1) := by decide +kernel
theorem dX8_isLeftBurn_13 : decode cX8_isLeftBurn 13 = .ok (.invokestatic 214, 3) := by decide +kernel
theorem dX8_isLeftBurn_16 : decode cX8_isLeftBurn 16 = .ok (.ifCond .eq 7, 3) := by decide +kernel
theorem dX8_isLeftBurn_19 : decode cX8_isLeftBurn 19 = .ok (.iconst 1, 1) := by decide +kernel
theorem dX8_isLeftBurn_20 : decode cX8_isLeftBurn 20 = .ok (.goto 4, 3) := by decide +kernel
theorem dX8_isLeftBurn_23 : decode cX8_isLeftBurn 23 = .ok (.iconst 0, 1) := by decide +kernel
theorem dX8_isLeftBurn_24 : decode cX8_isLeftBurn 24 = .ok (.ireturn, 1) := by decide +kernel
theorem dX8_moveScore_0 : decode cX8_moveScore 0 = .ok (.aload_n 0, 1) := by decide +kernel
theorem dX8_moveScore_1 : decode cX8_moveScore 1 = .ok (.getfield 30, 3) := by decide +kernel
theorem dX8_moveScore_4 : decode cX8_moveScore 4 = .ok (.aload_n 0, 1) := by decide +kernel
theorem dX8_moveScore_5 : decode cX8_moveScore 5 = .ok (.iload_n 1, 1) := by decide +kernel
theorem dX8_moveScore_6 : decode cX8_moveScore 6 = .ok (.invokevirtual 208, 3) := by decide +kernel
theorem dX8_moveScore_9 : decode cX8_moveScore 9 = .ok (.invokevirtual 218, 3) := by decide +kernel
theorem dX8_moveScore_12 : decode cX8_moveScore 12 = .ok (.ireturn, 1) := by decide +kernel
theorem dX8_loggedMoveCount_0 : decode cX8_loggedMoveCount 0 = .ok (.aload_n 0, 1) := by decide +kernel
theorem dX8_loggedMoveCount_1 : decode cX8_loggedMoveCount 1 = .ok (.getfield 30, 3) := by decide +kernel
theorem dX8_loggedMoveCount_4 : decode cX8_loggedMoveCount 4 = .ok (.getfield 129, 3) := by decide +kernel
theorem dX8_loggedMoveCount_7 : decode cX8_loggedMoveCount 7 = .ok (.getfield 221, 3) := by decide +kernel
theorem dX8_loggedMoveCount_10 : decode cX8_loggedMoveCount 10 = .ok (.ireturn, 1) := by decide +kernel
theorem dX8_loggedScore_0 : decode cX8_loggedScore 0 = .ok (.aload_n 0, 1) := by decide +kernel
theorem dX8_loggedScore_1 : decode cX8_loggedScore 1 = .ok (.iload_n 1, 1) := by decide +kernel
theorem dX8_loggedScore_2 : decode cX8_loggedScore 2 = .ok (.invokevirtual 224, 3) := by decide +kernel
theorem dX8_loggedScore_5 : decode cX8_loggedScore 5 = .ok (.aload_n 0, 1) := by decide +kernel
theorem dX8_loggedScore_6 : decode cX8_loggedScore 6 = .ok (.getfield 30, 3) := by decide +kernel
theorem dX8_loggedScore_9 : decode cX8_loggedScore 9 = .ok (.getfield 129, 3) := by decide +kernel
theorem dX8_loggedScore_12 : decode cX8_loggedScore 12 = .ok (.getfield 227, 3) := by decide +kernel
theorem dX8_loggedScore_15 : decode cX8_loggedScore 15 = .ok (.iload_n 1, 1) := by decide +kernel
theorem dX8_loggedScore_16 : decode cX8_loggedScore 16 = .ok (.invokestatic 170, 3) := by decide +kernel
theorem dX8_loggedScore_19 : decode cX8_loggedScore 19 = .ok (.ireturn, 1) := by decide +kernel
theorem dX8_loggedChain_0 : decode cX8_loggedChain 0 = .ok (.aload_n 0, 1) := by decide +kernel
theorem dX8_loggedChain_1 : decode cX8_loggedChain 1 = .ok (.iload_n 1, 1) := by decide +kernel
theorem dX8_loggedChain_2 : decode cX8_loggedChain 2 = .ok (.invokevirtual 224, 3) := by decide +kernel
theorem dX8_loggedChain_5 : decode cX8_loggedChain 5 = .ok (.aload_n 0, 1) := by decide +kernel
theorem dX8_loggedChain_6 : decode cX8_loggedChain 6 = .ok (.getfield 30, 3) := by decide +kernel
theorem dX8_loggedChain_9 : decode cX8_loggedChain 9 = .ok (.getfield 129, 3) := by decide +kernel
theorem dX8_loggedChain_12 : decode cX8_loggedChain 12 = .ok (.getfield 230, 3) := by decide +kernel
theorem dX8_loggedChain_15 : decode cX8_loggedChain 15 = .ok (.iload_n 1, 1) := by decide +kernel
theorem dX8_loggedChain_16 : decode cX8_loggedChain 16 = .ok (.invokestatic 170, 3) := by decide +kernel
theorem dX8_loggedChain_19 : decode cX8_loggedChain 19 = .ok (.invokestatic 211, 3) := by decide +kernel
theorem dX8_loggedChain_22 : decode cX8_loggedChain 22 = .ok (.ireturn, 1) := by decide +kernel
theorem dX8_highestEndScore_0 : decode cX8_highestEndScore 0 = .ok (.aload_n 0, 1) := by decide +kernel
theorem dX8_highestEndScore_1 : decode cX8_highestEndScore 1 = .ok (.getfield 30, 3) := by decide +kernel
theorem dX8_highestEndScore_4 : decode cX8_highestEndScore 4 = .ok (.invokevirtual 233, 3) := by decide +kernel
theorem dX8_highestEndScore_7 : decode cX8_highestEndScore 7 = .ok (.istore_n 1, 1) := by decide +kernel
theorem dX8_highestEndScore_8 : decode cX8_highestEndScore 8 = .ok (.iload_n 1, 1) := by decide +kernel
theorem dX8_highestEndScore_9 : decode cX8_highestEndScore 9 = .ok (.iconst (-1), 1) := by decide +kernel
theorem dX8_highestEndScore_10 : decode cX8_highestEndScore 10 = .ok (.if_icmp .ne 7, 3) := by decide +kernel
theorem dX8_highestEndScore_13 : decode cX8_highestEndScore 13 = .ok (.iconst 0, 1) := by decide +kernel
theorem dX8_highestEndScore_14 : decode cX8_highestEndScore 14 = .ok (.goto 18, 3) := by decide +kernel
theorem dX8_highestEndScore_17 : decode cX8_highestEndScore 17 = .ok (.aload_n 0, 1) := by decide +kernel
theorem dX8_highestEndScore_18 : decode cX8_highestEndScore 18 = .ok (.getfield 30, 3) := by decide +kernel
theorem dX8_highestEndScore_21 : decode cX8_highestEndScore 21 = .ok (.aload_n 0, 1) := by decide +kernel
theorem dX8_highestEndScore_22 : decode cX8_highestEndScore 22 = .ok (.getfield 30, 3) := by decide +kernel
theorem dX8_highestEndScore_25 : decode cX8_highestEndScore 25 = .ok (.iload_n 1, 1) := by decide +kernel
theorem dX8_highestEndScore_26 : decode cX8_highestEndScore 26 = .ok (.invokevirtual 236, 3) := by decide +kernel
theorem dX8_highestEndScore_29 : decode cX8_highestEndScore 29 = .ok (.invokevirtual 218, 3) := by decide +kernel
theorem dX8_highestEndScore_32 : decode cX8_highestEndScore 32 = .ok (.ireturn, 1) := by decide +kernel
theorem dX8_burnsLeft_0 : decode cX8_burnsLeft 0 = .ok (.aload_n 0, 1) := by decide +kernel
theorem dX8_burnsLeft_1 : decode cX8_burnsLeft 1 = .ok (.getfield 30, 3) := by decide +kernel
theorem dX8_burnsLeft_4 : decode cX8_burnsLeft 4 = .ok (.invokevirtual 239, 3) := by decide +kernel
theorem dX8_burnsLeft_7 : decode cX8_burnsLeft 7 = .ok (.ireturn, 1) := by decide +kernel
theorem dX8_greatestPossibleScore_0 : decode cX8_greatestPossibleScore 0 = .ok (.aload_n 0, 1) := by decide +kernel
theorem dX8_greatestPossibleScore_1 : decode cX8_greatestPossibleScore 1 = .ok (.iload_n 1, 1) := by decide +kernel
theorem dX8_greatestPossibleScore_2 : decode cX8_greatestPossibleScore 2 = .ok (.invokevirtual 148, 3) := by decide +kernel
theorem dX8_greatestPossibleScore_5 : decode cX8_greatestPossibleScore 5 = .ok (.aload_n 0, 1) := by decide +kernel
theorem dX8_greatestPossibleScore_6 : decode cX8_greatestPossibleScore 6 = .ok (.getfield 30, 3) := by decide +kernel
theorem dX8_greatestPossibleScore_9 : decode cX8_greatestPossibleScore 9 = .ok (.iload_n 1, 1) := by decide +kernel
theorem dX8_greatestPossibleScore_10 : decode cX8_greatestPossibleScore 10 = .ok (.invokevirtual 242, 3) := by decide +kernel
theorem dX8_greatestPossibleScore_13 : decode cX8_greatestPossibleScore 13 = .ok (.ireturn, 1) := by decide +kernel
theorem dX8_canStillWin_0 : decode cX8_canStillWin 0 = .ok (.aload_n 0, 1) := by decide +kernel
theorem dX8_canStillWin_1 : decode cX8_canStillWin 1 = .ok (.iload_n 1, 1) := by decide +kernel
theorem dX8_canStillWin_2 : decode cX8_canStillWin 2 = .ok (.invokevirtual 148, 3) := by decide +kernel
theorem dX8_canStillWin_5 : decode cX8_canStillWin 5 = .ok (.aload_n 0, 1) := by decide +kernel
theorem dX8_canStillWin_6 : decode cX8_canStillWin 6 = .ok (.getfield 30, 3) := by decide +kernel
theorem dX8_canStillWin_9 : decode cX8_canStillWin 9 = .ok (.iload_n 1, 1) := by decide +kernel
theorem dX8_canStillWin_10 : decode cX8_canStillWin 10 = .ok (.invokevirtual 242, 3) := by decide +kernel
theorem dX8_canStillWin_13 : decode cX8_canStillWin 13 = .ok (.aload_n 0, 1) := by decide +kernel
theorem dX8_canStillWin_14 : decode cX8_canStillWin 14 = .ok (.getfield 30, 3) := by decide +kernel
theorem dX8_canStillWin_17 : decode cX8_canStillWin 17 = .ok (.iconst 1, 1) := by decide +kernel
theorem dX8_canStillWin_18 : decode cX8_canStillWin 18 = .ok (.iload_n 1, 1) := by decide +kernel
theorem dX8_canStillWin_19 : decode cX8_canStillWin 19 = .ok (.isub, 1) := by decide +kernel
theorem dX8_canStillWin_20 : decode cX8_canStillWin 20 = .ok (.invokevirtual 245, 3) := by decide +kernel
theorem dX8_canStillWin_23 : decode cX8_canStillWin 23 = .ok (.if_icmp .le 7, 3) := by decide +kernel
theorem dX8_canStillWin_26 : decode cX8_canStillWin 26 = .ok (.iconst 1, 1) := by decide +kernel
theorem dX8_canStillWin_27 : decode cX8_canStillWin 27 = .ok (.goto 4, 3) := by decide +kernel
theorem dX8_canStillWin_30 : decode cX8_canStillWin 30 = .ok (.iconst 0, 1) := by decide +kernel
theorem dX8_canStillWin_31 : decode cX8_canStillWin 31 = .ok (.ireturn, 1) := by decide +kernel
theorem dX8_optimalDifference_0 : decode cX8_optimalDifference 0 = .ok (.aload_n 0, 1) := by decide +kernel
theorem dX8_optimalDifference_1 : decode cX8_optimalDifference 1 = .ok (.getfield 40, 3) := by decide +kernel
theorem dX8_optimalDifference_4 : decode cX8_optimalDifference 4 = .ok (.aload_n 0, 1) := by decide +kernel
theorem dX8_optimalDifference_5 : decode cX8_optimalDifference 5 = .ok (.getfield 30, 3) := by decide +kernel
theorem dX8_optimalDifference_8 : decode cX8_optimalDifference 8 = .ok (.invokevirtual 248, 3) := by decide +kernel
theorem dX8_optimalDifference_11 : decode cX8_optimalDifference 11 = .ok (.aload_n 0, 1) := by decide +kernel
theorem dX8_optimalDifference_12 : decode cX8_optimalDifference 12 = .ok (.getfield 40, 3) := by decide +kernel
theorem dX8_optimalDifference_15 : decode cX8_optimalDifference 15 = .ok (.aload_n 0, 1) := by decide +kernel
theorem dX8_optimalDifference_16 : decode cX8_optimalDifference 16 = .ok (.getfield 30, 3) := by decide +kernel
theorem dX8_optimalDifference_19 : decode cX8_optimalDifference 19 = .ok (.invokevirtual 251, 3) := by decide +kernel
theorem dX8_optimalDifference_22 : decode cX8_optimalDifference 22 = .ok (.ireturn, 1) := by decide +kernel
theorem dX8_moveValue_0 : decode cX8_moveValue 0 = .ok (.aload_n 0, 1) := by decide +kernel
theorem dX8_moveValue_1 : decode cX8_moveValue 1 = .ok (.iload_n 1, 1) := by decide +kernel
theorem dX8_moveValue_2 : decode cX8_moveValue 2 = .ok (.invokevirtual 208, 3) := by decide +kernel
theorem dX8_moveValue_5 : decode cX8_moveValue 5 = .ok (.istore_n 2, 1) := by decide +kernel
theorem dX8_moveValue_6 : decode cX8_moveValue 6 = .ok (.aload_n 0, 1) := by decide +kernel
theorem dX8_moveValue_7 : decode cX8_moveValue 7 = .ok (.getfield 40, 3) := by decide +kernel
theorem dX8_moveValue_10 : decode cX8_moveValue 10 = .ok (.aload_n 0, 1) := by decide +kernel
theorem dX8_moveValue_11 : decode cX8_moveValue 11 = .ok (.getfield 30, 3) := by decide +kernel
theorem dX8_moveValue_14 : decode cX8_moveValue 14 = .ok (.invokevirtual 248, 3) := by decide +kernel
theorem dX8_moveValue_17 : decode cX8_moveValue 17 = .ok (.aload_n 0, 1) := by decide +kernel
theorem dX8_moveValue_18 : decode cX8_moveValue 18 = .ok (.getfield 40, 3) := by decide +kernel
theorem dX8_moveValue_21 : decode cX8_moveValue 21 = .ok (.aload_n 0, 1) := by decide +kernel
theorem dX8_moveValue_22 : decode cX8_moveValue 22 = .ok (.getfield 30, 3) := by decide +kernel
theorem dX8_moveValue_25 : decode cX8_moveValue 25 = .ok (.iload_n 2, 1) := by decide +kernel
theorem dX8_moveValue_26 : decode cX8_moveValue 26 = .ok (.invokevirtual 255, 3) := by decide +kernel
theorem dX8_moveValue_29 : decode cX8_moveValue 29 = .ok (.ireturn, 1) := by decide +kernel
theorem dX8_optimalMove_0 : decode cX8_optimalMove 0 = .ok (.aload_n 0, 1) := by decide +kernel
theorem dX8_optimalMove_1 : decode cX8_optimalMove 1 = .ok (.getfield 30, 3) := by decide +kernel
theorem dX8_optimalMove_4 : decode cX8_optimalMove 4 = .ok (.getfield 129, 3) := by decide +kernel
theorem dX8_optimalMove_7 : decode cX8_optimalMove 7 = .ok (.getfield 135, 3) := by decide +kernel
theorem dX8_optimalMove_10 : decode cX8_optimalMove 10 = .ok (.ifCond .eq 14, 3) := by decide +kernel
theorem dX8_optimalMove_13 : decode cX8_optimalMove 13 = .ok (.new 259, 3) := by decide +kernel
theorem dX8_optimalMove_16 : decode cX8_optimalMove 16 = .ok (.dup, 1) := by decide +kernel
theorem dX8_optimalMove_17 : decode cX8_optimalMove 17 = .ok (.ldc_w 261, 3) := by decide +kernel
theorem dX8_optimalMove_20 : decode cX8_optimalMove 20 = .ok (.invokespecial 263, 3) := by decide +kernel
theorem dX8_optimalMove_23 : decode cX8_optimalMove 23 = .ok (.athrow, 1) := by decide +kernel
theorem dX8_optimalMove_24 : decode cX8_optimalMove 24 = .ok (.aload_n 0, 1) := by decide +kernel
theorem dX8_optimalMove_25 : decode cX8_optimalMove 25 = .ok (.getfield 40, 3) := by decide +kernel
theorem dX8_optimalMove_28 : decode cX8_optimalMove 28 = .ok (.aload_n 0, 1) := by decide +kernel
theorem dX8_optimalMove_29 : decode cX8_optimalMove 29 = .ok (.getfield 30, 3) := by decide +kernel
theorem dX8_optimalMove_32 : decode cX8_optimalMove 32 = .ok (.invokevirtual 248, 3) := by decide +kernel
theorem dX8_optimalMove_35 : decode cX8_optimalMove 35 = .ok (.aload_n 0, 1) := by decide +kernel
theorem dX8_optimalMove_36 : decode cX8_optimalMove 36 = .ok (.aload_n 0, 1) := by decide +kernel
theorem dX8_optimalMove_37 : decode cX8_optimalMove 37 = .ok (.getfield 30, 3) := by decide +kernel
theorem dX8_optimalMove_40 : decode cX8_optimalMove 40 = .ok (.invokevirtual 264, 3) := by decide +kernel
theorem dX8_optimalMove_43 : decode cX8_optimalMove 43 = .ok (.ireturn, 1) := by decide +kernel
theorem dX8_worstMove_0 : decode cX8_worstMove 0 = .ok (.aload_n 0, 1) := by decide +kernel
theorem dX8_worstMove_1 : decode cX8_worstMove 1 = .ok (.getfield 30, 3) := by decide +kernel
theorem dX8_worstMove_4 : decode cX8_worstMove 4 = .ok (.getfield 129, 3) := by decide +kernel
theorem dX8_worstMove_7 : decode cX8_worstMove 7 = .ok (.getfield 135, 3) := by decide +kernel
theorem dX8_worstMove_10 : decode cX8_worstMove 10 = .ok (.ifCond .eq 14, 3) := by decide +kernel
theorem dX8_worstMove_13 : decode cX8_worstMove 13 = .ok (.new 259, 3) := by decide +kernel
theorem dX8_worstMove_16 : decode cX8_worstMove 16 = .ok (.dup, 1) := by decide +kernel
theorem dX8_worstMove_17 : decode cX8_worstMove 17 = .ok (.ldc_w 261, 3) := by decide +kernel
theorem dX8_worstMove_20 : decode cX8_worstMove 20 = .ok (.invokespecial 263, 3) := by decide +kernel
theorem dX8_worstMove_23 : decode cX8_worstMove 23 = .ok (.athrow, 1) := by decide +kernel
theorem dX8_worstMove_24 : decode cX8_worstMove 24 = .ok (.aload_n 0, 1) := by decide +kernel
theorem dX8_worstMove_25 : decode cX8_worstMove 25 = .ok (.getfield 40, 3) := by decide +kernel
theorem dX8_worstMove_28 : decode cX8_worstMove 28 = .ok (.aload_n 0, 1) := by decide +kernel
theorem dX8_worstMove_29 : decode cX8_worstMove 29 = .ok (.getfield 30, 3) := by decide +kernel
theorem dX8_worstMove_32 : decode cX8_worstMove 32 = .ok (.invokevirtual 248, 3) := by decide +kernel
theorem dX8_worstMove_35 : decode cX8_worstMove 35 = .ok (.iconst 0, 1) := by decide +kernel
theorem dX8_worstMove_36 : decode cX8_worstMove 36 = .ok (.istore_n 1, 1) := by decide +kernel
theorem dX8_worstMove_37 : decode cX8_worstMove 37 = .ok (.aload_n 0, 1) := by decide +kernel
theorem dX8_worstMove_38 : decode cX8_worstMove 38 = .ok (.getfield 40, 3) := by decide +kernel
theorem dX8_worstMove_41 : decode cX8_worstMove 41 = .ok (.aload_n 0, 1) := by decide +kernel
theorem dX8_worstMove_42 : decode cX8_worstMove 42 = .ok (.getfield 30, 3) := by decide +kernel
theorem dX8_worstMove_45 : decode cX8_worstMove 45 = .ok (.aload_n 0, 1) := by decide +kernel
theorem dX8_worstMove_46 : decode cX8_worstMove 46 = .ok (.getfield 30, 3) := by decide +kernel
theorem dX8_worstMove_49 : decode cX8_worstMove 49 = .ok (.iconst 0, 1) := by decide +kernel
theorem dX8_worstMove_50 : decode cX8_worstMove 50 = .ok (.invokevirtual 236, 3) := by decide +kernel
theorem dX8_worstMove_53 : decode cX8_worstMove 53 = .ok (.invokevirtual 255, 3) := by decide +kernel
theorem dX8_worstMove_56 : decode cX8_worstMove 56 = .ok (.istore_n 2, 1) := by decide +kernel
theorem dX8_worstMove_57 : decode cX8_worstMove 57 = .ok (.iconst 1, 1) := by decide +kernel
theorem dX8_worstMove_58 : decode cX8_worstMove 58 = .ok (.istore_n 3, 1) := by decide +kernel
theorem dX8_worstMove_59 : decode cX8_worstMove 59 = .ok (.iload_n 3, 1) := by decide +kernel
theorem dX8_worstMove_60 : decode cX8_worstMove 60 = .ok (.aload_n 0, 1) := by decide +kernel
theorem dX8_worstMove_61 : decode cX8_worstMove 61 = .ok (.getfield 30, 3) := by decide +kernel
theorem dX8_worstMove_64 : decode cX8_worstMove 64 = .ok (.invokevirtual 205, 3) := by decide +kernel
theorem dX8_worstMove_67 : decode cX8_worstMove 67 = .ok (.if_icmp .ge 41, 3) := by decide +kernel
theorem dX8_worstMove_70 : decode cX8_worstMove 70 = .ok (.aload_n 0, 1) := by decide +kernel
theorem dX8_worstMove_71 : decode cX8_worstMove 71 = .ok (.getfield 40, 3) := by decide +kernel
theorem dX8_worstMove_74 : decode cX8_worstMove 74 = .ok (.aload_n 0, 1) := by decide +kernel
theorem dX8_worstMove_75 : decode cX8_worstMove 75 = .ok (.getfield 30, 3) := by decide +kernel
theorem dX8_worstMove_78 : decode cX8_worstMove 78 = .ok (.aload_n 0, 1) := by decide +kernel
theorem dX8_worstMove_79 : decode cX8_worstMove 79 = .ok (.getfield 30, 3) := by decide +kernel
theorem dX8_worstMove_82 : decode cX8_worstMove 82 = .ok (.iload_n 3, 1) := by decide +kernel
theorem dX8_worstMove_83 : decode cX8_worstMove 83 = .ok (.invokevirtual 236, 3) := by decide +kernel
theorem dX8_worstMove_86 : decode cX8_worstMove 86 = .ok (.invokevirtual 255, 3) := by decide +kernel
theorem dX8_worstMove_89 : decode cX8_worstMove 89 = .ok (.istore 4, 2) := by decide +kernel
theorem dX8_worstMove_91 : decode cX8_worstMove 91 = .ok (.iload 4, 2) := by decide +kernel
theorem dX8_worstMove_93 : decode cX8_worstMove 93 = .ok (.iload_n 2, 1) := by decide +kernel
theorem dX8_worstMove_94 : decode cX8_worstMove 94 = .ok (.if_icmp .ge 8, 3) := by decide +kernel
theorem dX8_worstMove_97 : decode cX8_worstMove 97 = .ok (.iload 4, 2) := by decide +kernel
theorem dX8_worstMove_99 : decode cX8_worstMove 99 = .ok (.istore_n 2, 1) := by decide +kernel
theorem dX8_worstMove_100 : decode cX8_worstMove 100 = .ok (.iload_n 3, 1) := by decide +kernel
theorem dX8_worstMove_101 : decode cX8_worstMove 101 = .ok (.istore_n 1, 1) := by decide +kernel
theorem dX8_worstMove_102 : decode cX8_worstMove 102 = .ok (.iinc 3 1, 3) := by decide +kernel
theorem dX8_worstMove_105 : decode cX8_worstMove 105 = .ok (.goto (-46), 3) := by decide +kernel
theorem dX8_worstMove_108 : decode cX8_worstMove 108 = .ok (.iload_n 1, 1) := by decide +kernel
theorem dX8_worstMove_109 : decode cX8_worstMove 109 = .ok (.ireturn, 1) := by decide +kernel
theorem dX8_optimalMoveCount_0 : decode cX8_optimalMoveCount 0 = .ok (.aload_n 0, 1) := by decide +kernel
theorem dX8_optimalMoveCount_1 : decode cX8_optimalMoveCount 1 = .ok (.invokevirtual 267, 3) := by decide +kernel
theorem dX8_optimalMoveCount_4 : decode cX8_optimalMoveCount 4 = .ok (.ireturn, 1) := by decide +kernel
theorem dX8_isPassForced_0 : decode cX8_isPassForced 0 = .ok (.aload_n 0, 1) := by decide +kernel
theorem dX8_isPassForced_1 : decode cX8_isPassForced 1 = .ok (.getfield 30, 3) := by decide +kernel
theorem dX8_isPassForced_4 : decode cX8_isPassForced 4 = .ok (.getfield 129, 3) := by decide +kernel
theorem dX8_isPassForced_7 : decode cX8_isPassForced 7 = .ok (.getfield 135, 3) := by decide +kernel
theorem dX8_isPassForced_10 : decode cX8_isPassForced 10 = .ok (.ifCond .eq 5, 3) := by decide +kernel
theorem dX8_isPassForced_13 : decode cX8_isPassForced 13 = .ok (.iconst 0, 1) := by decide +kernel
theorem dX8_isPassForced_14 : decode cX8_isPassForced 14 = .ok (.ireturn, 1) := by decide +kernel
theorem dX8_isPassForced_15 : decode cX8_isPassForced 15 = .ok (.aload_n 0, 1) := by decide +kernel
theorem dX8_isPassForced_16 : decode cX8_isPassForced 16 = .ok (.invokevirtual 267, 3) := by decide +kernel
theorem dX8_isPassForced_19 : decode cX8_isPassForced 19 = .ok (.iconst 1, 1) := by decide +kernel
theorem dX8_isPassForced_20 : decode cX8_isPassForced 20 = .ok (.if_icmp .ne 27, 3) := by decide +kernel
theorem dX8_isPassForced_23 : decode cX8_isPassForced 23 = .ok (.aload_n 0, 1) := by decide +kernel
theorem dX8_isPassForced_24 : decode cX8_isPassForced 24 = .ok (.getfield 30, 3) := by decide +kernel
theorem dX8_isPassForced_27 : decode cX8_isPassForced 27 = .ok (.aload_n 0, 1) := by decide +kernel
theorem dX8_isPassForced_28 : decode cX8_isPassForced 28 = .ok (.aload_n 0, 1) := by decide +kernel
theorem dX8_isPassForced_29 : decode cX8_isPassForced 29 = .ok (.getfield 30, 3) := by decide +kernel
theorem dX8_isPassForced_32 : decode cX8_isPassForced 32 = .ok (.invokevirtual 264, 3) := by decide +kernel
theorem dX8_isPassForced_35 : decode cX8_isPassForced 35 = .ok (.invokevirtual 236, 3) := by decide +kernel
theorem dX8_isPassForced_38 : decode cX8_isPassForced 38 = .ok (.bipush 6, 2) := by decide +kernel
theorem dX8_isPassForced_40 : decode cX8_isPassForced 40 = .ok (.if_icmp .ne 7, 3) := by decide +kernel
theorem dX8_isPassForced_43 : decode cX8_isPassForced 43 = .ok (.iconst 1, 1) := by decide +kernel
theorem dX8_isPassForced_44 : decode cX8_isPassForced 44 = .ok (.goto 4, 3) := by decide +kernel
theorem dX8_isPassForced_47 : decode cX8_isPassForced 47 = .ok (.iconst 0, 1) := by decide +kernel
theorem dX8_isPassForced_48 : decode cX8_isPassForced 48 = .ok (.ireturn, 1) := by decide +kernel
theorem dX8_optimalLineLength_0 : decode cX8_optimalLineLength 0 = .ok (.aload_n 0, 1) := by decide +kernel
theorem dX8_optimalLineLength_1 : decode cX8_optimalLineLength 1 = .ok (.invokevirtual 270, 3) := by decide +kernel
theorem dX8_optimalLineLength_4 : decode cX8_optimalLineLength 4 = .ok (.aload_n 0, 1) := by decide +kernel
theorem dX8_optimalLineLength_5 : decode cX8_optimalLineLength 5 = .ok (.getfield 34, 3) := by decide +kernel
theorem dX8_optimalLineLength_8 : decode cX8_optimalLineLength 8 = .ok (.getfield 129, 3) := by decide +kernel
theorem dX8_optimalLineLength_11 : decode cX8_optimalLineLength 11 = .ok (.getfield 221, 3) := by decide +kernel
theorem dX8_optimalLineLength_14 : decode cX8_optimalLineLength 14 = .ok (.aload_n 0, 1) := by decide +kernel
theorem dX8_optimalLineLength_15 : decode cX8_optimalLineLength 15 = .ok (.getfield 30, 3) := by decide +kernel
theorem dX8_optimalLineLength_18 : decode cX8_optimalLineLength 18 = .ok (.getfield 129, 3) := by decide +kernel
theorem dX8_optimalLineLength_21 : decode cX8_optimalLineLength 21 = .ok (.getfield 221, 3) := by decide +kernel
theorem dX8_optimalLineLength_24 : decode cX8_optimalLineLength 24 = .ok (.isub, 1) := by decide +kernel
theorem dX8_optimalLineLength_25 : decode cX8_optimalLineLength 25 = .ok (.ireturn, 1) := by decide +kernel
theorem dX8_optimalLineScore_0 : decode cX8_optimalLineScore 0 = .ok (.aload_n 0, 1) := by decide +kernel
theorem dX8_optimalLineScore_1 : decode cX8_optimalLineScore 1 = .ok (.invokevirtual 270, 3) := by decide +kernel
theorem dX8_optimalLineScore_4 : decode cX8_optimalLineScore 4 = .ok (.aload_n 0, 1) := by decide +kernel
theorem dX8_optimalLineScore_5 : decode cX8_optimalLineScore 5 = .ok (.getfield 30, 3) := by decide +kernel
theorem dX8_optimalLineScore_8 : decode cX8_optimalLineScore 8 = .ok (.getfield 129, 3) := by decide +kernel
theorem dX8_optimalLineScore_11 : decode cX8_optimalLineScore 11 = .ok (.getfield 221, 3) := by decide +kernel
theorem dX8_optimalLineScore_14 : decode cX8_optimalLineScore 14 = .ok (.istore_n 2, 1) := by decide +kernel
theorem dX8_optimalLineScore_15 : decode cX8_optimalLineScore 15 = .ok (.iload_n 1, 1) := by decide +kernel
theorem dX8_optimalLineScore_16 : decode cX8_optimalLineScore 16 = .ok (.ifCond .lt 19, 3) := by decide +kernel
theorem dX8_optimalLineScore_19 : decode cX8_optimalLineScore 19 = .ok (.iload_n 1, 1) := by decide +kernel
theorem dX8_optimalLineScore_20 : decode cX8_optimalLineScore 20 = .ok (.aload_n 0, 1) := by decide +kernel
theorem dX8_optimalLineScore_21 : decode cX8_optimalLineScore 21 = .ok (.getfield 34, 3) := by decide +kernel
theorem dX8_optimalLineScore_24 : decode cX8_optimalLineScore 24 = .ok (.getfield 129, 3) := by decide +kernel
theorem dX8_optimalLineScore_27 : decode cX8_optimalLineScore 27 = .ok (.getfield 221, 3) := by decide +kernel
theorem dX8_optimalLineScore_30 : decode cX8_optimalLineScore 30 = .ok (.iload_n 2, 1) := by decide +kernel
theorem dX8_optimalLineScore_31 : decode cX8_optimalLineScore 31 = .ok (.isub, 1) := by decide +kernel
theorem dX8_optimalLineScore_32 : decode cX8_optimalLineScore 32 = .ok (.if_icmp .lt 14, 3) := by decide +kernel
theorem dX8_optimalLineScore_35 : decode cX8_optimalLineScore 35 = .ok (.new 273, 3) := by decide +kernel
theorem dX8_optimalLineScore_38 : decode cX8_optimalLineScore 38 = .ok (.dup, 1) := by decide +kernel
theorem dX8_optimalLineScore_39 : decode cX8_optimalLineScore 39 = .ok (.ldc_w 275, 3) := by decide +kernel
theorem dX8_optimalLineScore_42 : decode cX8_optimalLineScore 42 = .ok (.invokespecial 277, 3) := by decide +kernel
theorem dX8_optimalLineScore_45 : decode cX8_optimalLineScore 45 = .ok (.athrow, 1) := by decide +kernel
theorem dX8_optimalLineScore_46 : decode cX8_optimalLineScore 46 = .ok (.aload_n 0, 1) := by decide +kernel
theorem dX8_optimalLineScore_47 : decode cX8_optimalLineScore 47 = .ok (.getfield 34, 3) := by decide +kernel
theorem dX8_optimalLineScore_50 : decode cX8_optimalLineScore 50 = .ok (.getfield 129, 3) := by decide +kernel
theorem dX8_optimalLineScore_53 : decode cX8_optimalLineScore 53 = .ok (.getfield 227, 3) := by decide +kernel
theorem dX8_optimalLineScore_56 : decode cX8_optimalLineScore 56 = .ok (.iload_n 2, 1) := by decide +kernel
theorem dX8_optimalLineScore_57 : decode cX8_optimalLineScore 57 = .ok (.iload_n 1, 1) := by decide +kernel
theorem dX8_optimalLineScore_58 : decode cX8_optimalLineScore 58 = .ok (.iadd, 1) := by decide +kernel
theorem dX8_optimalLineScore_59 : decode cX8_optimalLineScore 59 = .ok (.invokestatic 170, 3) := by decide +kernel
theorem dX8_optimalLineScore_62 : decode cX8_optimalLineScore 62 = .ok (.ireturn, 1) := by decide +kernel
theorem dX8_chainDifference_0 : decode cX8_chainDifference 0 = .ok (.aload_n 0, 1) := by decide +kernel
theorem dX8_chainDifference_1 : decode cX8_chainDifference 1 = .ok (.iload_n 1, 1) := by decide +kernel
theorem dX8_chainDifference_2 : decode cX8_chainDifference 2 = .ok (.invokevirtual 181, 3) := by decide +kernel
theorem dX8_chainDifference_5 : decode cX8_chainDifference 5 = .ok (.aload_n 0, 1) := by decide +kernel
theorem dX8_chainDifference_6 : decode cX8_chainDifference 6 = .ok (.getfield 40, 3) := by decide +kernel
theorem dX8_chainDifference_9 : decode cX8_chainDifference 9 = .ok (.aload_n 0, 1) := by decide +kernel
theorem dX8_chainDifference_10 : decode cX8_chainDifference 10 = .ok (.getfield 30, 3) := by decide +kernel
theorem dX8_chainDifference_13 : decode cX8_chainDifference 13 = .ok (.invokevirtual 248, 3) := by decide +kernel
theorem dX8_chainDifference_16 : decode cX8_chainDifference 16 = .ok (.aload_n 0, 1) := by decide +kernel
theorem dX8_chainDifference_17 : decode cX8_chainDifference 17 = .ok (.getfield 40, 3) := by decide +kernel
theorem dX8_chainDifference_20 : decode cX8_chainDifference 20 = .ok (.aload_n 0, 1) := by decide +kernel
theorem dX8_chainDifference_21 : decode cX8_chainDifference 21 = .ok (.getfield 30, 3) := by decide +kernel
theorem dX8_chainDifference_24 : decode cX8_chainDifference 24 = .ok (.iload_n 1, 1) := by decide +kernel
theorem dX8_chainDifference_25 : decode cX8_chainDifference 25 = .ok (.invokevirtual 278, 3) := by decide +kernel
theorem dX8_chainDifference_28 : decode cX8_chainDifference 28 = .ok (.ireturn, 1) := by decide +kernel
theorem dX8_expectedLead_0 : decode cX8_expectedLead 0 = .ok (.aload_n 0, 1) := by decide +kernel
theorem dX8_expectedLead_1 : decode cX8_expectedLead 1 = .ok (.getfield 30, 3) := by decide +kernel
theorem dX8_expectedLead_4 : decode cX8_expectedLead 4 = .ok (.getfield 129, 3) := by decide +kernel
theorem dX8_expectedLead_7 : decode cX8_expectedLead 7 = .ok (.getfield 160, 3) := by decide +kernel
theorem dX8_expectedLead_10 : decode cX8_expectedLead 10 = .ok (.istore_n 1, 1) := by decide +kernel
theorem dX8_expectedLead_11 : decode cX8_expectedLead 11 = .ok (.aload_n 0, 1) := by decide +kernel
theorem dX8_expectedLead_12 : decode cX8_expectedLead 12 = .ok (.getfield 40, 3) := by decide +kernel
theorem dX8_expectedLead_15 : decode cX8_expectedLead 15 = .ok (.aload_n 0, 1) := by decide +kernel
theorem dX8_expectedLead_16 : decode cX8_expectedLead 16 = .ok (.getfield 30, 3) := by decide +kernel
theorem dX8_expectedLead_19 : decode cX8_expectedLead 19 = .ok (.invokevirtual 248, 3) := by decide +kernel
theorem dX8_expectedLead_22 : decode cX8_expectedLead 22 = .ok (.aload_n 0, 1) := by decide +kernel
theorem dX8_expectedLead_23 : decode cX8_expectedLead 23 = .ok (.getfield 30, 3) := by decide +kernel
theorem dX8_expectedLead_26 : decode cX8_expectedLead 26 = .ok (.iload_n 1, 1) := by decide +kernel
theorem dX8_expectedLead_27 : decode cX8_expectedLead 27 = .ok (.invokevirtual 245, 3) := by decide +kernel
theorem dX8_expectedLead_30 : decode cX8_expectedLead 30 = .ok (.aload_n 0, 1) := by decide +kernel
theorem dX8_expectedLead_31 : decode cX8_expectedLead 31 = .ok (.getfield 30, 3) := by decide +kernel
theorem dX8_expectedLead_34 : decode cX8_expectedLead 34 = .ok (.iconst 1, 1) := by decide +kernel
theorem dX8_expectedLead_35 : decode cX8_expectedLead 35 = .ok (.iload_n 1, 1) := by decide +kernel
theorem dX8_expectedLead_36 : decode cX8_expectedLead 36 = .ok (.isub, 1) := by decide +kernel
theorem dX8_expectedLead_37 : decode cX8_expectedLead 37 = .ok (.invokevirtual 245, 3) := by decide +kernel
theorem dX8_expectedLead_40 : decode cX8_expectedLead 40 = .ok (.isub, 1) := by decide +kernel
theorem dX8_expectedLead_41 : decode cX8_expectedLead 41 = .ok (.aload_n 0, 1) := by decide +kernel
theorem dX8_expectedLead_42 : decode cX8_expectedLead 42 = .ok (.getfield 40, 3) := by decide +kernel
theorem dX8_expectedLead_45 : decode cX8_expectedLead 45 = .ok (.aload_n 0, 1) := by decide +kernel
theorem dX8_expectedLead_46 : decode cX8_expectedLead 46 = .ok (.getfield 30, 3) := by decide +kernel
theorem dX8_expectedLead_49 : decode cX8_expectedLead 49 = .ok (.invokevirtual 251, 3) := by decide +kernel
theorem dX8_expectedLead_52 : decode cX8_expectedLead 52 = .ok (.iadd, 1) := by decide +kernel
theorem dX8_expectedLead_53 : decode cX8_expectedLead 53 = .ok (.ireturn, 1) := by decide +kernel
theorem dX8_firstBest_0 : decode cX8_firstBest 0 = .ok (.iconst 0, 1) := by decide +kernel
theorem dX8_firstBest_1 : decode cX8_firstBest 1 = .ok (.istore_n 2, 1) := by decide +kernel
theorem dX8_firstBest_2 : decode cX8_firstBest 2 = .ok (.aload_n 0, 1) := by decide +kernel
theorem dX8_firstBest_3 : decode cX8_firstBest 3 = .ok (.getfield 40, 3) := by decide +kernel
theorem dX8_firstBest_6 : decode cX8_firstBest 6 = .ok (.aload_n 1, 1) := by decide +kernel
theorem dX8_firstBest_7 : decode cX8_firstBest 7 = .ok (.aload_n 1, 1) := by decide +kernel
theorem dX8_firstBest_8 : decode cX8_firstBest 8 = .ok (.iconst 0, 1) := by decide +kernel
theorem dX8_firstBest_9 : decode cX8_firstBest 9 = .ok (.invokevirtual 236, 3) := by decide +kernel
theorem dX8_firstBest_12 : decode cX8_firstBest 12 = .ok (.invokevirtual 255, 3) := by decide +kernel
theorem dX8_firstBest_15 : decode cX8_firstBest 15 = .ok (.istore_n 3, 1) := by decide +kernel
theorem dX8_firstBest_16 : decode cX8_firstBest 16 = .ok (.iconst 1, 1) := by decide +kernel
theorem dX8_firstBest_17 : decode cX8_firstBest 17 = .ok (.istore 4, 2) := by decide +kernel
theorem dX8_firstBest_19 : decode cX8_firstBest 19 = .ok (.iload 4, 2) := by decide +kernel
theorem dX8_firstBest_21 : decode cX8_firstBest 21 = .ok (.aload_n 1, 1) := by decide +kernel
theorem dX8_firstBest_22 : decode cX8_firstBest 22 = .ok (.invokevirtual 205, 3) := by decide +kernel
theorem dX8_firstBest_25 : decode cX8_firstBest 25 = .ok (.if_icmp .ge 37, 3) := by decide +kernel
theorem dX8_firstBest_28 : decode cX8_firstBest 28 = .ok (.aload_n 0, 1) := by decide +kernel
theorem dX8_firstBest_29 : decode cX8_firstBest 29 = .ok (.getfield 40, 3) := by decide +kernel
theorem dX8_firstBest_32 : decode cX8_firstBest 32 = .ok (.aload_n 1, 1) := by decide +kernel
theorem dX8_firstBest_33 : decode cX8_firstBest 33 = .ok (.aload_n 1, 1) := by decide +kernel
theorem dX8_firstBest_34 : decode cX8_firstBest 34 = .ok (.iload 4, 2) := by decide +kernel
theorem dX8_firstBest_36 : decode cX8_firstBest 36 = .ok (.invokevirtual 236, 3) := by decide +kernel
theorem dX8_firstBest_39 : decode cX8_firstBest 39 = .ok (.invokevirtual 255, 3) := by decide +kernel
theorem dX8_firstBest_42 : decode cX8_firstBest 42 = .ok (.istore 5, 2) := by decide +kernel
theorem dX8_firstBest_44 : decode cX8_firstBest 44 = .ok (.iload 5, 2) := by decide +kernel
theorem dX8_firstBest_46 : decode cX8_firstBest 46 = .ok (.iload_n 3, 1) := by decide +kernel
theorem dX8_firstBest_47 : decode cX8_firstBest 47 = .ok (.if_icmp .le 9, 3) := by decide +kernel
theorem dX8_firstBest_50 : decode cX8_firstBest 50 = .ok (.iload 5, 2) := by decide +kernel
theorem dX8_firstBest_52 : decode cX8_firstBest 52 = .ok (.istore_n 3, 1) := by decide +kernel
theorem dX8_firstBest_53 : decode cX8_firstBest 53 = .ok (.iload 4, 2) := by decide +kernel
theorem dX8_firstBest_55 : decode cX8_firstBest 55 = .ok (.istore_n 2, 1) := by decide +kernel
theorem dX8_firstBest_56 : decode cX8_firstBest 56 = .ok (.iinc 4 1, 3) := by decide +kernel
theorem dX8_firstBest_59 : decode cX8_firstBest 59 = .ok (.goto (-40), 3) := by decide +kernel
theorem dX8_firstBest_62 : decode cX8_firstBest 62 = .ok (.iload_n 2, 1) := by decide +kernel
theorem dX8_firstBest_63 : decode cX8_firstBest 63 = .ok (.ireturn, 1) := by decide +kernel
theorem dX8_countBest_0 : decode cX8_countBest 0 = .ok (.aload_n 0, 1) := by decide +kernel
theorem dX8_countBest_1 : decode cX8_countBest 1 = .ok (.getfield 40, 3) := by decide +kernel
theorem dX8_countBest_4 : decode cX8_countBest 4 = .ok (.aload_n 0, 1) := by decide +kernel
theorem dX8_countBest_5 : decode cX8_countBest 5 = .ok (.getfield 30, 3) := by decide +kernel
theorem dX8_countBest_8 : decode cX8_countBest 8 = .ok (.invokevirtual 248, 3) := by decide +kernel
theorem dX8_countBest_11 : decode cX8_countBest 11 = .ok (.aload_n 0, 1) := by decide +kernel
theorem dX8_countBest_12 : decode cX8_countBest 12 = .ok (.getfield 40, 3) := by decide +kernel
theorem dX8_countBest_15 : decode cX8_countBest 15 = .ok (.aload_n 0, 1) := by decide +kernel
theorem dX8_countBest_16 : decode cX8_countBest 16 = .ok (.getfield 30, 3) := by decide +kernel
theorem dX8_countBest_19 : decode cX8_countBest 19 = .ok (.invokevirtual 251, 3) := by decide +kernel
theorem dX8_countBest_22 : decode cX8_countBest 22 = .ok (.istore_n 1, 1) := by decide +kernel
theorem dX8_countBest_23 : decode cX8_countBest 23 = .ok (.iconst 0, 1) := by decide +kernel
theorem dX8_countBest_24 : decode cX8_countBest 24 = .ok (.istore_n 2, 1) := by decide +kernel
theorem dX8_countBest_25 : decode cX8_countBest 25 = .ok (.iconst 0, 1) := by decide +kernel
theorem dX8_countBest_26 : decode cX8_countBest 26 = .ok (.istore_n 3, 1) := by decide +kernel
theorem dX8_countBest_27 : decode cX8_countBest 27 = .ok (.iload_n 3, 1) := by decide +kernel
theorem dX8_countBest_28 : decode cX8_countBest 28 = .ok (.aload_n 0, 1) := by decide +kernel
theorem dX8_countBest_29 : decode cX8_countBest 29 = .ok (.getfield 30, 3) := by decide +kernel
theorem dX8_countBest_32 : decode cX8_countBest 32 = .ok (.invokevirtual 205, 3) := by decide +kernel
theorem dX8_countBest_35 : decode cX8_countBest 35 = .ok (.if_icmp .ge 35, 3) := by decide +kernel
theorem dX8_countBest_38 : decode cX8_countBest 38 = .ok (.aload_n 0, 1) := by decide +kernel
theorem dX8_countBest_39 : decode cX8_countBest 39 = .ok (.getfield 40, 3) := by decide +kernel
theorem dX8_countBest_42 : decode cX8_countBest 42 = .ok (.aload_n 0, 1) := by decide +kernel
theorem dX8_countBest_43 : decode cX8_countBest 43 = .ok (.getfield 30, 3) := by decide +kernel
theorem dX8_countBest_46 : decode cX8_countBest 46 = .ok (.aload_n 0, 1) := by decide +kernel
theorem dX8_countBest_47 : decode cX8_countBest 47 = .ok (.getfield 30, 3) := by decide +kernel
theorem dX8_countBest_50 : decode cX8_countBest 50 = .ok (.iload_n 3, 1) := by decide +kernel
theorem dX8_countBest_51 : decode cX8_countBest 51 = .ok (.invokevirtual 236, 3) := by decide +kernel
theorem dX8_countBest_54 : decode cX8_countBest 54 = .ok (.invokevirtual 255, 3) := by decide +kernel
theorem dX8_countBest_57 : decode cX8_countBest 57 = .ok (.iload_n 1, 1) := by decide +kernel
theorem dX8_countBest_58 : decode cX8_countBest 58 = .ok (.if_icmp .ne 6, 3) := by decide +kernel
theorem dX8_countBest_61 : decode cX8_countBest 61 = .ok (.iinc 2 1, 3) := by decide +kernel
theorem dX8_countBest_64 : decode cX8_countBest 64 = .ok (.iinc 3 1, 3) := by decide +kernel
theorem dX8_countBest_67 : decode cX8_countBest 67 = .ok (.goto (-40), 3) := by decide +kernel
theorem dX8_countBest_70 : decode cX8_countBest 70 = .ok (.iload_n 2, 1) := by decide +kernel
theorem dX8_countBest_71 : decode cX8_countBest 71 = .ok (.ireturn, 1) := by decide +kernel
theorem dX8_playBest_0 : decode cX8_playBest 0 = .ok (.iconst 0, 1) := by decide +kernel
theorem dX8_playBest_1 : decode cX8_playBest 1 = .ok (.istore_n 3, 1) := by decide +kernel
theorem dX8_playBest_2 : decode cX8_playBest 2 = .ok (.iload_n 3, 1) := by decide +kernel
theorem dX8_playBest_3 : decode cX8_playBest 3 = .ok (.iload_n 2, 1) := by decide +kernel
theorem dX8_playBest_4 : decode cX8_playBest 4 = .ok (.if_icmp .ge 32, 3) := by decide +kernel
theorem dX8_playBest_7 : decode cX8_playBest 7 = .ok (.aload_n 1, 1) := by decide +kernel
theorem dX8_playBest_8 : decode cX8_playBest 8 = .ok (.getfield 129, 3) := by decide +kernel
theorem dX8_playBest_11 : decode cX8_playBest 11 = .ok (.getfield 135, 3) := by decide +kernel
theorem dX8_playBest_14 : decode cX8_playBest 14 = .ok (.ifCond .ne 22, 3) := by decide +kernel
theorem dX8_playBest_17 : decode cX8_playBest 17 = .ok (.aload_n 1, 1) := by decide +kernel
theorem dX8_playBest_18 : decode cX8_playBest 18 = .ok (.aload_n 1, 1) := by decide +kernel
theorem dX8_playBest_19 : decode cX8_playBest 19 = .ok (.aload_n 0, 1) := by decide +kernel
theorem dX8_playBest_20 : decode cX8_playBest 20 = .ok (.aload_n 1, 1) := by decide +kernel
theorem dX8_playBest_21 : decode cX8_playBest 21 = .ok (.invokevirtual 264, 3) := by decide +kernel
theorem dX8_playBest_24 : decode cX8_playBest 24 = .ok (.invokevirtual 236, 3) := by decide +kernel
theorem dX8_playBest_27 : decode cX8_playBest 27 = .ok (.invokevirtual 281, 3) := by decide +kernel
theorem dX8_playBest_30 : decode cX8_playBest 30 = .ok (.iinc 3 1, 3) := by decide +kernel
theorem dX8_playBest_33 : decode cX8_playBest 33 = .ok (.goto (-31), 3) := by decide +kernel
theorem dX8_playBest_36 : decode cX8_playBest 36 = .ok (.iload_n 3, 1) := by decide +kernel
theorem dX8_playBest_37 : decode cX8_playBest 37 = .ok (.ireturn, 1) := by decide +kernel
theorem dX8_tryOptimalLine_0 : decode cX8_tryOptimalLine 0 = .ok (.aload_n 0, 1) := by decide +kernel
theorem dX8_tryOptimalLine_1 : decode cX8_tryOptimalLine 1 = .ok (.getfield 40, 3) := by decide +kernel
theorem dX8_tryOptimalLine_4 : decode cX8_tryOptimalLine 4 = .ok (.aload_n 0, 1) := by decide +kernel
theorem dX8_tryOptimalLine_5 : decode cX8_tryOptimalLine 5 = .ok (.getfield 30, 3) := by decide +kernel
theorem dX8_tryOptimalLine_8 : decode cX8_tryOptimalLine 8 = .ok (.invokevirtual 248, 3) := by decide +kernel
theorem dX8_tryOptimalLine_11 : decode cX8_tryOptimalLine 11 = .ok (.aload_n 0, 1) := by decide +kernel
theorem dX8_tryOptimalLine_12 : decode cX8_tryOptimalLine 12 = .ok (.getfield 34, 3) := by decide +kernel
theorem dX8_tryOptimalLine_15 : decode cX8_tryOptimalLine 15 = .ok (.aload_n 0, 1) := by decide +kernel
theorem dX8_tryOptimalLine_16 : decode cX8_tryOptimalLine 16 = .ok (.getfield 30, 3) := by decide +kernel
theorem dX8_tryOptimalLine_19 : decode cX8_tryOptimalLine 19 = .ok (.invokevirtual 106, 3) := by decide +kernel
theorem dX8_tryOptimalLine_22 : decode cX8_tryOptimalLine 22 = .ok (.aload_n 0, 1) := by decide +kernel
theorem dX8_tryOptimalLine_23 : decode cX8_tryOptimalLine 23 = .ok (.aload_n 0, 1) := by decide +kernel
theorem dX8_tryOptimalLine_24 : decode cX8_tryOptimalLine 24 = .ok (.getfield 34, 3) := by decide +kernel
theorem dX8_tryOptimalLine_27 : decode cX8_tryOptimalLine 27 = .ok (.bipush 42, 2) := by decide +kernel
theorem dX8_tryOptimalLine_29 : decode cX8_tryOptimalLine 29 = .ok (.invokevirtual 284, 3) := by decide +kernel
theorem dX8_tryOptimalLine_32 : decode cX8_tryOptimalLine 32 = .ok (.pop, 1) := by decide +kernel
theorem dX8_tryOptimalLine_33 : decode cX8_tryOptimalLine 33 = .ok (.return_, 1) := by decide +kernel
theorem dX8_greedyMove_0 : decode cX8_greedyMove 0 = .ok (.aload_n 0, 1) := by decide +kernel
theorem dX8_greedyMove_1 : decode cX8_greedyMove 1 = .ok (.getfield 30, 3) := by decide +kernel
theorem dX8_greedyMove_4 : decode cX8_greedyMove 4 = .ok (.invokevirtual 233, 3) := by decide +kernel
theorem dX8_greedyMove_7 : decode cX8_greedyMove 7 = .ok (.istore_n 1, 1) := by decide +kernel
theorem dX8_greedyMove_8 : decode cX8_greedyMove 8 = .ok (.iload_n 1, 1) := by decide +kernel
theorem dX8_greedyMove_9 : decode cX8_greedyMove 9 = .ok (.iconst (-1), 1) := by decide +kernel
theorem dX8_greedyMove_10 : decode cX8_greedyMove 10 = .ok (.if_icmp .ne 14, 3) := by decide +kernel
theorem dX8_greedyMove_13 : decode cX8_greedyMove 13 = .ok (.new 259, 3) := by decide +kernel
theorem dX8_greedyMove_16 : decode cX8_greedyMove 16 = .ok (.dup, 1) := by decide +kernel
theorem dX8_greedyMove_17 : decode cX8_greedyMove 17 = .ok (.ldc_w 261, 3) := by decide +kernel
theorem dX8_greedyMove_20 : decode cX8_greedyMove 20 = .ok (.invokespecial 263, 3) := by decide +kernel
theorem dX8_greedyMove_23 : decode cX8_greedyMove 23 = .ok (.athrow, 1) := by decide +kernel
theorem dX8_greedyMove_24 : decode cX8_greedyMove 24 = .ok (.iload_n 1, 1) := by decide +kernel
theorem dX8_greedyMove_25 : decode cX8_greedyMove 25 = .ok (.ireturn, 1) := by decide +kernel
theorem dX8_greedyDifference_0 : decode cX8_greedyDifference 0 = .ok (.aload_n 0, 1) := by decide +kernel
theorem dX8_greedyDifference_1 : decode cX8_greedyDifference 1 = .ok (.getfield 34, 3) := by decide +kernel
theorem dX8_greedyDifference_4 : decode cX8_greedyDifference 4 = .ok (.aload_n 0, 1) := by decide +kernel
theorem dX8_greedyDifference_5 : decode cX8_greedyDifference 5 = .ok (.getfield 30, 3) := by decide +kernel
theorem dX8_greedyDifference_8 : decode cX8_greedyDifference 8 = .ok (.invokevirtual 106, 3) := by decide +kernel
theorem dX8_greedyDifference_11 : decode cX8_greedyDifference 11 = .ok (.iconst 0, 1) := by decide +kernel
theorem dX8_greedyDifference_12 : decode cX8_greedyDifference 12 = .ok (.istore_n 1, 1) := by decide +kernel
theorem dX8_greedyDifference_13 : decode cX8_greedyDifference 13 = .ok (.iload_n 1, 1) := by decide +kernel
theorem dX8_greedyDifference_14 : decode cX8_greedyDifference 14 = .ok (.bipush 42, 2) := by decide +kernel
theorem dX8_greedyDifference_16 : decode cX8_greedyDifference 16 = .ok (.if_icmp .ge 43, 3) := by decide +kernel
theorem dX8_greedyDifference_19 : decode cX8_greedyDifference 19 = .ok (.aload_n 0, 1) := by decide +kernel
theorem dX8_greedyDifference_20 : decode cX8_greedyDifference 20 = .ok (.getfield 34, 3) := by decide +kernel
theorem dX8_greedyDifference_23 : decode cX8_greedyDifference 23 = .ok (.getfield 129, 3) := by decide +kernel
theorem dX8_greedyDifference_26 : decode cX8_greedyDifference 26 = .ok (.getfield 135, 3) := by decide +kernel
theorem dX8_greedyDifference_29 : decode cX8_greedyDifference 29 = .ok (.ifCond .ne 30, 3) := by decide +kernel
theorem dX8_greedyDifference_32 : decode cX8_greedyDifference 32 = .ok (.aload_n 0, 1) := by decide +kernel
theorem dX8_greedyDifference_33 : decode cX8_greedyDifference 33 = .ok (.getfield 34, 3) := by decide +kernel
theorem dX8_greedyDifference_36 : decode cX8_greedyDifference 36 = .ok (.aload_n 0, 1) := by decide +kernel
theorem dX8_greedyDifference_37 : decode cX8_greedyDifference 37 = .ok (.getfield 34, 3) := by decide +kernel
theorem dX8_greedyDifference_40 : decode cX8_greedyDifference 40 = .ok (.aload_n 0, 1) := by decide +kernel
theorem dX8_greedyDifference_41 : decode cX8_greedyDifference 41 = .ok (.getfield 34, 3) := by decide +kernel
theorem dX8_greedyDifference_44 : decode cX8_greedyDifference 44 = .ok (.invokevirtual 233, 3) := by decide +kernel
theorem dX8_greedyDifference_47 : decode cX8_greedyDifference 47 = .ok (.invokevirtual 236, 3) := by decide +kernel
theorem dX8_greedyDifference_50 : decode cX8_greedyDifference 50 = .ok (.invokevirtual 281, 3) := by decide +kernel
theorem dX8_greedyDifference_53 : decode cX8_greedyDifference 53 = .ok (.iinc 1 1, 3) := by decide +kernel
theorem dX8_greedyDifference_56 : decode cX8_greedyDifference 56 = .ok (.goto (-43), 3) := by decide +kernel
theorem dX8_greedyDifference_59 : decode cX8_greedyDifference 59 = .ok (.aload_n 0, 1) := by decide +kernel
theorem dX8_greedyDifference_60 : decode cX8_greedyDifference 60 = .ok (.getfield 30, 3) := by decide +kernel
theorem dX8_greedyDifference_63 : decode cX8_greedyDifference 63 = .ok (.getfield 129, 3) := by decide +kernel
theorem dX8_greedyDifference_66 : decode cX8_greedyDifference 66 = .ok (.getfield 160, 3) := by decide +kernel
theorem dX8_greedyDifference_69 : decode cX8_greedyDifference 69 = .ok (.istore_n 1, 1) := by decide +kernel
theorem dX8_greedyDifference_70 : decode cX8_greedyDifference 70 = .ok (.aload_n 0, 1) := by decide +kernel
theorem dX8_greedyDifference_71 : decode cX8_greedyDifference 71 = .ok (.getfield 34, 3) := by decide +kernel
theorem dX8_greedyDifference_74 : decode cX8_greedyDifference 74 = .ok (.iload_n 1, 1) := by decide +kernel
theorem dX8_greedyDifference_75 : decode cX8_greedyDifference 75 = .ok (.invokevirtual 245, 3) := by decide +kernel
theorem dX8_greedyDifference_78 : decode cX8_greedyDifference 78 = .ok (.aload_n 0, 1) := by decide +kernel
theorem dX8_greedyDifference_79 : decode cX8_greedyDifference 79 = .ok (.getfield 30, 3) := by decide +kernel
theorem dX8_greedyDifference_82 : decode cX8_greedyDifference 82 = .ok (.iload_n 1, 1) := by decide +kernel
theorem dX8_greedyDifference_83 : decode cX8_greedyDifference 83 = .ok (.invokevirtual 245, 3) := by decide +kernel
theorem dX8_greedyDifference_86 : decode cX8_greedyDifference 86 = .ok (.isub, 1) := by decide +kernel
theorem dX8_greedyDifference_87 : decode cX8_greedyDifference 87 = .ok (.istore_n 2, 1) := by decide +kernel
theorem dX8_greedyDifference_88 : decode cX8_greedyDifference 88 = .ok (.aload_n 0, 1) := by decide +kernel
theorem dX8_greedyDifference_89 : decode cX8_greedyDifference 89 = .ok (.getfield 34, 3) := by decide +kernel
theorem dX8_greedyDifference_92 : decode cX8_greedyDifference 92 = .ok (.iconst 1, 1) := by decide +kernel
theorem dX8_greedyDifference_93 : decode cX8_greedyDifference 93 = .ok (.iload_n 1, 1) := by decide +kernel
theorem dX8_greedyDifference_94 : decode cX8_greedyDifference 94 = .ok (.isub, 1) := by decide +kernel
theorem dX8_greedyDifference_95 : decode cX8_greedyDifference 95 = .ok (.invokevirtual 245, 3) := by decide +kernel
theorem dX8_greedyDifference_98 : decode cX8_greedyDifference 98 = .ok (.aload_n 0, 1) := by decide +kernel
theorem dX8_greedyDifference_99 : decode cX8_greedyDifference 99 = .ok (.getfield 30, 3) := by decide +kernel
theorem dX8_greedyDifference_102 : decode cX8_greedyDifference 102 = .ok (.iconst 1, 1) := by decide +kernel
theorem dX8_greedyDifference_103 : decode cX8_greedyDifference 103 = .ok (.iload_n 1, 1) := by decide +kernel
theorem dX8_greedyDifference_104 : decode cX8_greedyDifference 104 = .ok (.isub, 1) := by decide +kernel
theorem dX8_greedyDifference_105 : decode cX8_greedyDifference 105 = .ok (.invokevirtual 245, 3) := by decide +kernel
theorem dX8_greedyDifference_108 : decode cX8_greedyDifference 108 = .ok (.isub, 1) := by decide +kernel
theorem dX8_greedyDifference_109 : decode cX8_greedyDifference 109 = .ok (.istore_n 3, 1) := by decide +kernel
theorem dX8_greedyDifference_110 : decode cX8_greedyDifference 110 = .ok (.iload_n 2, 1) := by decide +kernel
theorem dX8_greedyDifference_111 : decode cX8_greedyDifference 111 = .ok (.iload_n 3, 1) := by decide +kernel
theorem dX8_greedyDifference_112 : decode cX8_greedyDifference 112 = .ok (.isub, 1) := by decide +kernel
theorem dX8_greedyDifference_113 : decode cX8_greedyDifference 113 = .ok (.ireturn, 1) := by decide +kernel
theorem dX8_differenceAgainstGreedy_0 : decode cX8_differenceAgainstGreedy 0 = .ok (.aload_n 0, 1) := by decide +kernel
theorem dX8_differenceAgainstGreedy_1 : decode cX8_differenceAgainstGreedy 1 = .ok (.getfield 30, 3) := by decide +kernel
theorem dX8_differenceAgainstGreedy_4 : decode cX8_differenceAgainstGreedy 4 = .ok (.getfield 129, 3) := by decide +kernel
theorem dX8_differenceAgainstGreedy_7 : decode cX8_differenceAgainstGreedy 7 = .ok (.getfield 135, 3) := by decide +kernel
theorem dX8_differenceAgainstGreedy_10 : decode cX8_differenceAgainstGreedy 10 = .ok (.ifCond .eq 5, 3) := by decide +kernel
theorem dX8_differenceAgainstGreedy_13 : decode cX8_differenceAgainstGreedy 13 = .ok (.iconst 0, 1) := by decide +kernel
theorem dX8_differenceAgainstGreedy_14 : decode cX8_differenceAgainstGreedy 14 = .ok (.ireturn, 1) := by decide +kernel
theorem dX8_differenceAgainstGreedy_15 : decode cX8_differenceAgainstGreedy 15 = .ok (.aload_n 0, 1) := by decide +kernel
theorem dX8_differenceAgainstGreedy_16 : decode cX8_differenceAgainstGreedy 16 = .ok (.getfield 40, 3) := by decide +kernel
theorem dX8_differenceAgainstGreedy_19 : decode cX8_differenceAgainstGreedy 19 = .ok (.aload_n 0, 1) := by decide +kernel
theorem dX8_differenceAgainstGreedy_20 : decode cX8_differenceAgainstGreedy 20 = .ok (.getfield 30, 3) := by decide +kernel
theorem dX8_differenceAgainstGreedy_23 : decode cX8_differenceAgainstGreedy 23 = .ok (.invokevirtual 287, 3) := by decide +kernel
theorem dX8_differenceAgainstGreedy_26 : decode cX8_differenceAgainstGreedy 26 = .ok (.aload_n 0, 1) := by decide +kernel
theorem dX8_differenceAgainstGreedy_27 : decode cX8_differenceAgainstGreedy 27 = .ok (.getfield 40, 3) := by decide +kernel
theorem dX8_differenceAgainstGreedy_30 : decode cX8_differenceAgainstGreedy 30 = .ok (.aload_n 0, 1) := by decide +kernel
theorem dX8_differenceAgainstGreedy_31 : decode cX8_differenceAgainstGreedy 31 = .ok (.getfield 30, 3) := by decide +kernel
theorem dX8_differenceAgainstGreedy_34 : decode cX8_differenceAgainstGreedy 34 = .ok (.invokevirtual 290, 3) := by decide +kernel
theorem dX8_differenceAgainstGreedy_37 : decode cX8_differenceAgainstGreedy 37 = .ok (.ireturn, 1) := by decide +kernel
theorem dX8_greedyAgainstBest_0 : decode cX8_greedyAgainstBest 0 = .ok (.aload_n 0, 1) := by decide +kernel
theorem dX8_greedyAgainstBest_1 : decode cX8_greedyAgainstBest 1 = .ok (.getfield 30, 3) := by decide +kernel
theorem dX8_greedyAgainstBest_4 : decode cX8_greedyAgainstBest 4 = .ok (.getfield 129, 3) := by decide +kernel
theorem dX8_greedyAgainstBest_7 : decode cX8_greedyAgainstBest 7 = .ok (.getfield 135, 3) := by decide +kernel
theorem dX8_greedyAgainstBest_10 : decode cX8_greedyAgainstBest 10 = .ok (.ifCond .eq 5, 3) := by decide +kernel
theorem dX8_greedyAgainstBest_13 : decode cX8_greedyAgainstBest 13 = .ok (.iconst 0, 1) := by decide +kernel
theorem dX8_greedyAgainstBest_14 : decode cX8_greedyAgainstBest 14 = .ok (.ireturn, 1) := by decide +kernel
theorem dX8_greedyAgainstBest_15 : decode cX8_greedyAgainstBest 15 = .ok (.aload_n 0, 1) := by decide +kernel
theorem dX8_greedyAgainstBest_16 : decode cX8_greedyAgainstBest 16 = .ok (.getfield 40, 3) := by decide +kernel
theorem dX8_greedyAgainstBest_19 : decode cX8_greedyAgainstBest 19 = .ok (.aload_n 0, 1) := by decide +kernel
theorem dX8_greedyAgainstBest_20 : decode cX8_greedyAgainstBest 20 = .ok (.getfield 30, 3) := by decide +kernel
theorem dX8_greedyAgainstBest_23 : decode cX8_greedyAgainstBest 23 = .ok (.invokevirtual 287, 3) := by decide +kernel
theorem dX8_greedyAgainstBest_26 : decode cX8_greedyAgainstBest 26 = .ok (.aload_n 0, 1) := by decide +kernel
theorem dX8_greedyAgainstBest_27 : decode cX8_greedyAgainstBest 27 = .ok (.getfield 40, 3) := by decide +kernel
theorem dX8_greedyAgainstBest_30 : decode cX8_greedyAgainstBest 30 = .ok (.aload_n 0, 1) := by decide +kernel
theorem dX8_greedyAgainstBest_31 : decode cX8_greedyAgainstBest 31 = .ok (.getfield 30, 3) := by decide +kernel
theorem dX8_greedyAgainstBest_34 : decode cX8_greedyAgainstBest 34 = .ok (.invokevirtual 293, 3) := by decide +kernel
theorem dX8_greedyAgainstBest_37 : decode cX8_greedyAgainstBest 37 = .ok (.ineg, 1) := by decide +kernel
theorem dX8_greedyAgainstBest_38 : decode cX8_greedyAgainstBest 38 = .ok (.ireturn, 1) := by decide +kernel
theorem dX8_burn_0 : decode cX8_burn 0 = .ok (.aload_n 0, 1) := by decide +kernel
theorem dX8_burn_1 : decode cX8_burn 1 = .ok (.iload_n 1, 1) := by decide +kernel
theorem dX8_burn_2 : decode cX8_burn 2 = .ok (.invokevirtual 181, 3) := by decide +kernel
theorem dX8_burn_5 : decode cX8_burn 5 = .ok (.aload_n 0, 1) := by decide +kernel
theorem dX8_burn_6 : decode cX8_burn 6 = .ok (.getfield 30, 3) := by decide +kernel
theorem dX8_burn_9 : decode cX8_burn 9 = .ok (.getfield 129, 3) := by decide +kernel
theorem dX8_burn_12 : decode cX8_burn 12 = .ok (.getfield 135, 3) := by decide +kernel
theorem dX8_burn_15 : decode cX8_burn 15 = .ok (.ifCond .ne 15, 3) := by decide +kernel
theorem dX8_burn_18 : decode cX8_burn 18 = .ok (.aload_n 0, 1) := by decide +kernel
theorem dX8_burn_19 : decode cX8_burn 19 = .ok (.getfield 30, 3) := by decide +kernel
theorem dX8_burn_22 : decode cX8_burn 22 = .ok (.iload_n 1, 1) := by decide +kernel
theorem dX8_burn_23 : decode cX8_burn 23 = .ok (.invokevirtual 184, 3) := by decide +kernel
theorem dX8_burn_26 : decode cX8_burn 26 = .ok (.iconst 2, 1) := by decide +kernel
theorem dX8_burn_27 : decode cX8_burn 27 = .ok (.if_icmp .ge 14, 3) := by decide +kernel
theorem dX8_burn_30 : decode cX8_burn 30 = .ok (.new 71, 3) := by decide +kernel
theorem dX8_burn_33 : decode cX8_burn 33 = .ok (.dup, 1) := by decide +kernel
theorem dX8_burn_34 : decode cX8_burn 34 = .ok (.ldc_w 296, 3) := by decide +kernel
theorem dX8_burn_37 : decode cX8_burn 37 = .ok (.invokespecial 75, 3) := by decide +kernel
theorem dX8_burn_40 : decode cX8_burn 40 = .ok (.athrow, 1) := by decide +kernel
theorem dX8_burn_41 : decode cX8_burn 41 = .ok (.iload_n 1, 1) := by decide +kernel
theorem dX8_burn_42 : decode cX8_burn 42 = .ok (.iload_n 2, 1) := by decide +kernel
theorem dX8_burn_43 : decode cX8_burn 43 = .ok (.invokestatic 298, 3) := by decide +kernel
theorem dX8_burn_46 : decode cX8_burn 46 = .ok (.istore_n 3, 1) := by decide +kernel
theorem dX8_burn_47 : decode cX8_burn 47 = .ok (.aload_n 0, 1) := by decide +kernel
theorem dX8_burn_48 : decode cX8_burn 48 = .ok (.getfield 30, 3) := by decide +kernel
theorem dX8_burn_51 : decode cX8_burn 51 = .ok (.iload_n 3, 1) := by decide +kernel
theorem dX8_burn_52 : decode cX8_burn 52 = .ok (.invokevirtual 218, 3) := by decide +kernel
theorem dX8_burn_55 : decode cX8_burn 55 = .ok (.istore 4, 2) := by decide +kernel
theorem dX8_burn_57 : decode cX8_burn 57 = .ok (.aload_n 0, 1) := by decide +kernel
theorem dX8_burn_58 : decode cX8_burn 58 = .ok (.getfield 47, 3) := by decide +kernel
theorem dX8_burn_61 : decode cX8_burn 61 = .ok (.aload_n 0, 1) := by decide +kernel
theorem dX8_burn_62 : decode cX8_burn 62 = .ok (.getfield 30, 3) := by decide +kernel
theorem dX8_burn_65 : decode cX8_burn 65 = .ok (.getfield 129, 3) := by decide +kernel
theorem dX8_burn_68 : decode cX8_burn 68 = .ok (.invokevirtual 302, 3) := by decide +kernel
theorem dX8_burn_71 : decode cX8_burn 71 = .ok (.aload_n 0, 1) := by decide +kernel
theorem dX8_burn_72 : decode cX8_burn 72 = .ok (.getfield 30, 3) := by decide +kernel
theorem dX8_burn_75 : decode cX8_burn 75 = .ok (.iload_n 3, 1) := by decide +kernel
theorem dX8_burn_76 : decode cX8_burn 76 = .ok (.invokevirtual 281, 3) := by decide +kernel
theorem dX8_burn_79 : decode cX8_burn 79 = .ok (.iload 4, 2) := by decide +kernel
theorem dX8_burn_81 : decode cX8_burn 81 = .ok (.ireturn, 1) := by decide +kernel
theorem dX8_pass_0 : decode cX8_pass 0 = .ok (.aload_n 0, 1) := by decide +kernel
theorem dX8_pass_1 : decode cX8_pass 1 = .ok (.getfield 30, 3) := by decide +kernel
theorem dX8_pass_4 : decode cX8_pass 4 = .ok (.getfield 129, 3) := by decide +kernel
theorem dX8_pass_7 : decode cX8_pass 7 = .ok (.getfield 135, 3) := by decide +kernel
theorem dX8_pass_10 : decode cX8_pass 10 = .ok (.ifCond .eq 14, 3) := by decide +kernel
theorem dX8_pass_13 : decode cX8_pass 13 = .ok (.new 71, 3) := by decide +kernel
theorem dX8_pass_16 : decode cX8_pass 16 = .ok (.dup, 1) := by decide +kernel
theorem dX8_pass_17 : decode cX8_pass 17 = .ok (.ldc_w 261, 3) := by decide +kernel
theorem dX8_pass_20 : decode cX8_pass 20 = .ok (.invokespecial 75, 3) := by decide +kernel
theorem dX8_pass_23 : decode cX8_pass 23 = .ok (.athrow, 1) := by decide +kernel
theorem dX8_pass_24 : decode cX8_pass 24 = .ok (.aload_n 0, 1) := by decide +kernel
theorem dX8_pass_25 : decode cX8_pass 25 = .ok (.getfield 47, 3) := by decide +kernel
theorem dX8_pass_28 : decode cX8_pass 28 = .ok (.aload_n 0, 1) := by decide +kernel
theorem dX8_pass_29 : decode cX8_pass 29 = .ok (.getfield 30, 3) := by decide +kernel
theorem dX8_pass_32 : decode cX8_pass 32 = .ok (.getfield 129, 3) := by decide +kernel
theorem dX8_pass_35 : decode cX8_pass 35 = .ok (.invokevirtual 302, 3) := by decide +kernel
theorem dX8_pass_38 : decode cX8_pass 38 = .ok (.aload_n 0, 1) := by decide +kernel
theorem dX8_pass_39 : decode cX8_pass 39 = .ok (.getfield 30, 3) := by decide +kernel
theorem dX8_pass_42 : decode cX8_pass 42 = .ok (.bipush 6, 2) := by decide +kernel
theorem dX8_pass_44 : decode cX8_pass 44 = .ok (.invokevirtual 281, 3) := by decide +kernel
theorem dX8_pass_47 : decode cX8_pass 47 = .ok (.aload_n 0, 1) := by decide +kernel
theorem dX8_pass_48 : decode cX8_pass 48 = .ok (.getfield 30, 3) := by decide +kernel
theorem dX8_pass_51 : decode cX8_pass 51 = .ok (.getfield 129, 3) := by decide +kernel
theorem dX8_pass_54 : decode cX8_pass 54 = .ok (.getfield 135, 3) := by decide +kernel
theorem dX8_pass_57 : decode cX8_pass 57 = .ok (.ireturn, 1) := by decide +kernel
theorem dX8_playOptimally_0 : decode cX8_playOptimally 0 = .ok (.iload_n 1, 1) := by decide +kernel
theorem dX8_playOptimally_1 : decode cX8_playOptimally 1 = .ok (.iconst 1, 1) := by decide +kernel
theorem dX8_playOptimally_2 : decode cX8_playOptimally 2 = .ok (.if_icmp .lt 9, 3) := by decide +kernel
theorem dX8_playOptimally_5 : decode cX8_playOptimally 5 = .ok (.iload_n 1, 1) := by decide +kernel
theorem dX8_playOptimally_6 : decode cX8_playOptimally 6 = .ok (.bipush 30, 2) := by decide +kernel
theorem dX8_playOptimally_8 : decode cX8_playOptimally 8 = .ok (.if_icmp .le 14, 3) := by decide +kernel
theorem dX8_playOptimally_11 : decode cX8_playOptimally 11 = .ok (.new 86, 3) := by decide +kernel
theorem dX8_playOptimally_14 : decode cX8_playOptimally 14 = .ok (.dup, 1) := by decide +kernel
theorem dX8_playOptimally_15 : decode cX8_playOptimally 15 = .ok (.ldc_w 306, 3) := by decide +kernel
theorem dX8_playOptimally_18 : decode cX8_playOptimally 18 = .ok (.invokespecial 90, 3) := by decide +kernel
theorem dX8_playOptimally_21 : decode cX8_playOptimally 21 = .ok (.athrow, 1) := by decide +kernel
theorem dX8_playOptimally_22 : decode cX8_playOptimally 22 = .ok (.aload_n 0, 1) := by decide +kernel
theorem dX8_playOptimally_23 : decode cX8_playOptimally 23 = .ok (.getfield 47, 3) := by decide +kernel
theorem dX8_playOptimally_26 : decode cX8_playOptimally 26 = .ok (.aload_n 0, 1) := by decide +kernel
theorem dX8_playOptimally_27 : decode cX8_playOptimally 27 = .ok (.getfield 30, 3) := by decide +kernel
theorem dX8_playOptimally_30 : decode cX8_playOptimally 30 = .ok (.getfield 129, 3) := by decide +kernel
theorem dX8_playOptimally_33 : decode cX8_playOptimally 33 = .ok (.invokevirtual 302, 3) := by decide +kernel
theorem dX8_playOptimally_36 : decode cX8_playOptimally 36 = .ok (.aload_n 0, 1) := by decide +kernel
theorem dX8_playOptimally_37 : decode cX8_playOptimally 37 = .ok (.getfield 40, 3) := by decide +kernel
theorem dX8_playOptimally_40 : decode cX8_playOptimally 40 = .ok (.aload_n 0, 1) := by decide +kernel
theorem dX8_playOptimally_41 : decode cX8_playOptimally 41 = .ok (.getfield 30, 3) := by decide +kernel
theorem dX8_playOptimally_44 : decode cX8_playOptimally 44 = .ok (.invokevirtual 248, 3) := by decide +kernel
theorem dX8_playOptimally_47 : decode cX8_playOptimally 47 = .ok (.aload_n 0, 1) := by decide +kernel
theorem dX8_playOptimally_48 : decode cX8_playOptimally 48 = .ok (.aload_n 0, 1) := by decide +kernel
theorem dX8_playOptimally_49 : decode cX8_playOptimally 49 = .ok (.getfield 30, 3) := by decide +kernel
theorem dX8_playOptimally_52 : decode cX8_playOptimally 52 = .ok (.iload_n 1, 1) := by decide +kernel
theorem dX8_playOptimally_53 : decode cX8_playOptimally 53 = .ok (.invokevirtual 284, 3) := by decide +kernel
theorem dX8_playOptimally_56 : decode cX8_playOptimally 56 = .ok (.ireturn, 1) := by decide +kernel
theorem dX8_startNextRound_0 : decode cX8_startNextRound 0 = .ok (.aload_n 0, 1) := by decide +kernel
theorem dX8_startNextRound_1 : decode cX8_startNextRound 1 = .ok (.getfield 30, 3) := by decide +kernel
theorem dX8_startNextRound_4 : decode cX8_startNextRound 4 = .ok (.getfield 129, 3) := by decide +kernel
theorem dX8_startNextRound_7 : decode cX8_startNextRound 7 = .ok (.getfield 135, 3) := by decide +kernel
theorem dX8_startNextRound_10 : decode cX8_startNextRound 10 = .ok (.ifCond .eq 13, 3) := by decide +kernel
theorem dX8_startNextRound_13 : decode cX8_startNextRound 13 = .ok (.aload_n 0, 1) := by decide +kernel
theorem dX8_startNextRound_14 : decode cX8_startNextRound 14 = .ok (.getfield 30, 3) := by decide +kernel
theorem dX8_startNextRound_17 : decode cX8_startNextRound 17 = .ok (.invokevirtual 138, 3) := by decide +kernel
theorem dX8_startNextRound_20 : decode cX8_startNextRound 20 = .ok (.ifCond .eq 14, 3) := by decide +kernel
theorem dX8_startNextRound_23 : decode cX8_startNextRound 23 = .ok (.new 71, 3) := by decide +kernel
theorem dX8_startNextRound_26 : decode cX8_startNextRound 26 = .ok (.dup, 1) := by decide +kernel
theorem dX8_startNextRound_27 : decode cX8_startNextRound 27 = .ok (.ldc_w 308, 3) := by decide +kernel
theorem dX8_startNextRound_30 : decode cX8_startNextRound 30 = .ok (.invokespecial 75, 3) := by decide +kernel
theorem dX8_startNextRound_33 : decode cX8_startNextRound 33 = .ok (.athrow, 1) := by decide +kernel
theorem dX8_startNextRound_34 : decode cX8_startNextRound 34 = .ok (.aload_n 0, 1) := by decide +kernel
theorem dX8_startNextRound_35 : decode cX8_startNextRound 35 = .ok (.getfield 47, 3) := by decide +kernel
theorem dX8_startNextRound_38 : decode cX8_startNextRound 38 = .ok (.aload_n 0, 1) := by decide +kernel
theorem dX8_startNextRound_39 : decode cX8_startNextRound 39 = .ok (.getfield 30, 3) := by decide +kernel
theorem dX8_startNextRound_42 : decode cX8_startNextRound 42 = .ok (.getfield 129, 3) := by decide +kernel
theorem dX8_startNextRound_45 : decode cX8_startNextRound 45 = .ok (.invokevirtual 302, 3) := by decide +kernel
theorem dX8_startNextRound_48 : decode cX8_startNextRound 48 = .ok (.aload_n 0, 1) := by decide +kernel
theorem dX8_startNextRound_49 : decode cX8_startNextRound 49 = .ok (.getfield 30, 3) := by decide +kernel
theorem dX8_startNextRound_52 : decode cX8_startNextRound 52 = .ok (.invokevirtual 310, 3) := by decide +kernel
theorem dX8_startNextRound_55 : decode cX8_startNextRound 55 = .ok (.aload_n 0, 1) := by decide +kernel
theorem dX8_startNextRound_56 : decode cX8_startNextRound 56 = .ok (.getfield 30, 3) := by decide +kernel
theorem dX8_startNextRound_59 : decode cX8_startNextRound 59 = .ok (.getfield 129, 3) := by decide +kernel
theorem dX8_startNextRound_62 : decode cX8_startNextRound 62 = .ok (.getfield 132, 3) := by decide +kernel
theorem dX8_startNextRound_65 : decode cX8_startNextRound 65 = .ok (.ireturn, 1) := by decide +kernel
theorem dX8_undo_0 : decode cX8_undo 0 = .ok (.aload_n 0, 1) := by decide +kernel
theorem dX8_undo_1 : decode cX8_undo 1 = .ok (.getfield 47, 3) := by decide +kernel
theorem dX8_undo_4 : decode cX8_undo 4 = .ok (.getfield 313, 3) := by decide +kernel
theorem dX8_undo_7 : decode cX8_undo 7 = .ok (.ifCond .ne 14, 3) := by decide +kernel
theorem dX8_undo_10 : decode cX8_undo 10 = .ok (.new 71, 3) := by decide +kernel
theorem dX8_undo_13 : decode cX8_undo 13 = .ok (.dup, 1) := by decide +kernel
theorem dX8_undo_14 : decode cX8_undo 14 = .ok (.ldc_w 316, 3) := by decide +kernel
theorem dX8_undo_17 : decode cX8_undo 17 = .ok (.invokespecial 75, 3) := by decide +kernel
theorem dX8_undo_20 : decode cX8_undo 20 = .ok (.athrow, 1) := by decide +kernel
theorem dX8_undo_21 : decode cX8_undo 21 = .ok (.aload_n 0, 1) := by decide +kernel
theorem dX8_undo_22 : decode cX8_undo 22 = .ok (.getfield 47, 3) := by decide +kernel
theorem dX8_undo_25 : decode cX8_undo 25 = .ok (.aload_n 0, 1) := by decide +kernel
theorem dX8_undo_26 : decode cX8_undo 26 = .ok (.getfield 30, 3) := by decide +kernel
theorem dX8_undo_29 : decode cX8_undo 29 = .ok (.getfield 129, 3) := by decide +kernel
theorem dX8_undo_32 : decode cX8_undo 32 = .ok (.invokevirtual 318, 3) := by decide +kernel
theorem dX8_undo_35 : decode cX8_undo 35 = .ok (.aload_n 0, 1) := by decide +kernel
theorem dX8_undo_36 : decode cX8_undo 36 = .ok (.getfield 47, 3) := by decide +kernel
theorem dX8_undo_39 : decode cX8_undo 39 = .ok (.getfield 313, 3) := by decide +kernel
theorem dX8_undo_42 : decode cX8_undo 42 = .ok (.ireturn, 1) := by decide +kernel
theorem dX8_save_0 : decode cX8_save 0 = .ok (.aload_n 0, 1) := by decide +kernel
theorem dX8_save_1 : decode cX8_save 1 = .ok (.getfield 54, 3) := by decide +kernel
theorem dX8_save_4 : decode cX8_save 4 = .ok (.aload_n 0, 1) := by decide +kernel
theorem dX8_save_5 : decode cX8_save 5 = .ok (.getfield 30, 3) := by decide +kernel
theorem dX8_save_8 : decode cX8_save 8 = .ok (.getfield 129, 3) := by decide +kernel
theorem dX8_save_11 : decode cX8_save 11 = .ok (.invokevirtual 321, 3) := by decide +kernel
theorem dX8_save_14 : decode cX8_save 14 = .ok (.aload_n 0, 1) := by decide +kernel
theorem dX8_save_15 : decode cX8_save 15 = .ok (.iconst 1, 1) := by decide +kernel
theorem dX8_save_16 : decode cX8_save 16 = .ok (.putfield 113, 3) := by decide +kernel
theorem dX8_save_19 : decode cX8_save 19 = .ok (.aload_n 0, 1) := by decide +kernel
theorem dX8_save_20 : decode cX8_save 20 = .ok (.getfield 54, 3) := by decide +kernel
theorem dX8_save_23 : decode cX8_save 23 = .ok (.getfield 221, 3) := by decide +kernel
theorem dX8_save_26 : decode cX8_save 26 = .ok (.ireturn, 1) := by decide +kernel
theorem dX8_restore_0 : decode cX8_restore 0 = .ok (.aload_n 0, 1) := by decide +kernel
theorem dX8_restore_1 : decode cX8_restore 1 = .ok (.getfield 113, 3) := by decide +kernel
theorem dX8_restore_4 : decode cX8_restore 4 = .ok (.ifCond .ne 14, 3) := by decide +kernel
theorem dX8_restore_7 : decode cX8_restore 7 = .ok (.new 71, 3) := by decide +kernel
theorem dX8_restore_10 : decode cX8_restore 10 = .ok (.dup, 1) := by decide +kernel
theorem dX8_restore_11 : decode cX8_restore 11 = .ok (.ldc_w 323, 3) := by decide +kernel
theorem dX8_restore_14 : decode cX8_restore 14 = .ok (.invokespecial 75, 3) := by decide +kernel
theorem dX8_restore_17 : decode cX8_restore 17 = .ok (.athrow, 1) := by decide +kernel
theorem dX8_restore_18 : decode cX8_restore 18 = .ok (.aload_n 0, 1) := by decide +kernel
theorem dX8_restore_19 : decode cX8_restore 19 = .ok (.getfield 47, 3) := by decide +kernel
theorem dX8_restore_22 : decode cX8_restore 22 = .ok (.aload_n 0, 1) := by decide +kernel
theorem dX8_restore_23 : decode cX8_restore 23 = .ok (.getfield 30, 3) := by decide +kernel
theorem dX8_restore_26 : decode cX8_restore 26 = .ok (.getfield 129, 3) := by decide +kernel
theorem dX8_restore_29 : decode cX8_restore 29 = .ok (.invokevirtual 302, 3) := by decide +kernel
theorem dX8_restore_32 : decode cX8_restore 32 = .ok (.aload_n 0, 1) := by decide +kernel
theorem dX8_restore_33 : decode cX8_restore 33 = .ok (.getfield 30, 3) := by decide +kernel
theorem dX8_restore_36 : decode cX8_restore 36 = .ok (.getfield 129, 3) := by decide +kernel
theorem dX8_restore_39 : decode cX8_restore 39 = .ok (.aload_n 0, 1) := by decide +kernel
theorem dX8_restore_40 : decode cX8_restore 40 = .ok (.getfield 54, 3) := by decide +kernel
theorem dX8_restore_43 : decode cX8_restore 43 = .ok (.invokevirtual 321, 3) := by decide +kernel
theorem dX8_restore_46 : decode cX8_restore 46 = .ok (.aload_n 0, 1) := by decide +kernel
theorem dX8_restore_47 : decode cX8_restore 47 = .ok (.getfield 30, 3) := by decide +kernel
theorem dX8_restore_50 : decode cX8_restore 50 = .ok (.getfield 129, 3) := by decide +kernel
theorem dX8_restore_53 : decode cX8_restore 53 = .ok (.getfield 221, 3) := by decide +kernel
theorem dX8_restore_56 : decode cX8_restore 56 = .ok (.ireturn, 1) := by decide +kernel
theorem dX8_formatChain_0 : decode cX8_formatChain 0 = .ok (.aload_n 0, 1) := by decide +kernel
theorem dX8_formatChain_1 : decode cX8_formatChain 1 = .ok (.iload_n 1, 1) := by decide +kernel
theorem dX8_formatChain_2 : decode cX8_formatChain 2 = .ok (.invokevirtual 181, 3) := by decide +kernel
theorem dX8_formatChain_5 : decode cX8_formatChain 5 = .ok (.aload_n 0, 1) := by decide +kernel
theorem dX8_formatChain_6 : decode cX8_formatChain 6 = .ok (.getfield 61, 3) := by decide +kernel
theorem dX8_formatChain_9 : decode cX8_formatChain 9 = .ok (.iconst 0, 1) := by decide +kernel
theorem dX8_formatChain_10 : decode cX8_formatChain 10 = .ok (.putfield 325, 3) := by decide +kernel
theorem dX8_formatChain_13 : decode cX8_formatChain 13 = .ok (.iconst 0, 1) := by decide +kernel
theorem dX8_formatChain_14 : decode cX8_formatChain 14 = .ok (.istore_n 2, 1) := by decide +kernel
theorem dX8_formatChain_15 : decode cX8_formatChain 15 = .ok (.iload_n 2, 1) := by decide +kernel
theorem dX8_formatChain_16 : decode cX8_formatChain 16 = .ok (.aload_n 0, 1) := by decide +kernel
theorem dX8_formatChain_17 : decode cX8_formatChain 17 = .ok (.getfield 30, 3) := by decide +kernel
theorem dX8_formatChain_20 : decode cX8_formatChain 20 = .ok (.iload_n 1, 1) := by decide +kernel
theorem dX8_formatChain_21 : decode cX8_formatChain 21 = .ok (.invokevirtual 184, 3) := by decide +kernel
theorem dX8_formatChain_24 : decode cX8_formatChain 24 = .ok (.if_icmp .ge 60, 3) := by decide +kernel
theorem dX8_formatChain_27 : decode cX8_formatChain 27 = .ok (.iload_n 2, 1) := by decide +kernel
theorem dX8_formatChain_28 : decode cX8_formatChain 28 = .ok (.ifCond .le 12, 3) := by decide +kernel
theorem dX8_formatChain_31 : decode cX8_formatChain 31 = .ok (.aload_n 0, 1) := by decide +kernel
theorem dX8_formatChain_32 : decode cX8_formatChain 32 = .ok (.getfield 61, 3) := by decide +kernel
theorem dX8_formatChain_35 : decode cX8_formatChain 35 = .ok (.bipush 45, 2) := by decide +kernel
theorem dX8_formatChain_37 : decode cX8_formatChain 37 = .ok (.invokevirtual 328, 3) := by decide +kernel
theorem dX8_formatChain_40 : decode cX8_formatChain 40 = .ok (.aload_n 0, 1) := by decide +kernel
theorem dX8_formatChain_41 : decode cX8_formatChain 41 = .ok (.getfield 61, 3) := by decide +kernel
theorem dX8_formatChain_44 : decode cX8_formatChain 44 = .ok (.bipush 48, 2) := by decide +kernel
theorem dX8_formatChain_46 : decode cX8_formatChain 46 = .ok (.aload_n 0, 1) := by decide +kernel
theorem dX8_formatChain_47 : decode cX8_formatChain 47 = .ok (.getfield 30, 3) := by decide +kernel
theorem dX8_formatChain_50 : decode cX8_formatChain 50 = .ok (.iload_n 1, 1) := by decide +kernel
theorem dX8_formatChain_51 : decode cX8_formatChain 51 = .ok (.iload_n 2, 1) := by decide +kernel
theorem dX8_formatChain_52 : decode cX8_formatChain 52 = .ok (.invokevirtual 191, 3) := by decide +kernel
theorem dX8_formatChain_55 : decode cX8_formatChain 55 = .ok (.iadd, 1) := by decide +kernel
theorem dX8_formatChain_56 : decode cX8_formatChain 56 = .ok (.invokevirtual 328, 3) := by decide +kernel
theorem dX8_formatChain_59 : decode cX8_formatChain 59 = .ok (.aload_n 0, 1) := by decide +kernel
theorem dX8_formatChain_60 : decode cX8_formatChain 60 = .ok (.getfield 61, 3) := by decide +kernel
theorem dX8_formatChain_63 : decode cX8_formatChain 63 = .ok (.bipush 48, 2) := by decide +kernel
theorem dX8_formatChain_65 : decode cX8_formatChain 65 = .ok (.aload_n 0, 1) := by decide +kernel
theorem dX8_formatChain_66 : decode cX8_formatChain 66 = .ok (.getfield 30, 3) := by decide +kernel
theorem dX8_formatChain_69 : decode cX8_formatChain 69 = .ok (.iload_n 1, 1) := by decide +kernel
theorem dX8_formatChain_70 : decode cX8_formatChain 70 = .ok (.iload_n 2, 1) := by decide +kernel
theorem dX8_formatChain_71 : decode cX8_formatChain 71 = .ok (.invokevirtual 194, 3) := by decide +kernel
theorem dX8_formatChain_74 : decode cX8_formatChain 74 = .ok (.iadd, 1) := by decide +kernel
theorem dX8_formatChain_75 : decode cX8_formatChain 75 = .ok (.invokevirtual 328, 3) := by decide +kernel
theorem dX8_formatChain_78 : decode cX8_formatChain 78 = .ok (.iinc 2 1, 3) := by decide +kernel
theorem dX8_formatChain_81 : decode cX8_formatChain 81 = .ok (.goto (-66), 3) := by decide +kernel
theorem dX8_formatChain_84 : decode cX8_formatChain 84 = .ok (.aload_n 0, 1) := by decide +kernel
theorem dX8_formatChain_85 : decode cX8_formatChain 85 = .ok (.getfield 61, 3) := by decide +kernel
theorem dX8_formatChain_88 : decode cX8_formatChain 88 = .ok (.getfield 325, 3) := by decide +kernel
theorem dX8_formatChain_91 : decode cX8_formatChain 91 = .ok (.ireturn, 1) := by decide +kernel
theorem dX8_formatLog_0 : decode cX8_formatLog 0 = .ok (.aload_n 0, 1) := by decide +kernel
theorem dX8_formatLog_1 : decode cX8_formatLog 1 = .ok (.getfield 61, 3) := by decide +kernel
theorem dX8_formatLog_4 : decode cX8_formatLog 4 = .ok (.aload_n 0, 1) := by decide +kernel
theorem dX8_formatLog_5 : decode cX8_formatLog 5 = .ok (.getfield 30, 3) := by decide +kernel
theorem dX8_formatLog_8 : decode cX8_formatLog 8 = .ok (.getfield 129, 3) := by decide +kernel
theorem dX8_formatLog_11 : decode cX8_formatLog 11 = .ok (.iconst 0, 1) := by decide +kernel
theorem dX8_formatLog_12 : decode cX8_formatLog 12 = .ok (.invokevirtual 331, 3) := by decide +kernel
theorem dX8_formatLog_15 : decode cX8_formatLog 15 = .ok (.aload_n 0, 1) := by decide +kernel
theorem dX8_formatLog_16 : decode cX8_formatLog 16 = .ok (.getfield 61, 3) := by decide +kernel
theorem dX8_formatLog_19 : decode cX8_formatLog 19 = .ok (.getfield 325, 3) := by decide +kernel
theorem dX8_formatLog_22 : decode cX8_formatLog 22 = .ok (.ireturn, 1) := by decide +kernel
theorem dX8_formatOptimalLine_0 : decode cX8_formatOptimalLine 0 = .ok (.aload_n 0, 1) := by decide +kernel
theorem dX8_formatOptimalLine_1 : decode cX8_formatOptimalLine 1 = .ok (.invokevirtual 270, 3) := by decide +kernel
theorem dX8_formatOptimalLine_4 : decode cX8_formatOptimalLine 4 = .ok (.aload_n 0, 1) := by decide +kernel
theorem dX8_formatOptimalLine_5 : decode cX8_formatOptimalLine 5 = .ok (.getfield 61, 3) := by decide +kernel
theorem dX8_formatOptimalLine_8 : decode cX8_formatOptimalLine 8 = .ok (.aload_n 0, 1) := by decide +kernel
theorem dX8_formatOptimalLine_9 : decode cX8_formatOptimalLine 9 = .ok (.getfield 34, 3) := by decide +kernel
theorem dX8_formatOptimalLine_12 : decode cX8_formatOptimalLine 12 = .ok (.getfield 129, 3) := by decide +kernel
theorem dX8_formatOptimalLine_15 : decode cX8_formatOptimalLine 15 = .ok (.aload_n 0, 1) := by decide +kernel
theorem dX8_formatOptimalLine_16 : decode cX8_formatOptimalLine 16 = .ok (.getfield 30, 3) := by decide +kernel
theorem dX8_formatOptimalLine_19 : decode cX8_formatOptimalLine 19 = .ok (.getfield 129, 3) := by decide +kernel
theorem dX8_formatOptimalLine_22 : decode cX8_formatOptimalLine 22 = .ok (.getfield 221, 3) := by decide +kernel
theorem dX8_formatOptimalLine_25 : decode cX8_formatOptimalLine 25 = .ok (.invokevirtual 331, 3) := by decide +kernel
theorem dX8_formatOptimalLine_28 : decode cX8_formatOptimalLine 28 = .ok (.aload_n 0, 1) := by decide +kernel
theorem dX8_formatOptimalLine_29 : decode cX8_formatOptimalLine 29 = .ok (.getfield 61, 3) := by decide +kernel
theorem dX8_formatOptimalLine_32 : decode cX8_formatOptimalLine 32 = .ok (.getfield 325, 3) := by decide +kernel
theorem dX8_formatOptimalLine_35 : decode cX8_formatOptimalLine 35 = .ok (.ireturn, 1) := by decide +kernel
theorem dX8_formattedCharacter_0 : decode cX8_formattedCharacter 0 = .ok (.iload_n 1, 1) := by decide +kernel
theorem dX8_formattedCharacter_1 : decode cX8_formattedCharacter 1 = .ok (.ifCond .lt 14, 3) := by decide +kernel
theorem dX8_formattedCharacter_4 : decode cX8_formattedCharacter 4 = .ok (.iload_n 1, 1) := by decide +kernel
theorem dX8_formattedCharacter_5 : decode cX8_formattedCharacter 5 = .ok (.aload_n 0, 1) := by decide +kernel
theorem dX8_formattedCharacter_6 : decode cX8_formattedCharacter 6 = .ok (.getfield 61, 3) := by decide +kernel
theorem dX8_formattedCharacter_9 : decode cX8_formattedCharacter 9 = .ok (.getfield 325, 3) := by decide +kernel
theorem dX8_formattedCharacter_12 : decode cX8_formattedCharacter 12 = .ok (.if_icmp .lt 14, 3) := by decide +kernel
theorem dX8_formattedCharacter_15 : decode cX8_formattedCharacter 15 = .ok (.new 273, 3) := by decide +kernel
theorem dX8_formattedCharacter_18 : decode cX8_formattedCharacter 18 = .ok (.dup, 1) := by decide +kernel
theorem dX8_formattedCharacter_19 : decode cX8_formattedCharacter 19 = .ok (.ldc_w 335, 3) := by decide +kernel
theorem dX8_formattedCharacter_22 : decode cX8_formattedCharacter 22 = .ok (.invokespecial 277, 3) := by decide +kernel
theorem dX8_formattedCharacter_25 : decode cX8_formattedCharacter 25 = .ok (.athrow, 1) := by decide +kernel
theorem dX8_formattedCharacter_26 : decode cX8_formattedCharacter 26 = .ok (.aload_n 0, 1) := by decide +kernel
theorem dX8_formattedCharacter_27 : decode cX8_formattedCharacter 27 = .ok (.getfield 61, 3) := by decide +kernel
theorem dX8_formattedCharacter_30 : decode cX8_formattedCharacter 30 = .ok (.getfield 337, 3) := by decide +kernel
theorem dX8_formattedCharacter_33 : decode cX8_formattedCharacter 33 = .ok (.iload_n 1, 1) := by decide +kernel
theorem dX8_formattedCharacter_34 : decode cX8_formattedCharacter 34 = .ok (.invokestatic 170, 3) := by decide +kernel
theorem dX8_formattedCharacter_37 : decode cX8_formattedCharacter 37 = .ok (.i2c, 1) := by decide +kernel
theorem dX8_formattedCharacter_38 : decode cX8_formattedCharacter 38 = .ok (.ireturn, 1) := by decide +kernel
theorem dX8_needPlayer_0 : decode cX8_needPlayer 0 = .ok (.iload_n 1, 1) := by decide +kernel
theorem dX8_needPlayer_1 : decode cX8_needPlayer 1 = .ok (.ifCond .lt 8, 3) := by decide +kernel
theorem dX8_needPlayer_4 : decode cX8_needPlayer 4 = .ok (.iload_n 1, 1) := by decide +kernel
theorem dX8_needPlayer_5 : decode cX8_needPlayer 5 = .ok (.iconst 2, 1) := by decide +kernel
theorem dX8_needPlayer_6 : decode cX8_needPlayer 6 = .ok (.if_icmp .lt 14, 3) := by decide +kernel
theorem dX8_needPlayer_9 : decode cX8_needPlayer 9 = .ok (.new 273, 3) := by decide +kernel
theorem dX8_needPlayer_12 : decode cX8_needPlayer 12 = .ok (.dup, 1) := by decide +kernel
theorem dX8_needPlayer_13 : decode cX8_needPlayer 13 = .ok (.ldc_w 340, 3) := by decide +kernel
theorem dX8_needPlayer_16 : decode cX8_needPlayer 16 = .ok (.invokespecial 277, 3) := by decide +kernel
theorem dX8_needPlayer_19 : decode cX8_needPlayer 19 = .ok (.athrow, 1) := by decide +kernel
theorem dX8_needPlayer_20 : decode cX8_needPlayer 20 = .ok (.return_, 1) := by decide +kernel
theorem dX8_needRound_0 : decode cX8_needRound 0 = .ok (.iload_n 1, 1) := by decide +kernel
theorem dX8_needRound_1 : decode cX8_needRound 1 = .ok (.ifCond .lt 17, 3) := by decide +kernel
theorem dX8_needRound_4 : decode cX8_needRound 4 = .ok (.iload_n 1, 1) := by decide +kernel
theorem dX8_needRound_5 : decode cX8_needRound 5 = .ok (.aload_n 0, 1) := by decide +kernel
theorem dX8_needRound_6 : decode cX8_needRound 6 = .ok (.getfield 30, 3) := by decide +kernel
theorem dX8_needRound_9 : decode cX8_needRound 9 = .ok (.getfield 120, 3) := by decide +kernel
theorem dX8_needRound_12 : decode cX8_needRound 12 = .ok (.getfield 124, 3) := by decide +kernel
theorem dX8_needRound_15 : decode cX8_needRound 15 = .ok (.if_icmp .lt 14, 3) := by decide +kernel
theorem dX8_needRound_18 : decode cX8_needRound 18 = .ok (.new 273, 3) := by decide +kernel
theorem dX8_needRound_21 : decode cX8_needRound 21 = .ok (.dup, 1) := by decide +kernel
theorem dX8_needRound_22 : decode cX8_needRound 22 = .ok (.ldc_w 342, 3) := by decide +kernel
theorem dX8_needRound_25 : decode cX8_needRound 25 = .ok (.invokespecial 277, 3) := by decide +kernel
theorem dX8_needRound_28 : decode cX8_needRound 28 = .ok (.athrow, 1) := by decide +kernel
theorem dX8_needRound_29 : decode cX8_needRound 29 = .ok (.return_, 1) := by decide +kernel
theorem dX8_needChain_0 : decode cX8_needChain 0 = .ok (.iload_n 1, 1) := by decide +kernel
theorem dX8_needChain_1 : decode cX8_needChain 1 = .ok (.ifCond .lt 14, 3) := by decide +kernel
theorem dX8_needChain_4 : decode cX8_needChain 4 = .ok (.iload_n 1, 1) := by decide +kernel
theorem dX8_needChain_5 : decode cX8_needChain 5 = .ok (.aload_n 0, 1) := by decide +kernel
theorem dX8_needChain_6 : decode cX8_needChain 6 = .ok (.getfield 30, 3) := by decide +kernel
theorem dX8_needChain_9 : decode cX8_needChain 9 = .ok (.invokevirtual 177, 3) := by decide +kernel
theorem dX8_needChain_12 : decode cX8_needChain 12 = .ok (.if_icmp .lt 14, 3) := by decide +kernel
theorem dX8_needChain_15 : decode cX8_needChain 15 = .ok (.new 273, 3) := by decide +kernel
theorem dX8_needChain_18 : decode cX8_needChain 18 = .ok (.dup, 1) := by decide +kernel
theorem dX8_needChain_19 : decode cX8_needChain 19 = .ok (.ldc_w 344, 3) := by decide +kernel
theorem dX8_needChain_22 : decode cX8_needChain 22 = .ok (.invokespecial 277, 3) := by decide +kernel
theorem dX8_needChain_25 : decode cX8_needChain 25 = .ok (.athrow, 1) := by decide +kernel
theorem dX8_needChain_26 : decode cX8_needChain 26 = .ok (.return_, 1) := by decide +kernel
theorem dX8_needTile_0 : decode cX8_needTile 0 = .ok (.aload_n 0, 1) := by decide +kernel
theorem dX8_needTile_1 : decode cX8_needTile 1 = .ok (.iload_n 1, 1) := by decide +kernel
theorem dX8_needTile_2 : decode cX8_needTile 2 = .ok (.invokevirtual 181, 3) := by decide +kernel
theorem dX8_needTile_5 : decode cX8_needTile 5 = .ok (.iload_n 2, 1) := by decide +kernel
theorem dX8_needTile_6 : decode cX8_needTile 6 = .ok (.ifCond .lt 15, 3) := by decide +kernel
theorem dX8_needTile_9 : decode cX8_needTile 9 = .ok (.iload_n 2, 1) := by decide +kernel
theorem dX8_needTile_10 : decode cX8_needTile 10 = .ok (.aload_n 0, 1) := by decide +kernel
theorem dX8_needTile_11 : decode cX8_needTile 11 = .ok (.getfield 30, 3) := by decide +kernel
theorem dX8_needTile_14 : decode cX8_needTile 14 = .ok (.iload_n 1, 1) := by decide +kernel
theorem dX8_needTile_15 : decode cX8_needTile 15 = .ok (.invokevirtual 184, 3) := by decide +kernel
theorem dX8_needTile_18 : decode cX8_needTile 18 = .ok (.if_icmp .lt 14, 3) := by decide +kernel
theorem dX8_needTile_21 : decode cX8_needTile 21 = .ok (.new 273, 3) := by decide +kernel
theorem dX8_needTile_24 : decode cX8_needTile 24 = .ok (.dup, 1) := by decide +kernel
theorem dX8_needTile_25 : decode cX8_needTile 25 = .ok (.ldc_w 346, 3) := by decide +kernel
theorem dX8_needTile_28 : decode cX8_needTile 28 = .ok (.invokespecial 277, 3) := by decide +kernel
theorem dX8_needTile_31 : decode cX8_needTile 31 = .ok (.athrow, 1) := by decide +kernel
theorem dX8_needTile_32 : decode cX8_needTile 32 = .ok (.return_, 1) := by decide +kernel
theorem dX8_needLogged_0 : decode cX8_needLogged 0 = .ok (.iload_n 1, 1) := by decide +kernel
theorem dX8_needLogged_1 : decode cX8_needLogged 1 = .ok (.ifCond .lt 17, 3) := by decide +kernel
theorem dX8_needLogged_4 : decode cX8_needLogged 4 = .ok (.iload_n 1, 1) := by decide +kernel
theorem dX8_needLogged_5 : decode cX8_needLogged 5 = .ok (.aload_n 0, 1) := by decide +kernel
theorem dX8_needLogged_6 : decode cX8_needLogged 6 = .ok (.getfield 30, 3) := by decide +kernel
theorem dX8_needLogged_9 : decode cX8_needLogged 9 = .ok (.getfield 129, 3) := by decide +kernel
theorem dX8_needLogged_12 : decode cX8_needLogged 12 = .ok (.getfield 221, 3) := by decide +kernel
theorem dX8_needLogged_15 : decode cX8_needLogged 15 = .ok (.if_icmp .lt 14, 3) := by decide +kernel
theorem dX8_needLogged_18 : decode cX8_needLogged 18 = .ok (.new 273, 3) := by decide +kernel
theorem dX8_needLogged_21 : decode cX8_needLogged 21 = .ok (.dup, 1) := by decide +kernel
theorem dX8_needLogged_22 : decode cX8_needLogged 22 = .ok (.ldc_w 348, 3) := by decide +kernel
theorem dX8_needLogged_25 : decode cX8_needLogged 25 = .ok (.invokespecial 277, 3) := by decide +kernel
theorem dX8_needLogged_28 : decode cX8_needLogged 28 = .ok (.athrow, 1) := by decide +kernel
theorem dX8_needLogged_29 : decode cX8_needLogged 29 = .ok (.return_, 1) := by decide +kernel
theorem dX8_neededCode_0 : decode cX8_neededCode 0 = .ok (.aload_n 0, 1) := by decide +kernel
theorem dX8_neededCode_1 : decode cX8_neededCode 1 = .ok (.getfield 30, 3) := by decide +kernel
theorem dX8_neededCode_4 : decode cX8_neededCode 4 = .ok (.iload_n 1, 1) := by decide +kernel
theorem dX8_neededCode_5 : decode cX8_neededCode 5 = .ok (.invokevirtual 236, 3) := by decide +kernel
theorem dX8_neededCode_8 : decode cX8_neededCode 8 = .ok (.istore_n 2, 1) := by decide +kernel
theorem dX8_neededCode_9 : decode cX8_neededCode 9 = .ok (.iload_n 2, 1) := by decide +kernel
theorem dX8_neededCode_10 : decode cX8_neededCode 10 = .ok (.iconst (-1), 1) := by decide +kernel
theorem dX8_neededCode_11 : decode cX8_neededCode 11 = .ok (.if_icmp .ne 14, 3) := by decide +kernel
theorem dX8_neededCode_14 : decode cX8_neededCode 14 = .ok (.new 273, 3) := by decide +kernel
theorem dX8_neededCode_17 : decode cX8_neededCode 17 = .ok (.dup, 1) := by decide +kernel
theorem dX8_neededCode_18 : decode cX8_neededCode 18 = .ok (.ldc_w 350, 3) := by decide +kernel
theorem dX8_neededCode_21 : decode cX8_neededCode 21 = .ok (.invokespecial 277, 3) := by decide +kernel
theorem dX8_neededCode_24 : decode cX8_neededCode 24 = .ok (.athrow, 1) := by decide +kernel
theorem dX8_neededCode_25 : decode cX8_neededCode 25 = .ok (.iload_n 2, 1) := by decide +kernel
theorem dX8_neededCode_26 : decode cX8_neededCode 26 = .ok (.ireturn, 1) := by decide +kernel
theorem dX8_burnCode_0 : decode cX8_burnCode 0 = .ok (.iload_n 1, 1) := by decide +kernel
theorem dX8_burnCode_1 : decode cX8_burnCode 1 = .ok (.ifCond .eq 9, 3) := by decide +kernel
theorem dX8_burnCode_4 : decode cX8_burnCode 4 = .ok (.iconst 2, 1) := by decide +kernel
theorem dX8_burnCode_5 : decode cX8_burnCode 5 = .ok (.iload_n 0, 1) := by decide +kernel
theorem dX8_burnCode_6 : decode cX8_burnCode 6 = .ok (.imul, 1) := by decide +kernel
theorem dX8_burnCode_7 : decode cX8_burnCode 7 = .ok (.goto 8, 3) := by decide +kernel
theorem dX8_burnCode_10 : decode cX8_burnCode 10 = .ok (.iconst 2, 1) := by decide +kernel
theorem dX8_burnCode_11 : decode cX8_burnCode 11 = .ok (.iload_n 0, 1) := by decide +kernel
theorem dX8_burnCode_12 : decode cX8_burnCode 12 = .ok (.imul, 1) := by decide +kernel
theorem dX8_burnCode_13 : decode cX8_burnCode 13 = .ok (.iconst 1, 1) := by decide +kernel
theorem dX8_burnCode_14 : decode cX8_burnCode 14 = .ok (.iadd, 1) := by decide +kernel
theorem dX8_burnCode_15 : decode cX8_burnCode 15 = .ok (.ireturn, 1) := by decide +kernel
theorem dX8_chainOfCode_0 : decode cX8_chainOfCode 0 = .ok (.iload_n 0, 1) := by decide +kernel
theorem dX8_chainOfCode_1 : decode cX8_chainOfCode 1 = .ok (.bipush 6, 2) := by decide +kernel
theorem dX8_chainOfCode_3 : decode cX8_chainOfCode 3 = .ok (.if_icmp .ne 7, 3) := by decide +kernel
theorem dX8_chainOfCode_6 : decode cX8_chainOfCode 6 = .ok (.iconst (-1), 1) := by decide +kernel
theorem dX8_chainOfCode_7 : decode cX8_chainOfCode 7 = .ok (.goto 6, 3) := by decide +kernel
theorem dX8_chainOfCode_10 : decode cX8_chainOfCode 10 = .ok (.iload_n 0, 1) := by decide +kernel
theorem dX8_chainOfCode_11 : decode cX8_chainOfCode 11 = .ok (.iconst 1, 1) := by decide +kernel
theorem dX8_chainOfCode_12 : decode cX8_chainOfCode 12 = .ok (.ishr, 1) := by decide +kernel
theorem dX8_chainOfCode_13 : decode cX8_chainOfCode 13 = .ok (.ireturn, 1) := by decide +kernel
theorem dX8_isLeftCode_0 : decode cX8_isLeftCode 0 = .ok (.iload_n 0, 1) := by decide +kernel
theorem dX8_isLeftCode_1 : decode cX8_isLeftCode 1 = .ok (.iconst 1, 1) := by decide +kernel
theorem dX8_isLeftCode_2 : decode cX8_isLeftCode 2 = .ok (.iand, 1) := by decide +kernel
theorem dX8_isLeftCode_3 : decode cX8_isLeftCode 3 = .ok (.ifCond .ne 7, 3) := by decide +kernel
theorem dX8_isLeftCode_6 : decode cX8_isLeftCode 6 = .ok (.iconst 1, 1) := by decide +kernel
theorem dX8_isLeftCode_7 : decode cX8_isLeftCode 7 = .ok (.goto 4, 3) := by decide +kernel
theorem dX8_isLeftCode_10 : decode cX8_isLeftCode 10 = .ok (.iconst 0, 1) := by decide +kernel
theorem dX8_isLeftCode_11 : decode cX8_isLeftCode 11 = .ok (.ireturn, 1) := by decide +kernel
theorem dX8_leader_0 : decode cX8_leader 0 = .ok (.iload_n 0, 1) := by decide +kernel
theorem dX8_leader_1 : decode cX8_leader 1 = .ok (.ifCond .ne 5, 3) := by decide +kernel
theorem dX8_leader_4 : decode cX8_leader 4 = .ok (.iconst (-1), 1) := by decide +kernel
theorem dX8_leader_5 : decode cX8_leader 5 = .ok (.ireturn, 1) := by decide +kernel
theorem dX8_leader_6 : decode cX8_leader 6 = .ok (.iload_n 0, 1) := by decide +kernel
theorem dX8_leader_7 : decode cX8_leader 7 = .ok (.ifCond .le 7, 3) := by decide +kernel
theorem dX8_leader_10 : decode cX8_leader 10 = .ok (.iconst 0, 1) := by decide +kernel
theorem dX8_leader_11 : decode cX8_leader 11 = .ok (.goto 4, 3) := by decide +kernel
theorem dX8_leader_14 : decode cX8_leader 14 = .ok (.iconst 1, 1) := by decide +kernel
theorem dX8_leader_15 : decode cX8_leader 15 = .ok (.ireturn, 1) := by decide +kernel
theorem dX8_at_0 : decode cX8_at 0 = .ok (.iload_n 1, 1) := by decide +kernel
theorem dX8_at_1 : decode cX8_at 1 = .ok (.ifCond .lt 15, 3) := by decide +kernel
theorem dX8_at_4 : decode cX8_at 4 = .ok (.iload_n 1, 1) := by decide +kernel
theorem dX8_at_5 : decode cX8_at 5 = .ok (.aload_n 0, 1) := by decide +kernel
