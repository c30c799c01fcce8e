theorem lX2_115 : Cond.methodLink RX2 115 yX1_slotOf ∈ jG := jG_mem 468 (by decide +kernel) rfl
theorem lX2_122 : Cond.methodLink RX2 122 yX2_slotNow ∈ jG := jG_mem 464 (by decide +kernel) rfl
theorem lX2_131 : Cond.methodLink RX2 131 yX2_lengthNow ∈ jG := jG_mem 456 (by decide +kernel) rfl
theorem lX2_134 : Cond.methodLink RX2 134 yX2_pointsNow ∈ jG := jG_mem 460 (by decide +kernel) rfl
theorem lX2_143 : Cond.methodLink RX2 143 yX2_scoreOf ∈ jG := jG_mem 651 (by decide +kernel) rfl
theorem lX2_149 : Cond.methodLink RX2 149 yX2_chainsNow ∈ jG := jG_mem 477 (by decide +kernel) rfl
theorem lX2_169 : Cond.methodLink RX2 169 yX2_movesNow ∈ jG := jG_mem 486 (by decide +kernel) rfl
theorem lX2_172 : Cond.methodLink RX2 172 yX2_codeOfMove ∈ jG := jG_mem 487 (by decide +kernel) rfl
theorem lX2_175 : Cond.methodLink RX2 175 yX2_pointsOfCode ∈ jG := jG_mem 494 (by decide +kernel) rfl
theorem lX2_181 : Cond.methodLink RX2 181 yX2_takeEnd ∈ jG := jG_mem 635 (by decide +kernel) rfl
theorem lX2_188 : Cond.methodLink RX2 188 yX6_log ∈ jG := jG_mem 639 (by decide +kernel) rfl
theorem lX3_40 : Cond.methodLink RX3 40 yX1_clear ∈ jG := jG_mem 862 (by decide +kernel) rfl
theorem lX3_45 : Cond.methodLink RX3 45 yX4_open ∈ jG := jG_mem 863 (by decide +kernel) rfl
theorem lX3_51 : Cond.methodLink RX3 51 yX4_isWord ∈ jG := jG_mem 880 (by decide +kernel) rfl
theorem lX3_55 : Cond.methodLink RX3 55 yX3_fail ∈ jG := jG_mem 886 (by decide +kernel) rfl
theorem lX3_59 : Cond.methodLink RX3 59 yX3_readRound ∈ jG := jG_mem 890 (by decide +kernel) rfl
theorem lX3_63 : Cond.methodLink RX3 63 yX2_beginMatch ∈ jG := jG_mem 927 (by decide +kernel) rfl
theorem lX3_69 : Cond.methodLink RX3 69 yX3_readMove ∈ jG := jG_mem 928 (by decide +kernel) rfl
theorem lX3_72 : Cond.methodLink RX3 72 yX1_openRound ∈ jG := jG_mem 894 (by decide +kernel) rfl
theorem lX3_75 : Cond.methodLink RX3 75 yX4_step ∈ jG := jG_mem 895 (by decide +kernel) rfl
theorem lX3_78 : Cond.methodLink RX3 78 yX1_openChain ∈ jG := jG_mem 896 (by decide +kernel) rfl
theorem lX3_81 : Cond.methodLink RX3 81 yX3_readChain ∈ jG := jG_mem 897 (by decide +kernel) rfl
theorem lX3_84 : Cond.methodLink RX3 84 yX3_tileFault ∈ jG := jG_mem 901 (by decide +kernel) rfl
theorem lX3_88 : Cond.methodLink RX3 88 yX4_digit ∈ jG := jG_mem 909 (by decide +kernel) rfl
theorem lX3_91 : Cond.methodLink RX3 91 yX3_takeTile ∈ jG := jG_mem 917 (by decide +kernel) rfl
theorem lX3_95 : Cond.methodLink RX3 95 yX4_isRun ∈ jG := jG_mem 905 (by decide +kernel) rfl
theorem lX3_101 : Cond.methodLink RX3 101 yX3_pairOf ∈ jG := jG_mem 913 (by decide +kernel) rfl
theorem lX3_109 : Cond.methodLink RX3 109 yX1_addTile ∈ jG := jG_mem 921 (by decide +kernel) rfl
theorem lX3_118 : Cond.methodLink RX3 118 yX3_readBurn ∈ jG := jG_mem 933 (by decide +kernel) rfl
theorem lX3_126 : Cond.methodLink RX3 126 yX3_readPass ∈ jG := jG_mem 947 (by decide +kernel) rfl
theorem lX3_131 : Cond.methodLink RX3 131 yX3_readNext ∈ jG := jG_mem 952 (by decide +kernel) rfl
theorem lX3_144 : Cond.methodLink RX3 144 yX2_chainsNow ∈ jG := jG_mem 937 (by decide +kernel) rfl
theorem lX3_148 : Cond.methodLink RX3 148 yX2_lengthNow ∈ jG := jG_mem 938 (by decide +kernel) rfl
theorem lX3_151 : Cond.methodLink RX3 151 yX3_readSemicolon ∈ jG := jG_mem 939 (by decide +kernel) rfl
theorem lX3_158 : Cond.methodLink RX3 158 yX2_play ∈ jG := jG_mem 944 (by decide +kernel) rfl
theorem lX3_162 : Cond.methodLink RX3 162 yX2_isLastRound ∈ jG := jG_mem 956 (by decide +kernel) rfl
theorem lX3_165 : Cond.methodLink RX3 165 yX2_beginNext ∈ jG := jG_mem 960 (by decide +kernel) rfl
theorem lX4_26 : Cond.methodLink RX4 26 yX4_step ∈ jG := jG_mem 868 (by decide +kernel) rfl
theorem lX4_36 : Cond.methodLink RX4 36 yX4_isBlank ∈ jG := jG_mem 873 (by decide +kernel) rfl
theorem lX4_40 : Cond.methodLink RX4 40 yX4_kindOf ∈ jG := jG_mem 876 (by decide +kernel) rfl
theorem lX4_47 : Cond.methodLink RX4 47 yJ0_length_8abf5 ∈ jG := jG_mem 884 (by decide +kernel) rfl
theorem lX4_53 : Cond.methodLink RX4 53 yJ0_charAt_5068e ∈ jG := jG_mem 885 (by decide +kernel) rfl
theorem lX5_44 : Cond.methodLink RX5 44 yX5_shape ∈ jG := jG_mem 514 (by decide +kernel) rfl
theorem lX5_52 : Cond.methodLink RX5 52 yX5_startWalk ∈ jG := jG_mem 523 (by decide +kernel) rfl
theorem lX5_58 : Cond.methodLink RX5 58 yX5_optimalHere ∈ jG := jG_mem 527 (by decide +kernel) rfl
theorem lX5_66 : Cond.methodLink RX5 66 yX5_stepWalk ∈ jG := jG_mem 559 (by decide +kernel) rfl
theorem lX5_72 : Cond.methodLink RX5 72 yX5_behindHere ∈ jG := jG_mem 667 (by decide +kernel) rfl
theorem lX5_75 : Cond.methodLink RX5 75 yX5_aheadHere ∈ jG := jG_mem 671 (by decide +kernel) rfl
theorem lX5_90 : Cond.methodLink RX5 90 yX5_placeAt ∈ jG := jG_mem 567 (by decide +kernel) rfl
theorem lX5_104 : Cond.methodLink RX5 104 yX5_spanOf ∈ jG := jG_mem 571 (by decide +kernel) rfl
theorem lX5_117 : Cond.methodLink RX5 117 yX5_leftValue ∈ jG := jG_mem 535 (by decide +kernel) rfl
theorem lX5_120 : Cond.methodLink RX5 120 yX5_rightValue ∈ jG := jG_mem 547 (by decide +kernel) rfl
theorem lX5_130 : Cond.methodLink RX5 130 yX1_lengthOf ∈ jG := jG_mem 518 (by decide +kernel) rfl
theorem lX5_140 : Cond.methodLink RX5 140 yX1_slotOf ∈ jG := jG_mem 522 (by decide +kernel) rfl
theorem lX5_145 : Cond.methodLink RX5 145 yX5_isBurnable ∈ jG := jG_mem 531 (by decide +kernel) rfl
theorem lX5_148 : Cond.methodLink RX5 148 yX5_leftPoints ∈ jG := jG_mem 539 (by decide +kernel) rfl
theorem lX5_151 : Cond.methodLink RX5 151 yX5_afterLeft ∈ jG := jG_mem 543 (by decide +kernel) rfl
theorem lX5_154 : Cond.methodLink RX5 154 yX5_rightPoints ∈ jG := jG_mem 551 (by decide +kernel) rfl
theorem lX5_157 : Cond.methodLink RX5 157 yX5_afterRight ∈ jG := jG_mem 555 (by decide +kernel) rfl
theorem lL_8 : Cond.methodLink RL 8 yJ0_length_8abf5 ∈ jG := jG_mem 774 (by decide +kernel) rfl
theorem lL_14 : Cond.methodLink RL 14 yJ0_charAt_5068e ∈ jG := jG_mem 791 (by decide +kernel) rfl
theorem lL_18 : Cond.methodLink RL 18 yL_four ∈ jG := jG_mem 788 (by decide +kernel) rfl
theorem lL_24 : Cond.methodLink RL 24 yX8_append ∈ jG := jG_mem 829 (by decide +kernel) rfl
theorem lL_32 : Cond.methodLink RL 32 yX8_truncate ∈ jG := jG_mem 701 (by decide +kernel) rfl
theorem lL_38 : Cond.methodLink RL 38 yL_cuts ∈ jG := jG_mem 698 (by decide +kernel) rfl
theorem lL_42 : Cond.methodLink RL 42 yL_adds ∈ jG := jG_mem 784 (by decide +kernel) rfl
theorem lL_46 : Cond.methodLink RL 46 yX8_load ∈ jG := jG_mem 854 (by decide +kernel) rfl
theorem lL_49 : Cond.methodLink RL 49 yX8_chainScore ∈ jG := jG_mem 981 (by decide +kernel) rfl
theorem lL_53 : Cond.methodLink RL 53 yX8_chainLength ∈ jG := jG_mem 1005 (by decide +kernel) rfl
theorem lL_58 : Cond.methodLink RL 58 yX8_leftPips ∈ jG := jG_mem 1013 (by decide +kernel) rfl
theorem lL_62 : Cond.methodLink RL 62 yX8_rightPips ∈ jG := jG_mem 1026 (by decide +kernel) rfl
theorem lL_65 : Cond.methodLink RL 65 yX8_tileScore ∈ jG := jG_mem 1034 (by decide +kernel) rfl
theorem lL_68 : Cond.methodLink RL 68 yX8_roundScore ∈ jG := jG_mem 1042 (by decide +kernel) rfl
theorem lL_71 : Cond.methodLink RL 71 yX8_moveChain ∈ jG := jG_mem 1060 (by decide +kernel) rfl
theorem lL_74 : Cond.methodLink RL 74 yX8_moveScore ∈ jG := jG_mem 1070 (by decide +kernel) rfl
theorem lL_77 : Cond.methodLink RL 77 yX8_isPass ∈ jG := jG_mem 1074 (by decide +kernel) rfl
theorem lL_81 : Cond.methodLink RL 81 yX8_isLeftBurn ∈ jG := jG_mem 1078 (by decide +kernel) rfl
theorem lL_84 : Cond.methodLink RL 84 yX8_moveValue ∈ jG := jG_mem 1083 (by decide +kernel) rfl
theorem lL_87 : Cond.methodLink RL 87 yX8_burn ∈ jG := jG_mem 1111 (by decide +kernel) rfl
theorem lL_91 : Cond.methodLink RL 91 yX8_pass ∈ jG := jG_mem 1093 (by decide +kernel) rfl
theorem lL_101 : Cond.methodLink RL 101 yL_move ∈ jG := jG_mem 1057 (by decide +kernel) rfl
theorem lL_105 : Cond.methodLink RL 105 yL_passes ∈ jG := jG_mem 1090 (by decide +kernel) rfl
theorem lL_109 : Cond.methodLink RL 109 yL_burns ∈ jG := jG_mem 1108 (by decide +kernel) rfl
theorem lL_115 : Cond.methodLink RL 115 yJ4_init_da8c8 ∈ jG := jG_mem 1122 (by decide +kernel) rfl
theorem lL_116 : Cond.methodLink RL 116 yL_cell ∈ jG := jG_mem 687 (by decide +kernel) rfl
theorem lL_120 : Cond.methodLink RL 120 yL_part ∈ jG := jG_mem 690 (by decide +kernel) rfl
theorem lL_125 : Cond.methodLink RL 125 yJ4_append_15ec4 ∈ jG := jG_mem 1151 (by decide +kernel) rfl
theorem lL_128 : Cond.methodLink RL 128 yJ4_append_cf468 ∈ jG := jG_mem 1246 (by decide +kernel) rfl
theorem lL_131 : Cond.methodLink RL 131 yJ4_append_bf812 ∈ jG := jG_mem 1259 (by decide +kernel) rfl
theorem lL_134 : Cond.methodLink RL 134 yJ4_toString_0e30d ∈ jG := jG_mem 1284 (by decide +kernel) rfl
theorem lL_138 : Cond.methodLink RL 138 yX8_currentRound ∈ jG := jG_mem 428 (by decide +kernel) rfl
theorem lL_141 : Cond.methodLink RL 141 yX8_isRoundOver ∈ jG := jG_mem 432 (by decide +kernel) rfl
theorem lL_147 : Cond.methodLink RL 147 yX8_playerToMove ∈ jG := jG_mem 436 (by decide +kernel) rfl
theorem lL_153 : Cond.methodLink RL 153 yX8_moveCount ∈ jG := jG_mem 469 (by decide +kernel) rfl
theorem lL_156 : Cond.methodLink RL 156 yX8_chainCount ∈ jG := jG_mem 440 (by decide +kernel) rfl
theorem lL_159 : Cond.methodLink RL 159 yL_chain ∈ jG := jG_mem 977 (by decide +kernel) rfl
theorem lL_162 : Cond.methodLink RL 162 yL_pips ∈ jG := jG_mem 1010 (by decide +kernel) rfl
theorem lL_166 : Cond.methodLink RL 166 yX8_roundCount ∈ jG := jG_mem 424 (by decide +kernel) rfl
theorem lL_169 : Cond.methodLink RL 169 yL_score ∈ jG := jG_mem 1039 (by decide +kernel) rfl
theorem lL_172 : Cond.methodLink RL 172 yX8_optimalMove ∈ jG := jG_mem 1354 (by decide +kernel) rfl
theorem lL_177 : Cond.methodLink RL 177 yX8_worstMove ∈ jG := jG_mem 1376 (by decide +kernel) rfl
theorem lL_180 : Cond.methodLink RL 180 yX8_greedyMove ∈ jG := jG_mem 1383 (by decide +kernel) rfl
theorem lL_183 : Cond.methodLink RL 183 yX8_optimalLineScore ∈ jG := jG_mem 1390 (by decide +kernel) rfl
theorem lL_186 : Cond.methodLink RL 186 yX8_chainDifference ∈ jG := jG_mem 1399 (by decide +kernel) rfl
theorem lL_190 : Cond.methodLink RL 190 yL_best ∈ jG := jG_mem 1407 (by decide +kernel) rfl
theorem lL_199 : Cond.methodLink RL 199 yL_behind ∈ jG := jG_mem 1415 (by decide +kernel) rfl
theorem lL_203 : Cond.methodLink RL 203 yL_greedyOf ∈ jG := jG_mem 1418 (by decide +kernel) rfl
theorem lL_206 : Cond.methodLink RL 206 yL_against ∈ jG := jG_mem 1412 (by decide +kernel) rfl
theorem lL_209 : Cond.methodLink RL 209 yX8_init ∈ jG := jG_mem 70 (by decide +kernel) rfl
theorem lL_210 : Cond.methodLink RL 210 yX8_remainingScore ∈ jG := jG_mem 448 (by decide +kernel) rfl
theorem lL_213 : Cond.methodLink RL 213 yL_match ∈ jG := jG_mem 1117 (by decide +kernel) rfl
theorem lL_217 : Cond.methodLink RL 217 yL_loads ∈ jG := jG_mem 694 (by decide +kernel) rfl
theorem lL_223 : Cond.methodLink RL 223 yL_single ∈ jG := jG_mem 1396 (by decide +kernel) rfl
theorem lL_226 : Cond.methodLink RL 226 yX8_optimalDifference ∈ jG := jG_mem 506 (by decide +kernel) rfl
theorem lL_229 : Cond.methodLink RL 229 yL_optimal ∈ jG := jG_mem 1350 (by decide +kernel) rfl
theorem lL_232 : Cond.methodLink RL 232 yX8_optimalMoveCount ∈ jG := jG_mem 575 (by decide +kernel) rfl
theorem lL_235 : Cond.methodLink RL 235 yX8_isPassForced ∈ jG := jG_mem 589 (by decide +kernel) rfl
theorem lL_238 : Cond.methodLink RL 238 yX8_optimalLineLength ∈ jG := jG_mem 597 (by decide +kernel) rfl
theorem lL_241 : Cond.methodLink RL 241 yL_greedy ∈ jG := jG_mem 1380 (by decide +kernel) rfl
theorem lL_244 : Cond.methodLink RL 244 yX8_greedyDifference ∈ jG := jG_mem 655 (by decide +kernel) rfl
theorem lL_247 : Cond.methodLink RL 247 yX8_differenceAgainstGreedy ∈ jG := jG_mem 659 (by decide +kernel) rfl
theorem lL_250 : Cond.methodLink RL 250 yL_worst ∈ jG := jG_mem 1373 (by decide +kernel) rfl
theorem lL_253 : Cond.methodLink RL 253 yX8_greedyAgainstBest ∈ jG := jG_mem 679 (by decide +kernel) rfl
theorem lL_256 : Cond.methodLink RL 256 yX8_highestEndScore ∈ jG := jG_mem 478 (by decide +kernel) rfl
theorem lL_259 : Cond.methodLink RL 259 yX8_expectedLead ∈ jG := jG_mem 643 (by decide +kernel) rfl
theorem lL_266 : Cond.methodLink RL 266 yL_line ∈ jG := jG_mem 1387 (by decide +kernel) rfl
theorem lL_269 : Cond.methodLink RL 269 yL_makes ∈ jG := jG_mem 1087 (by decide +kernel) rfl
theorem lJ5_32 : Cond.methodLink RJ5 32 yJ0_length_8abf5 ∈ jG := jG_mem 1211 (by decide +kernel) rfl
theorem lJ5_40 : Cond.methodLink RJ5 40 yJ0_coder_7d493 ∈ jG := jG_mem 1220 (by decide +kernel) rfl
theorem lJ5_83 : Cond.methodLink RJ5 83 yJ5_isLatin1_aae02 ∈ jG := jG_mem 1191 (by decide +kernel) rfl
theorem lJ5_100 : Cond.methodLink RJ5 100 yJ5_ensureCapacityInternal_d00df ∈ jG := jG_mem 1162 (by decide +kernel) rfl
theorem lJ5_104 : Cond.methodLink RJ5 104 yJ5_newCapacity_0f7a4 ∈ jG := jG_mem 1166 (by decide +kernel) rfl
theorem lJ5_108 : Cond.methodLink RJ5 108 yJ7_copyOf_9075b ∈ jG := jG_mem 1179 (by decide +kernel) rfl
theorem lJ5_114 : Cond.methodLink RJ5 114 yJ8_newLength_cabcc ∈ jG := jG_mem 1170 (by decide +kernel) rfl
theorem lJ5_191 : Cond.methodLink RJ5 191 yJ1_canEncode_fc78d ∈ jG := jG_mem 1253 (by decide +kernel) rfl
theorem lJ5_208 : Cond.methodLink RJ5 208 yJ5_putStringAt_47b60 ∈ jG := jG_mem 1212 (by decide +kernel) rfl
theorem lJ5_245 : Cond.methodLink RJ5 245 yJ6_stringSize_0f7a4 ∈ jG := jG_mem 1266 (by decide +kernel) rfl
theorem lJ5_248 : Cond.methodLink RJ5 248 yJ6_getChars_ba4f3 ∈ jG := jG_mem 1269 (by decide +kernel) rfl
theorem lJ5_397 : Cond.methodLink RJ5 397 yJ5_inflateIfNeededFor_a7421 ∈ jG := jG_mem 1216 (by decide +kernel) rfl
theorem lJ5_399 : Cond.methodLink RJ5 399 yJ0_getBytes_840e7 ∈ jG := jG_mem 1240 (by decide +kernel) rfl
theorem lJ0_54 : Cond.methodLink RJ0 54 yJ7_copyOfRange_39247 ∈ jG := jG_mem 1311 (by decide +kernel) rfl
theorem lJ0_335 : Cond.methodLink RJ0 335 yJ0_coder_7d493 ∈ jG := jG_mem 778 (by decide +kernel) rfl
theorem lJ0_489 : Cond.methodLink RJ0 489 yJ0_init_db425 ∈ jG := jG_mem 1293 (by decide +kernel) rfl
theorem lJ0_492 : Cond.methodLink RJ0 492 yJ0_isLatin1_aae02 ∈ jG := jG_mem 795 (by decide +kernel) rfl
theorem lJ0_495 : Cond.methodLink RJ0 495 yJ1_charAt_3b067 ∈ jG := jG_mem 799 (by decide +kernel) rfl
theorem lJ0_549 : Cond.methodLink RJ0 549 yJ5_length_8abf5 ∈ jG := jG_mem 1302 (by decide +kernel) rfl
theorem lJ0_552 : Cond.methodLink RJ0 552 yJ5_getValue_6d5f1 ∈ jG := jG_mem 1297 (by decide +kernel) rfl
theorem lJ0_1047 : Cond.methodLink RJ0 1047 yJ5_isLatin1_aae02 ∈ jG := jG_mem 1310 (by decide +kernel) rfl
theorem lJ0_1059 : Cond.methodLink RJ0 1059 yJ3_checkIndex_8e157 ∈ jG := jG_mem 807 (by decide +kernel) rfl
theorem lJ4_1 : Cond.methodLink RJ4 1 yJ5_init_d00df ∈ jG := jG_mem 1125 (by decide +kernel) rfl
theorem lJ4_29 : Cond.methodLink RJ4 29 yJ5_append_cf1ce ∈ jG := jG_mem 1155 (by decide +kernel) rfl
theorem lJ4_50 : Cond.methodLink RJ4 50 yJ5_append_3fe6f ∈ jG := jG_mem 1250 (by decide +kernel) rfl
theorem lJ4_53 : Cond.methodLink RJ4 53 yJ5_append_c97b9 ∈ jG := jG_mem 1263 (by decide +kernel) rfl
theorem lJ4_137 : Cond.methodLink RJ4 137 yJ0_init_81219 ∈ jG := jG_mem 1290 (by decide +kernel) rfl
theorem lJ4_343 : Cond.methodLink RJ4 343 yJ5_length_8abf5 ∈ jG := jG_mem 1308 (by decide +kernel) rfl
theorem lJ1_9 : Cond.methodLink RJ1 9 yJ0_checkIndex_df160 ∈ jG := jG_mem 802 (by decide +kernel) rfl
theorem lJ2_126 : Cond.methodLink RJ2 126 yJ7_copyOfRange_39247 ∈ jG := jG_mem 1334 (by decide +kernel) rfl
theorem lJ2_414 : Cond.methodLink RJ2 414 yJ0_checkIndex_df160 ∈ jG := jG_mem 819 (by decide +kernel) rfl
theorem lJ7_47 : Cond.methodLink RJ7 47 yJ4_init_da8c8 ∈ jG := jG_mem 1322 (by decide +kernel) rfl
theorem lJ7_50 : Cond.methodLink RJ7 50 yJ4_append_15ec4 ∈ jG := jG_mem 1325 (by decide +kernel) rfl
theorem lJ7_54 : Cond.methodLink RJ7 54 yJ4_append_bf812 ∈ jG := jG_mem 1323 (by decide +kernel) rfl
theorem lJ7_61 : Cond.methodLink RJ7 61 yJ4_toString_0e30d ∈ jG := jG_mem 1326 (by decide +kernel) rfl
theorem lJ7_339 : Cond.methodLink RJ7 339 yJ7_copyOfRangeByte_39247 ∈ jG := jG_mem 1314 (by decide +kernel) rfl
theorem lJ7_343 : Cond.methodLink RJ7 343 yJ7_checkLength_df160 ∈ jG := jG_mem 1317 (by decide +kernel) rfl
theorem nX8_22 : Cond.methodLinkNest RX8 22 yX3_init "DominoChains" ∈ lw_tbl := List.mem_of_getElem? (i := 78) (by decide +kernel)
theorem nX8_29 : Cond.methodLinkNest RX8 29 yX2_init "DominoChains" ∈ lw_tbl := List.mem_of_getElem? (i := 249) (by decide +kernel)
theorem nX8_53 : Cond.methodLinkNest RX8 53 yX6_init "DominoChains" ∈ lw_tbl := List.mem_of_getElem? (i := 317) (by decide +kernel)
theorem nX8_60 : Cond.methodLinkNest RX8 60 yX7_init "DominoChains" ∈ lw_tbl := List.mem_of_getElem? (i := 320) (by decide +kernel)
theorem nX0_17 : Cond.methodLinkNest RX0 17 yX6_init "DominoChains" ∈ lw_tbl := List.mem_of_getElem? (i := 305) (by decide +kernel)
theorem nX1_31 : Cond.methodLinkNest RX1 31 yX8_copyRow "DominoChains" ∈ lw_tbl := List.mem_of_getElem? (i := 613) (by decide +kernel)
theorem nX1_35 : Cond.methodLinkNest RX1 35 yX8_put "DominoChains" ∈ lw_tbl := List.mem_of_getElem? (i := 342) (by decide +kernel)
theorem nX1_39 : Cond.methodLinkNest RX1 39 yX8_at "DominoChains" ∈ lw_tbl := List.mem_of_getElem? (i := 349) (by decide +kernel)
theorem nX2_11 : Cond.methodLinkNest RX2 11 yX1_init "DominoChains" ∈ lw_tbl := List.mem_of_getElem? (i := 90) (by decide +kernel)
theorem nX2_20 : Cond.methodLinkNest RX2 20 yX6_init "DominoChains" ∈ lw_tbl := List.mem_of_getElem? (i := 123) (by decide +kernel)
theorem nX2_74 : Cond.methodLinkNest RX2 74 yX8_put "DominoChains" ∈ lw_tbl := List.mem_of_getElem? (i := 377) (by decide +kernel)
theorem nX2_102 : Cond.methodLinkNest RX2 102 yX8_leader "DominoChains" ∈ lw_tbl := List.mem_of_getElem? (i := 965) (by decide +kernel)
theorem nX2_111 : Cond.methodLinkNest RX2 111 yX8_at "DominoChains" ∈ lw_tbl := List.mem_of_getElem? (i := 386) (by decide +kernel)
theorem nX2_158 : Cond.methodLinkNest RX2 158 yX8_burnCode "DominoChains" ∈ lw_tbl := List.mem_of_getElem? (i := 491) (by decide +kernel)
theorem nX2_162 : Cond.methodLinkNest RX2 162 yX8_chainOfCode "DominoChains" ∈ lw_tbl := List.mem_of_getElem? (i := 498) (by decide +kernel)
theorem nX2_165 : Cond.methodLinkNest RX2 165 yX8_isLeftCode "DominoChains" ∈ lw_tbl := List.mem_of_getElem? (i := 501) (by decide +kernel)
theorem nX3_11 : Cond.methodLinkNest RX3 11 yX2_init "DominoChains" ∈ lw_tbl := List.mem_of_getElem? (i := 84) (by decide +kernel)
theorem nX3_20 : Cond.methodLinkNest RX3 20 yX4_init "DominoChains" ∈ lw_tbl := List.mem_of_getElem? (i := 204) (by decide +kernel)
theorem nX3_105 : Cond.methodLinkNest RX3 105 yX8_at "DominoChains" ∈ lw_tbl := List.mem_of_getElem? (i := 916) (by decide +kernel)
theorem nX3_112 : Cond.methodLinkNest RX3 112 yX8_put "DominoChains" ∈ lw_tbl := List.mem_of_getElem? (i := 922) (by decide +kernel)
theorem nX3_154 : Cond.methodLinkNest RX3 154 yX8_burnCode "DominoChains" ∈ lw_tbl := List.mem_of_getElem? (i := 943) (by decide +kernel)
theorem nX4_15 : Cond.methodLinkNest RX4 15 yX8_copyRow "DominoChains" ∈ lw_tbl := List.mem_of_getElem? (i := 867) (by decide +kernel)
theorem nX4_32 : Cond.methodLinkNest RX4 32 yX8_at "DominoChains" ∈ lw_tbl := List.mem_of_getElem? (i := 872) (by decide +kernel)
theorem nX5_62 : Cond.methodLinkNest RX5 62 yX8_put "DominoChains" ∈ lw_tbl := List.mem_of_getElem? (i := 520) (by decide +kernel)
theorem nX5_94 : Cond.methodLinkNest RX5 94 yX8_at "DominoChains" ∈ lw_tbl := List.mem_of_getElem? (i := 521) (by decide +kernel)
theorem nX5_110 : Cond.methodLinkNest RX5 110 yX8_chainOfCode "DominoChains" ∈ lw_tbl := List.mem_of_getElem? (i := 587) (by decide +kernel)
theorem nX5_113 : Cond.methodLinkNest RX5 113 yX8_isLeftCode "DominoChains" ∈ lw_tbl := List.mem_of_getElem? (i := 588) (by decide +kernel)
theorem nX6_53 : Cond.methodLinkNest RX6 53 yX8_copyRow "DominoChains" ∈ lw_tbl := List.mem_of_getElem? (i := 626) (by decide +kernel)
theorem nX6_57 : Cond.methodLinkNest RX6 57 yX8_put "DominoChains" ∈ lw_tbl := List.mem_of_getElem? (i := 372) (by decide +kernel)
theorem fX8_9 : jFld RX8 9 8 0 (.array .int) true := ⟨RX8, TX8, 12, rfl, by decide, jG_mem 387 (by decide +kernel) rfl, (fun _ => rfl), by decide +kernel, rfl⟩
theorem fX8_13 : jFld RX8 13 8 2 .int false := ⟨RX8, TX8, 12, rfl, by decide, jG_mem 389 (by decide +kernel) rfl, (fun h => by cases h), by decide +kernel, rfl⟩
theorem fX8_17 : jFld RX8 17 8 3 .int false := ⟨RX8, TX8, 12, rfl, by decide, jG_mem 390 (by decide +kernel) rfl, (fun h => by cases h), by decide +kernel, rfl⟩
theorem fX8_23 : jFld RX8 23 8 4 (.object "DominoChains$Parser") true := ⟨RX8, TX8, 12, rfl, by decide, jG_mem 391 (by decide +kernel) rfl, (fun _ => rfl), by decide +kernel, rfl⟩
theorem fX8_30 : jFld RX8 30 8 5 (.object "DominoChains$Match") true := ⟨RX8, TX8, 12, rfl, by decide, jG_mem 392 (by decide +kernel) rfl, (fun _ => rfl), by decide +kernel, rfl⟩
theorem fX8_34 : jFld RX8 34 8 6 (.object "DominoChains$Match") true := ⟨RX8, TX8, 12, rfl, by decide, jG_mem 393 (by decide +kernel) rfl, (fun _ => rfl), by decide +kernel, rfl⟩
theorem fX8_40 : jFld RX8 40 8 7 (.object "DominoChains$Solver") true := ⟨RX8, TX8, 12, rfl, by decide, jG_mem 394 (by decide +kernel) rfl, (fun _ => rfl), by decide +kernel, rfl⟩
theorem fX8_47 : jFld RX8 47 8 8 (.object "DominoChains$History") true := ⟨RX8, TX8, 12, rfl, by decide, jG_mem 395 (by decide +kernel) rfl, (fun _ => rfl), by decide +kernel, rfl⟩
theorem fX8_54 : jFld RX8 54 8 9 (.object "DominoChains$State") true := ⟨RX8, TX8, 12, rfl, by decide, jG_mem 396 (by decide +kernel) rfl, (fun _ => rfl), by decide +kernel, rfl⟩
theorem fX8_61 : jFld RX8 61 8 11 (.object "DominoChains$Text") true := ⟨RX8, TX8, 12, rfl, by decide, jG_mem 398 (by decide +kernel) rfl, (fun _ => rfl), by decide +kernel, rfl⟩
theorem fX8_68 : jFld RX8 68 8 1 .int false := ⟨RX8, TX8, 12, rfl, by decide, jG_mem 388 (by decide +kernel) rfl, (fun h => by cases h), by decide +kernel, rfl⟩
theorem fX8_99 : jFld RX8 99 3 4 .int false := ⟨RX3, TX3, 6, rfl, by decide, jG_mem 232 (by decide +kernel) rfl, (fun h => by cases h), by decide +kernel, rfl⟩
theorem fX8_100 : jFld RX8 100 3 5 .int false := ⟨RX3, TX3, 6, rfl, by decide, jG_mem 234 (by decide +kernel) rfl, (fun h => by cases h), by decide +kernel, rfl⟩
theorem fX8_103 : jFld RX8 103 3 0 (.object "DominoChains$Match") true := ⟨RX3, TX3, 6, rfl, by decide, jG_mem 227 (by decide +kernel) rfl, (fun _ => rfl), by decide +kernel, rfl⟩
theorem fX8_113 : jFld RX8 113 8 10 .boolean false := ⟨RX8, TX8, 12, rfl, by decide, jG_mem 397 (by decide +kernel) rfl, (fun h => by cases h), by decide +kernel, rfl⟩
theorem fX8_120 : jFld RX8 120 2 0 (.object "DominoChains$Layout") true := ⟨RX2, TX2, 2, rfl, by decide, jG_mem 191 (by decide +kernel) rfl, (fun _ => rfl), by decide +kernel, rfl⟩
theorem fX8_124 : jFld RX8 124 1 0 .int false := ⟨RX1, TX1, 6, rfl, by decide, jG_mem 95 (by decide +kernel) rfl, (fun h => by cases h), by decide +kernel, rfl⟩
theorem fX8_129 : jFld RX8 129 2 1 (.object "DominoChains$State") true := ⟨RX2, TX2, 2, rfl, by decide, jG_mem 195 (by decide +kernel) rfl, (fun _ => rfl), by decide +kernel, rfl⟩
theorem fX8_132 : jFld RX8 132 6 0 .int false := ⟨RX6, TX6, 13, rfl, by decide, jG_mem 129 (by decide +kernel) rfl, (fun h => by cases h), by decide +kernel, rfl⟩
theorem fX8_135 : jFld RX8 135 6 4 .boolean false := ⟨RX6, TX6, 13, rfl, by decide, jG_mem 142 (by decide +kernel) rfl, (fun h => by cases h), by decide +kernel, rfl⟩
theorem fX8_160 : jFld RX8 160 6 2 .int false := ⟨RX6, TX6, 13, rfl, by decide, jG_mem 135 (by decide +kernel) rfl, (fun h => by cases h), by decide +kernel, rfl⟩
theorem fX8_221 : jFld RX8 221 6 5 .int false := ⟨RX6, TX6, 13, rfl, by decide, jG_mem 146 (by decide +kernel) rfl, (fun h => by cases h), by decide +kernel, rfl⟩
theorem fX8_227 : jFld RX8 227 6 12 (.array .int) true := ⟨RX6, TX6, 13, rfl, by decide, jG_mem 161 (by decide +kernel) rfl, (fun _ => rfl), by decide +kernel, rfl⟩
theorem fX0_11 : jFld RX0 11 0 0 (.array (.object "DominoChains$State")) true := ⟨RX0, TX0, 3, rfl, by decide, jG_mem 306 (by decide +kernel) rfl, (fun _ => rfl), by decide +kernel, rfl⟩
theorem fX0_18 : jFld RX0 18 0 1 .int false := ⟨RX0, TX0, 3, rfl, by decide, jG_mem 307 (by decide +kernel) rfl, (fun h => by cases h), by decide +kernel, rfl⟩
theorem fX0_22 : jFld RX0 22 0 2 .int false := ⟨RX0, TX0, 3, rfl, by decide, jG_mem 308 (by decide +kernel) rfl, (fun h => by cases h), by decide +kernel, rfl⟩
theorem fX1_9 : jFld RX1 9 1 1 (.array .int) true := ⟨RX1, TX1, 6, rfl, by decide, jG_mem 97 (by decide +kernel) rfl, (fun _ => rfl), by decide +kernel, rfl⟩
theorem fX1_15 : jFld RX1 15 1 2 (.array .int) true := ⟨RX1, TX1, 6, rfl, by decide, jG_mem 99 (by decide +kernel) rfl, (fun _ => rfl), by decide +kernel, rfl⟩
theorem fX1_18 : jFld RX1 18 1 3 (.array .int) true := ⟨RX1, TX1, 6, rfl, by decide, jG_mem 100 (by decide +kernel) rfl, (fun _ => rfl), by decide +kernel, rfl⟩
theorem fX1_21 : jFld RX1 21 1 4 (.array .int) true := ⟨RX1, TX1, 6, rfl, by decide, jG_mem 102 (by decide +kernel) rfl, (fun _ => rfl), by decide +kernel, rfl⟩
theorem fX1_24 : jFld RX1 24 1 5 (.array .int) true := ⟨RX1, TX1, 6, rfl, by decide, jG_mem 104 (by decide +kernel) rfl, (fun _ => rfl), by decide +kernel, rfl⟩
theorem fX1_27 : jFld RX1 27 1 0 .int false := ⟨RX1, TX1, 6, rfl, by decide, jG_mem 94 (by decide +kernel) rfl, (fun h => by cases h), by decide +kernel, rfl⟩
theorem fX2_12 : jFld RX2 12 2 0 (.object "DominoChains$Layout") true := ⟨RX2, TX2, 2, rfl, by decide, jG_mem 189 (by decide +kernel) rfl, (fun _ => rfl), by decide +kernel, rfl⟩
theorem fX2_21 : jFld RX2 21 2 1 (.object "DominoChains$State") true := ⟨RX2, TX2, 2, rfl, by decide, jG_mem 193 (by decide +kernel) rfl, (fun _ => rfl), by decide +kernel, rfl⟩
theorem fX2_54 : jFld RX2 54 6 0 .int false := ⟨RX6, TX6, 13, rfl, by decide, jG_mem 128 (by decide +kernel) rfl, (fun h => by cases h), by decide +kernel, rfl⟩
theorem fX2_58 : jFld RX2 58 6 1 .int false := ⟨RX6, TX6, 13, rfl, by decide, jG_mem 132 (by decide +kernel) rfl, (fun h => by cases h), by decide +kernel, rfl⟩
theorem fX2_61 : jFld RX2 61 6 2 .int false := ⟨RX6, TX6, 13, rfl, by decide, jG_mem 134 (by decide +kernel) rfl, (fun h => by cases h), by decide +kernel, rfl⟩
theorem fX2_64 : jFld RX2 64 6 3 .int false := ⟨RX6, TX6, 13, rfl, by decide, jG_mem 137 (by decide +kernel) rfl, (fun h => by cases h), by decide +kernel, rfl⟩
theorem fX2_67 : jFld RX2 67 6 5 .int false := ⟨RX6, TX6, 13, rfl, by decide, jG_mem 145 (by decide +kernel) rfl, (fun h => by cases h), by decide +kernel, rfl⟩
theorem fX2_70 : jFld RX2 70 6 6 (.array .int) true := ⟨RX6, TX6, 13, rfl, by decide, jG_mem 148 (by decide +kernel) rfl, (fun _ => rfl), by decide +kernel, rfl⟩
theorem fX2_78 : jFld RX2 78 6 7 (.array .int) true := ⟨RX6, TX6, 13, rfl, by decide, jG_mem 151 (by decide +kernel) rfl, (fun _ => rfl), by decide +kernel, rfl⟩
theorem fX2_94 : jFld RX2 94 6 4 .boolean false := ⟨RX6, TX6, 13, rfl, by decide, jG_mem 141 (by decide +kernel) rfl, (fun h => by cases h), by decide +kernel, rfl⟩
theorem fX2_105 : jFld RX2 105 1 0 .int false := ⟨RX1, TX1, 6, rfl, by decide, jG_mem 96 (by decide +kernel) rfl, (fun h => by cases h), by decide +kernel, rfl⟩
theorem fX2_108 : jFld RX2 108 1 1 (.array .int) true := ⟨RX1, TX1, 6, rfl, by decide, jG_mem 98 (by decide +kernel) rfl, (fun _ => rfl), by decide +kernel, rfl⟩
theorem fX2_119 : jFld RX2 119 1 3 (.array .int) true := ⟨RX1, TX1, 6, rfl, by decide, jG_mem 101 (by decide +kernel) rfl, (fun _ => rfl), by decide +kernel, rfl⟩
theorem fX2_125 : jFld RX2 125 1 4 (.array .int) true := ⟨RX1, TX1, 6, rfl, by decide, jG_mem 103 (by decide +kernel) rfl, (fun _ => rfl), by decide +kernel, rfl⟩
theorem fX2_128 : jFld RX2 128 1 5 (.array .int) true := ⟨RX1, TX1, 6, rfl, by decide, jG_mem 106 (by decide +kernel) rfl, (fun _ => rfl), by decide +kernel, rfl⟩
theorem fX2_140 : jFld RX2 140 6 8 (.array .int) true := ⟨RX6, TX6, 13, rfl, by decide, jG_mem 154 (by decide +kernel) rfl, (fun _ => rfl), by decide +kernel, rfl⟩
theorem fX2_178 : jFld RX2 178 6 10 (.array .int) true := ⟨RX6, TX6, 13, rfl, by decide, jG_mem 158 (by decide +kernel) rfl, (fun _ => rfl), by decide +kernel, rfl⟩
theorem fX2_185 : jFld RX2 185 6 9 (.array .int) true := ⟨RX6, TX6, 13, rfl, by decide, jG_mem 156 (by decide +kernel) rfl, (fun _ => rfl), by decide +kernel, rfl⟩
theorem fX3_12 : jFld RX3 12 3 0 (.object "DominoChains$Match") true := ⟨RX3, TX3, 6, rfl, by decide, jG_mem 226 (by decide +kernel) rfl, (fun _ => rfl), by decide +kernel, rfl⟩
theorem fX3_21 : jFld RX3 21 3 1 (.object "DominoChains$Scanner") true := ⟨RX3, TX3, 6, rfl, by decide, jG_mem 228 (by decide +kernel) rfl, (fun _ => rfl), by decide +kernel, rfl⟩
theorem fX3_25 : jFld RX3 25 3 2 (.array .int) true := ⟨RX3, TX3, 6, rfl, by decide, jG_mem 229 (by decide +kernel) rfl, (fun _ => rfl), by decide +kernel, rfl⟩
theorem fX3_29 : jFld RX3 29 3 4 .int false := ⟨RX3, TX3, 6, rfl, by decide, jG_mem 231 (by decide +kernel) rfl, (fun h => by cases h), by decide +kernel, rfl⟩
theorem fX3_33 : jFld RX3 33 3 5 .int false := ⟨RX3, TX3, 6, rfl, by decide, jG_mem 233 (by decide +kernel) rfl, (fun h => by cases h), by decide +kernel, rfl⟩
theorem fX3_36 : jFld RX3 36 2 0 (.object "DominoChains$Layout") true := ⟨RX2, TX2, 2, rfl, by decide, jG_mem 190 (by decide +kernel) rfl, (fun _ => rfl), by decide +kernel, rfl⟩
theorem fX3_66 : jFld RX3 66 4 2 .int false := ⟨RX4, TX4, 5, rfl, by decide, jG_mem 210 (by decide +kernel) rfl, (fun h => by cases h), by decide +kernel, rfl⟩
theorem fX3_98 : jFld RX3 98 3 3 .int false := ⟨RX3, TX3, 6, rfl, by decide, jG_mem 230 (by decide +kernel) rfl, (fun h => by cases h), by decide +kernel, rfl⟩
theorem fX3_134 : jFld RX3 134 2 1 (.object "DominoChains$State") true := ⟨RX2, TX2, 2, rfl, by decide, jG_mem 196 (by decide +kernel) rfl, (fun _ => rfl), by decide +kernel, rfl⟩
theorem fX3_138 : jFld RX3 138 6 4 .boolean false := ⟨RX6, TX6, 13, rfl, by decide, jG_mem 143 (by decide +kernel) rfl, (fun h => by cases h), by decide +kernel, rfl⟩
theorem fX3_168 : jFld RX3 168 4 3 .int false := ⟨RX4, TX4, 5, rfl, by decide, jG_mem 213 (by decide +kernel) rfl, (fun h => by cases h), by decide +kernel, rfl⟩
theorem fX4_9 : jFld RX4 9 4 0 (.array .int) true := ⟨RX4, TX4, 5, rfl, by decide, jG_mem 208 (by decide +kernel) rfl, (fun _ => rfl), by decide +kernel, rfl⟩
theorem fX4_19 : jFld RX4 19 4 1 .int false := ⟨RX4, TX4, 5, rfl, by decide, jG_mem 209 (by decide +kernel) rfl, (fun h => by cases h), by decide +kernel, rfl⟩
theorem fX4_23 : jFld RX4 23 4 4 .int false := ⟨RX4, TX4, 5, rfl, by decide, jG_mem 214 (by decide +kernel) rfl, (fun h => by cases h), by decide +kernel, rfl⟩
theorem fX4_29 : jFld RX4 29 4 3 .int false := ⟨RX4, TX4, 5, rfl, by decide, jG_mem 212 (by decide +kernel) rfl, (fun h => by cases h), by decide +kernel, rfl⟩
theorem fX4_44 : jFld RX4 44 4 2 .int false := ⟨RX4, TX4, 5, rfl, by decide, jG_mem 211 (by decide +kernel) rfl, (fun h => by cases h), by decide +kernel, rfl⟩
theorem fX5_9 : jFld RX5 9 5 0 (.array .int) true := ⟨RX5, TX5, 13, rfl, by decide, jG_mem 257 (by decide +kernel) rfl, (fun _ => rfl), by decide +kernel, rfl⟩
theorem fX5_15 : jFld RX5 15 5 1 (.array .int) true := ⟨RX5, TX5, 13, rfl, by decide, jG_mem 258 (by decide +kernel) rfl, (fun _ => rfl), by decide +kernel, rfl⟩
theorem fX5_18 : jFld RX5 18 5 2 (.array .int) true := ⟨RX5, TX5, 13, rfl, by decide, jG_mem 259 (by decide +kernel) rfl, (fun _ => rfl), by decide +kernel, rfl⟩
theorem fX5_21 : jFld RX5 21 5 3 (.array .int) true := ⟨RX5, TX5, 13, rfl, by decide, jG_mem 260 (by decide +kernel) rfl, (fun _ => rfl), by decide +kernel, rfl⟩
theorem fX5_24 : jFld RX5 24 5 4 (.array .int) true := ⟨RX5, TX5, 13, rfl, by decide, jG_mem 261 (by decide +kernel) rfl, (fun _ => rfl), by decide +kernel, rfl⟩
theorem fX5_27 : jFld RX5 27 5 5 (.array .int) true := ⟨RX5, TX5, 13, rfl, by decide, jG_mem 262 (by decide +kernel) rfl, (fun _ => rfl), by decide +kernel, rfl⟩
theorem fX5_31 : jFld RX5 31 5 6 (.array .int) true := ⟨RX5, TX5, 13, rfl, by decide, jG_mem 263 (by decide +kernel) rfl, (fun _ => rfl), by decide +kernel, rfl⟩
theorem fX5_34 : jFld RX5 34 5 7 (.array .int) true := ⟨RX5, TX5, 13, rfl, by decide, jG_mem 264 (by decide +kernel) rfl, (fun _ => rfl), by decide +kernel, rfl⟩
theorem fX5_37 : jFld RX5 37 5 8 (.array .int) true := ⟨RX5, TX5, 13, rfl, by decide, jG_mem 265 (by decide +kernel) rfl, (fun _ => rfl), by decide +kernel, rfl⟩
theorem fX5_40 : jFld RX5 40 5 10 .int false := ⟨RX5, TX5, 13, rfl, by decide, jG_mem 267 (by decide +kernel) rfl, (fun h => by cases h), by decide +kernel, rfl⟩
theorem fX5_48 : jFld RX5 48 5 11 .boolean false := ⟨RX5, TX5, 13, rfl, by decide, jG_mem 268 (by decide +kernel) rfl, (fun h => by cases h), by decide +kernel, rfl⟩
theorem fX5_55 : jFld RX5 55 5 9 .int false := ⟨RX5, TX5, 13, rfl, by decide, jG_mem 266 (by decide +kernel) rfl, (fun h => by cases h), by decide +kernel, rfl⟩
theorem fX5_69 : jFld RX5 69 5 12 .boolean false := ⟨RX5, TX5, 13, rfl, by decide, jG_mem 269 (by decide +kernel) rfl, (fun h => by cases h), by decide +kernel, rfl⟩
theorem fX5_79 : jFld RX5 79 2 1 (.object "DominoChains$State") true := ⟨RX2, TX2, 2, rfl, by decide, jG_mem 194 (by decide +kernel) rfl, (fun _ => rfl), by decide +kernel, rfl⟩
theorem fX5_85 : jFld RX5 85 6 4 .boolean false := ⟨RX6, TX6, 13, rfl, by decide, jG_mem 140 (by decide +kernel) rfl, (fun h => by cases h), by decide +kernel, rfl⟩
theorem fX5_98 : jFld RX5 98 6 6 (.array .int) true := ⟨RX6, TX6, 13, rfl, by decide, jG_mem 149 (by decide +kernel) rfl, (fun _ => rfl), by decide +kernel, rfl⟩
theorem fX5_101 : jFld RX5 101 6 7 (.array .int) true := ⟨RX6, TX6, 13, rfl, by decide, jG_mem 152 (by decide +kernel) rfl, (fun _ => rfl), by decide +kernel, rfl⟩
theorem fX5_107 : jFld RX5 107 6 3 .int false := ⟨RX6, TX6, 13, rfl, by decide, jG_mem 138 (by decide +kernel) rfl, (fun h => by cases h), by decide +kernel, rfl⟩
theorem fX5_123 : jFld RX5 123 6 0 .int false := ⟨RX6, TX6, 13, rfl, by decide, jG_mem 130 (by decide +kernel) rfl, (fun h => by cases h), by decide +kernel, rfl⟩
theorem fX5_126 : jFld RX5 126 2 0 (.object "DominoChains$Layout") true := ⟨RX2, TX2, 2, rfl, by decide, jG_mem 192 (by decide +kernel) rfl, (fun _ => rfl), by decide +kernel, rfl⟩
theorem fX5_144 : jFld RX5 144 1 5 (.array .int) true := ⟨RX1, TX1, 6, rfl, by decide, jG_mem 105 (by decide +kernel) rfl, (fun _ => rfl), by decide +kernel, rfl⟩
theorem fX6_9 : jFld RX6 9 6 6 (.array .int) true := ⟨RX6, TX6, 13, rfl, by decide, jG_mem 147 (by decide +kernel) rfl, (fun _ => rfl), by decide +kernel, rfl⟩
theorem fX6_15 : jFld RX6 15 6 7 (.array .int) true := ⟨RX6, TX6, 13, rfl, by decide, jG_mem 150 (by decide +kernel) rfl, (fun _ => rfl), by decide +kernel, rfl⟩
theorem fX6_18 : jFld RX6 18 6 8 (.array .int) true := ⟨RX6, TX6, 13, rfl, by decide, jG_mem 153 (by decide +kernel) rfl, (fun _ => rfl), by decide +kernel, rfl⟩
theorem fX6_21 : jFld RX6 21 6 9 (.array .int) true := ⟨RX6, TX6, 13, rfl, by decide, jG_mem 155 (by decide +kernel) rfl, (fun _ => rfl), by decide +kernel, rfl⟩
theorem fX6_24 : jFld RX6 24 6 10 (.array .int) true := ⟨RX6, TX6, 13, rfl, by decide, jG_mem 157 (by decide +kernel) rfl, (fun _ => rfl), by decide +kernel, rfl⟩
theorem fX6_27 : jFld RX6 27 6 11 (.array .int) true := ⟨RX6, TX6, 13, rfl, by decide, jG_mem 159 (by decide +kernel) rfl, (fun _ => rfl), by decide +kernel, rfl⟩
theorem fX6_30 : jFld RX6 30 6 12 (.array .int) true := ⟨RX6, TX6, 13, rfl, by decide, jG_mem 160 (by decide +kernel) rfl, (fun _ => rfl), by decide +kernel, rfl⟩
theorem fX6_33 : jFld RX6 33 6 0 .int false := ⟨RX6, TX6, 13, rfl, by decide, jG_mem 127 (by decide +kernel) rfl, (fun h => by cases h), by decide +kernel, rfl⟩
theorem fX6_37 : jFld RX6 37 6 1 .int false := ⟨RX6, TX6, 13, rfl, by decide, jG_mem 131 (by decide +kernel) rfl, (fun h => by cases h), by decide +kernel, rfl⟩
theorem fX6_40 : jFld RX6 40 6 2 .int false := ⟨RX6, TX6, 13, rfl, by decide, jG_mem 133 (by decide +kernel) rfl, (fun h => by cases h), by decide +kernel, rfl⟩
theorem fX6_43 : jFld RX6 43 6 3 .int false := ⟨RX6, TX6, 13, rfl, by decide, jG_mem 136 (by decide +kernel) rfl, (fun h => by cases h), by decide +kernel, rfl⟩
theorem fX6_46 : jFld RX6 46 6 4 .boolean false := ⟨RX6, TX6, 13, rfl, by decide, jG_mem 139 (by decide +kernel) rfl, (fun h => by cases h), by decide +kernel, rfl⟩
theorem fX6_50 : jFld RX6 50 6 5 .int false := ⟨RX6, TX6, 13, rfl, by decide, jG_mem 144 (by decide +kernel) rfl, (fun h => by cases h), by decide +kernel, rfl⟩
theorem fX7_9 : jFld RX7 9 7 0 (.array .int) true := ⟨RX7, TX7, 2, rfl, by decide, jG_mem 324 (by decide +kernel) rfl, (fun _ => rfl), by decide +kernel, rfl⟩
theorem fJ5_15 : jFld RJ5 15 10 0 (.array .byte) false := ⟨RJ4, TJ4, 4, rfl, by decide, jG_mem 1137 (by decide +kernel) rfl, (fun h => by cases h), by decide +kernel, rfl⟩
theorem fJ5_22 : jFld RJ5 22 10 1 .byte false := ⟨RJ4, TJ4, 4, rfl, by decide, jG_mem 1138 (by decide +kernel) rfl, (fun h => by cases h), by decide +kernel, rfl⟩
theorem fJ5_79 : jFld RJ5 79 10 3 .int false := ⟨RJ4, TJ4, 4, rfl, by decide, jG_mem 1140 (by decide +kernel) rfl, (fun h => by cases h), by decide +kernel, rfl⟩
theorem fJ0_9 : jFld RJ0 9 9 0 (.array .byte) true := ⟨RJ0, TJ0, 4, rfl, by decide, jG_mem 1338 (by decide +kernel) rfl, (fun _ => rfl), by decide +kernel, rfl⟩
theorem fJ0_15 : jFld RJ0 15 9 1 .byte true := ⟨RJ0, TJ0, 4, rfl, by decide, jG_mem 1339 (by decide +kernel) rfl, (fun _ => rfl), by decide +kernel, rfl⟩
theorem fJ0_1048 : jFld RJ0 1048 10 2 .boolean false := ⟨RJ4, TJ4, 4, rfl, by decide, jG_mem 1139 (by decide +kernel) rfl, (fun h => by cases h), by decide +kernel, rfl⟩
theorem uX0 : ∀ w ∈ u_ws RX0 TX0 3, w ∈ jG := by
  intro w hw
  obtain ⟨k, hk, rfl⟩ := List.mem_map.mp hw
  have hk := List.mem_range.mp hk
  match k, hk with
  | 0, _ => exact jG_mem 309 (by decide +kernel) rfl
  | 1, _ => exact jG_mem 311 (by decide +kernel) rfl
  | 2, _ => exact jG_mem 313 (by decide +kernel) rfl
  | k + 3, hk => exact absurd hk (by omega)
theorem uX1 : ∀ w ∈ u_ws RX1 TX1 6, w ∈ jG := by
  intro w hw
  obtain ⟨k, hk, rfl⟩ := List.mem_map.mp hw
  have hk := List.mem_range.mp hk
  match k, hk with
  | 0, _ => exact jG_mem 107 (by decide +kernel) rfl
  | 1, _ => exact jG_mem 109 (by decide +kernel) rfl
  | 2, _ => exact jG_mem 111 (by decide +kernel) rfl
  | 3, _ => exact jG_mem 113 (by decide +kernel) rfl
  | 4, _ => exact jG_mem 115 (by decide +kernel) rfl
  | 5, _ => exact jG_mem 117 (by decide +kernel) rfl
  | k + 6, hk => exact absurd hk (by omega)
theorem uX2 : ∀ w ∈ u_ws RX2 TX2 2, w ∈ jG := by
  intro w hw
  obtain ⟨k, hk, rfl⟩ := List.mem_map.mp hw
  have hk := List.mem_range.mp hk
  match k, hk with
  | 0, _ => exact jG_mem 197 (by decide +kernel) rfl
  | 1, _ => exact jG_mem 199 (by decide +kernel) rfl
  | k + 2, hk => exact absurd hk (by omega)
theorem uX3 : ∀ w ∈ u_ws RX3 TX3 6, w ∈ jG := by
  intro w hw
  obtain ⟨k, hk, rfl⟩ := List.mem_map.mp hw
  have hk := List.mem_range.mp hk
  match k, hk with
  | 0, _ => exact jG_mem 235 (by decide +kernel) rfl
  | 1, _ => exact jG_mem 237 (by decide +kernel) rfl
  | 2, _ => exact jG_mem 239 (by decide +kernel) rfl
  | 3, _ => exact jG_mem 241 (by decide +kernel) rfl
  | 4, _ => exact jG_mem 243 (by decide +kernel) rfl
  | 5, _ => exact jG_mem 245 (by decide +kernel) rfl
  | k + 6, hk => exact absurd hk (by omega)
theorem uX4 : ∀ w ∈ u_ws RX4 TX4 5, w ∈ jG := by
  intro w hw
  obtain ⟨k, hk, rfl⟩ := List.mem_map.mp hw
  have hk := List.mem_range.mp hk
  match k, hk with
  | 0, _ => exact jG_mem 215 (by decide +kernel) rfl
  | 1, _ => exact jG_mem 217 (by decide +kernel) rfl
  | 2, _ => exact jG_mem 219 (by decide +kernel) rfl
  | 3, _ => exact jG_mem 221 (by decide +kernel) rfl
  | 4, _ => exact jG_mem 223 (by decide +kernel) rfl
  | k + 5, hk => exact absurd hk (by omega)
theorem uX5 : ∀ w ∈ u_ws RX5 TX5 13, w ∈ jG := by
  intro w hw
  obtain ⟨k, hk, rfl⟩ := List.mem_map.mp hw
  have hk := List.mem_range.mp hk
  match k, hk with
  | 0, _ => exact jG_mem 270 (by decide +kernel) rfl
  | 1, _ => exact jG_mem 272 (by decide +kernel) rfl
  | 2, _ => exact jG_mem 274 (by decide +kernel) rfl
  | 3, _ => exact jG_mem 276 (by decide +kernel) rfl
  | 4, _ => exact jG_mem 278 (by decide +kernel) rfl
  | 5, _ => exact jG_mem 280 (by decide +kernel) rfl
  | 6, _ => exact jG_mem 282 (by decide +kernel) rfl
  | 7, _ => exact jG_mem 284 (by decide +kernel) rfl
  | 8, _ => exact jG_mem 286 (by decide +kernel) rfl
  | 9, _ => exact jG_mem 288 (by decide +kernel) rfl
  | 10, _ => exact jG_mem 290 (by decide +kernel) rfl
  | 11, _ => exact jG_mem 292 (by decide +kernel) rfl
  | 12, _ => exact jG_mem 294 (by decide +kernel) rfl
  | k + 13, hk => exact absurd hk (by omega)
theorem uX6 : ∀ w ∈ u_ws RX6 TX6 13, w ∈ jG := by
  intro w hw
  obtain ⟨k, hk, rfl⟩ := List.mem_map.mp hw
  have hk := List.mem_range.mp hk
  match k, hk with
  | 0, _ => exact jG_mem 162 (by decide +kernel) rfl
  | 1, _ => exact jG_mem 164 (by decide +kernel) rfl
  | 2, _ => exact jG_mem 166 (by decide +kernel) rfl
  | 3, _ => exact jG_mem 168 (by decide +kernel) rfl
  | 4, _ => exact jG_mem 170 (by decide +kernel) rfl
  | 5, _ => exact jG_mem 172 (by decide +kernel) rfl
  | 6, _ => exact jG_mem 174 (by decide +kernel) rfl
  | 7, _ => exact jG_mem 176 (by decide +kernel) rfl
  | 8, _ => exact jG_mem 178 (by decide +kernel) rfl
  | 9, _ => exact jG_mem 180 (by decide +kernel) rfl
  | 10, _ => exact jG_mem 182 (by decide +kernel) rfl
  | 11, _ => exact jG_mem 184 (by decide +kernel) rfl
  | 12, _ => exact jG_mem 186 (by decide +kernel) rfl
  | k + 13, hk => exact absurd hk (by omega)
theorem uX7 : ∀ w ∈ u_ws RX7 TX7 2, w ∈ jG := by
  intro w hw
  obtain ⟨k, hk, rfl⟩ := List.mem_map.mp hw
  have hk := List.mem_range.mp hk
  match k, hk with
  | 0, _ => exact jG_mem 325 (by decide +kernel) rfl
  | 1, _ => exact jG_mem 327 (by decide +kernel) rfl
  | k + 2, hk => exact absurd hk (by omega)
theorem uX8 : ∀ w ∈ u_ws RX8 TX8 12, w ∈ jG := by
  intro w hw
  obtain ⟨k, hk, rfl⟩ := List.mem_map.mp hw
  have hk := List.mem_range.mp hk
  match k, hk with
  | 0, _ => exact jG_mem 399 (by decide +kernel) rfl
  | 1, _ => exact jG_mem 401 (by decide +kernel) rfl
  | 2, _ => exact jG_mem 403 (by decide +kernel) rfl
  | 3, _ => exact jG_mem 405 (by decide +kernel) rfl
  | 4, _ => exact jG_mem 407 (by decide +kernel) rfl
  | 5, _ => exact jG_mem 409 (by decide +kernel) rfl
  | 6, _ => exact jG_mem 411 (by decide +kernel) rfl
  | 7, _ => exact jG_mem 413 (by decide +kernel) rfl
  | 8, _ => exact jG_mem 415 (by decide +kernel) rfl
  | 9, _ => exact jG_mem 417 (by decide +kernel) rfl
  | 10, _ => exact jG_mem 419 (by decide +kernel) rfl
  | 11, _ => exact jG_mem 421 (by decide +kernel) rfl
  | k + 12, hk => exact absurd hk (by omega)
theorem uJ0 : ∀ w ∈ u_ws RJ0 TJ0 4, w ∈ jG := by
  intro w hw
  obtain ⟨k, hk, rfl⟩ := List.mem_map.mp hw
  have hk := List.mem_range.mp hk
  match k, hk with
  | 0, _ => exact jG_mem 1340 (by decide +kernel) rfl
  | 1, _ => exact jG_mem 1342 (by decide +kernel) rfl
  | 2, _ => exact jG_mem 1344 (by decide +kernel) rfl
  | 3, _ => exact jG_mem 1346 (by decide +kernel) rfl
  | k + 4, hk => exact absurd hk (by omega)
theorem uJ4 : ∀ w ∈ u_ws RJ4 TJ4 4, w ∈ jG := by
  intro w hw
  obtain ⟨k, hk, rfl⟩ := List.mem_map.mp hw
  have hk := List.mem_range.mp hk
  match k, hk with
  | 0, _ => exact jG_mem 1141 (by decide +kernel) rfl
  | 1, _ => exact jG_mem 1143 (by decide +kernel) rfl
  | 2, _ => exact jG_mem 1145 (by decide +kernel) rfl
  | 3, _ => exact jG_mem 1147 (by decide +kernel) rfl
  | k + 4, hk => exact absurd hk (by omega)
theorem jcls : jCls := by
  intro ci C T N h
  match ci, h with
  | 0, h => cases h; exact ⟨by decide, uX0, ⟨tyX0, tyX0_ok⟩, nmX0⟩
  | 1, h => cases h; exact ⟨by decide, uX1, ⟨tyX1, tyX1_ok⟩, nmX1⟩
  | 2, h => cases h; exact ⟨by decide, uX2, ⟨tyX2, tyX2_ok⟩, nmX2⟩
  | 3, h => cases h; exact ⟨by decide, uX3, ⟨tyX3, tyX3_ok⟩, nmX3⟩
  | 4, h => cases h; exact ⟨by decide, uX4, ⟨tyX4, tyX4_ok⟩, nmX4⟩
  | 5, h => cases h; exact ⟨by decide, uX5, ⟨tyX5, tyX5_ok⟩, nmX5⟩
  | 6, h => cases h; exact ⟨by decide, uX6, ⟨tyX6, tyX6_ok⟩, nmX6⟩
  | 7, h => cases h; exact ⟨by decide, uX7, ⟨tyX7, tyX7_ok⟩, nmX7⟩
  | 8, h => cases h; exact ⟨by decide, uX8, ⟨tyX8, tyX8_ok⟩, nmX8⟩
  | 9, h => cases h; exact ⟨by decide, uJ0, ⟨tyJ0, tyJ0_ok⟩, nmJ0⟩
  | 10, h => cases h; exact ⟨by decide, uJ4, ⟨tyJ4, tyJ4_ok⟩, nmJ4⟩
  | k + 11, h => cases h
theorem jdef : jDef := by
  intro ci C T N h
  match ci, h with
  | 0, h => cases h; exact ⟨by decide, uX0, tyX0, tyX0_ok, by decide +kernel⟩
  | 1, h => cases h; exact ⟨by decide, uX1, tyX1, tyX1_ok, by decide +kernel⟩
  | 2, h => cases h; exact ⟨by decide, uX2, tyX2, tyX2_ok, by decide +kernel⟩
  | 3, h => cases h; exact ⟨by decide, uX3, tyX3, tyX3_ok, by decide +kernel⟩
  | 4, h => cases h; exact ⟨by decide, uX4, tyX4, tyX4_ok, by decide +kernel⟩
  | 5, h => cases h; exact ⟨by decide, uX5, tyX5, tyX5_ok, by decide +kernel⟩
  | 6, h => cases h; exact ⟨by decide, uX6, tyX6, tyX6_ok, by decide +kernel⟩
  | 7, h => cases h; exact ⟨by decide, uX7, tyX7, tyX7_ok, by decide +kernel⟩
  | 8, h => cases h; exact ⟨by decide, uX8, tyX8, tyX8_ok, by decide +kernel⟩
  | 9, h => cases h; exact ⟨by decide, uJ0, tyJ0, tyJ0_ok, by decide +kernel⟩
  | 10, h => cases h; exact ⟨by decide, uJ4, tyJ4, tyJ4_ok, by decide +kernel⟩
  | k + 11, h => cases h
theorem kX8_20 : Cond.classLink RX8 20 RX3 ∈ jG := jG_mem 76 (by decide +kernel) rfl
theorem kX8_27 : Cond.classLink RX8 27 RX2 ∈ jG := jG_mem 248 (by decide +kernel) rfl
theorem kX8_37 : Cond.classLink RX8 37 RX5 ∈ jG := jG_mem 250 (by decide +kernel) rfl
theorem kX8_44 : Cond.classLink RX8 44 RX0 ∈ jG := jG_mem 297 (by decide +kernel) rfl
theorem kX8_51 : Cond.classLink RX8 51 RX6 ∈ jG := jG_mem 316 (by decide +kernel) rfl
theorem kX8_58 : Cond.classLink RX8 58 RX7 ∈ jG := jG_mem 318 (by decide +kernel) rfl
theorem kX0_9 : Cond.classLink RX0 9 RX6 ∈ jG := jG_mem 303 (by decide +kernel) rfl
theorem kX2_9 : Cond.classLink RX2 9 RX1 ∈ jG := jG_mem 88 (by decide +kernel) rfl
theorem kX2_18 : Cond.classLink RX2 18 RX6 ∈ jG := jG_mem 121 (by decide +kernel) rfl
theorem kX3_9 : Cond.classLink RX3 9 RX2 ∈ jG := jG_mem 82 (by decide +kernel) rfl
theorem kX3_18 : Cond.classLink RX3 18 RX4 ∈ jG := jG_mem 202 (by decide +kernel) rfl
theorem kL_25 : Cond.classLink RL 25 RX8 ∈ jG := jG_mem 68 (by decide +kernel) rfl
theorem kL_113 : Cond.classLink RL 113 RJ4 ∈ jG := jG_mem 1120 (by decide +kernel) rfl
theorem kJ4_18 : Cond.classLink RJ4 18 RJ0 ∈ jG := jG_mem 1288 (by decide +kernel) rfl
theorem kJ7_45 : Cond.classLink RJ7 45 RJ4 ∈ jG := jG_mem 1321 (by decide +kernel) rfl
theorem iX8 : Cond.instantiable RX8 12 ∈ jG := jG_mem 69 (by decide +kernel) rfl
theorem iniX8 : Cond.initialized RX8 ∈ jG := jG_mem 40 (by decide +kernel) rfl
theorem iX3 : Cond.instantiable RX3 6 ∈ jG := jG_mem 77 (by decide +kernel) rfl
theorem iniX3 : Cond.initialized RX3 ∈ jG := jG_mem 41 (by decide +kernel) rfl
theorem iX2 : Cond.instantiable RX2 2 ∈ jG := jG_mem 83 (by decide +kernel) rfl
theorem iniX2 : Cond.initialized RX2 ∈ jG := jG_mem 42 (by decide +kernel) rfl
theorem iX1 : Cond.instantiable RX1 6 ∈ jG := jG_mem 89 (by decide +kernel) rfl
theorem iniX1 : Cond.initialized RX1 ∈ jG := jG_mem 43 (by decide +kernel) rfl
theorem iX6 : Cond.instantiable RX6 13 ∈ jG := jG_mem 122 (by decide +kernel) rfl
theorem iniX6 : Cond.initialized RX6 ∈ jG := jG_mem 44 (by decide +kernel) rfl
theorem iX4 : Cond.instantiable RX4 5 ∈ jG := jG_mem 203 (by decide +kernel) rfl
theorem iniX4 : Cond.initialized RX4 ∈ jG := jG_mem 45 (by decide +kernel) rfl
theorem iX5 : Cond.instantiable RX5 13 ∈ jG := jG_mem 251 (by decide +kernel) rfl
theorem iniX5 : Cond.initialized RX5 ∈ jG := jG_mem 46 (by decide +kernel) rfl
theorem iX0 : Cond.instantiable RX0 3 ∈ jG := jG_mem 298 (by decide +kernel) rfl
theorem iniX0 : Cond.initialized RX0 ∈ jG := jG_mem 47 (by decide +kernel) rfl
theorem iX7 : Cond.instantiable RX7 2 ∈ jG := jG_mem 319 (by decide +kernel) rfl
theorem iniX7 : Cond.initialized RX7 ∈ jG := jG_mem 48 (by decide +kernel) rfl
theorem iJ4 : Cond.instantiable RJ4 4 ∈ jG := jG_mem 1121 (by decide +kernel) rfl
theorem iniJ4 : Cond.initialized RJ4 ∈ jG := jG_mem 51 (by decide +kernel) rfl
theorem iJ0 : Cond.instantiable RJ0 4 ∈ jG := jG_mem 1289 (by decide +kernel) rfl
theorem iniJ0 : Cond.initialized RJ0 ∈ jG := jG_mem 52 (by decide +kernel) rfl
theorem qX5_30 : Cond.constant RX5 30 (46656) ∈ jG := jG_mem 256 (by decide +kernel) rfl
theorem qL_7 : Cond.constant RL 7 (2147483647) ∈ jG := jG_mem 693 (by decide +kernel) rfl
theorem qL_189 : Cond.constant RL 189 (-100000) ∈ jG := jG_mem 1410 (by decide +kernel) rfl
theorem qL_262 : Cond.constant RL 262 (100000) ∈ jG := jG_mem 1424 (by decide +kernel) rfl
theorem qJ5_39 : Cond.constant RJ5 39 (2147483647) ∈ jG := jG_mem 1178 (by decide +kernel) rfl
theorem qJ8_200 : Cond.constant RJ8 200 (2147483639) ∈ jG := jG_mem 1174 (by decide +kernel) rfl
theorem a_int : Cond.arrayClass .int ∈ jG := jG_mem 120 (by decide +kernel) rfl
theorem a_byte : Cond.arrayClass .byte ∈ jG := jG_mem 773 (by decide +kernel) rfl
theorem a_boolean : Cond.arrayClass .boolean ∈ jG := jG_mem 1349 (by decide +kernel) rfl
theorem oi_1 : Cond.instanceMethod Lib.objectInit ∈ jG := jG_mem 74 (by decide +kernel) rfl
theorem oi_2 : Cond.code Lib.objectInit ⟨#[0xb1]⟩ 1 none ∈ jG := jG_mem 75 (by decide +kernel) rfl
theorem lX8_3 : Cond.methodLink RX8 3 Lib.objectInit ∈ jG := jG_mem 73 (by decide +kernel) rfl
theorem lX8_352 : Cond.methodLink RX8 352 Lib.Math.min.name ∈ jG := jG_mem 616 (by decide +kernel) rfl
theorem lX8_357 : Cond.methodLink RX8 357 arraycopyName ∈ jG := jG_mem 619 (by decide +kernel) rfl
theorem lX0_3 : Cond.methodLink RX0 3 Lib.objectInit ∈ jG := jG_mem 302 (by decide +kernel) rfl
theorem lX0_33 : Cond.methodLink RX0 33 Lib.Math.min.name ∈ jG := jG_mem 1107 (by decide +kernel) rfl
theorem lX1_3 : Cond.methodLink RX1 3 Lib.objectInit ∈ jG := jG_mem 93 (by decide +kernel) rfl
theorem lX2_3 : Cond.methodLink RX2 3 Lib.objectInit ∈ jG := jG_mem 87 (by decide +kernel) rfl
theorem lX2_85 : Cond.methodLink RX2 85 Lib.Math.max.name ∈ jG := jG_mem 379 (by decide +kernel) rfl
theorem lX3_3 : Cond.methodLink RX3 3 Lib.objectInit ∈ jG := jG_mem 81 (by decide +kernel) rfl
theorem lX4_3 : Cond.methodLink RX4 3 Lib.objectInit ∈ jG := jG_mem 207 (by decide +kernel) rfl
theorem lX5_3 : Cond.methodLink RX5 3 Lib.objectInit ∈ jG := jG_mem 255 (by decide +kernel) rfl
theorem lX5_135 : Cond.methodLink RX5 135 Lib.Math.max.name ∈ jG := jG_mem 519 (by decide +kernel) rfl
theorem lX6_3 : Cond.methodLink RX6 3 Lib.objectInit ∈ jG := jG_mem 126 (by decide +kernel) rfl
theorem lX7_3 : Cond.methodLink RX7 3 Lib.objectInit ∈ jG := jG_mem 323 (by decide +kernel) rfl
theorem lL_194 : Cond.methodLink RL 194 Lib.Math.max.name ∈ jG := jG_mem 1411 (by decide +kernel) rfl
theorem lL_263 : Cond.methodLink RL 263 Lib.Math.min.name ∈ jG := jG_mem 1421 (by decide +kernel) rfl
theorem lJ5_3 : Cond.methodLink RJ5 3 Lib.objectInit ∈ jG := jG_mem 1128 (by decide +kernel) rfl
theorem lJ0_1 : Cond.methodLink RJ0 1 Lib.objectInit ∈ jG := jG_mem 1296 (by decide +kernel) rfl
theorem lJ0_212 : Cond.methodLink RJ0 212 arraycopyName ∈ jG := jG_mem 1244 (by decide +kernel) rfl
theorem lJ7_150 : Cond.methodLink RJ7 150 arraycopyName ∈ jG := jG_mem 1190 (by decide +kernel) rfl
theorem lJ7_304 : Cond.methodLink RJ7 304 Lib.Math.min.name ∈ jG := jG_mem 1189 (by decide +kernel) rfl
theorem lJ8_194 : Cond.methodLink RJ8 194 Lib.Math.max.name ∈ jG := jG_mem 1173 (by decide +kernel) rfl
theorem max_s : Cond.static Lib.Math.max.name ∈ jG := jG_mem 380 (by decide +kernel) rfl
theorem max_c : Cond.code Lib.Math.max.name Lib.Math.max.code 2 (some .int) ∈ jG := jG_mem 381 (by decide +kernel) rfl
theorem min_s : Cond.static Lib.Math.min.name ∈ jG := jG_mem 617 (by decide +kernel) rfl
theorem min_c : Cond.code Lib.Math.min.name Lib.Math.min.code 2 (some .int) ∈ jG := jG_mem 618 (by decide +kernel) rfl
theorem math_i : Cond.initialized "java/lang/Math" ∈ jG := jG_mem 49 (by decide +kernel) rfl
theorem ac_n : Cond.native arraycopyName ∈ jG := jG_mem 621 (by decide +kernel) rfl
theorem ac_s : Cond.static arraycopyName ∈ jG := jG_mem 620 (by decide +kernel) rfl
theorem ac_i : Cond.initialized "java/lang/System" ∈ jG := jG_mem 56 (by decide +kernel) rfl
theorem ao_I : Cond.arrayOver (.array .int) ∈ lw_tbl := List.mem_of_getElem? (i := 1423) (by decide +kernel)
theorem kL_221 : Cond.classLink RL 221 "[I" ∈ jG := jG_mem 1422 (by decide +kernel) rfl
theorem kJ7_311 : Cond.classLink RJ7 311 "[B" ∈ jG := jG_mem 1188 (by decide +kernel) rfl
theorem sfJ0_38 : Cond.fieldLink RJ0 38 "java/lang/String" "COMPACT_STRINGS" "Z" ∈ jG := jG_mem 782 (by decide +kernel) rfl
theorem sfJ5_18 : Cond.fieldLink RJ5 18 "java/lang/String" "COMPACT_STRINGS" "Z" ∈ jG := jG_mem 1129 (by decide +kernel) rfl
theorem sfJ6_83 : Cond.fieldLink RJ6 83 "java/lang/Integer" "DigitOnes" "[B" ∈ jG := jG_mem 1272 (by decide +kernel) rfl
theorem sfJ6_87 : Cond.fieldLink RJ6 87 "java/lang/Integer" "DigitTens" "[B" ∈ jG := jG_mem 1274 (by decide +kernel) rfl
theorem sfJ0_1053 : Cond.fieldLink RJ0 1053 "jdk/internal/util/Preconditions" "SIOOBE_FORMATTER" "Ljava/util/function/BiFunction;" ∈ jG := jG_mem 805 (by decide +kernel) rfl
theorem ao_6 : Cond.arrayOver (.object "DominoChains$State") ∈ lw_tbl := List.mem_of_getElem? (i := 304) (by decide +kernel)
