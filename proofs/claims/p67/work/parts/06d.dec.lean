theorem dL_adds_25 : decode cL_adds 25 = .ok (.iadd, 1) := by decide +kernel
theorem dL_adds_26 : decode cL_adds 26 = .ok (.invokestatic 18, 3) := by decide +kernel
theorem dL_adds_29 : decode cL_adds 29 = .ok (.aload_n 1, 1) := by decide +kernel
theorem dL_adds_30 : decode cL_adds 30 = .ok (.iload_n 2, 1) := by decide +kernel
theorem dL_adds_31 : decode cL_adds 31 = .ok (.bipush 16, 2) := by decide +kernel
theorem dL_adds_33 : decode cL_adds 33 = .ok (.iadd, 1) := by decide +kernel
theorem dL_adds_34 : decode cL_adds 34 = .ok (.invokestatic 18, 3) := by decide +kernel
theorem dL_adds_37 : decode cL_adds 37 = .ok (.invokevirtual 24, 3) := by decide +kernel
theorem dL_adds_40 : decode cL_adds 40 = .ok (.ireturn, 1) := by decide +kernel
theorem dL_adds_41 : decode cL_adds 41 = .ok (.astore_n 3, 1) := by decide +kernel
theorem dL_adds_42 : decode cL_adds 42 = .ok (.bipush (-2), 2) := by decide +kernel
theorem dL_adds_44 : decode cL_adds 44 = .ok (.ireturn, 1) := by decide +kernel
theorem dL_cuts_0 : decode cL_cuts 0 = .ok (.aload_n 0, 1) := by decide +kernel
theorem dL_cuts_1 : decode cL_cuts 1 = .ok (.iload_n 1, 1) := by decide +kernel
theorem dL_cuts_2 : decode cL_cuts 2 = .ok (.invokevirtual 32, 3) := by decide +kernel
theorem dL_cuts_5 : decode cL_cuts 5 = .ok (.goto 7, 3) := by decide +kernel
theorem dL_cuts_8 : decode cL_cuts 8 = .ok (.astore_n 2, 1) := by decide +kernel
theorem dL_cuts_9 : decode cL_cuts 9 = .ok (.bipush (-2), 2) := by decide +kernel
theorem dL_cuts_11 : decode cL_cuts 11 = .ok (.ireturn, 1) := by decide +kernel
theorem dL_cuts_12 : decode cL_cuts 12 = .ok (.iconst 0, 1) := by decide +kernel
theorem dL_cuts_13 : decode cL_cuts 13 = .ok (.ireturn, 1) := by decide +kernel
theorem dL_loads_0 : decode cL_loads 0 = .ok (.aload_n 0, 1) := by decide +kernel
theorem dL_loads_1 : decode cL_loads 1 = .ok (.iconst 0, 1) := by decide +kernel
theorem dL_loads_2 : decode cL_loads 2 = .ok (.invokestatic 38, 3) := by decide +kernel
theorem dL_loads_5 : decode cL_loads 5 = .ok (.pop, 1) := by decide +kernel
theorem dL_loads_6 : decode cL_loads 6 = .ok (.iconst 0, 1) := by decide +kernel
theorem dL_loads_7 : decode cL_loads 7 = .ok (.istore_n 2, 1) := by decide +kernel
theorem dL_loads_8 : decode cL_loads 8 = .ok (.iload_n 2, 1) := by decide +kernel
theorem dL_loads_9 : decode cL_loads 9 = .ok (.aload_n 1, 1) := by decide +kernel
theorem dL_loads_10 : decode cL_loads 10 = .ok (.invokevirtual 8, 3) := by decide +kernel
theorem dL_loads_13 : decode cL_loads 13 = .ok (.if_icmp .ge 16, 3) := by decide +kernel
theorem dL_loads_16 : decode cL_loads 16 = .ok (.aload_n 0, 1) := by decide +kernel
theorem dL_loads_17 : decode cL_loads 17 = .ok (.aload_n 1, 1) := by decide +kernel
theorem dL_loads_18 : decode cL_loads 18 = .ok (.iload_n 2, 1) := by decide +kernel
theorem dL_loads_19 : decode cL_loads 19 = .ok (.invokestatic 42, 3) := by decide +kernel
theorem dL_loads_22 : decode cL_loads 22 = .ok (.pop, 1) := by decide +kernel
theorem dL_loads_23 : decode cL_loads 23 = .ok (.iinc 2 20, 3) := by decide +kernel
theorem dL_loads_26 : decode cL_loads 26 = .ok (.goto (-18), 3) := by decide +kernel
theorem dL_loads_29 : decode cL_loads 29 = .ok (.aload_n 0, 1) := by decide +kernel
theorem dL_loads_30 : decode cL_loads 30 = .ok (.aload_n 1, 1) := by decide +kernel
theorem dL_loads_31 : decode cL_loads 31 = .ok (.invokevirtual 8, 3) := by decide +kernel
theorem dL_loads_34 : decode cL_loads 34 = .ok (.invokestatic 38, 3) := by decide +kernel
theorem dL_loads_37 : decode cL_loads 37 = .ok (.pop, 1) := by decide +kernel
theorem dL_loads_38 : decode cL_loads 38 = .ok (.aload_n 0, 1) := by decide +kernel
theorem dL_loads_39 : decode cL_loads 39 = .ok (.invokevirtual 46, 3) := by decide +kernel
theorem dL_loads_42 : decode cL_loads 42 = .ok (.ireturn, 1) := by decide +kernel
theorem dL_loads_43 : decode cL_loads 43 = .ok (.astore_n 2, 1) := by decide +kernel
theorem dL_loads_44 : decode cL_loads 44 = .ok (.bipush (-2), 2) := by decide +kernel
theorem dL_loads_46 : decode cL_loads 46 = .ok (.ireturn, 1) := by decide +kernel
theorem dL_chain_0 : decode cL_chain 0 = .ok (.iload_n 2, 1) := by decide +kernel
theorem dL_chain_1 : decode cL_chain 1 = .ok (.ifCond .eq 11, 3) := by decide +kernel
theorem dL_chain_4 : decode cL_chain 4 = .ok (.aload_n 0, 1) := by decide +kernel
theorem dL_chain_5 : decode cL_chain 5 = .ok (.iload_n 1, 1) := by decide +kernel
theorem dL_chain_6 : decode cL_chain 6 = .ok (.invokevirtual 49, 3) := by decide +kernel
theorem dL_chain_9 : decode cL_chain 9 = .ok (.goto 8, 3) := by decide +kernel
theorem dL_chain_12 : decode cL_chain 12 = .ok (.aload_n 0, 1) := by decide +kernel
theorem dL_chain_13 : decode cL_chain 13 = .ok (.iload_n 1, 1) := by decide +kernel
theorem dL_chain_14 : decode cL_chain 14 = .ok (.invokevirtual 53, 3) := by decide +kernel
theorem dL_chain_17 : decode cL_chain 17 = .ok (.ireturn, 1) := by decide +kernel
theorem dL_chain_18 : decode cL_chain 18 = .ok (.astore_n 3, 1) := by decide +kernel
theorem dL_chain_19 : decode cL_chain 19 = .ok (.bipush (-20), 2) := by decide +kernel
theorem dL_chain_21 : decode cL_chain 21 = .ok (.ireturn, 1) := by decide +kernel
theorem dL_pips_0 : decode cL_pips 0 = .ok (.iload_n 3, 1) := by decide +kernel
theorem dL_pips_1 : decode cL_pips 1 = .ok (.ifCond .ne 12, 3) := by decide +kernel
theorem dL_pips_4 : decode cL_pips 4 = .ok (.aload_n 0, 1) := by decide +kernel
theorem dL_pips_5 : decode cL_pips 5 = .ok (.iload_n 1, 1) := by decide +kernel
theorem dL_pips_6 : decode cL_pips 6 = .ok (.iload_n 2, 1) := by decide +kernel
theorem dL_pips_7 : decode cL_pips 7 = .ok (.invokevirtual 58, 3) := by decide +kernel
theorem dL_pips_10 : decode cL_pips 10 = .ok (.goto 23, 3) := by decide +kernel
theorem dL_pips_13 : decode cL_pips 13 = .ok (.iload_n 3, 1) := by decide +kernel
theorem dL_pips_14 : decode cL_pips 14 = .ok (.iconst 1, 1) := by decide +kernel
theorem dL_pips_15 : decode cL_pips 15 = .ok (.if_icmp .ne 12, 3) := by decide +kernel
theorem dL_pips_18 : decode cL_pips 18 = .ok (.aload_n 0, 1) := by decide +kernel
theorem dL_pips_19 : decode cL_pips 19 = .ok (.iload_n 1, 1) := by decide +kernel
theorem dL_pips_20 : decode cL_pips 20 = .ok (.iload_n 2, 1) := by decide +kernel
theorem dL_pips_21 : decode cL_pips 21 = .ok (.invokevirtual 62, 3) := by decide +kernel
theorem dL_pips_24 : decode cL_pips 24 = .ok (.goto 9, 3) := by decide +kernel
theorem dL_pips_27 : decode cL_pips 27 = .ok (.aload_n 0, 1) := by decide +kernel
theorem dL_pips_28 : decode cL_pips 28 = .ok (.iload_n 1, 1) := by decide +kernel
theorem dL_pips_29 : decode cL_pips 29 = .ok (.iload_n 2, 1) := by decide +kernel
theorem dL_pips_30 : decode cL_pips 30 = .ok (.invokevirtual 65, 3) := by decide +kernel
theorem dL_pips_33 : decode cL_pips 33 = .ok (.ireturn, 1) := by decide +kernel
theorem dL_pips_34 : decode cL_pips 34 = .ok (.astore 4, 2) := by decide +kernel
theorem dL_pips_36 : decode cL_pips 36 = .ok (.bipush (-20), 2) := by decide +kernel
theorem dL_pips_38 : decode cL_pips 38 = .ok (.ireturn, 1) := by decide +kernel
theorem dL_score_0 : decode cL_score 0 = .ok (.aload_n 0, 1) := by decide +kernel
theorem dL_score_1 : decode cL_score 1 = .ok (.iload_n 1, 1) := by decide +kernel
theorem dL_score_2 : decode cL_score 2 = .ok (.iload_n 2, 1) := by decide +kernel
theorem dL_score_3 : decode cL_score 3 = .ok (.invokevirtual 68, 3) := by decide +kernel
theorem dL_score_6 : decode cL_score 6 = .ok (.ireturn, 1) := by decide +kernel
theorem dL_score_7 : decode cL_score 7 = .ok (.astore_n 3, 1) := by decide +kernel
theorem dL_score_8 : decode cL_score 8 = .ok (.bipush (-20), 2) := by decide +kernel
theorem dL_score_10 : decode cL_score 10 = .ok (.ireturn, 1) := by decide +kernel
theorem dL_move_0 : decode cL_move 0 = .ok (.iload_n 2, 1) := by decide +kernel
theorem dL_move_1 : decode cL_move 1 = .ok (.ifCond .ne 11, 3) := by decide +kernel
theorem dL_move_4 : decode cL_move 4 = .ok (.aload_n 0, 1) := by decide +kernel
theorem dL_move_5 : decode cL_move 5 = .ok (.iload_n 1, 1) := by decide +kernel
theorem dL_move_6 : decode cL_move 6 = .ok (.invokevirtual 71, 3) := by decide +kernel
theorem dL_move_9 : decode cL_move 9 = .ok (.goto 63, 3) := by decide +kernel
theorem dL_move_12 : decode cL_move 12 = .ok (.iload_n 2, 1) := by decide +kernel
theorem dL_move_13 : decode cL_move 13 = .ok (.iconst 1, 1) := by decide +kernel
theorem dL_move_14 : decode cL_move 14 = .ok (.if_icmp .ne 11, 3) := by decide +kernel
theorem dL_move_17 : decode cL_move 17 = .ok (.aload_n 0, 1) := by decide +kernel
theorem dL_move_18 : decode cL_move 18 = .ok (.iload_n 1, 1) := by decide +kernel
theorem dL_move_19 : decode cL_move 19 = .ok (.invokevirtual 74, 3) := by decide +kernel
theorem dL_move_22 : decode cL_move 22 = .ok (.goto 50, 3) := by decide +kernel
theorem dL_move_25 : decode cL_move 25 = .ok (.iload_n 2, 1) := by decide +kernel
theorem dL_move_26 : decode cL_move 26 = .ok (.iconst 2, 1) := by decide +kernel
theorem dL_move_27 : decode cL_move 27 = .ok (.if_icmp .ne 19, 3) := by decide +kernel
theorem dL_move_30 : decode cL_move 30 = .ok (.aload_n 0, 1) := by decide +kernel
theorem dL_move_31 : decode cL_move 31 = .ok (.iload_n 1, 1) := by decide +kernel
theorem dL_move_32 : decode cL_move 32 = .ok (.invokevirtual 77, 3) := by decide +kernel
theorem dL_move_35 : decode cL_move 35 = .ok (.ifCond .eq 7, 3) := by decide +kernel
theorem dL_move_38 : decode cL_move 38 = .ok (.iconst 1, 1) := by decide +kernel
theorem dL_move_39 : decode cL_move 39 = .ok (.goto 33, 3) := by decide +kernel
theorem dL_move_42 : decode cL_move 42 = .ok (.iconst 0, 1) := by decide +kernel
theorem dL_move_43 : decode cL_move 43 = .ok (.goto 29, 3) := by decide +kernel
theorem dL_move_46 : decode cL_move 46 = .ok (.iload_n 2, 1) := by decide +kernel
theorem dL_move_47 : decode cL_move 47 = .ok (.iconst 3, 1) := by decide +kernel
theorem dL_move_48 : decode cL_move 48 = .ok (.if_icmp .ne 19, 3) := by decide +kernel
theorem dL_move_51 : decode cL_move 51 = .ok (.aload_n 0, 1) := by decide +kernel
theorem dL_move_52 : decode cL_move 52 = .ok (.iload_n 1, 1) := by decide +kernel
theorem dL_move_53 : decode cL_move 53 = .ok (.invokevirtual 81, 3) := by decide +kernel
theorem dL_move_56 : decode cL_move 56 = .ok (.ifCond .eq 7, 3) := by decide +kernel
theorem dL_move_59 : decode cL_move 59 = .ok (.iconst 1, 1) := by decide +kernel
theorem dL_move_60 : decode cL_move 60 = .ok (.goto 12, 3) := by decide +kernel
theorem dL_move_63 : decode cL_move 63 = .ok (.iconst 0, 1) := by decide +kernel
theorem dL_move_64 : decode cL_move 64 = .ok (.goto 8, 3) := by decide +kernel
theorem dL_move_67 : decode cL_move 67 = .ok (.aload_n 0, 1) := by decide +kernel
theorem dL_move_68 : decode cL_move 68 = .ok (.iload_n 1, 1) := by decide +kernel
theorem dL_move_69 : decode cL_move 69 = .ok (.invokevirtual 84, 3) := by decide +kernel
theorem dL_move_72 : decode cL_move 72 = .ok (.ireturn, 1) := by decide +kernel
theorem dL_move_73 : decode cL_move 73 = .ok (.astore_n 3, 1) := by decide +kernel
theorem dL_move_74 : decode cL_move 74 = .ok (.sipush (-2000), 3) := by decide +kernel
theorem dL_move_77 : decode cL_move 77 = .ok (.ireturn, 1) := by decide +kernel
theorem dL_burns_0 : decode cL_burns 0 = .ok (.aload_n 0, 1) := by decide +kernel
theorem dL_burns_1 : decode cL_burns 1 = .ok (.iload_n 1, 1) := by decide +kernel
theorem dL_burns_2 : decode cL_burns 2 = .ok (.iload_n 2, 1) := by decide +kernel
theorem dL_burns_3 : decode cL_burns 3 = .ok (.invokevirtual 87, 3) := by decide +kernel
theorem dL_burns_6 : decode cL_burns 6 = .ok (.ireturn, 1) := by decide +kernel
theorem dL_burns_7 : decode cL_burns 7 = .ok (.astore_n 3, 1) := by decide +kernel
theorem dL_burns_8 : decode cL_burns 8 = .ok (.bipush (-20), 2) := by decide +kernel
theorem dL_burns_10 : decode cL_burns 10 = .ok (.ireturn, 1) := by decide +kernel
theorem dL_burns_11 : decode cL_burns 11 = .ok (.astore_n 3, 1) := by decide +kernel
theorem dL_burns_12 : decode cL_burns 12 = .ok (.bipush (-40), 2) := by decide +kernel
theorem dL_burns_14 : decode cL_burns 14 = .ok (.ireturn, 1) := by decide +kernel
theorem dL_passes_0 : decode cL_passes 0 = .ok (.aload_n 0, 1) := by decide +kernel
theorem dL_passes_1 : decode cL_passes 1 = .ok (.invokevirtual 91, 3) := by decide +kernel
theorem dL_passes_4 : decode cL_passes 4 = .ok (.ifCond .eq 7, 3) := by decide +kernel
theorem dL_passes_7 : decode cL_passes 7 = .ok (.iconst 1, 1) := by decide +kernel
theorem dL_passes_8 : decode cL_passes 8 = .ok (.goto 4, 3) := by decide +kernel
theorem dL_passes_11 : decode cL_passes 11 = .ok (.iconst 0, 1) := by decide +kernel
theorem dL_passes_12 : decode cL_passes 12 = .ok (.ireturn, 1) := by decide +kernel
theorem dL_passes_13 : decode cL_passes 13 = .ok (.astore_n 1, 1) := by decide +kernel
theorem dL_passes_14 : decode cL_passes 14 = .ok (.bipush (-40), 2) := by decide +kernel
theorem dL_passes_16 : decode cL_passes 16 = .ok (.ireturn, 1) := by decide +kernel
theorem dL_makes_0 : decode cL_makes 0 = .ok (.aload_n 0, 1) := by decide +kernel
theorem dL_makes_1 : decode cL_makes 1 = .ok (.iload_n 1, 1) := by decide +kernel
theorem dL_makes_2 : decode cL_makes 2 = .ok (.iconst 2, 1) := by decide +kernel
theorem dL_makes_3 : decode cL_makes 3 = .ok (.invokestatic 101, 3) := by decide +kernel
theorem dL_makes_6 : decode cL_makes 6 = .ok (.iconst 1, 1) := by decide +kernel
theorem dL_makes_7 : decode cL_makes 7 = .ok (.if_icmp .ne 17, 3) := by decide +kernel
theorem dL_makes_10 : decode cL_makes 10 = .ok (.aload_n 0, 1) := by decide +kernel
theorem dL_makes_11 : decode cL_makes 11 = .ok (.invokestatic 105, 3) := by decide +kernel
theorem dL_makes_14 : decode cL_makes 14 = .ok (.ifCond .ge 8, 3) := by decide +kernel
theorem dL_makes_17 : decode cL_makes 17 = .ok (.bipush (-40), 2) := by decide +kernel
theorem dL_makes_19 : decode cL_makes 19 = .ok (.goto 4, 3) := by decide +kernel
theorem dL_makes_22 : decode cL_makes 22 = .ok (.iconst 0, 1) := by decide +kernel
theorem dL_makes_23 : decode cL_makes 23 = .ok (.ireturn, 1) := by decide +kernel
theorem dL_makes_24 : decode cL_makes 24 = .ok (.aload_n 0, 1) := by decide +kernel
theorem dL_makes_25 : decode cL_makes 25 = .ok (.aload_n 0, 1) := by decide +kernel
theorem dL_makes_26 : decode cL_makes 26 = .ok (.iload_n 1, 1) := by decide +kernel
theorem dL_makes_27 : decode cL_makes 27 = .ok (.iconst 0, 1) := by decide +kernel
theorem dL_makes_28 : decode cL_makes 28 = .ok (.invokestatic 101, 3) := by decide +kernel
theorem dL_makes_31 : decode cL_makes 31 = .ok (.aload_n 0, 1) := by decide +kernel
theorem dL_makes_32 : decode cL_makes 32 = .ok (.iload_n 1, 1) := by decide +kernel
theorem dL_makes_33 : decode cL_makes 33 = .ok (.iconst 3, 1) := by decide +kernel
theorem dL_makes_34 : decode cL_makes 34 = .ok (.invokestatic 101, 3) := by decide +kernel
theorem dL_makes_37 : decode cL_makes 37 = .ok (.iconst 1, 1) := by decide +kernel
theorem dL_makes_38 : decode cL_makes 38 = .ok (.if_icmp .ne 7, 3) := by decide +kernel
theorem dL_makes_41 : decode cL_makes 41 = .ok (.iconst 1, 1) := by decide +kernel
theorem dL_makes_42 : decode cL_makes 42 = .ok (.goto 4, 3) := by decide +kernel
theorem dL_makes_45 : decode cL_makes 45 = .ok (.iconst 0, 1) := by decide +kernel
theorem dL_makes_46 : decode cL_makes 46 = .ok (.invokestatic 109, 3) := by decide +kernel
theorem dL_makes_49 : decode cL_makes 49 = .ok (.ireturn, 1) := by decide +kernel
theorem dL_match_0 : decode cL_match 0 = .ok (.new 113, 3) := by decide +kernel
theorem dL_match_3 : decode cL_match 3 = .ok (.dup, 1) := by decide +kernel
theorem dL_match_4 : decode cL_match 4 = .ok (.invokespecial 115, 3) := by decide +kernel
theorem dL_match_7 : decode cL_match 7 = .ok (.astore_n 2, 1) := by decide +kernel
theorem dL_match_8 : decode cL_match 8 = .ok (.aload_n 0, 1) := by decide +kernel
theorem dL_match_9 : decode cL_match 9 = .ok (.iconst 0, 1) := by decide +kernel
theorem dL_match_10 : decode cL_match 10 = .ok (.invokestatic 116, 3) := by decide +kernel
theorem dL_match_13 : decode cL_match 13 = .ok (.istore_n 3, 1) := by decide +kernel
theorem dL_match_14 : decode cL_match 14 = .ok (.iconst 0, 1) := by decide +kernel
theorem dL_match_15 : decode cL_match 15 = .ok (.istore 4, 2) := by decide +kernel
theorem dL_match_17 : decode cL_match 17 = .ok (.iload 4, 2) := by decide +kernel
theorem dL_match_19 : decode cL_match 19 = .ok (.iconst 1, 1) := by decide +kernel
theorem dL_match_20 : decode cL_match 20 = .ok (.iload_n 3, 1) := by decide +kernel
theorem dL_match_21 : decode cL_match 21 = .ok (.iconst 3, 1) := by decide +kernel
theorem dL_match_22 : decode cL_match 22 = .ok (.invokestatic 120, 3) := by decide +kernel
theorem dL_match_25 : decode cL_match 25 = .ok (.iadd, 1) := by decide +kernel
theorem dL_match_26 : decode cL_match 26 = .ok (.if_icmp .ge 257, 3) := by decide +kernel
theorem dL_match_29 : decode cL_match 29 = .ok (.aload_n 2, 1) := by decide +kernel
theorem dL_match_30 : decode cL_match 30 = .ok (.ldc 123, 2) := by decide +kernel
theorem dL_match_32 : decode cL_match 32 = .ok (.invokevirtual 125, 3) := by decide +kernel
theorem dL_match_35 : decode cL_match 35 = .ok (.pop, 1) := by decide +kernel
theorem dL_match_36 : decode cL_match 36 = .ok (.bipush 49, 2) := by decide +kernel
theorem dL_match_38 : decode cL_match 38 = .ok (.newarray .boolean, 2) := by decide +kernel
theorem dL_match_40 : decode cL_match 40 = .ok (.astore 5, 2) := by decide +kernel
theorem dL_match_42 : decode cL_match 42 = .ok (.iconst 0, 1) := by decide +kernel
theorem dL_match_43 : decode cL_match 43 = .ok (.istore 6, 2) := by decide +kernel
theorem dL_match_45 : decode cL_match 45 = .ok (.iconst 0, 1) := by decide +kernel
theorem dL_match_46 : decode cL_match 46 = .ok (.istore 7, 2) := by decide +kernel
theorem dL_match_48 : decode cL_match 48 = .ok (.iload 7, 2) := by decide +kernel
theorem dL_match_50 : decode cL_match 50 = .ok (.iconst 1, 1) := by decide +kernel
theorem dL_match_51 : decode cL_match 51 = .ok (.iload_n 3, 1) := by decide +kernel
theorem dL_match_52 : decode cL_match 52 = .ok (.iconst 2, 1) := by decide +kernel
theorem dL_match_53 : decode cL_match 53 = .ok (.iconst 2, 1) := by decide +kernel
theorem dL_match_54 : decode cL_match 54 = .ok (.iload 4, 2) := by decide +kernel
theorem dL_match_56 : decode cL_match 56 = .ok (.imul, 1) := by decide +kernel
theorem dL_match_57 : decode cL_match 57 = .ok (.iadd, 1) := by decide +kernel
theorem dL_match_58 : decode cL_match 58 = .ok (.ishr, 1) := by decide +kernel
theorem dL_match_59 : decode cL_match 59 = .ok (.iconst 2, 1) := by decide +kernel
theorem dL_match_60 : decode cL_match 60 = .ok (.invokestatic 120, 3) := by decide +kernel
theorem dL_match_63 : decode cL_match 63 = .ok (.iadd, 1) := by decide +kernel
theorem dL_match_64 : decode cL_match 64 = .ok (.if_icmp .ge 206, 3) := by decide +kernel
theorem dL_match_67 : decode cL_match 67 = .ok (.aload_n 0, 1) := by decide +kernel
theorem dL_match_68 : decode cL_match 68 = .ok (.iconst 1, 1) := by decide +kernel
theorem dL_match_69 : decode cL_match 69 = .ok (.iconst 2, 1) := by decide +kernel
theorem dL_match_70 : decode cL_match 70 = .ok (.iload 4, 2) := by decide +kernel
theorem dL_match_72 : decode cL_match 72 = .ok (.imul, 1) := by decide +kernel
theorem dL_match_73 : decode cL_match 73 = .ok (.iadd, 1) := by decide +kernel
theorem dL_match_74 : decode cL_match 74 = .ok (.iload 7, 2) := by decide +kernel
theorem dL_match_76 : decode cL_match 76 = .ok (.iadd, 1) := by decide +kernel
theorem dL_match_77 : decode cL_match 77 = .ok (.invokestatic 116, 3) := by decide +kernel
theorem dL_match_80 : decode cL_match 80 = .ok (.istore 8, 2) := by decide +kernel
theorem dL_match_82 : decode cL_match 82 = .ok (.iload 8, 2) := by decide +kernel
theorem dL_match_84 : decode cL_match 84 = .ok (.bipush 7, 2) := by decide +kernel
theorem dL_match_86 : decode cL_match 86 = .ok (.invokestatic 120, 3) := by decide +kernel
theorem dL_match_89 : decode cL_match 89 = .ok (.istore 9, 2) := by decide +kernel
theorem dL_match_91 : decode cL_match 91 = .ok (.iconst 0, 1) := by decide +kernel
theorem dL_match_92 : decode cL_match 92 = .ok (.istore 10, 2) := by decide +kernel
theorem dL_match_94 : decode cL_match 94 = .ok (.iconst 0, 1) := by decide +kernel
theorem dL_match_95 : decode cL_match 95 = .ok (.istore 11, 2) := by decide +kernel
theorem dL_match_97 : decode cL_match 97 = .ok (.iload 11, 2) := by decide +kernel
theorem dL_match_99 : decode cL_match 99 = .ok (.iconst 1, 1) := by decide +kernel
theorem dL_match_100 : decode cL_match 100 = .ok (.iload 8, 2) := by decide +kernel
theorem dL_match_102 : decode cL_match 102 = .ok (.iconst 3, 1) := by decide +kernel
theorem dL_match_103 : decode cL_match 103 = .ok (.ishr, 1) := by decide +kernel
theorem dL_match_104 : decode cL_match 104 = .ok (.iload_n 1, 1) := by decide +kernel
theorem dL_match_105 : decode cL_match 105 = .ok (.invokestatic 120, 3) := by decide +kernel
theorem dL_match_108 : decode cL_match 108 = .ok (.iadd, 1) := by decide +kernel
theorem dL_match_109 : decode cL_match 109 = .ok (.if_icmp .ge 147, 3) := by decide +kernel
theorem dL_match_112 : decode cL_match 112 = .ok (.iload 8, 2) := by decide +kernel
theorem dL_match_114 : decode cL_match 114 = .ok (.bipush 6, 2) := by decide +kernel
theorem dL_match_116 : decode cL_match 116 = .ok (.iconst 3, 1) := by decide +kernel
theorem dL_match_117 : decode cL_match 117 = .ok (.iload 11, 2) := by decide +kernel
theorem dL_match_119 : decode cL_match 119 = .ok (.imul, 1) := by decide +kernel
theorem dL_match_120 : decode cL_match 120 = .ok (.iadd, 1) := by decide +kernel
theorem dL_match_121 : decode cL_match 121 = .ok (.ishr, 1) := by decide +kernel
theorem dL_match_122 : decode cL_match 122 = .ok (.bipush 7, 2) := by decide +kernel
theorem dL_match_124 : decode cL_match 124 = .ok (.invokestatic 120, 3) := by decide +kernel
theorem dL_match_127 : decode cL_match 127 = .ok (.istore 12, 2) := by decide +kernel
theorem dL_match_129 : decode cL_match 129 = .ok (.iconst 0, 1) := by decide +kernel
theorem dL_match_130 : decode cL_match 130 = .ok (.istore 13, 2) := by decide +kernel
theorem dL_match_132 : decode cL_match 132 = .ok (.iload 13, 2) := by decide +kernel
theorem dL_match_134 : decode cL_match 134 = .ok (.bipush 7, 2) := by decide +kernel
theorem dL_match_136 : decode cL_match 136 = .ok (.if_icmp .ge 32, 3) := by decide +kernel
theorem dL_match_139 : decode cL_match 139 = .ok (.aload 5, 2) := by decide +kernel
theorem dL_match_141 : decode cL_match 141 = .ok (.bipush 7, 2) := by decide +kernel
theorem dL_match_143 : decode cL_match 143 = .ok (.iload 9, 2) := by decide +kernel
theorem dL_match_145 : decode cL_match 145 = .ok (.imul, 1) := by decide +kernel
theorem dL_match_146 : decode cL_match 146 = .ok (.iload 12, 2) := by decide +kernel
theorem dL_match_148 : decode cL_match 148 = .ok (.iadd, 1) := by decide +kernel
theorem dL_match_149 : decode cL_match 149 = .ok (.baload, 1) := by decide +kernel
theorem dL_match_150 : decode cL_match 150 = .ok (.ifCond .eq 18, 3) := by decide +kernel
theorem dL_match_153 : decode cL_match 153 = .ok (.iload 12, 2) := by decide +kernel
theorem dL_match_155 : decode cL_match 155 = .ok (.iconst 1, 1) := by decide +kernel
theorem dL_match_156 : decode cL_match 156 = .ok (.iadd, 1) := by decide +kernel
theorem dL_match_157 : decode cL_match 157 = .ok (.bipush 7, 2) := by decide +kernel
theorem dL_match_159 : decode cL_match 159 = .ok (.irem, 1) := by decide +kernel
theorem dL_match_160 : decode cL_match 160 = .ok (.istore 12, 2) := by decide +kernel
theorem dL_match_162 : decode cL_match 162 = .ok (.iinc 13 1, 3) := by decide +kernel
theorem dL_match_165 : decode cL_match 165 = .ok (.goto (-33), 3) := by decide +kernel
theorem dL_match_168 : decode cL_match 168 = .ok (.aload 5, 2) := by decide +kernel
theorem dL_match_170 : decode cL_match 170 = .ok (.bipush 7, 2) := by decide +kernel
theorem dL_match_172 : decode cL_match 172 = .ok (.iload 9, 2) := by decide +kernel
theorem dL_match_174 : decode cL_match 174 = .ok (.imul, 1) := by decide +kernel
theorem dL_match_175 : decode cL_match 175 = .ok (.iload 12, 2) := by decide +kernel
theorem dL_match_177 : decode cL_match 177 = .ok (.iadd, 1) := by decide +kernel
theorem dL_match_178 : decode cL_match 178 = .ok (.baload, 1) := by decide +kernel
theorem dL_match_179 : decode cL_match 179 = .ok (.ifCond .eq 6, 3) := by decide +kernel
theorem dL_match_182 : decode cL_match 182 = .ok (.goto 74, 3) := by decide +kernel
theorem dL_match_185 : decode cL_match 185 = .ok (.aload 5, 2) := by decide +kernel
theorem dL_match_187 : decode cL_match 187 = .ok (.bipush 7, 2) := by decide +kernel
theorem dL_match_189 : decode cL_match 189 = .ok (.iload 9, 2) := by decide +kernel
theorem dL_match_191 : decode cL_match 191 = .ok (.imul, 1) := by decide +kernel
theorem dL_match_192 : decode cL_match 192 = .ok (.iload 12, 2) := by decide +kernel
theorem dL_match_194 : decode cL_match 194 = .ok (.iadd, 1) := by decide +kernel
theorem dL_match_195 : decode cL_match 195 = .ok (.iconst 1, 1) := by decide +kernel
theorem dL_match_196 : decode cL_match 196 = .ok (.bastore, 1) := by decide +kernel
theorem dL_match_197 : decode cL_match 197 = .ok (.aload 5, 2) := by decide +kernel
theorem dL_match_199 : decode cL_match 199 = .ok (.bipush 7, 2) := by decide +kernel
theorem dL_match_201 : decode cL_match 201 = .ok (.iload 12, 2) := by decide +kernel
theorem dL_match_203 : decode cL_match 203 = .ok (.imul, 1) := by decide +kernel
theorem dL_match_204 : decode cL_match 204 = .ok (.iload 9, 2) := by decide +kernel
theorem dL_match_206 : decode cL_match 206 = .ok (.iadd, 1) := by decide +kernel
theorem dL_match_207 : decode cL_match 207 = .ok (.iconst 1, 1) := by decide +kernel
theorem dL_match_208 : decode cL_match 208 = .ok (.bastore, 1) := by decide +kernel
theorem dL_match_209 : decode cL_match 209 = .ok (.iload 10, 2) := by decide +kernel
theorem dL_match_211 : decode cL_match 211 = .ok (.ifCond .ne 15, 3) := by decide +kernel
theorem dL_match_214 : decode cL_match 214 = .ok (.iload 6, 2) := by decide +kernel
theorem dL_match_216 : decode cL_match 216 = .ok (.ifCond .le 10, 3) := by decide +kernel
theorem dL_match_219 : decode cL_match 219 = .ok (.aload_n 2, 1) := by decide +kernel
theorem dL_match_220 : decode cL_match 220 = .ok (.bipush 44, 2) := by decide +kernel
theorem dL_match_222 : decode cL_match 222 = .ok (.invokevirtual 128, 3) := by decide +kernel
theorem dL_match_225 : decode cL_match 225 = .ok (.pop, 1) := by decide +kernel
theorem dL_match_226 : decode cL_match 226 = .ok (.aload_n 2, 1) := by decide +kernel
theorem dL_match_227 : decode cL_match 227 = .ok (.bipush 32, 2) := by decide +kernel
theorem dL_match_229 : decode cL_match 229 = .ok (.invokevirtual 128, 3) := by decide +kernel
theorem dL_match_232 : decode cL_match 232 = .ok (.iload 9, 2) := by decide +kernel
theorem dL_match_234 : decode cL_match 234 = .ok (.invokevirtual 131, 3) := by decide +kernel
theorem dL_match_237 : decode cL_match 237 = .ok (.iload 12, 2) := by decide +kernel
theorem dL_match_239 : decode cL_match 239 = .ok (.invokevirtual 131, 3) := by decide +kernel
theorem dL_match_242 : decode cL_match 242 = .ok (.pop, 1) := by decide +kernel
theorem dL_match_243 : decode cL_match 243 = .ok (.iload 12, 2) := by decide +kernel
theorem dL_match_245 : decode cL_match 245 = .ok (.istore 9, 2) := by decide +kernel
theorem dL_match_247 : decode cL_match 247 = .ok (.iinc 10 1, 3) := by decide +kernel
theorem dL_match_250 : decode cL_match 250 = .ok (.iinc 11 1, 3) := by decide +kernel
theorem dL_match_253 : decode cL_match 253 = .ok (.goto (-156), 3) := by decide +kernel
theorem dL_match_256 : decode cL_match 256 = .ok (.iload 10, 2) := by decide +kernel
theorem dL_match_258 : decode cL_match 258 = .ok (.ifCond .le 6, 3) := by decide +kernel
theorem dL_match_261 : decode cL_match 261 = .ok (.iinc 6 1, 3) := by decide +kernel
theorem dL_match_264 : decode cL_match 264 = .ok (.iinc 7 1, 3) := by decide +kernel
theorem dL_match_267 : decode cL_match 267 = .ok (.goto (-219), 3) := by decide +kernel
theorem dL_match_270 : decode cL_match 270 = .ok (.aload_n 2, 1) := by decide +kernel
theorem dL_match_271 : decode cL_match 271 = .ok (.bipush 59, 2) := by decide +kernel
theorem dL_match_273 : decode cL_match 273 = .ok (.invokevirtual 128, 3) := by decide +kernel
theorem dL_match_276 : decode cL_match 276 = .ok (.pop, 1) := by decide +kernel
theorem dL_match_277 : decode cL_match 277 = .ok (.iinc 4 1, 3) := by decide +kernel
theorem dL_match_280 : decode cL_match 280 = .ok (.goto (-263), 3) := by decide +kernel
theorem dL_match_283 : decode cL_match 283 = .ok (.aload_n 2, 1) := by decide +kernel
theorem dL_match_284 : decode cL_match 284 = .ok (.invokevirtual 134, 3) := by decide +kernel
theorem dL_match_287 : decode cL_match 287 = .ok (.areturn, 1) := by decide +kernel
theorem dL_optimal_0 : decode cL_optimal 0 = .ok (.aload_n 0, 1) := by decide +kernel
theorem dL_optimal_1 : decode cL_optimal 1 = .ok (.invokevirtual 172, 3) := by decide +kernel
theorem dL_optimal_4 : decode cL_optimal 4 = .ok (.ireturn, 1) := by decide +kernel
theorem dL_optimal_5 : decode cL_optimal 5 = .ok (.astore_n 1, 1) := by decide +kernel
theorem dL_optimal_6 : decode cL_optimal 6 = .ok (.bipush (-50), 2) := by decide +kernel
theorem dL_optimal_8 : decode cL_optimal 8 = .ok (.ireturn, 1) := by decide +kernel
theorem dL_worst_0 : decode cL_worst 0 = .ok (.aload_n 0, 1) := by decide +kernel
theorem dL_worst_1 : decode cL_worst 1 = .ok (.invokevirtual 177, 3) := by decide +kernel
theorem dL_worst_4 : decode cL_worst 4 = .ok (.ireturn, 1) := by decide +kernel
theorem dL_worst_5 : decode cL_worst 5 = .ok (.astore_n 1, 1) := by decide +kernel
theorem dL_worst_6 : decode cL_worst 6 = .ok (.bipush (-50), 2) := by decide +kernel
theorem dL_worst_8 : decode cL_worst 8 = .ok (.ireturn, 1) := by decide +kernel
theorem dL_greedy_0 : decode cL_greedy 0 = .ok (.aload_n 0, 1) := by decide +kernel
theorem dL_greedy_1 : decode cL_greedy 1 = .ok (.invokevirtual 180, 3) := by decide +kernel
theorem dL_greedy_4 : decode cL_greedy 4 = .ok (.ireturn, 1) := by decide +kernel
theorem dL_greedy_5 : decode cL_greedy 5 = .ok (.astore_n 1, 1) := by decide +kernel
theorem dL_greedy_6 : decode cL_greedy 6 = .ok (.bipush (-50), 2) := by decide +kernel
theorem dL_greedy_8 : decode cL_greedy 8 = .ok (.ireturn, 1) := by decide +kernel
theorem dL_line_0 : decode cL_line 0 = .ok (.aload_n 0, 1) := by decide +kernel
theorem dL_line_1 : decode cL_line 1 = .ok (.iload_n 1, 1) := by decide +kernel
theorem dL_line_2 : decode cL_line 2 = .ok (.invokevirtual 183, 3) := by decide +kernel
theorem dL_line_5 : decode cL_line 5 = .ok (.ireturn, 1) := by decide +kernel
theorem dL_line_6 : decode cL_line 6 = .ok (.astore_n 2, 1) := by decide +kernel
theorem dL_line_7 : decode cL_line 7 = .ok (.bipush (-20), 2) := by decide +kernel
theorem dL_line_9 : decode cL_line 9 = .ok (.ireturn, 1) := by decide +kernel
theorem dL_single_0 : decode cL_single 0 = .ok (.aload_n 0, 1) := by decide +kernel
theorem dL_single_1 : decode cL_single 1 = .ok (.iload_n 1, 1) := by decide +kernel
theorem dL_single_2 : decode cL_single 2 = .ok (.invokevirtual 186, 3) := by decide +kernel
theorem dL_single_5 : decode cL_single 5 = .ok (.ireturn, 1) := by decide +kernel
theorem dL_single_6 : decode cL_single 6 = .ok (.astore_n 2, 1) := by decide +kernel
theorem dL_single_7 : decode cL_single 7 = .ok (.sipush (-2000), 3) := by decide +kernel
theorem dL_single_10 : decode cL_single 10 = .ok (.ireturn, 1) := by decide +kernel
theorem dL_best_0 : decode cL_best 0 = .ok (.iconst 0, 1) := by decide +kernel
theorem dL_best_1 : decode cL_best 1 = .ok (.istore_n 3, 1) := by decide +kernel
theorem dL_best_2 : decode cL_best 2 = .ok (.ldc 189, 2) := by decide +kernel
theorem dL_best_4 : decode cL_best 4 = .ok (.istore 4, 2) := by decide +kernel
theorem dL_best_6 : decode cL_best 6 = .ok (.iconst 0, 1) := by decide +kernel
theorem dL_best_7 : decode cL_best 7 = .ok (.istore 5, 2) := by decide +kernel
theorem dL_best_9 : decode cL_best 9 = .ok (.iload 5, 2) := by decide +kernel
theorem dL_best_11 : decode cL_best 11 = .ok (.aload_n 0, 1) := by decide +kernel
theorem dL_best_12 : decode cL_best 12 = .ok (.arraylength, 1) := by decide +kernel
theorem dL_best_13 : decode cL_best 13 = .ok (.if_icmp .ge 121, 3) := by decide +kernel
theorem dL_best_16 : decode cL_best 16 = .ok (.aload_n 1, 1) := by decide +kernel
theorem dL_best_17 : decode cL_best 17 = .ok (.iconst 2, 1) := by decide +kernel
theorem dL_best_18 : decode cL_best 18 = .ok (.iload 5, 2) := by decide +kernel
theorem dL_best_20 : decode cL_best 20 = .ok (.imul, 1) := by decide +kernel
theorem dL_best_21 : decode cL_best 21 = .ok (.iaload, 1) := by decide +kernel
theorem dL_best_22 : decode cL_best 22 = .ok (.istore 6, 2) := by decide +kernel
theorem dL_best_24 : decode cL_best 24 = .ok (.aload_n 1, 1) := by decide +kernel
theorem dL_best_25 : decode cL_best 25 = .ok (.iconst 2, 1) := by decide +kernel
theorem dL_best_26 : decode cL_best 26 = .ok (.iload 5, 2) := by decide +kernel
theorem dL_best_28 : decode cL_best 28 = .ok (.imul, 1) := by decide +kernel
theorem dL_best_29 : decode cL_best 29 = .ok (.iconst 1, 1) := by decide +kernel
theorem dL_best_30 : decode cL_best 30 = .ok (.iadd, 1) := by decide +kernel
theorem dL_best_31 : decode cL_best 31 = .ok (.iaload, 1) := by decide +kernel
theorem dL_best_32 : decode cL_best 32 = .ok (.istore 7, 2) := by decide +kernel
theorem dL_best_34 : decode cL_best 34 = .ok (.iload 6, 2) := by decide +kernel
theorem dL_best_36 : decode cL_best 36 = .ok (.iload 7, 2) := by decide +kernel
theorem dL_best_38 : decode cL_best 38 = .ok (.if_icmp .lt 6, 3) := by decide +kernel
theorem dL_best_41 : decode cL_best 41 = .ok (.goto 87, 3) := by decide +kernel
theorem dL_best_44 : decode cL_best 44 = .ok (.iconst 1, 1) := by decide +kernel
theorem dL_best_45 : decode cL_best 45 = .ok (.istore_n 3, 1) := by decide +kernel
theorem dL_best_46 : decode cL_best 46 = .ok (.aload_n 1, 1) := by decide +kernel
theorem dL_best_47 : decode cL_best 47 = .ok (.iconst 2, 1) := by decide +kernel
theorem dL_best_48 : decode cL_best 48 = .ok (.iload 5, 2) := by decide +kernel
theorem dL_best_50 : decode cL_best 50 = .ok (.imul, 1) := by decide +kernel
theorem dL_best_51 : decode cL_best 51 = .ok (.iload 6, 2) := by decide +kernel
theorem dL_best_53 : decode cL_best 53 = .ok (.iconst 1, 1) := by decide +kernel
theorem dL_best_54 : decode cL_best 54 = .ok (.iadd, 1) := by decide +kernel
theorem dL_best_55 : decode cL_best 55 = .ok (.iastore, 1) := by decide +kernel
theorem dL_best_56 : decode cL_best 56 = .ok (.iload 4, 2) := by decide +kernel
theorem dL_best_58 : decode cL_best 58 = .ok (.aload_n 0, 1) := by decide +kernel
theorem dL_best_59 : decode cL_best 59 = .ok (.iload 5, 2) := by decide +kernel
theorem dL_best_61 : decode cL_best 61 = .ok (.aaload, 1) := by decide +kernel
theorem dL_best_62 : decode cL_best 62 = .ok (.iload 6, 2) := by decide +kernel
theorem dL_best_64 : decode cL_best 64 = .ok (.iaload, 1) := by decide +kernel
theorem dL_best_65 : decode cL_best 65 = .ok (.aload_n 0, 1) := by decide +kernel
theorem dL_best_66 : decode cL_best 66 = .ok (.aload_n 1, 1) := by decide +kernel
theorem dL_best_67 : decode cL_best 67 = .ok (.iconst 0, 1) := by decide +kernel
theorem dL_best_68 : decode cL_best 68 = .ok (.invokestatic 190, 3) := by decide +kernel
theorem dL_best_71 : decode cL_best 71 = .ok (.isub, 1) := by decide +kernel
theorem dL_best_72 : decode cL_best 72 = .ok (.invokestatic 194, 3) := by decide +kernel
theorem dL_best_75 : decode cL_best 75 = .ok (.istore 4, 2) := by decide +kernel
theorem dL_best_77 : decode cL_best 77 = .ok (.aload_n 1, 1) := by decide +kernel
theorem dL_best_78 : decode cL_best 78 = .ok (.iconst 2, 1) := by decide +kernel
theorem dL_best_79 : decode cL_best 79 = .ok (.iload 5, 2) := by decide +kernel
theorem dL_best_81 : decode cL_best 81 = .ok (.imul, 1) := by decide +kernel
theorem dL_best_82 : decode cL_best 82 = .ok (.iload 6, 2) := by decide +kernel
theorem dL_best_84 : decode cL_best 84 = .ok (.iastore, 1) := by decide +kernel
theorem dL_best_85 : decode cL_best 85 = .ok (.aload_n 1, 1) := by decide +kernel
theorem dL_best_86 : decode cL_best 86 = .ok (.iconst 2, 1) := by decide +kernel
theorem dL_best_87 : decode cL_best 87 = .ok (.iload 5, 2) := by decide +kernel
theorem dL_best_89 : decode cL_best 89 = .ok (.imul, 1) := by decide +kernel
theorem dL_best_90 : decode cL_best 90 = .ok (.iconst 1, 1) := by decide +kernel
theorem dL_best_91 : decode cL_best 91 = .ok (.iadd, 1) := by decide +kernel
theorem dL_best_92 : decode cL_best 92 = .ok (.iload 7, 2) := by decide +kernel
theorem dL_best_94 : decode cL_best 94 = .ok (.iconst 1, 1) := by decide +kernel
theorem dL_best_95 : decode cL_best 95 = .ok (.isub, 1) := by decide +kernel
theorem dL_best_96 : decode cL_best 96 = .ok (.iastore, 1) := by decide +kernel
theorem dL_best_97 : decode cL_best 97 = .ok (.iload 4, 2) := by decide +kernel
theorem dL_best_99 : decode cL_best 99 = .ok (.aload_n 0, 1) := by decide +kernel
theorem dL_best_100 : decode cL_best 100 = .ok (.iload 5, 2) := by decide +kernel
theorem dL_best_102 : decode cL_best 102 = .ok (.aaload, 1) := by decide +kernel
theorem dL_best_103 : decode cL_best 103 = .ok (.iload 7, 2) := by decide +kernel
theorem dL_best_105 : decode cL_best 105 = .ok (.iaload, 1) := by decide +kernel
theorem dL_best_106 : decode cL_best 106 = .ok (.aload_n 0, 1) := by decide +kernel
theorem dL_best_107 : decode cL_best 107 = .ok (.aload_n 1, 1) := by decide +kernel
theorem dL_best_108 : decode cL_best 108 = .ok (.iconst 0, 1) := by decide +kernel
theorem dL_best_109 : decode cL_best 109 = .ok (.invokestatic 190, 3) := by decide +kernel
theorem dL_best_112 : decode cL_best 112 = .ok (.isub, 1) := by decide +kernel
theorem dL_best_113 : decode cL_best 113 = .ok (.invokestatic 194, 3) := by decide +kernel
theorem dL_best_116 : decode cL_best 116 = .ok (.istore 4, 2) := by decide +kernel
theorem dL_best_118 : decode cL_best 118 = .ok (.aload_n 1, 1) := by decide +kernel
theorem dL_best_119 : decode cL_best 119 = .ok (.iconst 2, 1) := by decide +kernel
theorem dL_best_120 : decode cL_best 120 = .ok (.iload 5, 2) := by decide +kernel
theorem dL_best_122 : decode cL_best 122 = .ok (.imul, 1) := by decide +kernel
theorem dL_best_123 : decode cL_best 123 = .ok (.iconst 1, 1) := by decide +kernel
theorem dL_best_124 : decode cL_best 124 = .ok (.iadd, 1) := by decide +kernel
theorem dL_best_125 : decode cL_best 125 = .ok (.iload 7, 2) := by decide +kernel
theorem dL_best_127 : decode cL_best 127 = .ok (.iastore, 1) := by decide +kernel
theorem dL_best_128 : decode cL_best 128 = .ok (.iinc 5 1, 3) := by decide +kernel
theorem dL_best_131 : decode cL_best 131 = .ok (.goto (-122), 3) := by decide +kernel
theorem dL_best_134 : decode cL_best 134 = .ok (.iload_n 3, 1) := by decide +kernel
theorem dL_best_135 : decode cL_best 135 = .ok (.ifCond .ne 5, 3) := by decide +kernel
theorem dL_best_138 : decode cL_best 138 = .ok (.iconst 0, 1) := by decide +kernel
theorem dL_best_139 : decode cL_best 139 = .ok (.ireturn, 1) := by decide +kernel
theorem dL_best_140 : decode cL_best 140 = .ok (.iload 4, 2) := by decide +kernel
theorem dL_best_142 : decode cL_best 142 = .ok (.iconst 0, 1) := by decide +kernel
theorem dL_best_143 : decode cL_best 143 = .ok (.invokestatic 194, 3) := by decide +kernel
theorem dL_best_146 : decode cL_best 146 = .ok (.istore 5, 2) := by decide +kernel
theorem dL_best_148 : decode cL_best 148 = .ok (.iload_n 2, 1) := by decide +kernel
theorem dL_best_149 : decode cL_best 149 = .ok (.ifCond .eq 8, 3) := by decide +kernel
theorem dL_best_152 : decode cL_best 152 = .ok (.iload 5, 2) := by decide +kernel
theorem dL_best_154 : decode cL_best 154 = .ok (.goto 11, 3) := by decide +kernel
theorem dL_best_157 : decode cL_best 157 = .ok (.iload 4, 2) := by decide +kernel
theorem dL_best_159 : decode cL_best 159 = .ok (.iload 5, 2) := by decide +kernel
theorem dL_best_161 : decode cL_best 161 = .ok (.ineg, 1) := by decide +kernel
theorem dL_best_162 : decode cL_best 162 = .ok (.invokestatic 194, 3) := by decide +kernel
theorem dL_best_165 : decode cL_best 165 = .ok (.ireturn, 1) := by decide +kernel
theorem dL_against_0 : decode cL_against 0 = .ok (.iconst 0, 1) := by decide +kernel
theorem dL_against_1 : decode cL_against 1 = .ok (.istore_n 3, 1) := by decide +kernel
theorem dL_against_2 : decode cL_against 2 = .ok (.iconst 0, 1) := by decide +kernel
theorem dL_against_3 : decode cL_against 3 = .ok (.istore 4, 2) := by decide +kernel
theorem dL_against_5 : decode cL_against 5 = .ok (.iload 4, 2) := by decide +kernel
theorem dL_against_7 : decode cL_against 7 = .ok (.aload_n 0, 1) := by decide +kernel
theorem dL_against_8 : decode cL_against 8 = .ok (.arraylength, 1) := by decide +kernel
theorem dL_against_9 : decode cL_against 9 = .ok (.if_icmp .ge 34, 3) := by decide +kernel
theorem dL_against_12 : decode cL_against 12 = .ok (.iload_n 3, 1) := by decide +kernel
theorem dL_against_13 : decode cL_against 13 = .ok (.aload_n 1, 1) := by decide +kernel
theorem dL_against_14 : decode cL_against 14 = .ok (.iconst 2, 1) := by decide +kernel
theorem dL_against_15 : decode cL_against 15 = .ok (.iload 4, 2) := by decide +kernel
theorem dL_against_17 : decode cL_against 17 = .ok (.imul, 1) := by decide +kernel
theorem dL_against_18 : decode cL_against 18 = .ok (.iaload, 1) := by decide +kernel
theorem dL_against_19 : decode cL_against 19 = .ok (.aload_n 1, 1) := by decide +kernel
theorem dL_against_20 : decode cL_against 20 = .ok (.iconst 2, 1) := by decide +kernel
theorem dL_against_21 : decode cL_against 21 = .ok (.iload 4, 2) := by decide +kernel
theorem dL_against_23 : decode cL_against 23 = .ok (.imul, 1) := by decide +kernel
theorem dL_against_24 : decode cL_against 24 = .ok (.iconst 1, 1) := by decide +kernel
theorem dL_against_25 : decode cL_against 25 = .ok (.iadd, 1) := by decide +kernel
theorem dL_against_26 : decode cL_against 26 = .ok (.iaload, 1) := by decide +kernel
theorem dL_against_27 : decode cL_against 27 = .ok (.if_icmp .ge 7, 3) := by decide +kernel
theorem dL_against_30 : decode cL_against 30 = .ok (.iconst 1, 1) := by decide +kernel
theorem dL_against_31 : decode cL_against 31 = .ok (.goto 4, 3) := by decide +kernel
theorem dL_against_34 : decode cL_against 34 = .ok (.iconst 0, 1) := by decide +kernel
theorem dL_against_35 : decode cL_against 35 = .ok (.ior, 1) := by decide +kernel
theorem dL_against_36 : decode cL_against 36 = .ok (.istore_n 3, 1) := by decide +kernel
theorem dL_against_37 : decode cL_against 37 = .ok (.iinc 4 1, 3) := by decide +kernel
theorem dL_against_40 : decode cL_against 40 = .ok (.goto (-35), 3) := by decide +kernel
theorem dL_against_43 : decode cL_against 43 = .ok (.iload_n 3, 1) := by decide +kernel
theorem dL_against_44 : decode cL_against 44 = .ok (.ifCond .ne 5, 3) := by decide +kernel
theorem dL_against_47 : decode cL_against 47 = .ok (.iconst 0, 1) := by decide +kernel
theorem dL_against_48 : decode cL_against 48 = .ok (.ireturn, 1) := by decide +kernel
theorem dL_against_49 : decode cL_against 49 = .ok (.iload_n 2, 1) := by decide +kernel
theorem dL_against_50 : decode cL_against 50 = .ok (.ifCond .eq 7, 3) := by decide +kernel
theorem dL_against_53 : decode cL_against 53 = .ok (.iconst 0, 1) := by decide +kernel
theorem dL_against_54 : decode cL_against 54 = .ok (.goto 8, 3) := by decide +kernel
theorem dL_against_57 : decode cL_against 57 = .ok (.aload_n 0, 1) := by decide +kernel
theorem dL_against_58 : decode cL_against 58 = .ok (.aload_n 1, 1) := by decide +kernel
theorem dL_against_59 : decode cL_against 59 = .ok (.invokestatic 199, 3) := by decide +kernel
theorem dL_against_62 : decode cL_against 62 = .ok (.istore 4, 2) := by decide +kernel
theorem dL_against_64 : decode cL_against 64 = .ok (.iconst 0, 1) := by decide +kernel
theorem dL_against_65 : decode cL_against 65 = .ok (.istore 5, 2) := by decide +kernel
theorem dL_against_67 : decode cL_against 67 = .ok (.iload 5, 2) := by decide +kernel
theorem dL_against_69 : decode cL_against 69 = .ok (.aload_n 0, 1) := by decide +kernel
theorem dL_against_70 : decode cL_against 70 = .ok (.arraylength, 1) := by decide +kernel
theorem dL_against_71 : decode cL_against 71 = .ok (.if_icmp .ge 117, 3) := by decide +kernel
theorem dL_against_74 : decode cL_against 74 = .ok (.aload_n 1, 1) := by decide +kernel
theorem dL_against_75 : decode cL_against 75 = .ok (.iconst 2, 1) := by decide +kernel
theorem dL_against_76 : decode cL_against 76 = .ok (.iload 5, 2) := by decide +kernel
theorem dL_against_78 : decode cL_against 78 = .ok (.imul, 1) := by decide +kernel
theorem dL_against_79 : decode cL_against 79 = .ok (.iaload, 1) := by decide +kernel
theorem dL_against_80 : decode cL_against 80 = .ok (.istore 6, 2) := by decide +kernel
theorem dL_against_82 : decode cL_against 82 = .ok (.aload_n 1, 1) := by decide +kernel
theorem dL_against_83 : decode cL_against 83 = .ok (.iconst 2, 1) := by decide +kernel
theorem dL_against_84 : decode cL_against 84 = .ok (.iload 5, 2) := by decide +kernel
theorem dL_against_86 : decode cL_against 86 = .ok (.imul, 1) := by decide +kernel
theorem dL_against_87 : decode cL_against 87 = .ok (.iconst 1, 1) := by decide +kernel
theorem dL_against_88 : decode cL_against 88 = .ok (.iadd, 1) := by decide +kernel
theorem dL_against_89 : decode cL_against 89 = .ok (.iaload, 1) := by decide +kernel
theorem dL_against_90 : decode cL_against 90 = .ok (.istore 7, 2) := by decide +kernel
theorem dL_against_92 : decode cL_against 92 = .ok (.iload 6, 2) := by decide +kernel
theorem dL_against_94 : decode cL_against 94 = .ok (.iload 7, 2) := by decide +kernel
theorem dL_against_96 : decode cL_against 96 = .ok (.if_icmp .lt 6, 3) := by decide +kernel
theorem dL_against_99 : decode cL_against 99 = .ok (.goto 83, 3) := by decide +kernel
theorem dL_against_102 : decode cL_against 102 = .ok (.aload_n 1, 1) := by decide +kernel
theorem dL_against_103 : decode cL_against 103 = .ok (.iconst 2, 1) := by decide +kernel
theorem dL_against_104 : decode cL_against 104 = .ok (.iload 5, 2) := by decide +kernel
theorem dL_against_106 : decode cL_against 106 = .ok (.imul, 1) := by decide +kernel
theorem dL_against_107 : decode cL_against 107 = .ok (.iload 6, 2) := by decide +kernel
theorem dL_against_109 : decode cL_against 109 = .ok (.iconst 1, 1) := by decide +kernel
theorem dL_against_110 : decode cL_against 110 = .ok (.iadd, 1) := by decide +kernel
theorem dL_against_111 : decode cL_against 111 = .ok (.iastore, 1) := by decide +kernel
theorem dL_against_112 : decode cL_against 112 = .ok (.iload 4, 2) := by decide +kernel
theorem dL_against_114 : decode cL_against 114 = .ok (.aload_n 0, 1) := by decide +kernel
theorem dL_against_115 : decode cL_against 115 = .ok (.iload 5, 2) := by decide +kernel
theorem dL_against_117 : decode cL_against 117 = .ok (.aaload, 1) := by decide +kernel
theorem dL_against_118 : decode cL_against 118 = .ok (.iload 6, 2) := by decide +kernel
theorem dL_against_120 : decode cL_against 120 = .ok (.iaload, 1) := by decide +kernel
theorem dL_against_121 : decode cL_against 121 = .ok (.aload_n 0, 1) := by decide +kernel
theorem dL_against_122 : decode cL_against 122 = .ok (.aload_n 1, 1) := by decide +kernel
theorem dL_against_123 : decode cL_against 123 = .ok (.invokestatic 199, 3) := by decide +kernel
theorem dL_against_126 : decode cL_against 126 = .ok (.iadd, 1) := by decide +kernel
theorem dL_against_127 : decode cL_against 127 = .ok (.invokestatic 194, 3) := by decide +kernel
theorem dL_against_130 : decode cL_against 130 = .ok (.istore 4, 2) := by decide +kernel
theorem dL_against_132 : decode cL_against 132 = .ok (.aload_n 1, 1) := by decide +kernel
theorem dL_against_133 : decode cL_against 133 = .ok (.iconst 2, 1) := by decide +kernel
theorem dL_against_134 : decode cL_against 134 = .ok (.iload 5, 2) := by decide +kernel
theorem dL_against_136 : decode cL_against 136 = .ok (.imul, 1) := by decide +kernel
theorem dL_against_137 : decode cL_against 137 = .ok (.iload 6, 2) := by decide +kernel
theorem dL_against_139 : decode cL_against 139 = .ok (.iastore, 1) := by decide +kernel
theorem dL_against_140 : decode cL_against 140 = .ok (.aload_n 1, 1) := by decide +kernel
theorem dL_against_141 : decode cL_against 141 = .ok (.iconst 2, 1) := by decide +kernel
theorem dL_against_142 : decode cL_against 142 = .ok (.iload 5, 2) := by decide +kernel
theorem dL_against_144 : decode cL_against 144 = .ok (.imul, 1) := by decide +kernel
theorem dL_against_145 : decode cL_against 145 = .ok (.iconst 1, 1) := by decide +kernel
theorem dL_against_146 : decode cL_against 146 = .ok (.iadd, 1) := by decide +kernel
theorem dL_against_147 : decode cL_against 147 = .ok (.iload 7, 2) := by decide +kernel
theorem dL_against_149 : decode cL_against 149 = .ok (.iconst 1, 1) := by decide +kernel
theorem dL_against_150 : decode cL_against 150 = .ok (.isub, 1) := by decide +kernel
theorem dL_against_151 : decode cL_against 151 = .ok (.iastore, 1) := by decide +kernel
theorem dL_against_152 : decode cL_against 152 = .ok (.iload 4, 2) := by decide +kernel
theorem dL_against_154 : decode cL_against 154 = .ok (.aload_n 0, 1) := by decide +kernel
theorem dL_against_155 : decode cL_against 155 = .ok (.iload 5, 2) := by decide +kernel
theorem dL_against_157 : decode cL_against 157 = .ok (.aaload, 1) := by decide +kernel
theorem dL_against_158 : decode cL_against 158 = .ok (.iload 7, 2) := by decide +kernel
theorem dL_against_160 : decode cL_against 160 = .ok (.iaload, 1) := by decide +kernel
theorem dL_against_161 : decode cL_against 161 = .ok (.aload_n 0, 1) := by decide +kernel
theorem dL_against_162 : decode cL_against 162 = .ok (.aload_n 1, 1) := by decide +kernel
theorem dL_against_163 : decode cL_against 163 = .ok (.invokestatic 199, 3) := by decide +kernel
theorem dL_against_166 : decode cL_against 166 = .ok (.iadd, 1) := by decide +kernel
theorem dL_against_167 : decode cL_against 167 = .ok (.invokestatic 194, 3) := by decide +kernel
theorem dL_against_170 : decode cL_against 170 = .ok (.istore 4, 2) := by decide +kernel
theorem dL_against_172 : decode cL_against 172 = .ok (.aload_n 1, 1) := by decide +kernel
theorem dL_against_173 : decode cL_against 173 = .ok (.iconst 2, 1) := by decide +kernel
theorem dL_against_174 : decode cL_against 174 = .ok (.iload 5, 2) := by decide +kernel
theorem dL_against_176 : decode cL_against 176 = .ok (.imul, 1) := by decide +kernel
theorem dL_against_177 : decode cL_against 177 = .ok (.iconst 1, 1) := by decide +kernel
theorem dL_against_178 : decode cL_against 178 = .ok (.iadd, 1) := by decide +kernel
theorem dL_against_179 : decode cL_against 179 = .ok (.iload 7, 2) := by decide +kernel
theorem dL_against_181 : decode cL_against 181 = .ok (.iastore, 1) := by decide +kernel
theorem dL_against_182 : decode cL_against 182 = .ok (.iinc 5 1, 3) := by decide +kernel
theorem dL_against_185 : decode cL_against 185 = .ok (.goto (-118), 3) := by decide +kernel
theorem dL_against_188 : decode cL_against 188 = .ok (.iload 4, 2) := by decide +kernel
theorem dL_against_190 : decode cL_against 190 = .ok (.ireturn, 1) := by decide +kernel
theorem dL_greedyOf_0 : decode cL_greedyOf 0 = .ok (.iconst (-1), 1) := by decide +kernel
theorem dL_greedyOf_1 : decode cL_greedyOf 1 = .ok (.istore_n 2, 1) := by decide +kernel
theorem dL_greedyOf_2 : decode cL_greedyOf 2 = .ok (.iconst (-1), 1) := by decide +kernel
theorem dL_greedyOf_3 : decode cL_greedyOf 3 = .ok (.istore_n 3, 1) := by decide +kernel
theorem dL_greedyOf_4 : decode cL_greedyOf 4 = .ok (.iconst 0, 1) := by decide +kernel
theorem dL_greedyOf_5 : decode cL_greedyOf 5 = .ok (.istore 4, 2) := by decide +kernel
theorem dL_greedyOf_7 : decode cL_greedyOf 7 = .ok (.iload 4, 2) := by decide +kernel
theorem dL_greedyOf_9 : decode cL_greedyOf 9 = .ok (.aload_n 0, 1) := by decide +kernel
theorem dL_greedyOf_10 : decode cL_greedyOf 10 = .ok (.arraylength, 1) := by decide +kernel
theorem dL_greedyOf_11 : decode cL_greedyOf 11 = .ok (.if_icmp .ge 88, 3) := by decide +kernel
theorem dL_greedyOf_14 : decode cL_greedyOf 14 = .ok (.aload_n 1, 1) := by decide +kernel
theorem dL_greedyOf_15 : decode cL_greedyOf 15 = .ok (.iconst 2, 1) := by decide +kernel
theorem dL_greedyOf_16 : decode cL_greedyOf 16 = .ok (.iload 4, 2) := by decide +kernel
theorem dL_greedyOf_18 : decode cL_greedyOf 18 = .ok (.imul, 1) := by decide +kernel
theorem dL_greedyOf_19 : decode cL_greedyOf 19 = .ok (.iaload, 1) := by decide +kernel
theorem dL_greedyOf_20 : decode cL_greedyOf 20 = .ok (.aload_n 1, 1) := by decide +kernel
theorem dL_greedyOf_21 : decode cL_greedyOf 21 = .ok (.iconst 2, 1) := by decide +kernel
theorem dL_greedyOf_22 : decode cL_greedyOf 22 = .ok (.iload 4, 2) := by decide +kernel
theorem dL_greedyOf_24 : decode cL_greedyOf 24 = .ok (.imul, 1) := by decide +kernel
theorem dL_greedyOf_25 : decode cL_greedyOf 25 = .ok (.iconst 1, 1) := by decide +kernel
theorem dL_greedyOf_26 : decode cL_greedyOf 26 = .ok (.iadd, 1) := by decide +kernel
theorem dL_greedyOf_27 : decode cL_greedyOf 27 = .ok (.iaload, 1) := by decide +kernel
theorem dL_greedyOf_28 : decode cL_greedyOf 28 = .ok (.if_icmp .lt 6, 3) := by decide +kernel
theorem dL_greedyOf_31 : decode cL_greedyOf 31 = .ok (.goto 62, 3) := by decide +kernel
theorem dL_greedyOf_34 : decode cL_greedyOf 34 = .ok (.iconst 0, 1) := by decide +kernel
theorem dL_greedyOf_35 : decode cL_greedyOf 35 = .ok (.istore 5, 2) := by decide +kernel
theorem dL_greedyOf_37 : decode cL_greedyOf 37 = .ok (.iload 5, 2) := by decide +kernel
theorem dL_greedyOf_39 : decode cL_greedyOf 39 = .ok (.iconst 2, 1) := by decide +kernel
theorem dL_greedyOf_40 : decode cL_greedyOf 40 = .ok (.if_icmp .ge 53, 3) := by decide +kernel
theorem dL_greedyOf_43 : decode cL_greedyOf 43 = .ok (.aload_n 0, 1) := by decide +kernel
theorem dL_greedyOf_44 : decode cL_greedyOf 44 = .ok (.iload 4, 2) := by decide +kernel
theorem dL_greedyOf_46 : decode cL_greedyOf 46 = .ok (.aaload, 1) := by decide +kernel
theorem dL_greedyOf_47 : decode cL_greedyOf 47 = .ok (.aload_n 1, 1) := by decide +kernel
theorem dL_greedyOf_48 : decode cL_greedyOf 48 = .ok (.iconst 2, 1) := by decide +kernel
theorem dL_greedyOf_49 : decode cL_greedyOf 49 = .ok (.iload 4, 2) := by decide +kernel
theorem dL_greedyOf_51 : decode cL_greedyOf 51 = .ok (.imul, 1) := by decide +kernel
theorem dL_greedyOf_52 : decode cL_greedyOf 52 = .ok (.iload 5, 2) := by decide +kernel
theorem dL_greedyOf_54 : decode cL_greedyOf 54 = .ok (.iadd, 1) := by decide +kernel
theorem dL_greedyOf_55 : decode cL_greedyOf 55 = .ok (.iaload, 1) := by decide +kernel
theorem dL_greedyOf_56 : decode cL_greedyOf 56 = .ok (.iaload, 1) := by decide +kernel
theorem dL_greedyOf_57 : decode cL_greedyOf 57 = .ok (.iload_n 3, 1) := by decide +kernel
theorem dL_greedyOf_58 : decode cL_greedyOf 58 = .ok (.if_icmp .gt 6, 3) := by decide +kernel
theorem dL_greedyOf_61 : decode cL_greedyOf 61 = .ok (.goto 26, 3) := by decide +kernel
theorem dL_greedyOf_64 : decode cL_greedyOf 64 = .ok (.aload_n 0, 1) := by decide +kernel
theorem dL_greedyOf_65 : decode cL_greedyOf 65 = .ok (.iload 4, 2) := by decide +kernel
theorem dL_greedyOf_67 : decode cL_greedyOf 67 = .ok (.aaload, 1) := by decide +kernel
theorem dL_greedyOf_68 : decode cL_greedyOf 68 = .ok (.aload_n 1, 1) := by decide +kernel
theorem dL_greedyOf_69 : decode cL_greedyOf 69 = .ok (.iconst 2, 1) := by decide +kernel
theorem dL_greedyOf_70 : decode cL_greedyOf 70 = .ok (.iload 4, 2) := by decide +kernel
theorem dL_greedyOf_72 : decode cL_greedyOf 72 = .ok (.imul, 1) := by decide +kernel
theorem dL_greedyOf_73 : decode cL_greedyOf 73 = .ok (.iload 5, 2) := by decide +kernel
theorem dL_greedyOf_75 : decode cL_greedyOf 75 = .ok (.iadd, 1) := by decide +kernel
theorem dL_greedyOf_76 : decode cL_greedyOf 76 = .ok (.iaload, 1) := by decide +kernel
theorem dL_greedyOf_77 : decode cL_greedyOf 77 = .ok (.iaload, 1) := by decide +kernel
theorem dL_greedyOf_78 : decode cL_greedyOf 78 = .ok (.istore_n 3, 1) := by decide +kernel
theorem dL_greedyOf_79 : decode cL_greedyOf 79 = .ok (.iconst 2, 1) := by decide +kernel
theorem dL_greedyOf_80 : decode cL_greedyOf 80 = .ok (.iload 4, 2) := by decide +kernel
theorem dL_greedyOf_82 : decode cL_greedyOf 82 = .ok (.imul, 1) := by decide +kernel
theorem dL_greedyOf_83 : decode cL_greedyOf 83 = .ok (.iload 5, 2) := by decide +kernel
theorem dL_greedyOf_85 : decode cL_greedyOf 85 = .ok (.iadd, 1) := by decide +kernel
theorem dL_greedyOf_86 : decode cL_greedyOf 86 = .ok (.istore_n 2, 1) := by decide +kernel
theorem dL_greedyOf_87 : decode cL_greedyOf 87 = .ok (.iinc 5 1, 3) := by decide +kernel
theorem dL_greedyOf_90 : decode cL_greedyOf 90 = .ok (.goto (-53), 3) := by decide +kernel
theorem dL_greedyOf_93 : decode cL_greedyOf 93 = .ok (.iinc 4 1, 3) := by decide +kernel
theorem dL_greedyOf_96 : decode cL_greedyOf 96 = .ok (.goto (-89), 3) := by decide +kernel
theorem dL_greedyOf_99 : decode cL_greedyOf 99 = .ok (.iload_n 2, 1) := by decide +kernel
theorem dL_greedyOf_100 : decode cL_greedyOf 100 = .ok (.ireturn, 1) := by decide +kernel
theorem dL_behind_0 : decode cL_behind 0 = .ok (.aload_n 0, 1) := by decide +kernel
theorem dL_behind_1 : decode cL_behind 1 = .ok (.aload_n 1, 1) := by decide +kernel
theorem dL_behind_2 : decode cL_behind 2 = .ok (.invokestatic 203, 3) := by decide +kernel
theorem dL_behind_5 : decode cL_behind 5 = .ok (.istore_n 2, 1) := by decide +kernel
theorem dL_behind_6 : decode cL_behind 6 = .ok (.iload_n 2, 1) := by decide +kernel
theorem dL_behind_7 : decode cL_behind 7 = .ok (.ifCond .ge 5, 3) := by decide +kernel
theorem dL_behind_10 : decode cL_behind 10 = .ok (.iconst 0, 1) := by decide +kernel
theorem dL_behind_11 : decode cL_behind 11 = .ok (.ireturn, 1) := by decide +kernel
theorem dL_behind_12 : decode cL_behind 12 = .ok (.aload_n 0, 1) := by decide +kernel
theorem dL_behind_13 : decode cL_behind 13 = .ok (.iload_n 2, 1) := by decide +kernel
theorem dL_behind_14 : decode cL_behind 14 = .ok (.iconst 2, 1) := by decide +kernel
theorem dL_behind_15 : decode cL_behind 15 = .ok (.idiv, 1) := by decide +kernel
theorem dL_behind_16 : decode cL_behind 16 = .ok (.aaload, 1) := by decide +kernel
theorem dL_behind_17 : decode cL_behind 17 = .ok (.aload_n 1, 1) := by decide +kernel
theorem dL_behind_18 : decode cL_behind 18 = .ok (.iload_n 2, 1) := by decide +kernel
theorem dL_behind_19 : decode cL_behind 19 = .ok (.iaload, 1) := by decide +kernel
theorem dL_behind_20 : decode cL_behind 20 = .ok (.iaload, 1) := by decide +kernel
theorem dL_behind_21 : decode cL_behind 21 = .ok (.istore_n 3, 1) := by decide +kernel
theorem dL_behind_22 : decode cL_behind 22 = .ok (.aload_n 1, 1) := by decide +kernel
theorem dL_behind_23 : decode cL_behind 23 = .ok (.iload_n 2, 1) := by decide +kernel
theorem dL_behind_24 : decode cL_behind 24 = .ok (.dup2, 1) := by decide +kernel
theorem dL_behind_25 : decode cL_behind 25 = .ok (.iaload, 1) := by decide +kernel
theorem dL_behind_26 : decode cL_behind 26 = .ok (.iload_n 2, 1) := by decide +kernel
theorem dL_behind_27 : decode cL_behind 27 = .ok (.iconst 2, 1) := by decide +kernel
theorem dL_behind_28 : decode cL_behind 28 = .ok (.irem, 1) := by decide +kernel
theorem dL_behind_29 : decode cL_behind 29 = .ok (.ifCond .ne 7, 3) := by decide +kernel
theorem dL_behind_32 : decode cL_behind 32 = .ok (.iconst 1, 1) := by decide +kernel
theorem dL_behind_33 : decode cL_behind 33 = .ok (.goto 4, 3) := by decide +kernel
theorem dL_behind_36 : decode cL_behind 36 = .ok (.iconst (-1), 1) := by decide +kernel
theorem dL_behind_37 : decode cL_behind 37 = .ok (.iadd, 1) := by decide +kernel
theorem dL_behind_38 : decode cL_behind 38 = .ok (.iastore, 1) := by decide +kernel
theorem dL_behind_39 : decode cL_behind 39 = .ok (.aload_n 0, 1) := by decide +kernel
theorem dL_behind_40 : decode cL_behind 40 = .ok (.aload_n 1, 1) := by decide +kernel
theorem dL_behind_41 : decode cL_behind 41 = .ok (.iconst 0, 1) := by decide +kernel
theorem dL_behind_42 : decode cL_behind 42 = .ok (.invokestatic 206, 3) := by decide +kernel
theorem dL_behind_45 : decode cL_behind 45 = .ok (.iload_n 3, 1) := by decide +kernel
theorem dL_behind_46 : decode cL_behind 46 = .ok (.isub, 1) := by decide +kernel
theorem dL_behind_47 : decode cL_behind 47 = .ok (.istore 4, 2) := by decide +kernel
theorem dL_behind_49 : decode cL_behind 49 = .ok (.aload_n 1, 1) := by decide +kernel
theorem dL_behind_50 : decode cL_behind 50 = .ok (.iload_n 2, 1) := by decide +kernel
theorem dL_behind_51 : decode cL_behind 51 = .ok (.dup2, 1) := by decide +kernel
theorem dL_behind_52 : decode cL_behind 52 = .ok (.iaload, 1) := by decide +kernel
theorem dL_behind_53 : decode cL_behind 53 = .ok (.iload_n 2, 1) := by decide +kernel
theorem dL_behind_54 : decode cL_behind 54 = .ok (.iconst 2, 1) := by decide +kernel
theorem dL_behind_55 : decode cL_behind 55 = .ok (.irem, 1) := by decide +kernel
theorem dL_behind_56 : decode cL_behind 56 = .ok (.ifCond .ne 7, 3) := by decide +kernel
theorem dL_behind_59 : decode cL_behind 59 = .ok (.iconst 1, 1) := by decide +kernel
theorem dL_behind_60 : decode cL_behind 60 = .ok (.goto 4, 3) := by decide +kernel
theorem dL_behind_63 : decode cL_behind 63 = .ok (.iconst (-1), 1) := by decide +kernel
theorem dL_behind_64 : decode cL_behind 64 = .ok (.isub, 1) := by decide +kernel
theorem dL_behind_65 : decode cL_behind 65 = .ok (.iastore, 1) := by decide +kernel
theorem dL_behind_66 : decode cL_behind 66 = .ok (.iload 4, 2) := by decide +kernel
theorem dL_behind_68 : decode cL_behind 68 = .ok (.ireturn, 1) := by decide +kernel
theorem dL_law_0 : decode cL_law 0 = .ok (.new 25, 3) := by decide +kernel
theorem dL_law_3 : decode cL_law 3 = .ok (.dup, 1) := by decide +kernel
theorem dL_law_4 : decode cL_law 4 = .ok (.invokespecial 209, 3) := by decide +kernel
theorem dL_law_7 : decode cL_law 7 = .ok (.astore_n 1, 1) := by decide +kernel
theorem dL_law_8 : decode cL_law 8 = .ok (.aload_n 1, 1) := by decide +kernel
theorem dL_law_9 : decode cL_law 9 = .ok (.invokevirtual 166, 3) := by decide +kernel
theorem dL_law_12 : decode cL_law 12 = .ok (.iconst 1, 1) := by decide +kernel
theorem dL_law_13 : decode cL_law 13 = .ok (.if_icmp .ne 33, 3) := by decide +kernel
theorem dL_law_16 : decode cL_law 16 = .ok (.aload_n 1, 1) := by decide +kernel
theorem dL_law_17 : decode cL_law 17 = .ok (.invokevirtual 156, 3) := by decide +kernel
theorem dL_law_20 : decode cL_law 20 = .ok (.iconst 2, 1) := by decide +kernel
theorem dL_law_21 : decode cL_law 21 = .ok (.if_icmp .ne 25, 3) := by decide +kernel
theorem dL_law_24 : decode cL_law 24 = .ok (.aload_n 1, 1) := by decide +kernel
theorem dL_law_25 : decode cL_law 25 = .ok (.invokevirtual 210, 3) := by decide +kernel
theorem dL_law_28 : decode cL_law 28 = .ok (.bipush 51, 2) := by decide +kernel
theorem dL_law_30 : decode cL_law 30 = .ok (.if_icmp .ne 16, 3) := by decide +kernel
theorem dL_law_33 : decode cL_law 33 = .ok (.aload_n 1, 1) := by decide +kernel
theorem dL_law_34 : decode cL_law 34 = .ok (.aload_n 0, 1) := by decide +kernel
theorem dL_law_35 : decode cL_law 35 = .ok (.iconst 5, 1) := by decide +kernel
theorem dL_law_36 : decode cL_law 36 = .ok (.invokestatic 213, 3) := by decide +kernel
theorem dL_law_39 : decode cL_law 39 = .ok (.invokestatic 217, 3) := by decide +kernel
theorem dL_law_42 : decode cL_law 42 = .ok (.iconst 1, 1) := by decide +kernel
theorem dL_law_43 : decode cL_law 43 = .ok (.if_icmp .ge 5, 3) := by decide +kernel
theorem dL_law_46 : decode cL_law 46 = .ok (.iconst 0, 1) := by decide +kernel
theorem dL_law_47 : decode cL_law 47 = .ok (.ireturn, 1) := by decide +kernel
theorem dL_law_48 : decode cL_law 48 = .ok (.iconst 0, 1) := by decide +kernel
theorem dL_law_49 : decode cL_law 49 = .ok (.istore_n 2, 1) := by decide +kernel
theorem dL_law_50 : decode cL_law 50 = .ok (.iconst 0, 1) := by decide +kernel
theorem dL_law_51 : decode cL_law 51 = .ok (.istore_n 3, 1) := by decide +kernel
theorem dL_law_52 : decode cL_law 52 = .ok (.iload_n 3, 1) := by decide +kernel
theorem dL_law_53 : decode cL_law 53 = .ok (.iconst 5, 1) := by decide +kernel
theorem dL_law_54 : decode cL_law 54 = .ok (.if_icmp .ge 992, 3) := by decide +kernel
theorem dL_law_57 : decode cL_law 57 = .ok (.aload_n 1, 1) := by decide +kernel
theorem dL_law_58 : decode cL_law 58 = .ok (.invokevirtual 156, 3) := by decide +kernel
theorem dL_law_61 : decode cL_law 61 = .ok (.istore 4, 2) := by decide +kernel
theorem dL_law_63 : decode cL_law 63 = .ok (.iload 4, 2) := by decide +kernel
theorem dL_law_65 : decode cL_law 65 = .ok (.anewarray 221, 3) := by decide +kernel
theorem dL_law_68 : decode cL_law 68 = .ok (.astore 5, 2) := by decide +kernel
theorem dL_law_70 : decode cL_law 70 = .ok (.iconst 2, 1) := by decide +kernel
theorem dL_law_71 : decode cL_law 71 = .ok (.iload 4, 2) := by decide +kernel
theorem dL_law_73 : decode cL_law 73 = .ok (.imul, 1) := by decide +kernel
theorem dL_law_74 : decode cL_law 74 = .ok (.newarray .int, 2) := by decide +kernel
theorem dL_law_76 : decode cL_law 76 = .ok (.astore 6, 2) := by decide +kernel
theorem dL_law_78 : decode cL_law 78 = .ok (.iconst 0, 1) := by decide +kernel
theorem dL_law_79 : decode cL_law 79 = .ok (.istore 7, 2) := by decide +kernel
theorem dL_law_81 : decode cL_law 81 = .ok (.iload 7, 2) := by decide +kernel
theorem dL_law_83 : decode cL_law 83 = .ok (.iload 4, 2) := by decide +kernel
theorem dL_law_85 : decode cL_law 85 = .ok (.if_icmp .ge 121, 3) := by decide +kernel
theorem dL_law_88 : decode cL_law 88 = .ok (.aload 5, 2) := by decide +kernel
theorem dL_law_90 : decode cL_law 90 = .ok (.iload 7, 2) := by decide +kernel
theorem dL_law_92 : decode cL_law 92 = .ok (.aload_n 1, 1) := by decide +kernel
theorem dL_law_93 : decode cL_law 93 = .ok (.iload 7, 2) := by decide +kernel
theorem dL_law_95 : decode cL_law 95 = .ok (.iconst 0, 1) := by decide +kernel
theorem dL_law_96 : decode cL_law 96 = .ok (.invokestatic 159, 3) := by decide +kernel
theorem dL_law_99 : decode cL_law 99 = .ok (.newarray .int, 2) := by decide +kernel
theorem dL_law_101 : decode cL_law 101 = .ok (.aastore, 1) := by decide +kernel
theorem dL_law_102 : decode cL_law 102 = .ok (.iconst 0, 1) := by decide +kernel
theorem dL_law_103 : decode cL_law 103 = .ok (.istore 8, 2) := by decide +kernel
theorem dL_law_105 : decode cL_law 105 = .ok (.iload 8, 2) := by decide +kernel
theorem dL_law_107 : decode cL_law 107 = .ok (.aload 5, 2) := by decide +kernel
theorem dL_law_109 : decode cL_law 109 = .ok (.iload 7, 2) := by decide +kernel
theorem dL_law_111 : decode cL_law 111 = .ok (.aaload, 1) := by decide +kernel
theorem dL_law_112 : decode cL_law 112 = .ok (.arraylength, 1) := by decide +kernel
theorem dL_law_113 : decode cL_law 113 = .ok (.if_icmp .ge 26, 3) := by decide +kernel
theorem dL_law_116 : decode cL_law 116 = .ok (.aload 5, 2) := by decide +kernel
theorem dL_law_118 : decode cL_law 118 = .ok (.iload 7, 2) := by decide +kernel
theorem dL_law_120 : decode cL_law 120 = .ok (.aaload, 1) := by decide +kernel
theorem dL_law_121 : decode cL_law 121 = .ok (.iload 8, 2) := by decide +kernel
theorem dL_law_123 : decode cL_law 123 = .ok (.aload_n 1, 1) := by decide +kernel
theorem dL_law_124 : decode cL_law 124 = .ok (.iload 7, 2) := by decide +kernel
theorem dL_law_126 : decode cL_law 126 = .ok (.iload 8, 2) := by decide +kernel
theorem dL_law_128 : decode cL_law 128 = .ok (.iconst 2, 1) := by decide +kernel
theorem dL_law_129 : decode cL_law 129 = .ok (.invokestatic 162, 3) := by decide +kernel
theorem dL_law_132 : decode cL_law 132 = .ok (.iastore, 1) := by decide +kernel
theorem dL_law_133 : decode cL_law 133 = .ok (.iinc 8 1, 3) := by decide +kernel
theorem dL_law_136 : decode cL_law 136 = .ok (.goto (-31), 3) := by decide +kernel
theorem dL_law_139 : decode cL_law 139 = .ok (.aload 6, 2) := by decide +kernel
theorem dL_law_141 : decode cL_law 141 = .ok (.iconst 2, 1) := by decide +kernel
theorem dL_law_142 : decode cL_law 142 = .ok (.iload 7, 2) := by decide +kernel
theorem dL_law_144 : decode cL_law 144 = .ok (.imul, 1) := by decide +kernel
theorem dL_law_145 : decode cL_law 145 = .ok (.iconst 1, 1) := by decide +kernel
theorem dL_law_146 : decode cL_law 146 = .ok (.iadd, 1) := by decide +kernel
theorem dL_law_147 : decode cL_law 147 = .ok (.aload 5, 2) := by decide +kernel
theorem dL_law_149 : decode cL_law 149 = .ok (.iload 7, 2) := by decide +kernel
theorem dL_law_151 : decode cL_law 151 = .ok (.aaload, 1) := by decide +kernel
theorem dL_law_152 : decode cL_law 152 = .ok (.arraylength, 1) := by decide +kernel
theorem dL_law_153 : decode cL_law 153 = .ok (.iconst 1, 1) := by decide +kernel
theorem dL_law_154 : decode cL_law 154 = .ok (.isub, 1) := by decide +kernel
theorem dL_law_155 : decode cL_law 155 = .ok (.iastore, 1) := by decide +kernel
theorem dL_law_156 : decode cL_law 156 = .ok (.iconst 2, 1) := by decide +kernel
theorem dL_law_157 : decode cL_law 157 = .ok (.iload 4, 2) := by decide +kernel
theorem dL_law_159 : decode cL_law 159 = .ok (.imul, 1) := by decide +kernel
theorem dL_law_160 : decode cL_law 160 = .ok (.newarray .int, 2) := by decide +kernel
theorem dL_law_162 : decode cL_law 162 = .ok (.astore 8, 2) := by decide +kernel
theorem dL_law_164 : decode cL_law 164 = .ok (.aload 8, 2) := by decide +kernel
theorem dL_law_166 : decode cL_law 166 = .ok (.iconst 2, 1) := by decide +kernel
theorem dL_law_167 : decode cL_law 167 = .ok (.iload 7, 2) := by decide +kernel
theorem dL_law_169 : decode cL_law 169 = .ok (.imul, 1) := by decide +kernel
theorem dL_law_170 : decode cL_law 170 = .ok (.iconst 1, 1) := by decide +kernel
theorem dL_law_171 : decode cL_law 171 = .ok (.iadd, 1) := by decide +kernel
theorem dL_law_172 : decode cL_law 172 = .ok (.aload 5, 2) := by decide +kernel
theorem dL_law_174 : decode cL_law 174 = .ok (.iload 7, 2) := by decide +kernel
theorem dL_law_176 : decode cL_law 176 = .ok (.aaload, 1) := by decide +kernel
theorem dL_law_177 : decode cL_law 177 = .ok (.arraylength, 1) := by decide +kernel
theorem dL_law_178 : decode cL_law 178 = .ok (.iconst 1, 1) := by decide +kernel
theorem dL_law_179 : decode cL_law 179 = .ok (.isub, 1) := by decide +kernel
theorem dL_law_180 : decode cL_law 180 = .ok (.iastore, 1) := by decide +kernel
theorem dL_law_181 : decode cL_law 181 = .ok (.aload_n 1, 1) := by decide +kernel
theorem dL_law_182 : decode cL_law 182 = .ok (.iload 7, 2) := by decide +kernel
theorem dL_law_184 : decode cL_law 184 = .ok (.invokestatic 223, 3) := by decide +kernel
theorem dL_law_187 : decode cL_law 187 = .ok (.aload 5, 2) := by decide +kernel
theorem dL_law_189 : decode cL_law 189 = .ok (.aload 8, 2) := by decide +kernel
theorem dL_law_191 : decode cL_law 191 = .ok (.iconst 0, 1) := by decide +kernel
theorem dL_law_192 : decode cL_law 192 = .ok (.invokestatic 190, 3) := by decide +kernel
theorem dL_law_195 : decode cL_law 195 = .ok (.if_icmp .eq 5, 3) := by decide +kernel
theorem dL_law_198 : decode cL_law 198 = .ok (.iconst 0, 1) := by decide +kernel
theorem dL_law_199 : decode cL_law 199 = .ok (.ireturn, 1) := by decide +kernel
theorem dL_law_200 : decode cL_law 200 = .ok (.iinc 7 1, 3) := by decide +kernel
theorem dL_law_203 : decode cL_law 203 = .ok (.goto (-122), 3) := by decide +kernel
theorem dL_law_206 : decode cL_law 206 = .ok (.aload_n 1, 1) := by decide +kernel
theorem dL_law_207 : decode cL_law 207 = .ok (.invokevirtual 141, 3) := by decide +kernel
theorem dL_law_210 : decode cL_law 210 = .ok (.ifCond .eq 88, 3) := by decide +kernel
theorem dL_law_213 : decode cL_law 213 = .ok (.aload_n 1, 1) := by decide +kernel
theorem dL_law_214 : decode cL_law 214 = .ok (.invokevirtual 226, 3) := by decide +kernel
theorem dL_law_217 : decode cL_law 217 = .ok (.ifCond .ne 79, 3) := by decide +kernel
theorem dL_law_220 : decode cL_law 220 = .ok (.aload_n 1, 1) := by decide +kernel
theorem dL_law_221 : decode cL_law 221 = .ok (.invokestatic 229, 3) := by decide +kernel
theorem dL_law_224 : decode cL_law 224 = .ok (.bipush (-50), 2) := by decide +kernel
theorem dL_law_226 : decode cL_law 226 = .ok (.if_icmp .ne 70, 3) := by decide +kernel
theorem dL_law_229 : decode cL_law 229 = .ok (.aload_n 1, 1) := by decide +kernel
theorem dL_law_230 : decode cL_law 230 = .ok (.invokevirtual 232, 3) := by decide +kernel
theorem dL_law_233 : decode cL_law 233 = .ok (.ifCond .ne 63, 3) := by decide +kernel
theorem dL_law_236 : decode cL_law 236 = .ok (.aload_n 1, 1) := by decide +kernel
theorem dL_law_237 : decode cL_law 237 = .ok (.invokevirtual 235, 3) := by decide +kernel
theorem dL_law_240 : decode cL_law 240 = .ok (.ifCond .ne 56, 3) := by decide +kernel
theorem dL_law_243 : decode cL_law 243 = .ok (.aload_n 1, 1) := by decide +kernel
theorem dL_law_244 : decode cL_law 244 = .ok (.invokevirtual 238, 3) := by decide +kernel
theorem dL_law_247 : decode cL_law 247 = .ok (.ifCond .ne 49, 3) := by decide +kernel
theorem dL_law_250 : decode cL_law 250 = .ok (.aload_n 1, 1) := by decide +kernel
theorem dL_law_251 : decode cL_law 251 = .ok (.invokestatic 241, 3) := by decide +kernel
theorem dL_law_254 : decode cL_law 254 = .ok (.bipush (-50), 2) := by decide +kernel
theorem dL_law_256 : decode cL_law 256 = .ok (.if_icmp .ne 40, 3) := by decide +kernel
theorem dL_law_259 : decode cL_law 259 = .ok (.aload_n 1, 1) := by decide +kernel
theorem dL_law_260 : decode cL_law 260 = .ok (.invokevirtual 244, 3) := by decide +kernel
theorem dL_law_263 : decode cL_law 263 = .ok (.ifCond .ne 33, 3) := by decide +kernel
theorem dL_law_266 : decode cL_law 266 = .ok (.aload_n 1, 1) := by decide +kernel
theorem dL_law_267 : decode cL_law 267 = .ok (.invokevirtual 247, 3) := by decide +kernel
theorem dL_law_270 : decode cL_law 270 = .ok (.ifCond .ne 26, 3) := by decide +kernel
theorem dL_law_273 : decode cL_law 273 = .ok (.aload_n 1, 1) := by decide +kernel
theorem dL_law_274 : decode cL_law 274 = .ok (.invokestatic 250, 3) := by decide +kernel
theorem dL_law_277 : decode cL_law 277 = .ok (.bipush (-50), 2) := by decide +kernel
theorem dL_law_279 : decode cL_law 279 = .ok (.if_icmp .ne 17, 3) := by decide +kernel
theorem dL_law_282 : decode cL_law 282 = .ok (.aload_n 1, 1) := by decide +kernel
theorem dL_law_283 : decode cL_law 283 = .ok (.invokevirtual 253, 3) := by decide +kernel
theorem dL_law_286 : decode cL_law 286 = .ok (.ifCond .ne 10, 3) := by decide +kernel
theorem dL_law_289 : decode cL_law 289 = .ok (.aload_n 1, 1) := by decide +kernel
theorem dL_law_290 : decode cL_law 290 = .ok (.invokevirtual 256, 3) := by decide +kernel
theorem dL_law_293 : decode cL_law 293 = .ok (.ifCond .eq 753, 3) := by decide +kernel
theorem dL_law_296 : decode cL_law 296 = .ok (.iconst 0, 1) := by decide +kernel
theorem dL_law_297 : decode cL_law 297 = .ok (.ireturn, 1) := by decide +kernel
theorem dL_law_298 : decode cL_law 298 = .ok (.aload 5, 2) := by decide +kernel
theorem dL_law_300 : decode cL_law 300 = .ok (.aload 6, 2) := by decide +kernel
theorem dL_law_302 : decode cL_law 302 = .ok (.iload_n 2, 1) := by decide +kernel
theorem dL_law_303 : decode cL_law 303 = .ok (.invokestatic 190, 3) := by decide +kernel
theorem dL_law_306 : decode cL_law 306 = .ok (.istore 7, 2) := by decide +kernel
theorem dL_law_308 : decode cL_law 308 = .ok (.aload_n 1, 1) := by decide +kernel
theorem dL_law_309 : decode cL_law 309 = .ok (.aload_n 1, 1) := by decide +kernel
theorem dL_law_310 : decode cL_law 310 = .ok (.invokevirtual 138, 3) := by decide +kernel
theorem dL_law_313 : decode cL_law 313 = .ok (.aload_n 1, 1) := by decide +kernel
theorem dL_law_314 : decode cL_law 314 = .ok (.invokevirtual 147, 3) := by decide +kernel
theorem dL_law_317 : decode cL_law 317 = .ok (.invokestatic 169, 3) := by decide +kernel
theorem dL_law_320 : decode cL_law 320 = .ok (.aload_n 1, 1) := by decide +kernel
theorem dL_law_321 : decode cL_law 321 = .ok (.aload_n 1, 1) := by decide +kernel
theorem dL_law_322 : decode cL_law 322 = .ok (.invokevirtual 138, 3) := by decide +kernel
theorem dL_law_325 : decode cL_law 325 = .ok (.iconst 1, 1) := by decide +kernel
theorem dL_law_326 : decode cL_law 326 = .ok (.aload_n 1, 1) := by decide +kernel
theorem dL_law_327 : decode cL_law 327 = .ok (.invokevirtual 147, 3) := by decide +kernel
theorem dL_law_330 : decode cL_law 330 = .ok (.isub, 1) := by decide +kernel
theorem dL_law_331 : decode cL_law 331 = .ok (.invokestatic 169, 3) := by decide +kernel
theorem dL_law_334 : decode cL_law 334 = .ok (.isub, 1) := by decide +kernel
theorem dL_law_335 : decode cL_law 335 = .ok (.istore 8, 2) := by decide +kernel
theorem dL_law_337 : decode cL_law 337 = .ok (.aload_n 1, 1) := by decide +kernel
theorem dL_law_338 : decode cL_law 338 = .ok (.invokevirtual 226, 3) := by decide +kernel
theorem dL_law_341 : decode cL_law 341 = .ok (.iload 7, 2) := by decide +kernel
theorem dL_law_343 : decode cL_law 343 = .ok (.if_icmp .ne 39, 3) := by decide +kernel
theorem dL_law_346 : decode cL_law 346 = .ok (.aload_n 1, 1) := by decide +kernel
theorem dL_law_347 : decode cL_law 347 = .ok (.invokevirtual 259, 3) := by decide +kernel
theorem dL_law_350 : decode cL_law 350 = .ok (.iload 8, 2) := by decide +kernel
theorem dL_law_352 : decode cL_law 352 = .ok (.iload 7, 2) := by decide +kernel
theorem dL_law_354 : decode cL_law 354 = .ok (.iadd, 1) := by decide +kernel
theorem dL_law_355 : decode cL_law 355 = .ok (.if_icmp .ne 27, 3) := by decide +kernel
theorem dL_law_358 : decode cL_law 358 = .ok (.aload_n 1, 1) := by decide +kernel
theorem dL_law_359 : decode cL_law 359 = .ok (.invokevirtual 247, 3) := by decide +kernel
theorem dL_law_362 : decode cL_law 362 = .ok (.aload 5, 2) := by decide +kernel
theorem dL_law_364 : decode cL_law 364 = .ok (.aload 6, 2) := by decide +kernel
theorem dL_law_366 : decode cL_law 366 = .ok (.iload_n 2, 1) := by decide +kernel
theorem dL_law_367 : decode cL_law 367 = .ok (.invokestatic 206, 3) := by decide +kernel
theorem dL_law_370 : decode cL_law 370 = .ok (.if_icmp .ne 12, 3) := by decide +kernel
theorem dL_law_373 : decode cL_law 373 = .ok (.aload_n 1, 1) := by decide +kernel
theorem dL_law_374 : decode cL_law 374 = .ok (.invokevirtual 247, 3) := by decide +kernel
theorem dL_law_377 : decode cL_law 377 = .ok (.iload 7, 2) := by decide +kernel
theorem dL_law_379 : decode cL_law 379 = .ok (.if_icmp .ge 5, 3) := by decide +kernel
theorem dL_law_382 : decode cL_law 382 = .ok (.iconst 0, 1) := by decide +kernel
theorem dL_law_383 : decode cL_law 383 = .ok (.ireturn, 1) := by decide +kernel
theorem dL_law_384 : decode cL_law 384 = .ok (.aload_n 1, 1) := by decide +kernel
theorem dL_law_385 : decode cL_law 385 = .ok (.invokevirtual 153, 3) := by decide +kernel
theorem dL_law_388 : decode cL_law 388 = .ok (.istore 9, 2) := by decide +kernel
theorem dL_law_390 : decode cL_law 390 = .ok (.iconst 0, 1) := by decide +kernel
theorem dL_law_391 : decode cL_law 391 = .ok (.istore 10, 2) := by decide +kernel
theorem dL_law_393 : decode cL_law 393 = .ok (.iconst (-1), 1) := by decide +kernel
theorem dL_law_394 : decode cL_law 394 = .ok (.istore 11, 2) := by decide +kernel
theorem dL_law_396 : decode cL_law 396 = .ok (.ldc_w 262, 3) := by decide +kernel
theorem dL_law_399 : decode cL_law 399 = .ok (.istore 12, 2) := by decide +kernel
theorem dL_law_401 : decode cL_law 401 = .ok (.iconst (-1), 1) := by decide +kernel
theorem dL_law_402 : decode cL_law 402 = .ok (.istore 13, 2) := by decide +kernel
theorem dL_law_404 : decode cL_law 404 = .ok (.iconst 0, 1) := by decide +kernel
theorem dL_law_405 : decode cL_law 405 = .ok (.istore 14, 2) := by decide +kernel
theorem dL_law_407 : decode cL_law 407 = .ok (.iconst 0, 1) := by decide +kernel
theorem dL_law_408 : decode cL_law 408 = .ok (.istore 15, 2) := by decide +kernel
theorem dL_law_410 : decode cL_law 410 = .ok (.iconst 0, 1) := by decide +kernel
theorem dL_law_411 : decode cL_law 411 = .ok (.istore 16, 2) := by decide +kernel
theorem dL_law_413 : decode cL_law 413 = .ok (.iload 16, 2) := by decide +kernel
theorem dL_law_415 : decode cL_law 415 = .ok (.iload 4, 2) := by decide +kernel
theorem dL_law_417 : decode cL_law 417 = .ok (.if_icmp .ge 208, 3) := by decide +kernel
theorem dL_law_420 : decode cL_law 420 = .ok (.aload 5, 2) := by decide +kernel
theorem dL_law_422 : decode cL_law 422 = .ok (.iload 16, 2) := by decide +kernel
theorem dL_law_424 : decode cL_law 424 = .ok (.aaload, 1) := by decide +kernel
theorem dL_law_425 : decode cL_law 425 = .ok (.arraylength, 1) := by decide +kernel
theorem dL_law_426 : decode cL_law 426 = .ok (.iconst 2, 1) := by decide +kernel
theorem dL_law_427 : decode cL_law 427 = .ok (.if_icmp .ge 6, 3) := by decide +kernel
theorem dL_law_430 : decode cL_law 430 = .ok (.goto 189, 3) := by decide +kernel
theorem dL_law_433 : decode cL_law 433 = .ok (.iconst 0, 1) := by decide +kernel
theorem dL_law_434 : decode cL_law 434 = .ok (.istore 17, 2) := by decide +kernel
theorem dL_law_436 : decode cL_law 436 = .ok (.iload 17, 2) := by decide +kernel
theorem dL_law_438 : decode cL_law 438 = .ok (.iconst 2, 1) := by decide +kernel
theorem dL_law_439 : decode cL_law 439 = .ok (.if_icmp .ge 180, 3) := by decide +kernel
theorem dL_law_442 : decode cL_law 442 = .ok (.aload 5, 2) := by decide +kernel
theorem dL_law_444 : decode cL_law 444 = .ok (.iload 16, 2) := by decide +kernel
theorem dL_law_446 : decode cL_law 446 = .ok (.aaload, 1) := by decide +kernel
theorem dL_law_447 : decode cL_law 447 = .ok (.aload 6, 2) := by decide +kernel
theorem dL_law_449 : decode cL_law 449 = .ok (.iconst 2, 1) := by decide +kernel
theorem dL_law_450 : decode cL_law 450 = .ok (.iload 16, 2) := by decide +kernel
theorem dL_law_452 : decode cL_law 452 = .ok (.imul, 1) := by decide +kernel
theorem dL_law_453 : decode cL_law 453 = .ok (.iload 17, 2) := by decide +kernel
theorem dL_law_455 : decode cL_law 455 = .ok (.iadd, 1) := by decide +kernel
theorem dL_law_456 : decode cL_law 456 = .ok (.iaload, 1) := by decide +kernel
theorem dL_law_457 : decode cL_law 457 = .ok (.iaload, 1) := by decide +kernel
theorem dL_law_458 : decode cL_law 458 = .ok (.istore 18, 2) := by decide +kernel
theorem dL_law_460 : decode cL_law 460 = .ok (.aload 6, 2) := by decide +kernel
theorem dL_law_462 : decode cL_law 462 = .ok (.iconst 2, 1) := by decide +kernel
theorem dL_law_463 : decode cL_law 463 = .ok (.iload 16, 2) := by decide +kernel
theorem dL_law_465 : decode cL_law 465 = .ok (.imul, 1) := by decide +kernel
theorem dL_law_466 : decode cL_law 466 = .ok (.iload 17, 2) := by decide +kernel
theorem dL_law_468 : decode cL_law 468 = .ok (.iadd, 1) := by decide +kernel
theorem dL_law_469 : decode cL_law 469 = .ok (.dup2, 1) := by decide +kernel
theorem dL_law_470 : decode cL_law 470 = .ok (.iaload, 1) := by decide +kernel
theorem dL_law_471 : decode cL_law 471 = .ok (.iload 17, 2) := by decide +kernel
theorem dL_law_473 : decode cL_law 473 = .ok (.ifCond .ne 7, 3) := by decide +kernel
theorem dL_law_476 : decode cL_law 476 = .ok (.iconst 1, 1) := by decide +kernel
theorem dL_law_477 : decode cL_law 477 = .ok (.goto 4, 3) := by decide +kernel
theorem dL_law_480 : decode cL_law 480 = .ok (.iconst (-1), 1) := by decide +kernel
theorem dL_law_481 : decode cL_law 481 = .ok (.iadd, 1) := by decide +kernel
theorem dL_law_482 : decode cL_law 482 = .ok (.iastore, 1) := by decide +kernel
theorem dL_law_483 : decode cL_law 483 = .ok (.iload 18, 2) := by decide +kernel
theorem dL_law_485 : decode cL_law 485 = .ok (.aload 5, 2) := by decide +kernel
theorem dL_law_487 : decode cL_law 487 = .ok (.aload 6, 2) := by decide +kernel
theorem dL_law_489 : decode cL_law 489 = .ok (.iconst 0, 1) := by decide +kernel
theorem dL_law_490 : decode cL_law 490 = .ok (.invokestatic 190, 3) := by decide +kernel
theorem dL_law_493 : decode cL_law 493 = .ok (.isub, 1) := by decide +kernel
theorem dL_law_494 : decode cL_law 494 = .ok (.istore 19, 2) := by decide +kernel
theorem dL_law_496 : decode cL_law 496 = .ok (.aload 6, 2) := by decide +kernel
theorem dL_law_498 : decode cL_law 498 = .ok (.iconst 2, 1) := by decide +kernel
theorem dL_law_499 : decode cL_law 499 = .ok (.iload 16, 2) := by decide +kernel
theorem dL_law_501 : decode cL_law 501 = .ok (.imul, 1) := by decide +kernel
theorem dL_law_502 : decode cL_law 502 = .ok (.iload 17, 2) := by decide +kernel
theorem dL_law_504 : decode cL_law 504 = .ok (.iadd, 1) := by decide +kernel
theorem dL_law_505 : decode cL_law 505 = .ok (.dup2, 1) := by decide +kernel
theorem dL_law_506 : decode cL_law 506 = .ok (.iaload, 1) := by decide +kernel
theorem dL_law_507 : decode cL_law 507 = .ok (.iload 17, 2) := by decide +kernel
theorem dL_law_509 : decode cL_law 509 = .ok (.ifCond .ne 7, 3) := by decide +kernel
theorem dL_law_512 : decode cL_law 512 = .ok (.iconst 1, 1) := by decide +kernel
theorem dL_law_513 : decode cL_law 513 = .ok (.goto 4, 3) := by decide +kernel
theorem dL_law_516 : decode cL_law 516 = .ok (.iconst (-1), 1) := by decide +kernel
theorem dL_law_517 : decode cL_law 517 = .ok (.isub, 1) := by decide +kernel
theorem dL_law_518 : decode cL_law 518 = .ok (.iastore, 1) := by decide +kernel
theorem dL_law_519 : decode cL_law 519 = .ok (.aload_n 1, 1) := by decide +kernel
theorem dL_law_520 : decode cL_law 520 = .ok (.iload 14, 2) := by decide +kernel
theorem dL_law_522 : decode cL_law 522 = .ok (.iconst 4, 1) := by decide +kernel
theorem dL_law_523 : decode cL_law 523 = .ok (.invokestatic 101, 3) := by decide +kernel
theorem dL_law_526 : decode cL_law 526 = .ok (.iload 19, 2) := by decide +kernel
theorem dL_law_528 : decode cL_law 528 = .ok (.if_icmp .ne 41, 3) := by decide +kernel
theorem dL_law_531 : decode cL_law 531 = .ok (.aload_n 1, 1) := by decide +kernel
theorem dL_law_532 : decode cL_law 532 = .ok (.iload 14, 2) := by decide +kernel
theorem dL_law_534 : decode cL_law 534 = .ok (.iconst 1, 1) := by decide +kernel
theorem dL_law_535 : decode cL_law 535 = .ok (.invokestatic 101, 3) := by decide +kernel
theorem dL_law_538 : decode cL_law 538 = .ok (.iload 18, 2) := by decide +kernel
theorem dL_law_540 : decode cL_law 540 = .ok (.if_icmp .ne 29, 3) := by decide +kernel
theorem dL_law_543 : decode cL_law 543 = .ok (.aload_n 1, 1) := by decide +kernel
theorem dL_law_544 : decode cL_law 544 = .ok (.iload 14, 2) := by decide +kernel
theorem dL_law_546 : decode cL_law 546 = .ok (.iconst 0, 1) := by decide +kernel
theorem dL_law_547 : decode cL_law 547 = .ok (.invokestatic 101, 3) := by decide +kernel
theorem dL_law_550 : decode cL_law 550 = .ok (.iload 16, 2) := by decide +kernel
theorem dL_law_552 : decode cL_law 552 = .ok (.if_icmp .ne 17, 3) := by decide +kernel
theorem dL_law_555 : decode cL_law 555 = .ok (.aload_n 1, 1) := by decide +kernel
theorem dL_law_556 : decode cL_law 556 = .ok (.iload 14, 2) := by decide +kernel
theorem dL_law_558 : decode cL_law 558 = .ok (.iconst 3, 1) := by decide +kernel
theorem dL_law_559 : decode cL_law 559 = .ok (.invokestatic 101, 3) := by decide +kernel
theorem dL_law_562 : decode cL_law 562 = .ok (.iconst 1, 1) := by decide +kernel
theorem dL_law_563 : decode cL_law 563 = .ok (.iload 17, 2) := by decide +kernel
theorem dL_law_565 : decode cL_law 565 = .ok (.isub, 1) := by decide +kernel
theorem dL_law_566 : decode cL_law 566 = .ok (.if_icmp .eq 5, 3) := by decide +kernel
theorem dL_law_569 : decode cL_law 569 = .ok (.iconst 0, 1) := by decide +kernel
theorem dL_law_570 : decode cL_law 570 = .ok (.ireturn, 1) := by decide +kernel
theorem dL_law_571 : decode cL_law 571 = .ok (.iload 19, 2) := by decide +kernel
theorem dL_law_573 : decode cL_law 573 = .ok (.iload 7, 2) := by decide +kernel
theorem dL_law_575 : decode cL_law 575 = .ok (.if_icmp .ne 15, 3) := by decide +kernel
theorem dL_law_578 : decode cL_law 578 = .ok (.iinc 10 1, 3) := by decide +kernel
theorem dL_law_581 : decode cL_law 581 = .ok (.iload 13, 2) := by decide +kernel
theorem dL_law_583 : decode cL_law 583 = .ok (.ifCond .ge 7, 3) := by decide +kernel
theorem dL_law_586 : decode cL_law 586 = .ok (.iload 14, 2) := by decide +kernel
theorem dL_law_588 : decode cL_law 588 = .ok (.istore 13, 2) := by decide +kernel
theorem dL_law_590 : decode cL_law 590 = .ok (.iload 19, 2) := by decide +kernel
theorem dL_law_592 : decode cL_law 592 = .ok (.iload 12, 2) := by decide +kernel
theorem dL_law_594 : decode cL_law 594 = .ok (.if_icmp .ge 7, 3) := by decide +kernel
theorem dL_law_597 : decode cL_law 597 = .ok (.iload 14, 2) := by decide +kernel
theorem dL_law_599 : decode cL_law 599 = .ok (.istore 11, 2) := by decide +kernel
theorem dL_law_601 : decode cL_law 601 = .ok (.iload 12, 2) := by decide +kernel
theorem dL_law_603 : decode cL_law 603 = .ok (.iload 19, 2) := by decide +kernel
theorem dL_law_605 : decode cL_law 605 = .ok (.invokestatic 263, 3) := by decide +kernel
theorem dL_law_608 : decode cL_law 608 = .ok (.istore 12, 2) := by decide +kernel
theorem dL_law_610 : decode cL_law 610 = .ok (.iinc 14 1, 3) := by decide +kernel
theorem dL_law_613 : decode cL_law 613 = .ok (.iinc 17 1, 3) := by decide +kernel
theorem dL_law_616 : decode cL_law 616 = .ok (.goto (-180), 3) := by decide +kernel
theorem dL_law_619 : decode cL_law 619 = .ok (.iinc 16 1, 3) := by decide +kernel
theorem dL_law_622 : decode cL_law 622 = .ok (.goto (-209), 3) := by decide +kernel
theorem dL_law_625 : decode cL_law 625 = .ok (.iload_n 2, 1) := by decide +kernel
theorem dL_law_626 : decode cL_law 626 = .ok (.ifCond .eq 7, 3) := by decide +kernel
theorem dL_law_629 : decode cL_law 629 = .ok (.iconst 0, 1) := by decide +kernel
theorem dL_law_630 : decode cL_law 630 = .ok (.goto 12, 3) := by decide +kernel
theorem dL_law_633 : decode cL_law 633 = .ok (.aload 5, 2) := by decide +kernel
theorem dL_law_635 : decode cL_law 635 = .ok (.aload 6, 2) := by decide +kernel
theorem dL_law_637 : decode cL_law 637 = .ok (.iconst 1, 1) := by decide +kernel
theorem dL_law_638 : decode cL_law 638 = .ok (.invokestatic 190, 3) := by decide +kernel
theorem dL_law_641 : decode cL_law 641 = .ok (.ineg, 1) := by decide +kernel
theorem dL_law_642 : decode cL_law 642 = .ok (.istore 16, 2) := by decide +kernel
theorem dL_law_644 : decode cL_law 644 = .ok (.iload 14, 2) := by decide +kernel
theorem dL_law_646 : decode cL_law 646 = .ok (.iload 9, 2) := by decide +kernel
theorem dL_law_648 : decode cL_law 648 = .ok (.iconst 1, 1) := by decide +kernel
theorem dL_law_649 : decode cL_law 649 = .ok (.isub, 1) := by decide +kernel
theorem dL_law_650 : decode cL_law 650 = .ok (.if_icmp .ne 37, 3) := by decide +kernel
theorem dL_law_653 : decode cL_law 653 = .ok (.aload_n 1, 1) := by decide +kernel
theorem dL_law_654 : decode cL_law 654 = .ok (.iload 14, 2) := by decide +kernel
theorem dL_law_656 : decode cL_law 656 = .ok (.iconst 4, 1) := by decide +kernel
theorem dL_law_657 : decode cL_law 657 = .ok (.invokestatic 101, 3) := by decide +kernel
theorem dL_law_660 : decode cL_law 660 = .ok (.iload 16, 2) := by decide +kernel
theorem dL_law_662 : decode cL_law 662 = .ok (.if_icmp .ne 25, 3) := by decide +kernel
theorem dL_law_665 : decode cL_law 665 = .ok (.aload_n 1, 1) := by decide +kernel
theorem dL_law_666 : decode cL_law 666 = .ok (.iload 14, 2) := by decide +kernel
theorem dL_law_668 : decode cL_law 668 = .ok (.iconst 2, 1) := by decide +kernel
theorem dL_law_669 : decode cL_law 669 = .ok (.invokestatic 101, 3) := by decide +kernel
theorem dL_law_672 : decode cL_law 672 = .ok (.iconst 1, 1) := by decide +kernel
theorem dL_law_673 : decode cL_law 673 = .ok (.if_icmp .ne 14, 3) := by decide +kernel
theorem dL_law_676 : decode cL_law 676 = .ok (.aload_n 1, 1) := by decide +kernel
theorem dL_law_677 : decode cL_law 677 = .ok (.iload 14, 2) := by decide +kernel
theorem dL_law_679 : decode cL_law 679 = .ok (.iconst 0, 1) := by decide +kernel
theorem dL_law_680 : decode cL_law 680 = .ok (.invokestatic 101, 3) := by decide +kernel
theorem dL_law_683 : decode cL_law 683 = .ok (.iconst (-1), 1) := by decide +kernel
theorem dL_law_684 : decode cL_law 684 = .ok (.if_icmp .eq 5, 3) := by decide +kernel
theorem dL_law_687 : decode cL_law 687 = .ok (.iconst 0, 1) := by decide +kernel
theorem dL_law_688 : decode cL_law 688 = .ok (.ireturn, 1) := by decide +kernel
theorem dL_law_689 : decode cL_law 689 = .ok (.iload 16, 2) := by decide +kernel
theorem dL_law_691 : decode cL_law 691 = .ok (.iload 7, 2) := by decide +kernel
theorem dL_law_693 : decode cL_law 693 = .ok (.if_icmp .ne 28, 3) := by decide +kernel
theorem dL_law_696 : decode cL_law 696 = .ok (.iinc 10 1, 3) := by decide +kernel
theorem dL_law_699 : decode cL_law 699 = .ok (.iload 10, 2) := by decide +kernel
theorem dL_law_701 : decode cL_law 701 = .ok (.iconst 1, 1) := by decide +kernel
theorem dL_law_702 : decode cL_law 702 = .ok (.if_icmp .ne 7, 3) := by decide +kernel
theorem dL_law_705 : decode cL_law 705 = .ok (.iconst 1, 1) := by decide +kernel
theorem dL_law_706 : decode cL_law 706 = .ok (.goto 4, 3) := by decide +kernel
theorem dL_law_709 : decode cL_law 709 = .ok (.iconst 0, 1) := by decide +kernel
theorem dL_law_710 : decode cL_law 710 = .ok (.istore 15, 2) := by decide +kernel
theorem dL_law_712 : decode cL_law 712 = .ok (.iload 13, 2) := by decide +kernel
theorem dL_law_714 : decode cL_law 714 = .ok (.ifCond .ge 7, 3) := by decide +kernel
theorem dL_law_717 : decode cL_law 717 = .ok (.iload 14, 2) := by decide +kernel
theorem dL_law_719 : decode cL_law 719 = .ok (.istore 13, 2) := by decide +kernel
theorem dL_law_721 : decode cL_law 721 = .ok (.iload 16, 2) := by decide +kernel
theorem dL_law_723 : decode cL_law 723 = .ok (.iload 12, 2) := by decide +kernel
theorem dL_law_725 : decode cL_law 725 = .ok (.if_icmp .ge 7, 3) := by decide +kernel
theorem dL_law_728 : decode cL_law 728 = .ok (.iload 14, 2) := by decide +kernel
theorem dL_law_730 : decode cL_law 730 = .ok (.istore 11, 2) := by decide +kernel
theorem dL_law_732 : decode cL_law 732 = .ok (.aload_n 1, 1) := by decide +kernel
theorem dL_law_733 : decode cL_law 733 = .ok (.invokestatic 250, 3) := by decide +kernel
theorem dL_law_736 : decode cL_law 736 = .ok (.iload 11, 2) := by decide +kernel
theorem dL_law_738 : decode cL_law 738 = .ok (.if_icmp .ne 30, 3) := by decide +kernel
theorem dL_law_741 : decode cL_law 741 = .ok (.aload_n 1, 1) := by decide +kernel
theorem dL_law_742 : decode cL_law 742 = .ok (.invokestatic 229, 3) := by decide +kernel
theorem dL_law_745 : decode cL_law 745 = .ok (.iload 13, 2) := by decide +kernel
theorem dL_law_747 : decode cL_law 747 = .ok (.if_icmp .ne 21, 3) := by decide +kernel
theorem dL_law_750 : decode cL_law 750 = .ok (.aload_n 1, 1) := by decide +kernel
theorem dL_law_751 : decode cL_law 751 = .ok (.invokevirtual 232, 3) := by decide +kernel
theorem dL_law_754 : decode cL_law 754 = .ok (.iload 10, 2) := by decide +kernel
theorem dL_law_756 : decode cL_law 756 = .ok (.if_icmp .ne 12, 3) := by decide +kernel
theorem dL_law_759 : decode cL_law 759 = .ok (.aload_n 1, 1) := by decide +kernel
theorem dL_law_760 : decode cL_law 760 = .ok (.invokevirtual 235, 3) := by decide +kernel
theorem dL_law_763 : decode cL_law 763 = .ok (.iload 15, 2) := by decide +kernel
theorem dL_law_765 : decode cL_law 765 = .ok (.if_icmp .eq 5, 3) := by decide +kernel
theorem dL_law_768 : decode cL_law 768 = .ok (.iconst 0, 1) := by decide +kernel
theorem dL_law_769 : decode cL_law 769 = .ok (.ireturn, 1) := by decide +kernel
theorem dL_law_770 : decode cL_law 770 = .ok (.aload 5, 2) := by decide +kernel
theorem dL_law_772 : decode cL_law 772 = .ok (.aload 6, 2) := by decide +kernel
theorem dL_law_774 : decode cL_law 774 = .ok (.invokestatic 203, 3) := by decide +kernel
theorem dL_law_777 : decode cL_law 777 = .ok (.istore 17, 2) := by decide +kernel
theorem dL_law_779 : decode cL_law 779 = .ok (.aload 5, 2) := by decide +kernel
theorem dL_law_781 : decode cL_law 781 = .ok (.iload 17, 2) := by decide +kernel
theorem dL_law_783 : decode cL_law 783 = .ok (.iconst 2, 1) := by decide +kernel
theorem dL_law_784 : decode cL_law 784 = .ok (.idiv, 1) := by decide +kernel
theorem dL_law_785 : decode cL_law 785 = .ok (.aaload, 1) := by decide +kernel
theorem dL_law_786 : decode cL_law 786 = .ok (.aload 6, 2) := by decide +kernel
theorem dL_law_788 : decode cL_law 788 = .ok (.iload 17, 2) := by decide +kernel
theorem dL_law_790 : decode cL_law 790 = .ok (.iaload, 1) := by decide +kernel
theorem dL_law_791 : decode cL_law 791 = .ok (.iaload, 1) := by decide +kernel
theorem dL_law_792 : decode cL_law 792 = .ok (.istore 18, 2) := by decide +kernel
theorem dL_law_794 : decode cL_law 794 = .ok (.aload 6, 2) := by decide +kernel
theorem dL_law_796 : decode cL_law 796 = .ok (.iload 17, 2) := by decide +kernel
theorem dL_law_798 : decode cL_law 798 = .ok (.dup2, 1) := by decide +kernel
theorem dL_law_799 : decode cL_law 799 = .ok (.iaload, 1) := by decide +kernel
theorem dL_law_800 : decode cL_law 800 = .ok (.iload 17, 2) := by decide +kernel
theorem dL_law_802 : decode cL_law 802 = .ok (.iconst 2, 1) := by decide +kernel
theorem dL_law_803 : decode cL_law 803 = .ok (.irem, 1) := by decide +kernel
theorem dL_law_804 : decode cL_law 804 = .ok (.ifCond .ne 7, 3) := by decide +kernel
theorem dL_law_807 : decode cL_law 807 = .ok (.iconst 1, 1) := by decide +kernel
theorem dL_law_808 : decode cL_law 808 = .ok (.goto 4, 3) := by decide +kernel
theorem dL_law_811 : decode cL_law 811 = .ok (.iconst (-1), 1) := by decide +kernel
theorem dL_law_812 : decode cL_law 812 = .ok (.iadd, 1) := by decide +kernel
theorem dL_law_813 : decode cL_law 813 = .ok (.iastore, 1) := by decide +kernel
theorem dL_law_814 : decode cL_law 814 = .ok (.iload 18, 2) := by decide +kernel
theorem dL_law_816 : decode cL_law 816 = .ok (.aload 5, 2) := by decide +kernel
theorem dL_law_818 : decode cL_law 818 = .ok (.aload 6, 2) := by decide +kernel
theorem dL_law_820 : decode cL_law 820 = .ok (.iconst 0, 1) := by decide +kernel
theorem dL_law_821 : decode cL_law 821 = .ok (.invokestatic 206, 3) := by decide +kernel
theorem dL_law_824 : decode cL_law 824 = .ok (.isub, 1) := by decide +kernel
theorem dL_law_825 : decode cL_law 825 = .ok (.istore 19, 2) := by decide +kernel
theorem dL_law_827 : decode cL_law 827 = .ok (.aload 6, 2) := by decide +kernel
theorem dL_law_829 : decode cL_law 829 = .ok (.iload 17, 2) := by decide +kernel
theorem dL_law_831 : decode cL_law 831 = .ok (.dup2, 1) := by decide +kernel
theorem dL_law_832 : decode cL_law 832 = .ok (.iaload, 1) := by decide +kernel
theorem dL_law_833 : decode cL_law 833 = .ok (.iload 17, 2) := by decide +kernel
theorem dL_law_835 : decode cL_law 835 = .ok (.iconst 2, 1) := by decide +kernel
theorem dL_law_836 : decode cL_law 836 = .ok (.irem, 1) := by decide +kernel
theorem dL_law_837 : decode cL_law 837 = .ok (.ifCond .ne 7, 3) := by decide +kernel
theorem dL_law_840 : decode cL_law 840 = .ok (.iconst 1, 1) := by decide +kernel
theorem dL_law_841 : decode cL_law 841 = .ok (.goto 4, 3) := by decide +kernel
theorem dL_law_844 : decode cL_law 844 = .ok (.iconst (-1), 1) := by decide +kernel
theorem dL_law_845 : decode cL_law 845 = .ok (.isub, 1) := by decide +kernel
theorem dL_law_846 : decode cL_law 846 = .ok (.iastore, 1) := by decide +kernel
theorem dL_law_847 : decode cL_law 847 = .ok (.aload_n 1, 1) := by decide +kernel
theorem dL_law_848 : decode cL_law 848 = .ok (.invokevirtual 256, 3) := by decide +kernel
theorem dL_law_851 : decode cL_law 851 = .ok (.iload 18, 2) := by decide +kernel
theorem dL_law_853 : decode cL_law 853 = .ok (.if_icmp .ne 12, 3) := by decide +kernel
theorem dL_law_856 : decode cL_law 856 = .ok (.aload_n 1, 1) := by decide +kernel
theorem dL_law_857 : decode cL_law 857 = .ok (.invokevirtual 253, 3) := by decide +kernel
theorem dL_law_860 : decode cL_law 860 = .ok (.iload 19, 2) := by decide +kernel
theorem dL_law_862 : decode cL_law 862 = .ok (.if_icmp .eq 5, 3) := by decide +kernel
theorem dL_law_865 : decode cL_law 865 = .ok (.iconst 0, 1) := by decide +kernel
theorem dL_law_866 : decode cL_law 866 = .ok (.ireturn, 1) := by decide +kernel
theorem dL_law_867 : decode cL_law 867 = .ok (.aload_n 1, 1) := by decide +kernel
theorem dL_law_868 : decode cL_law 868 = .ok (.invokestatic 241, 3) := by decide +kernel
theorem dL_law_871 : decode cL_law 871 = .ok (.istore 20, 2) := by decide +kernel
theorem dL_law_873 : decode cL_law 873 = .ok (.aload_n 1, 1) := by decide +kernel
theorem dL_law_874 : decode cL_law 874 = .ok (.iload 20, 2) := by decide +kernel
theorem dL_law_876 : decode cL_law 876 = .ok (.iconst 0, 1) := by decide +kernel
theorem dL_law_877 : decode cL_law 877 = .ok (.invokestatic 101, 3) := by decide +kernel
theorem dL_law_880 : decode cL_law 880 = .ok (.iload 17, 2) := by decide +kernel
theorem dL_law_882 : decode cL_law 882 = .ok (.iconst 2, 1) := by decide +kernel
theorem dL_law_883 : decode cL_law 883 = .ok (.idiv, 1) := by decide +kernel
theorem dL_law_884 : decode cL_law 884 = .ok (.if_icmp .ne 19, 3) := by decide +kernel
theorem dL_law_887 : decode cL_law 887 = .ok (.aload_n 1, 1) := by decide +kernel
theorem dL_law_888 : decode cL_law 888 = .ok (.iload 20, 2) := by decide +kernel
theorem dL_law_890 : decode cL_law 890 = .ok (.iconst 3, 1) := by decide +kernel
theorem dL_law_891 : decode cL_law 891 = .ok (.invokestatic 101, 3) := by decide +kernel
theorem dL_law_894 : decode cL_law 894 = .ok (.iconst 1, 1) := by decide +kernel
theorem dL_law_895 : decode cL_law 895 = .ok (.iload 17, 2) := by decide +kernel
theorem dL_law_897 : decode cL_law 897 = .ok (.iconst 2, 1) := by decide +kernel
theorem dL_law_898 : decode cL_law 898 = .ok (.irem, 1) := by decide +kernel
theorem dL_law_899 : decode cL_law 899 = .ok (.isub, 1) := by decide +kernel
theorem dL_law_900 : decode cL_law 900 = .ok (.if_icmp .eq 5, 3) := by decide +kernel
theorem dL_law_903 : decode cL_law 903 = .ok (.iconst 0, 1) := by decide +kernel
theorem dL_law_904 : decode cL_law 904 = .ok (.ireturn, 1) := by decide +kernel
theorem dL_law_905 : decode cL_law 905 = .ok (.iconst 0, 1) := by decide +kernel
theorem dL_law_906 : decode cL_law 906 = .ok (.istore 21, 2) := by decide +kernel
theorem dL_law_908 : decode cL_law 908 = .ok (.iconst 1, 1) := by decide +kernel
theorem dL_law_909 : decode cL_law 909 = .ok (.istore 22, 2) := by decide +kernel
theorem dL_law_911 : decode cL_law 911 = .ok (.aload_n 1, 1) := by decide +kernel
theorem dL_law_912 : decode cL_law 912 = .ok (.invokevirtual 238, 3) := by decide +kernel
theorem dL_law_915 : decode cL_law 915 = .ok (.istore 23, 2) := by decide +kernel
theorem dL_law_917 : decode cL_law 917 = .ok (.iconst 0, 1) := by decide +kernel
theorem dL_law_918 : decode cL_law 918 = .ok (.istore 24, 2) := by decide +kernel
theorem dL_law_920 : decode cL_law 920 = .ok (.iload 24, 2) := by decide +kernel
theorem dL_law_922 : decode cL_law 922 = .ok (.iload 23, 2) := by decide +kernel
theorem dL_law_924 : decode cL_law 924 = .ok (.if_icmp .ge 28, 3) := by decide +kernel
theorem dL_law_927 : decode cL_law 927 = .ok (.iload 21, 2) := by decide +kernel
theorem dL_law_929 : decode cL_law 929 = .ok (.iload 22, 2) := by decide +kernel
theorem dL_law_931 : decode cL_law 931 = .ok (.aload_n 1, 1) := by decide +kernel
theorem dL_law_932 : decode cL_law 932 = .ok (.iload 24, 2) := by decide +kernel
theorem dL_law_934 : decode cL_law 934 = .ok (.invokestatic 266, 3) := by decide +kernel
theorem dL_law_937 : decode cL_law 937 = .ok (.imul, 1) := by decide +kernel
theorem dL_law_938 : decode cL_law 938 = .ok (.iadd, 1) := by decide +kernel
theorem dL_law_939 : decode cL_law 939 = .ok (.istore 21, 2) := by decide +kernel
theorem dL_law_941 : decode cL_law 941 = .ok (.iload 22, 2) := by decide +kernel
theorem dL_law_943 : decode cL_law 943 = .ok (.ineg, 1) := by decide +kernel
theorem dL_law_944 : decode cL_law 944 = .ok (.istore 22, 2) := by decide +kernel
theorem dL_law_946 : decode cL_law 946 = .ok (.iinc 24 1, 3) := by decide +kernel
theorem dL_law_949 : decode cL_law 949 = .ok (.goto (-29), 3) := by decide +kernel
theorem dL_law_952 : decode cL_law 952 = .ok (.iload 21, 2) := by decide +kernel
theorem dL_law_954 : decode cL_law 954 = .ok (.iload 7, 2) := by decide +kernel
theorem dL_law_956 : decode cL_law 956 = .ok (.if_icmp .ne 39, 3) := by decide +kernel
theorem dL_law_959 : decode cL_law 959 = .ok (.aload_n 1, 1) := by decide +kernel
theorem dL_law_960 : decode cL_law 960 = .ok (.iload 23, 2) := by decide +kernel
theorem dL_law_962 : decode cL_law 962 = .ok (.invokestatic 266, 3) := by decide +kernel
theorem dL_law_965 : decode cL_law 965 = .ok (.bipush (-20), 2) := by decide +kernel
theorem dL_law_967 : decode cL_law 967 = .ok (.if_icmp .ne 28, 3) := by decide +kernel
theorem dL_law_970 : decode cL_law 970 = .ok (.aload_n 1, 1) := by decide +kernel
theorem dL_law_971 : decode cL_law 971 = .ok (.iconst (-1), 1) := by decide +kernel
theorem dL_law_972 : decode cL_law 972 = .ok (.invokestatic 266, 3) := by decide +kernel
theorem dL_law_975 : decode cL_law 975 = .ok (.bipush (-20), 2) := by decide +kernel
theorem dL_law_977 : decode cL_law 977 = .ok (.if_icmp .ne 18, 3) := by decide +kernel
theorem dL_law_980 : decode cL_law 980 = .ok (.aload_n 1, 1) := by decide +kernel
theorem dL_law_981 : decode cL_law 981 = .ok (.iconst 0, 1) := by decide +kernel
theorem dL_law_982 : decode cL_law 982 = .ok (.invokestatic 266, 3) := by decide +kernel
theorem dL_law_985 : decode cL_law 985 = .ok (.aload_n 1, 1) := by decide +kernel
theorem dL_law_986 : decode cL_law 986 = .ok (.iload 13, 2) := by decide +kernel
theorem dL_law_988 : decode cL_law 988 = .ok (.iconst 1, 1) := by decide +kernel
theorem dL_law_989 : decode cL_law 989 = .ok (.invokestatic 101, 3) := by decide +kernel
theorem dL_law_992 : decode cL_law 992 = .ok (.if_icmp .eq 5, 3) := by decide +kernel
theorem dL_law_995 : decode cL_law 995 = .ok (.iconst 0, 1) := by decide +kernel
theorem dL_law_996 : decode cL_law 996 = .ok (.ireturn, 1) := by decide +kernel
theorem dL_law_997 : decode cL_law 997 = .ok (.aload_n 0, 1) := by decide +kernel
theorem dL_law_998 : decode cL_law 998 = .ok (.bipush 8, 2) := by decide +kernel
theorem dL_law_1000 : decode cL_law 1000 = .ok (.iload_n 3, 1) := by decide +kernel
theorem dL_law_1001 : decode cL_law 1001 = .ok (.iadd, 1) := by decide +kernel
theorem dL_law_1002 : decode cL_law 1002 = .ok (.invokestatic 116, 3) := by decide +kernel
theorem dL_law_1005 : decode cL_law 1005 = .ok (.iload 9, 2) := by decide +kernel
theorem dL_law_1007 : decode cL_law 1007 = .ok (.invokestatic 120, 3) := by decide +kernel
theorem dL_law_1010 : decode cL_law 1010 = .ok (.istore 24, 2) := by decide +kernel
theorem dL_law_1012 : decode cL_law 1012 = .ok (.aload_n 1, 1) := by decide +kernel
theorem dL_law_1013 : decode cL_law 1013 = .ok (.iload 24, 2) := by decide +kernel
theorem dL_law_1015 : decode cL_law 1015 = .ok (.iconst 2, 1) := by decide +kernel
theorem dL_law_1016 : decode cL_law 1016 = .ok (.invokestatic 101, 3) := by decide +kernel
theorem dL_law_1019 : decode cL_law 1019 = .ok (.iconst 1, 1) := by decide +kernel
theorem dL_law_1020 : decode cL_law 1020 = .ok (.if_icmp .ne 7, 3) := by decide +kernel
theorem dL_law_1023 : decode cL_law 1023 = .ok (.iconst 1, 1) := by decide +kernel
theorem dL_law_1024 : decode cL_law 1024 = .ok (.goto 4, 3) := by decide +kernel
theorem dL_law_1027 : decode cL_law 1027 = .ok (.iconst 0, 1) := by decide +kernel
theorem dL_law_1028 : decode cL_law 1028 = .ok (.istore_n 2, 1) := by decide +kernel
theorem dL_law_1029 : decode cL_law 1029 = .ok (.aload_n 1, 1) := by decide +kernel
theorem dL_law_1030 : decode cL_law 1030 = .ok (.iload 24, 2) := by decide +kernel
theorem dL_law_1032 : decode cL_law 1032 = .ok (.invokestatic 269, 3) := by decide +kernel
theorem dL_law_1035 : decode cL_law 1035 = .ok (.ifCond .ge 5, 3) := by decide +kernel
theorem dL_law_1038 : decode cL_law 1038 = .ok (.iconst 0, 1) := by decide +kernel
theorem dL_law_1039 : decode cL_law 1039 = .ok (.ireturn, 1) := by decide +kernel
theorem dL_law_1040 : decode cL_law 1040 = .ok (.iinc 3 1, 3) := by decide +kernel
theorem dL_law_1043 : decode cL_law 1043 = .ok (.goto (-991), 3) := by decide +kernel
theorem dL_law_1046 : decode cL_law 1046 = .ok (.aload_n 1, 1) := by decide +kernel
theorem dL_law_1047 : decode cL_law 1047 = .ok (.aload_n 1, 1) := by decide +kernel
theorem dL_law_1048 : decode cL_law 1048 = .ok (.invokevirtual 153, 3) := by decide +kernel
theorem dL_law_1051 : decode cL_law 1051 = .ok (.iconst 4, 1) := by decide +kernel
theorem dL_law_1052 : decode cL_law 1052 = .ok (.invokestatic 101, 3) := by decide +kernel
theorem dL_law_1055 : decode cL_law 1055 = .ok (.sipush (-2000), 3) := by decide +kernel
theorem dL_law_1058 : decode cL_law 1058 = .ok (.if_icmp .ne 43, 3) := by decide +kernel
theorem dL_law_1061 : decode cL_law 1061 = .ok (.aload_n 1, 1) := by decide +kernel
theorem dL_law_1062 : decode cL_law 1062 = .ok (.iconst (-1), 1) := by decide +kernel
theorem dL_law_1063 : decode cL_law 1063 = .ok (.iconst 1, 1) := by decide +kernel
