theorem dX0_init_0 : decode cX0_init 0 = .ok (.aload_n 0, 1) := by decide +kernel
theorem dX0_init_1 : decode cX0_init 1 = .ok (.invokespecial 3, 3) := by decide +kernel
theorem dX0_init_4 : decode cX0_init 4 = .ok (.aload_n 0, 1) := by decide +kernel
theorem dX0_init_5 : decode cX0_init 5 = .ok (.bipush 8, 2) := by decide +kernel
theorem dX0_init_7 : decode cX0_init 7 = .ok (.anewarray 9, 3) := by decide +kernel
theorem dX0_init_10 : decode cX0_init 10 = .ok (.putfield 11, 3) := by decide +kernel
theorem dX0_init_13 : decode cX0_init 13 = .ok (.iconst 0, 1) := by decide +kernel
theorem dX0_init_14 : decode cX0_init 14 = .ok (.istore_n 1, 1) := by decide +kernel
theorem dX0_init_15 : decode cX0_init 15 = .ok (.iload_n 1, 1) := by decide +kernel
theorem dX0_init_16 : decode cX0_init 16 = .ok (.aload_n 0, 1) := by decide +kernel
theorem dX0_init_17 : decode cX0_init 17 = .ok (.getfield 11, 3) := by decide +kernel
theorem dX0_init_20 : decode cX0_init 20 = .ok (.arraylength, 1) := by decide +kernel
theorem dX0_init_21 : decode cX0_init 21 = .ok (.if_icmp .ge 22, 3) := by decide +kernel
theorem dX0_init_24 : decode cX0_init 24 = .ok (.aload_n 0, 1) := by decide +kernel
theorem dX0_init_25 : decode cX0_init 25 = .ok (.getfield 11, 3) := by decide +kernel
theorem dX0_init_28 : decode cX0_init 28 = .ok (.iload_n 1, 1) := by decide +kernel
theorem dX0_init_29 : decode cX0_init 29 = .ok (.new 9, 3) := by decide +kernel
theorem dX0_init_32 : decode cX0_init 32 = .ok (.dup, 1) := by decide +kernel
theorem dX0_init_33 : decode cX0_init 33 = .ok (.invokespecial 17, 3) := by decide +kernel
theorem dX0_init_36 : decode cX0_init 36 = .ok (.aastore, 1) := by decide +kernel
theorem dX0_init_37 : decode cX0_init 37 = .ok (.iinc 1 1, 3) := by decide +kernel
theorem dX0_init_40 : decode cX0_init 40 = .ok (.goto (-25), 3) := by decide +kernel
theorem dX0_init_43 : decode cX0_init 43 = .ok (.return_, 1) := by decide +kernel
theorem dX0_clear_0 : decode cX0_clear 0 = .ok (.aload_n 0, 1) := by decide +kernel
theorem dX0_clear_1 : decode cX0_clear 1 = .ok (.iconst 0, 1) := by decide +kernel
theorem dX0_clear_2 : decode cX0_clear 2 = .ok (.putfield 18, 3) := by decide +kernel
theorem dX0_clear_5 : decode cX0_clear 5 = .ok (.return_, 1) := by decide +kernel
theorem dX0_remember_0 : decode cX0_remember 0 = .ok (.aload_n 0, 1) := by decide +kernel
theorem dX0_remember_1 : decode cX0_remember 1 = .ok (.aload_n 0, 1) := by decide +kernel
theorem dX0_remember_2 : decode cX0_remember 2 = .ok (.getfield 22, 3) := by decide +kernel
theorem dX0_remember_5 : decode cX0_remember 5 = .ok (.invokevirtual 25, 3) := by decide +kernel
theorem dX0_remember_8 : decode cX0_remember 8 = .ok (.astore_n 2, 1) := by decide +kernel
theorem dX0_remember_9 : decode cX0_remember 9 = .ok (.aload_n 2, 1) := by decide +kernel
theorem dX0_remember_10 : decode cX0_remember 10 = .ok (.ifnull 8, 3) := by decide +kernel
theorem dX0_remember_13 : decode cX0_remember 13 = .ok (.aload_n 2, 1) := by decide +kernel
theorem dX0_remember_14 : decode cX0_remember 14 = .ok (.aload_n 1, 1) := by decide +kernel
theorem dX0_remember_15 : decode cX0_remember 15 = .ok (.invokevirtual 29, 3) := by decide +kernel
theorem dX0_remember_18 : decode cX0_remember 18 = .ok (.aload_n 0, 1) := by decide +kernel
theorem dX0_remember_19 : decode cX0_remember 19 = .ok (.aload_n 0, 1) := by decide +kernel
theorem dX0_remember_20 : decode cX0_remember 20 = .ok (.getfield 22, 3) := by decide +kernel
theorem dX0_remember_23 : decode cX0_remember 23 = .ok (.iconst 1, 1) := by decide +kernel
theorem dX0_remember_24 : decode cX0_remember 24 = .ok (.iadd, 1) := by decide +kernel
theorem dX0_remember_25 : decode cX0_remember 25 = .ok (.bipush 8, 2) := by decide +kernel
theorem dX0_remember_27 : decode cX0_remember 27 = .ok (.if_icmp .ge 12, 3) := by decide +kernel
theorem dX0_remember_30 : decode cX0_remember 30 = .ok (.aload_n 0, 1) := by decide +kernel
theorem dX0_remember_31 : decode cX0_remember 31 = .ok (.getfield 22, 3) := by decide +kernel
theorem dX0_remember_34 : decode cX0_remember 34 = .ok (.iconst 1, 1) := by decide +kernel
theorem dX0_remember_35 : decode cX0_remember 35 = .ok (.iadd, 1) := by decide +kernel
theorem dX0_remember_36 : decode cX0_remember 36 = .ok (.goto 4, 3) := by decide +kernel
theorem dX0_remember_39 : decode cX0_remember 39 = .ok (.iconst 0, 1) := by decide +kernel
theorem dX0_remember_40 : decode cX0_remember 40 = .ok (.putfield 22, 3) := by decide +kernel
theorem dX0_remember_43 : decode cX0_remember 43 = .ok (.aload_n 0, 1) := by decide +kernel
theorem dX0_remember_44 : decode cX0_remember 44 = .ok (.aload_n 0, 1) := by decide +kernel
theorem dX0_remember_45 : decode cX0_remember 45 = .ok (.getfield 18, 3) := by decide +kernel
theorem dX0_remember_48 : decode cX0_remember 48 = .ok (.iconst 1, 1) := by decide +kernel
theorem dX0_remember_49 : decode cX0_remember 49 = .ok (.iadd, 1) := by decide +kernel
theorem dX0_remember_50 : decode cX0_remember 50 = .ok (.bipush 8, 2) := by decide +kernel
theorem dX0_remember_52 : decode cX0_remember 52 = .ok (.invokestatic 33, 3) := by decide +kernel
theorem dX0_remember_55 : decode cX0_remember 55 = .ok (.putfield 18, 3) := by decide +kernel
theorem dX0_remember_58 : decode cX0_remember 58 = .ok (.return_, 1) := by decide +kernel
theorem dX0_slotAt_0 : decode cX0_slotAt 0 = .ok (.iload_n 1, 1) := by decide +kernel
theorem dX0_slotAt_1 : decode cX0_slotAt 1 = .ok (.ifCond .lt 21, 3) := by decide +kernel
theorem dX0_slotAt_4 : decode cX0_slotAt 4 = .ok (.iload_n 1, 1) := by decide +kernel
theorem dX0_slotAt_5 : decode cX0_slotAt 5 = .ok (.aload_n 0, 1) := by decide +kernel
theorem dX0_slotAt_6 : decode cX0_slotAt 6 = .ok (.getfield 11, 3) := by decide +kernel
theorem dX0_slotAt_9 : decode cX0_slotAt 9 = .ok (.arraylength, 1) := by decide +kernel
theorem dX0_slotAt_10 : decode cX0_slotAt 10 = .ok (.if_icmp .ge 12, 3) := by decide +kernel
theorem dX0_slotAt_13 : decode cX0_slotAt 13 = .ok (.aload_n 0, 1) := by decide +kernel
theorem dX0_slotAt_14 : decode cX0_slotAt 14 = .ok (.getfield 11, 3) := by decide +kernel
theorem dX0_slotAt_17 : decode cX0_slotAt 17 = .ok (.iload_n 1, 1) := by decide +kernel
theorem dX0_slotAt_18 : decode cX0_slotAt 18 = .ok (.aaload, 1) := by decide +kernel
theorem dX0_slotAt_19 : decode cX0_slotAt 19 = .ok (.goto 4, 3) := by decide +kernel
theorem dX0_slotAt_22 : decode cX0_slotAt 22 = .ok (.aconst_null, 1) := by decide +kernel
theorem dX0_slotAt_23 : decode cX0_slotAt 23 = .ok (.areturn, 1) := by decide +kernel
theorem dX1_init_0 : decode cX1_init 0 = .ok (.aload_n 0, 1) := by decide +kernel
theorem dX1_init_1 : decode cX1_init 1 = .ok (.invokespecial 3, 3) := by decide +kernel
theorem dX1_init_4 : decode cX1_init 4 = .ok (.aload_n 0, 1) := by decide +kernel
theorem dX1_init_5 : decode cX1_init 5 = .ok (.iconst 4, 1) := by decide +kernel
theorem dX1_init_6 : decode cX1_init 6 = .ok (.newarray .int, 2) := by decide +kernel
theorem dX1_init_8 : decode cX1_init 8 = .ok (.putfield 9, 3) := by decide +kernel
theorem dX1_init_11 : decode cX1_init 11 = .ok (.aload_n 0, 1) := by decide +kernel
theorem dX1_init_12 : decode cX1_init 12 = .ok (.bipush 12, 2) := by decide +kernel
theorem dX1_init_14 : decode cX1_init 14 = .ok (.newarray .int, 2) := by decide +kernel
theorem dX1_init_16 : decode cX1_init 16 = .ok (.putfield 15, 3) := by decide +kernel
theorem dX1_init_19 : decode cX1_init 19 = .ok (.aload_n 0, 1) := by decide +kernel
theorem dX1_init_20 : decode cX1_init 20 = .ok (.bipush 96, 2) := by decide +kernel
theorem dX1_init_22 : decode cX1_init 22 = .ok (.newarray .int, 2) := by decide +kernel
theorem dX1_init_24 : decode cX1_init 24 = .ok (.putfield 18, 3) := by decide +kernel
theorem dX1_init_27 : decode cX1_init 27 = .ok (.aload_n 0, 1) := by decide +kernel
theorem dX1_init_28 : decode cX1_init 28 = .ok (.bipush 96, 2) := by decide +kernel
theorem dX1_init_30 : decode cX1_init 30 = .ok (.newarray .int, 2) := by decide +kernel
theorem dX1_init_32 : decode cX1_init 32 = .ok (.putfield 21, 3) := by decide +kernel
theorem dX1_init_35 : decode cX1_init 35 = .ok (.aload_n 0, 1) := by decide +kernel
theorem dX1_init_36 : decode cX1_init 36 = .ok (.bipush 96, 2) := by decide +kernel
theorem dX1_init_38 : decode cX1_init 38 = .ok (.newarray .int, 2) := by decide +kernel
theorem dX1_init_40 : decode cX1_init 40 = .ok (.putfield 24, 3) := by decide +kernel
theorem dX1_init_43 : decode cX1_init 43 = .ok (.return_, 1) := by decide +kernel
theorem dX1_copyFrom_0 : decode cX1_copyFrom 0 = .ok (.aload_n 0, 1) := by decide +kernel
theorem dX1_copyFrom_1 : decode cX1_copyFrom 1 = .ok (.aload_n 1, 1) := by decide +kernel
theorem dX1_copyFrom_2 : decode cX1_copyFrom 2 = .ok (.getfield 27, 3) := by decide +kernel
theorem dX1_copyFrom_5 : decode cX1_copyFrom 5 = .ok (.putfield 27, 3) := by decide +kernel
theorem dX1_copyFrom_8 : decode cX1_copyFrom 8 = .ok (.aload_n 1, 1) := by decide +kernel
theorem dX1_copyFrom_9 : decode cX1_copyFrom 9 = .ok (.getfield 9, 3) := by decide +kernel
theorem dX1_copyFrom_12 : decode cX1_copyFrom 12 = .ok (.aload_n 0, 1) := by decide +kernel
theorem dX1_copyFrom_13 : decode cX1_copyFrom 13 = .ok (.getfield 9, 3) := by decide +kernel
theorem dX1_copyFrom_16 : decode cX1_copyFrom 16 = .ok (.invokestatic 31, 3) := by decide +kernel
theorem dX1_copyFrom_19 : decode cX1_copyFrom 19 = .ok (.aload_n 1, 1) := by decide +kernel
theorem dX1_copyFrom_20 : decode cX1_copyFrom 20 = .ok (.getfield 15, 3) := by decide +kernel
theorem dX1_copyFrom_23 : decode cX1_copyFrom 23 = .ok (.aload_n 0, 1) := by decide +kernel
theorem dX1_copyFrom_24 : decode cX1_copyFrom 24 = .ok (.getfield 15, 3) := by decide +kernel
theorem dX1_copyFrom_27 : decode cX1_copyFrom 27 = .ok (.invokestatic 31, 3) := by decide +kernel
theorem dX1_copyFrom_30 : decode cX1_copyFrom 30 = .ok (.aload_n 1, 1) := by decide +kernel
theorem dX1_copyFrom_31 : decode cX1_copyFrom 31 = .ok (.getfield 18, 3) := by decide +kernel
theorem dX1_copyFrom_34 : decode cX1_copyFrom 34 = .ok (.aload_n 0, 1) := by decide +kernel
theorem dX1_copyFrom_35 : decode cX1_copyFrom 35 = .ok (.getfield 18, 3) := by decide +kernel
theorem dX1_copyFrom_38 : decode cX1_copyFrom 38 = .ok (.invokestatic 31, 3) := by decide +kernel
theorem dX1_copyFrom_41 : decode cX1_copyFrom 41 = .ok (.aload_n 1, 1) := by decide +kernel
theorem dX1_copyFrom_42 : decode cX1_copyFrom 42 = .ok (.getfield 21, 3) := by decide +kernel
theorem dX1_copyFrom_45 : decode cX1_copyFrom 45 = .ok (.aload_n 0, 1) := by decide +kernel
theorem dX1_copyFrom_46 : decode cX1_copyFrom 46 = .ok (.getfield 21, 3) := by decide +kernel
theorem dX1_copyFrom_49 : decode cX1_copyFrom 49 = .ok (.invokestatic 31, 3) := by decide +kernel
theorem dX1_copyFrom_52 : decode cX1_copyFrom 52 = .ok (.aload_n 1, 1) := by decide +kernel
theorem dX1_copyFrom_53 : decode cX1_copyFrom 53 = .ok (.getfield 24, 3) := by decide +kernel
theorem dX1_copyFrom_56 : decode cX1_copyFrom 56 = .ok (.aload_n 0, 1) := by decide +kernel
theorem dX1_copyFrom_57 : decode cX1_copyFrom 57 = .ok (.getfield 24, 3) := by decide +kernel
theorem dX1_copyFrom_60 : decode cX1_copyFrom 60 = .ok (.invokestatic 31, 3) := by decide +kernel
theorem dX1_copyFrom_63 : decode cX1_copyFrom 63 = .ok (.return_, 1) := by decide +kernel
theorem dX1_clear_0 : decode cX1_clear 0 = .ok (.aload_n 0, 1) := by decide +kernel
theorem dX1_clear_1 : decode cX1_clear 1 = .ok (.iconst 0, 1) := by decide +kernel
theorem dX1_clear_2 : decode cX1_clear 2 = .ok (.putfield 27, 3) := by decide +kernel
theorem dX1_clear_5 : decode cX1_clear 5 = .ok (.return_, 1) := by decide +kernel
theorem dX1_openRound_0 : decode cX1_openRound 0 = .ok (.aload_n 0, 1) := by decide +kernel
theorem dX1_openRound_1 : decode cX1_openRound 1 = .ok (.getfield 9, 3) := by decide +kernel
theorem dX1_openRound_4 : decode cX1_openRound 4 = .ok (.aload_n 0, 1) := by decide +kernel
theorem dX1_openRound_5 : decode cX1_openRound 5 = .ok (.getfield 27, 3) := by decide +kernel
theorem dX1_openRound_8 : decode cX1_openRound 8 = .ok (.iconst 0, 1) := by decide +kernel
theorem dX1_openRound_9 : decode cX1_openRound 9 = .ok (.invokestatic 35, 3) := by decide +kernel
theorem dX1_openRound_12 : decode cX1_openRound 12 = .ok (.aload_n 0, 1) := by decide +kernel
theorem dX1_openRound_13 : decode cX1_openRound 13 = .ok (.dup, 1) := by decide +kernel
theorem dX1_openRound_14 : decode cX1_openRound 14 = .ok (.getfield 27, 3) := by decide +kernel
theorem dX1_openRound_17 : decode cX1_openRound 17 = .ok (.iconst 1, 1) := by decide +kernel
theorem dX1_openRound_18 : decode cX1_openRound 18 = .ok (.iadd, 1) := by decide +kernel
theorem dX1_openRound_19 : decode cX1_openRound 19 = .ok (.putfield 27, 3) := by decide +kernel
theorem dX1_openRound_22 : decode cX1_openRound 22 = .ok (.return_, 1) := by decide +kernel
theorem dX1_openChain_0 : decode cX1_openChain 0 = .ok (.aload_n 0, 1) := by decide +kernel
theorem dX1_openChain_1 : decode cX1_openChain 1 = .ok (.getfield 27, 3) := by decide +kernel
theorem dX1_openChain_4 : decode cX1_openChain 4 = .ok (.iconst 1, 1) := by decide +kernel
theorem dX1_openChain_5 : decode cX1_openChain 5 = .ok (.isub, 1) := by decide +kernel
theorem dX1_openChain_6 : decode cX1_openChain 6 = .ok (.istore_n 1, 1) := by decide +kernel
theorem dX1_openChain_7 : decode cX1_openChain 7 = .ok (.aload_n 0, 1) := by decide +kernel
theorem dX1_openChain_8 : decode cX1_openChain 8 = .ok (.getfield 9, 3) := by decide +kernel
theorem dX1_openChain_11 : decode cX1_openChain 11 = .ok (.iload_n 1, 1) := by decide +kernel
theorem dX1_openChain_12 : decode cX1_openChain 12 = .ok (.invokestatic 39, 3) := by decide +kernel
theorem dX1_openChain_15 : decode cX1_openChain 15 = .ok (.istore_n 2, 1) := by decide +kernel
theorem dX1_openChain_16 : decode cX1_openChain 16 = .ok (.aload_n 0, 1) := by decide +kernel
theorem dX1_openChain_17 : decode cX1_openChain 17 = .ok (.getfield 15, 3) := by decide +kernel
theorem dX1_openChain_20 : decode cX1_openChain 20 = .ok (.iload_n 1, 1) := by decide +kernel
theorem dX1_openChain_21 : decode cX1_openChain 21 = .ok (.iconst 3, 1) := by decide +kernel
theorem dX1_openChain_22 : decode cX1_openChain 22 = .ok (.imul, 1) := by decide +kernel
theorem dX1_openChain_23 : decode cX1_openChain 23 = .ok (.iload_n 2, 1) := by decide +kernel
theorem dX1_openChain_24 : decode cX1_openChain 24 = .ok (.iadd, 1) := by decide +kernel
theorem dX1_openChain_25 : decode cX1_openChain 25 = .ok (.iconst 0, 1) := by decide +kernel
theorem dX1_openChain_26 : decode cX1_openChain 26 = .ok (.invokestatic 35, 3) := by decide +kernel
theorem dX1_openChain_29 : decode cX1_openChain 29 = .ok (.aload_n 0, 1) := by decide +kernel
theorem dX1_openChain_30 : decode cX1_openChain 30 = .ok (.getfield 9, 3) := by decide +kernel
theorem dX1_openChain_33 : decode cX1_openChain 33 = .ok (.iload_n 1, 1) := by decide +kernel
theorem dX1_openChain_34 : decode cX1_openChain 34 = .ok (.iload_n 2, 1) := by decide +kernel
theorem dX1_openChain_35 : decode cX1_openChain 35 = .ok (.iconst 1, 1) := by decide +kernel
theorem dX1_openChain_36 : decode cX1_openChain 36 = .ok (.iadd, 1) := by decide +kernel
theorem dX1_openChain_37 : decode cX1_openChain 37 = .ok (.invokestatic 35, 3) := by decide +kernel
theorem dX1_openChain_40 : decode cX1_openChain 40 = .ok (.return_, 1) := by decide +kernel
theorem dX1_addTile_0 : decode cX1_addTile 0 = .ok (.aload_n 0, 1) := by decide +kernel
theorem dX1_addTile_1 : decode cX1_addTile 1 = .ok (.getfield 27, 3) := by decide +kernel
theorem dX1_addTile_4 : decode cX1_addTile 4 = .ok (.iconst 1, 1) := by decide +kernel
theorem dX1_addTile_5 : decode cX1_addTile 5 = .ok (.isub, 1) := by decide +kernel
theorem dX1_addTile_6 : decode cX1_addTile 6 = .ok (.istore_n 3, 1) := by decide +kernel
theorem dX1_addTile_7 : decode cX1_addTile 7 = .ok (.aload_n 0, 1) := by decide +kernel
theorem dX1_addTile_8 : decode cX1_addTile 8 = .ok (.getfield 9, 3) := by decide +kernel
theorem dX1_addTile_11 : decode cX1_addTile 11 = .ok (.iload_n 3, 1) := by decide +kernel
theorem dX1_addTile_12 : decode cX1_addTile 12 = .ok (.invokestatic 39, 3) := by decide +kernel
theorem dX1_addTile_15 : decode cX1_addTile 15 = .ok (.iconst 1, 1) := by decide +kernel
theorem dX1_addTile_16 : decode cX1_addTile 16 = .ok (.isub, 1) := by decide +kernel
theorem dX1_addTile_17 : decode cX1_addTile 17 = .ok (.istore 4, 2) := by decide +kernel
theorem dX1_addTile_19 : decode cX1_addTile 19 = .ok (.aload_n 0, 1) := by decide +kernel
theorem dX1_addTile_20 : decode cX1_addTile 20 = .ok (.iload_n 3, 1) := by decide +kernel
theorem dX1_addTile_21 : decode cX1_addTile 21 = .ok (.iload 4, 2) := by decide +kernel
theorem dX1_addTile_23 : decode cX1_addTile 23 = .ok (.invokevirtual 43, 3) := by decide +kernel
theorem dX1_addTile_26 : decode cX1_addTile 26 = .ok (.istore 5, 2) := by decide +kernel
theorem dX1_addTile_28 : decode cX1_addTile 28 = .ok (.aload_n 0, 1) := by decide +kernel
theorem dX1_addTile_29 : decode cX1_addTile 29 = .ok (.iload_n 3, 1) := by decide +kernel
theorem dX1_addTile_30 : decode cX1_addTile 30 = .ok (.iload 4, 2) := by decide +kernel
theorem dX1_addTile_32 : decode cX1_addTile 32 = .ok (.iload 5, 2) := by decide +kernel
theorem dX1_addTile_34 : decode cX1_addTile 34 = .ok (.invokevirtual 47, 3) := by decide +kernel
theorem dX1_addTile_37 : decode cX1_addTile 37 = .ok (.istore 6, 2) := by decide +kernel
theorem dX1_addTile_39 : decode cX1_addTile 39 = .ok (.aload_n 0, 1) := by decide +kernel
theorem dX1_addTile_40 : decode cX1_addTile 40 = .ok (.getfield 18, 3) := by decide +kernel
theorem dX1_addTile_43 : decode cX1_addTile 43 = .ok (.iload 6, 2) := by decide +kernel
theorem dX1_addTile_45 : decode cX1_addTile 45 = .ok (.iload_n 1, 1) := by decide +kernel
theorem dX1_addTile_46 : decode cX1_addTile 46 = .ok (.invokestatic 35, 3) := by decide +kernel
theorem dX1_addTile_49 : decode cX1_addTile 49 = .ok (.aload_n 0, 1) := by decide +kernel
theorem dX1_addTile_50 : decode cX1_addTile 50 = .ok (.getfield 21, 3) := by decide +kernel
theorem dX1_addTile_53 : decode cX1_addTile 53 = .ok (.iload 6, 2) := by decide +kernel
theorem dX1_addTile_55 : decode cX1_addTile 55 = .ok (.iload_n 2, 1) := by decide +kernel
theorem dX1_addTile_56 : decode cX1_addTile 56 = .ok (.invokestatic 35, 3) := by decide +kernel
theorem dX1_addTile_59 : decode cX1_addTile 59 = .ok (.aload_n 0, 1) := by decide +kernel
theorem dX1_addTile_60 : decode cX1_addTile 60 = .ok (.getfield 24, 3) := by decide +kernel
theorem dX1_addTile_63 : decode cX1_addTile 63 = .ok (.iload 6, 2) := by decide +kernel
theorem dX1_addTile_65 : decode cX1_addTile 65 = .ok (.iload_n 1, 1) := by decide +kernel
theorem dX1_addTile_66 : decode cX1_addTile 66 = .ok (.iload_n 2, 1) := by decide +kernel
theorem dX1_addTile_67 : decode cX1_addTile 67 = .ok (.if_icmp .ne 11, 3) := by decide +kernel
theorem dX1_addTile_70 : decode cX1_addTile 70 = .ok (.iconst 2, 1) := by decide +kernel
theorem dX1_addTile_71 : decode cX1_addTile 71 = .ok (.iload_n 1, 1) := by decide +kernel
theorem dX1_addTile_72 : decode cX1_addTile 72 = .ok (.iload_n 2, 1) := by decide +kernel
theorem dX1_addTile_73 : decode cX1_addTile 73 = .ok (.iadd, 1) := by decide +kernel
theorem dX1_addTile_74 : decode cX1_addTile 74 = .ok (.imul, 1) := by decide +kernel
theorem dX1_addTile_75 : decode cX1_addTile 75 = .ok (.goto 6, 3) := by decide +kernel
theorem dX1_addTile_78 : decode cX1_addTile 78 = .ok (.iload_n 1, 1) := by decide +kernel
theorem dX1_addTile_79 : decode cX1_addTile 79 = .ok (.iload_n 2, 1) := by decide +kernel
theorem dX1_addTile_80 : decode cX1_addTile 80 = .ok (.iadd, 1) := by decide +kernel
theorem dX1_addTile_81 : decode cX1_addTile 81 = .ok (.invokestatic 35, 3) := by decide +kernel
theorem dX1_addTile_84 : decode cX1_addTile 84 = .ok (.aload_n 0, 1) := by decide +kernel
theorem dX1_addTile_85 : decode cX1_addTile 85 = .ok (.getfield 15, 3) := by decide +kernel
theorem dX1_addTile_88 : decode cX1_addTile 88 = .ok (.iload_n 3, 1) := by decide +kernel
theorem dX1_addTile_89 : decode cX1_addTile 89 = .ok (.iconst 3, 1) := by decide +kernel
theorem dX1_addTile_90 : decode cX1_addTile 90 = .ok (.imul, 1) := by decide +kernel
theorem dX1_addTile_91 : decode cX1_addTile 91 = .ok (.iload 4, 2) := by decide +kernel
theorem dX1_addTile_93 : decode cX1_addTile 93 = .ok (.iadd, 1) := by decide +kernel
theorem dX1_addTile_94 : decode cX1_addTile 94 = .ok (.iload 5, 2) := by decide +kernel
theorem dX1_addTile_96 : decode cX1_addTile 96 = .ok (.iconst 1, 1) := by decide +kernel
theorem dX1_addTile_97 : decode cX1_addTile 97 = .ok (.iadd, 1) := by decide +kernel
theorem dX1_addTile_98 : decode cX1_addTile 98 = .ok (.invokestatic 35, 3) := by decide +kernel
theorem dX1_addTile_101 : decode cX1_addTile 101 = .ok (.return_, 1) := by decide +kernel
theorem dX1_lengthOf_0 : decode cX1_lengthOf 0 = .ok (.iload_n 2, 1) := by decide +kernel
theorem dX1_lengthOf_1 : decode cX1_lengthOf 1 = .ok (.aload_n 0, 1) := by decide +kernel
theorem dX1_lengthOf_2 : decode cX1_lengthOf 2 = .ok (.getfield 9, 3) := by decide +kernel
theorem dX1_lengthOf_5 : decode cX1_lengthOf 5 = .ok (.iload_n 1, 1) := by decide +kernel
theorem dX1_lengthOf_6 : decode cX1_lengthOf 6 = .ok (.invokestatic 39, 3) := by decide +kernel
theorem dX1_lengthOf_9 : decode cX1_lengthOf 9 = .ok (.if_icmp .ge 18, 3) := by decide +kernel
theorem dX1_lengthOf_12 : decode cX1_lengthOf 12 = .ok (.aload_n 0, 1) := by decide +kernel
theorem dX1_lengthOf_13 : decode cX1_lengthOf 13 = .ok (.getfield 15, 3) := by decide +kernel
theorem dX1_lengthOf_16 : decode cX1_lengthOf 16 = .ok (.iload_n 1, 1) := by decide +kernel
theorem dX1_lengthOf_17 : decode cX1_lengthOf 17 = .ok (.iconst 3, 1) := by decide +kernel
theorem dX1_lengthOf_18 : decode cX1_lengthOf 18 = .ok (.imul, 1) := by decide +kernel
theorem dX1_lengthOf_19 : decode cX1_lengthOf 19 = .ok (.iload_n 2, 1) := by decide +kernel
theorem dX1_lengthOf_20 : decode cX1_lengthOf 20 = .ok (.iadd, 1) := by decide +kernel
theorem dX1_lengthOf_21 : decode cX1_lengthOf 21 = .ok (.invokestatic 39, 3) := by decide +kernel
theorem dX1_lengthOf_24 : decode cX1_lengthOf 24 = .ok (.goto 4, 3) := by decide +kernel
theorem dX1_lengthOf_27 : decode cX1_lengthOf 27 = .ok (.iconst 0, 1) := by decide +kernel
theorem dX1_lengthOf_28 : decode cX1_lengthOf 28 = .ok (.ireturn, 1) := by decide +kernel
theorem dX1_slotOf_0 : decode cX1_slotOf 0 = .ok (.iload_n 1, 1) := by decide +kernel
theorem dX1_slotOf_1 : decode cX1_slotOf 1 = .ok (.iconst 3, 1) := by decide +kernel
theorem dX1_slotOf_2 : decode cX1_slotOf 2 = .ok (.imul, 1) := by decide +kernel
theorem dX1_slotOf_3 : decode cX1_slotOf 3 = .ok (.iload_n 2, 1) := by decide +kernel
theorem dX1_slotOf_4 : decode cX1_slotOf 4 = .ok (.iadd, 1) := by decide +kernel
theorem dX1_slotOf_5 : decode cX1_slotOf 5 = .ok (.bipush 8, 2) := by decide +kernel
theorem dX1_slotOf_7 : decode cX1_slotOf 7 = .ok (.imul, 1) := by decide +kernel
theorem dX1_slotOf_8 : decode cX1_slotOf 8 = .ok (.iload_n 3, 1) := by decide +kernel
theorem dX1_slotOf_9 : decode cX1_slotOf 9 = .ok (.iadd, 1) := by decide +kernel
theorem dX1_slotOf_10 : decode cX1_slotOf 10 = .ok (.ireturn, 1) := by decide +kernel
theorem dX2_init_0 : decode cX2_init 0 = .ok (.aload_n 0, 1) := by decide +kernel
theorem dX2_init_1 : decode cX2_init 1 = .ok (.invokespecial 3, 3) := by decide +kernel
theorem dX2_init_4 : decode cX2_init 4 = .ok (.aload_n 0, 1) := by decide +kernel
theorem dX2_init_5 : decode cX2_init 5 = .ok (.new 9, 3) := by decide +kernel
theorem dX2_init_8 : decode cX2_init 8 = .ok (.dup, 1) := by decide +kernel
theorem dX2_init_9 : decode cX2_init 9 = .ok (.invokespecial 11, 3) := by decide +kernel
theorem dX2_init_12 : decode cX2_init 12 = .ok (.putfield 12, 3) := by decide +kernel
theorem dX2_init_15 : decode cX2_init 15 = .ok (.aload_n 0, 1) := by decide +kernel
theorem dX2_init_16 : decode cX2_init 16 = .ok (.new 18, 3) := by decide +kernel
theorem dX2_init_19 : decode cX2_init 19 = .ok (.dup, 1) := by decide +kernel
theorem dX2_init_20 : decode cX2_init 20 = .ok (.invokespecial 20, 3) := by decide +kernel
theorem dX2_init_23 : decode cX2_init 23 = .ok (.putfield 21, 3) := by decide +kernel
theorem dX2_init_26 : decode cX2_init 26 = .ok (.return_, 1) := by decide +kernel
theorem dX2_copyFrom_0 : decode cX2_copyFrom 0 = .ok (.aload_n 0, 1) := by decide +kernel
theorem dX2_copyFrom_1 : decode cX2_copyFrom 1 = .ok (.getfield 12, 3) := by decide +kernel
theorem dX2_copyFrom_4 : decode cX2_copyFrom 4 = .ok (.aload_n 1, 1) := by decide +kernel
theorem dX2_copyFrom_5 : decode cX2_copyFrom 5 = .ok (.getfield 12, 3) := by decide +kernel
theorem dX2_copyFrom_8 : decode cX2_copyFrom 8 = .ok (.invokevirtual 25, 3) := by decide +kernel
theorem dX2_copyFrom_11 : decode cX2_copyFrom 11 = .ok (.aload_n 0, 1) := by decide +kernel
theorem dX2_copyFrom_12 : decode cX2_copyFrom 12 = .ok (.getfield 21, 3) := by decide +kernel
theorem dX2_copyFrom_15 : decode cX2_copyFrom 15 = .ok (.aload_n 1, 1) := by decide +kernel
theorem dX2_copyFrom_16 : decode cX2_copyFrom 16 = .ok (.getfield 21, 3) := by decide +kernel
theorem dX2_copyFrom_19 : decode cX2_copyFrom 19 = .ok (.invokevirtual 29, 3) := by decide +kernel
theorem dX2_copyFrom_22 : decode cX2_copyFrom 22 = .ok (.return_, 1) := by decide +kernel
theorem dX2_setUpFirst_0 : decode cX2_setUpFirst 0 = .ok (.aload_n 0, 1) := by decide +kernel
theorem dX2_setUpFirst_1 : decode cX2_setUpFirst 1 = .ok (.getfield 12, 3) := by decide +kernel
theorem dX2_setUpFirst_4 : decode cX2_setUpFirst 4 = .ok (.invokevirtual 32, 3) := by decide +kernel
theorem dX2_setUpFirst_7 : decode cX2_setUpFirst 7 = .ok (.aload_n 0, 1) := by decide +kernel
theorem dX2_setUpFirst_8 : decode cX2_setUpFirst 8 = .ok (.getfield 12, 3) := by decide +kernel
theorem dX2_setUpFirst_11 : decode cX2_setUpFirst 11 = .ok (.invokevirtual 35, 3) := by decide +kernel
theorem dX2_setUpFirst_14 : decode cX2_setUpFirst 14 = .ok (.aload_n 0, 1) := by decide +kernel
theorem dX2_setUpFirst_15 : decode cX2_setUpFirst 15 = .ok (.getfield 12, 3) := by decide +kernel
theorem dX2_setUpFirst_18 : decode cX2_setUpFirst 18 = .ok (.invokevirtual 38, 3) := by decide +kernel
theorem dX2_setUpFirst_21 : decode cX2_setUpFirst 21 = .ok (.aload_n 0, 1) := by decide +kernel
theorem dX2_setUpFirst_22 : decode cX2_setUpFirst 22 = .ok (.getfield 12, 3) := by decide +kernel
theorem dX2_setUpFirst_25 : decode cX2_setUpFirst 25 = .ok (.iconst 1, 1) := by decide +kernel
theorem dX2_setUpFirst_26 : decode cX2_setUpFirst 26 = .ok (.iconst 2, 1) := by decide +kernel
theorem dX2_setUpFirst_27 : decode cX2_setUpFirst 27 = .ok (.invokevirtual 41, 3) := by decide +kernel
theorem dX2_setUpFirst_30 : decode cX2_setUpFirst 30 = .ok (.aload_n 0, 1) := by decide +kernel
theorem dX2_setUpFirst_31 : decode cX2_setUpFirst 31 = .ok (.getfield 12, 3) := by decide +kernel
theorem dX2_setUpFirst_34 : decode cX2_setUpFirst 34 = .ok (.iconst 2, 1) := by decide +kernel
theorem dX2_setUpFirst_35 : decode cX2_setUpFirst 35 = .ok (.bipush 6, 2) := by decide +kernel
theorem dX2_setUpFirst_37 : decode cX2_setUpFirst 37 = .ok (.invokevirtual 41, 3) := by decide +kernel
theorem dX2_setUpFirst_40 : decode cX2_setUpFirst 40 = .ok (.aload_n 0, 1) := by decide +kernel
theorem dX2_setUpFirst_41 : decode cX2_setUpFirst 41 = .ok (.getfield 12, 3) := by decide +kernel
theorem dX2_setUpFirst_44 : decode cX2_setUpFirst 44 = .ok (.bipush 6, 2) := by decide +kernel
theorem dX2_setUpFirst_46 : decode cX2_setUpFirst 46 = .ok (.iconst 3, 1) := by decide +kernel
theorem dX2_setUpFirst_47 : decode cX2_setUpFirst 47 = .ok (.invokevirtual 41, 3) := by decide +kernel
theorem dX2_setUpFirst_50 : decode cX2_setUpFirst 50 = .ok (.aload_n 0, 1) := by decide +kernel
theorem dX2_setUpFirst_51 : decode cX2_setUpFirst 51 = .ok (.getfield 12, 3) := by decide +kernel
theorem dX2_setUpFirst_54 : decode cX2_setUpFirst 54 = .ok (.invokevirtual 38, 3) := by decide +kernel
theorem dX2_setUpFirst_57 : decode cX2_setUpFirst 57 = .ok (.aload_n 0, 1) := by decide +kernel
theorem dX2_setUpFirst_58 : decode cX2_setUpFirst 58 = .ok (.getfield 12, 3) := by decide +kernel
theorem dX2_setUpFirst_61 : decode cX2_setUpFirst 61 = .ok (.iconst 0, 1) := by decide +kernel
theorem dX2_setUpFirst_62 : decode cX2_setUpFirst 62 = .ok (.iconst 5, 1) := by decide +kernel
theorem dX2_setUpFirst_63 : decode cX2_setUpFirst 63 = .ok (.invokevirtual 41, 3) := by decide +kernel
theorem dX2_setUpFirst_66 : decode cX2_setUpFirst 66 = .ok (.aload_n 0, 1) := by decide +kernel
theorem dX2_setUpFirst_67 : decode cX2_setUpFirst 67 = .ok (.getfield 12, 3) := by decide +kernel
theorem dX2_setUpFirst_70 : decode cX2_setUpFirst 70 = .ok (.iconst 5, 1) := by decide +kernel
theorem dX2_setUpFirst_71 : decode cX2_setUpFirst 71 = .ok (.iconst 5, 1) := by decide +kernel
theorem dX2_setUpFirst_72 : decode cX2_setUpFirst 72 = .ok (.invokevirtual 41, 3) := by decide +kernel
theorem dX2_setUpFirst_75 : decode cX2_setUpFirst 75 = .ok (.aload_n 0, 1) := by decide +kernel
theorem dX2_setUpFirst_76 : decode cX2_setUpFirst 76 = .ok (.getfield 12, 3) := by decide +kernel
theorem dX2_setUpFirst_79 : decode cX2_setUpFirst 79 = .ok (.iconst 5, 1) := by decide +kernel
theorem dX2_setUpFirst_80 : decode cX2_setUpFirst 80 = .ok (.iconst 1, 1) := by decide +kernel
theorem dX2_setUpFirst_81 : decode cX2_setUpFirst 81 = .ok (.invokevirtual 41, 3) := by decide +kernel
theorem dX2_setUpFirst_84 : decode cX2_setUpFirst 84 = .ok (.aload_n 0, 1) := by decide +kernel
theorem dX2_setUpFirst_85 : decode cX2_setUpFirst 85 = .ok (.invokevirtual 45, 3) := by decide +kernel
theorem dX2_setUpFirst_88 : decode cX2_setUpFirst 88 = .ok (.return_, 1) := by decide +kernel
theorem dX2_beginMatch_0 : decode cX2_beginMatch 0 = .ok (.aload_n 0, 1) := by decide +kernel
theorem dX2_beginMatch_1 : decode cX2_beginMatch 1 = .ok (.getfield 21, 3) := by decide +kernel
theorem dX2_beginMatch_4 : decode cX2_beginMatch 4 = .ok (.invokevirtual 48, 3) := by decide +kernel
theorem dX2_beginMatch_7 : decode cX2_beginMatch 7 = .ok (.aload_n 0, 1) := by decide +kernel
theorem dX2_beginMatch_8 : decode cX2_beginMatch 8 = .ok (.iconst 0, 1) := by decide +kernel
theorem dX2_beginMatch_9 : decode cX2_beginMatch 9 = .ok (.iconst 0, 1) := by decide +kernel
theorem dX2_beginMatch_10 : decode cX2_beginMatch 10 = .ok (.invokevirtual 51, 3) := by decide +kernel
theorem dX2_beginMatch_13 : decode cX2_beginMatch 13 = .ok (.return_, 1) := by decide +kernel
theorem dX2_beginRound_0 : decode cX2_beginRound 0 = .ok (.aload_n 0, 1) := by decide +kernel
theorem dX2_beginRound_1 : decode cX2_beginRound 1 = .ok (.getfield 21, 3) := by decide +kernel
theorem dX2_beginRound_4 : decode cX2_beginRound 4 = .ok (.iload_n 1, 1) := by decide +kernel
theorem dX2_beginRound_5 : decode cX2_beginRound 5 = .ok (.putfield 54, 3) := by decide +kernel
theorem dX2_beginRound_8 : decode cX2_beginRound 8 = .ok (.aload_n 0, 1) := by decide +kernel
theorem dX2_beginRound_9 : decode cX2_beginRound 9 = .ok (.getfield 21, 3) := by decide +kernel
theorem dX2_beginRound_12 : decode cX2_beginRound 12 = .ok (.iload_n 2, 1) := by decide +kernel
theorem dX2_beginRound_13 : decode cX2_beginRound 13 = .ok (.putfield 58, 3) := by decide +kernel
theorem dX2_beginRound_16 : decode cX2_beginRound 16 = .ok (.aload_n 0, 1) := by decide +kernel
theorem dX2_beginRound_17 : decode cX2_beginRound 17 = .ok (.getfield 21, 3) := by decide +kernel
theorem dX2_beginRound_20 : decode cX2_beginRound 20 = .ok (.iload_n 2, 1) := by decide +kernel
theorem dX2_beginRound_21 : decode cX2_beginRound 21 = .ok (.putfield 61, 3) := by decide +kernel
theorem dX2_beginRound_24 : decode cX2_beginRound 24 = .ok (.aload_n 0, 1) := by decide +kernel
theorem dX2_beginRound_25 : decode cX2_beginRound 25 = .ok (.getfield 21, 3) := by decide +kernel
theorem dX2_beginRound_28 : decode cX2_beginRound 28 = .ok (.iconst 0, 1) := by decide +kernel
theorem dX2_beginRound_29 : decode cX2_beginRound 29 = .ok (.putfield 64, 3) := by decide +kernel
theorem dX2_beginRound_32 : decode cX2_beginRound 32 = .ok (.aload_n 0, 1) := by decide +kernel
theorem dX2_beginRound_33 : decode cX2_beginRound 33 = .ok (.getfield 21, 3) := by decide +kernel
theorem dX2_beginRound_36 : decode cX2_beginRound 36 = .ok (.iconst 0, 1) := by decide +kernel
theorem dX2_beginRound_37 : decode cX2_beginRound 37 = .ok (.putfield 67, 3) := by decide +kernel
theorem dX2_beginRound_40 : decode cX2_beginRound 40 = .ok (.iconst 0, 1) := by decide +kernel
theorem dX2_beginRound_41 : decode cX2_beginRound 41 = .ok (.istore_n 3, 1) := by decide +kernel
theorem dX2_beginRound_42 : decode cX2_beginRound 42 = .ok (.iload_n 3, 1) := by decide +kernel
theorem dX2_beginRound_43 : decode cX2_beginRound 43 = .ok (.iconst 3, 1) := by decide +kernel
theorem dX2_beginRound_44 : decode cX2_beginRound 44 = .ok (.if_icmp .ge 47, 3) := by decide +kernel
theorem dX2_beginRound_47 : decode cX2_beginRound 47 = .ok (.aload_n 0, 1) := by decide +kernel
theorem dX2_beginRound_48 : decode cX2_beginRound 48 = .ok (.getfield 21, 3) := by decide +kernel
theorem dX2_beginRound_51 : decode cX2_beginRound 51 = .ok (.getfield 70, 3) := by decide +kernel
theorem dX2_beginRound_54 : decode cX2_beginRound 54 = .ok (.iload_n 3, 1) := by decide +kernel
theorem dX2_beginRound_55 : decode cX2_beginRound 55 = .ok (.iconst 0, 1) := by decide +kernel
theorem dX2_beginRound_56 : decode cX2_beginRound 56 = .ok (.invokestatic 74, 3) := by decide +kernel
theorem dX2_beginRound_59 : decode cX2_beginRound 59 = .ok (.aload_n 0, 1) := by decide +kernel
theorem dX2_beginRound_60 : decode cX2_beginRound 60 = .ok (.getfield 21, 3) := by decide +kernel
theorem dX2_beginRound_63 : decode cX2_beginRound 63 = .ok (.getfield 78, 3) := by decide +kernel
theorem dX2_beginRound_66 : decode cX2_beginRound 66 = .ok (.iload_n 3, 1) := by decide +kernel
theorem dX2_beginRound_67 : decode cX2_beginRound 67 = .ok (.iconst 0, 1) := by decide +kernel
theorem dX2_beginRound_68 : decode cX2_beginRound 68 = .ok (.aload_n 0, 1) := by decide +kernel
theorem dX2_beginRound_69 : decode cX2_beginRound 69 = .ok (.getfield 12, 3) := by decide +kernel
theorem dX2_beginRound_72 : decode cX2_beginRound 72 = .ok (.iload_n 1, 1) := by decide +kernel
theorem dX2_beginRound_73 : decode cX2_beginRound 73 = .ok (.iload_n 3, 1) := by decide +kernel
theorem dX2_beginRound_74 : decode cX2_beginRound 74 = .ok (.invokevirtual 81, 3) := by decide +kernel
theorem dX2_beginRound_77 : decode cX2_beginRound 77 = .ok (.iconst 1, 1) := by decide +kernel
theorem dX2_beginRound_78 : decode cX2_beginRound 78 = .ok (.isub, 1) := by decide +kernel
theorem dX2_beginRound_79 : decode cX2_beginRound 79 = .ok (.invokestatic 85, 3) := by decide +kernel
theorem dX2_beginRound_82 : decode cX2_beginRound 82 = .ok (.invokestatic 74, 3) := by decide +kernel
theorem dX2_beginRound_85 : decode cX2_beginRound 85 = .ok (.iinc 3 1, 3) := by decide +kernel
theorem dX2_beginRound_88 : decode cX2_beginRound 88 = .ok (.goto (-46), 3) := by decide +kernel
theorem dX2_beginRound_91 : decode cX2_beginRound 91 = .ok (.aload_n 0, 1) := by decide +kernel
theorem dX2_beginRound_92 : decode cX2_beginRound 92 = .ok (.getfield 21, 3) := by decide +kernel
theorem dX2_beginRound_95 : decode cX2_beginRound 95 = .ok (.aload_n 0, 1) := by decide +kernel
theorem dX2_beginRound_96 : decode cX2_beginRound 96 = .ok (.invokevirtual 90, 3) := by decide +kernel
theorem dX2_beginRound_99 : decode cX2_beginRound 99 = .ok (.ifCond .ne 7, 3) := by decide +kernel
theorem dX2_beginRound_102 : decode cX2_beginRound 102 = .ok (.iconst 1, 1) := by decide +kernel
theorem dX2_beginRound_103 : decode cX2_beginRound 103 = .ok (.goto 4, 3) := by decide +kernel
theorem dX2_beginRound_106 : decode cX2_beginRound 106 = .ok (.iconst 0, 1) := by decide +kernel
theorem dX2_beginRound_107 : decode cX2_beginRound 107 = .ok (.putfield 94, 3) := by decide +kernel
theorem dX2_beginRound_110 : decode cX2_beginRound 110 = .ok (.return_, 1) := by decide +kernel
theorem dX2_beginNext_0 : decode cX2_beginNext 0 = .ok (.aload_n 0, 1) := by decide +kernel
theorem dX2_beginNext_1 : decode cX2_beginNext 1 = .ok (.iconst 0, 1) := by decide +kernel
theorem dX2_beginNext_2 : decode cX2_beginNext 2 = .ok (.invokevirtual 98, 3) := by decide +kernel
theorem dX2_beginNext_5 : decode cX2_beginNext 5 = .ok (.aload_n 0, 1) := by decide +kernel
theorem dX2_beginNext_6 : decode cX2_beginNext 6 = .ok (.iconst 1, 1) := by decide +kernel
theorem dX2_beginNext_7 : decode cX2_beginNext 7 = .ok (.invokevirtual 98, 3) := by decide +kernel
theorem dX2_beginNext_10 : decode cX2_beginNext 10 = .ok (.isub, 1) := by decide +kernel
theorem dX2_beginNext_11 : decode cX2_beginNext 11 = .ok (.invokestatic 102, 3) := by decide +kernel
theorem dX2_beginNext_14 : decode cX2_beginNext 14 = .ok (.istore_n 1, 1) := by decide +kernel
theorem dX2_beginNext_15 : decode cX2_beginNext 15 = .ok (.aload_n 0, 1) := by decide +kernel
theorem dX2_beginNext_16 : decode cX2_beginNext 16 = .ok (.aload_n 0, 1) := by decide +kernel
theorem dX2_beginNext_17 : decode cX2_beginNext 17 = .ok (.getfield 21, 3) := by decide +kernel
theorem dX2_beginNext_20 : decode cX2_beginNext 20 = .ok (.getfield 54, 3) := by decide +kernel
theorem dX2_beginNext_23 : decode cX2_beginNext 23 = .ok (.iconst 1, 1) := by decide +kernel
theorem dX2_beginNext_24 : decode cX2_beginNext 24 = .ok (.iadd, 1) := by decide +kernel
theorem dX2_beginNext_25 : decode cX2_beginNext 25 = .ok (.iload_n 1, 1) := by decide +kernel
theorem dX2_beginNext_26 : decode cX2_beginNext 26 = .ok (.iconst (-1), 1) := by decide +kernel
theorem dX2_beginNext_27 : decode cX2_beginNext 27 = .ok (.if_icmp .ne 13, 3) := by decide +kernel
theorem dX2_beginNext_30 : decode cX2_beginNext 30 = .ok (.aload_n 0, 1) := by decide +kernel
theorem dX2_beginNext_31 : decode cX2_beginNext 31 = .ok (.getfield 21, 3) := by decide +kernel
theorem dX2_beginNext_34 : decode cX2_beginNext 34 = .ok (.getfield 58, 3) := by decide +kernel
theorem dX2_beginNext_37 : decode cX2_beginNext 37 = .ok (.goto 6, 3) := by decide +kernel
theorem dX2_beginNext_40 : decode cX2_beginNext 40 = .ok (.iconst 1, 1) := by decide +kernel
theorem dX2_beginNext_41 : decode cX2_beginNext 41 = .ok (.iload_n 1, 1) := by decide +kernel
theorem dX2_beginNext_42 : decode cX2_beginNext 42 = .ok (.isub, 1) := by decide +kernel
theorem dX2_beginNext_43 : decode cX2_beginNext 43 = .ok (.invokevirtual 51, 3) := by decide +kernel
theorem dX2_beginNext_46 : decode cX2_beginNext 46 = .ok (.return_, 1) := by decide +kernel
theorem dX2_isLastRound_0 : decode cX2_isLastRound 0 = .ok (.aload_n 0, 1) := by decide +kernel
theorem dX2_isLastRound_1 : decode cX2_isLastRound 1 = .ok (.getfield 21, 3) := by decide +kernel
theorem dX2_isLastRound_4 : decode cX2_isLastRound 4 = .ok (.getfield 54, 3) := by decide +kernel
theorem dX2_isLastRound_7 : decode cX2_isLastRound 7 = .ok (.aload_n 0, 1) := by decide +kernel
theorem dX2_isLastRound_8 : decode cX2_isLastRound 8 = .ok (.getfield 12, 3) := by decide +kernel
theorem dX2_isLastRound_11 : decode cX2_isLastRound 11 = .ok (.getfield 105, 3) := by decide +kernel
theorem dX2_isLastRound_14 : decode cX2_isLastRound 14 = .ok (.iconst 1, 1) := by decide +kernel
theorem dX2_isLastRound_15 : decode cX2_isLastRound 15 = .ok (.isub, 1) := by decide +kernel
theorem dX2_isLastRound_16 : decode cX2_isLastRound 16 = .ok (.if_icmp .ne 7, 3) := by decide +kernel
theorem dX2_isLastRound_19 : decode cX2_isLastRound 19 = .ok (.iconst 1, 1) := by decide +kernel
theorem dX2_isLastRound_20 : decode cX2_isLastRound 20 = .ok (.goto 4, 3) := by decide +kernel
theorem dX2_isLastRound_23 : decode cX2_isLastRound 23 = .ok (.iconst 0, 1) := by decide +kernel
theorem dX2_isLastRound_24 : decode cX2_isLastRound 24 = .ok (.ireturn, 1) := by decide +kernel
theorem dX2_chainsNow_0 : decode cX2_chainsNow 0 = .ok (.aload_n 0, 1) := by decide +kernel
theorem dX2_chainsNow_1 : decode cX2_chainsNow 1 = .ok (.getfield 12, 3) := by decide +kernel
theorem dX2_chainsNow_4 : decode cX2_chainsNow 4 = .ok (.getfield 108, 3) := by decide +kernel
theorem dX2_chainsNow_7 : decode cX2_chainsNow 7 = .ok (.aload_n 0, 1) := by decide +kernel
theorem dX2_chainsNow_8 : decode cX2_chainsNow 8 = .ok (.getfield 21, 3) := by decide +kernel
theorem dX2_chainsNow_11 : decode cX2_chainsNow 11 = .ok (.getfield 54, 3) := by decide +kernel
theorem dX2_chainsNow_14 : decode cX2_chainsNow 14 = .ok (.invokestatic 111, 3) := by decide +kernel
theorem dX2_chainsNow_17 : decode cX2_chainsNow 17 = .ok (.ireturn, 1) := by decide +kernel
theorem dX2_lengthNow_0 : decode cX2_lengthNow 0 = .ok (.aload_n 0, 1) := by decide +kernel
theorem dX2_lengthNow_1 : decode cX2_lengthNow 1 = .ok (.getfield 21, 3) := by decide +kernel
theorem dX2_lengthNow_4 : decode cX2_lengthNow 4 = .ok (.getfield 78, 3) := by decide +kernel
theorem dX2_lengthNow_7 : decode cX2_lengthNow 7 = .ok (.iload_n 1, 1) := by decide +kernel
theorem dX2_lengthNow_8 : decode cX2_lengthNow 8 = .ok (.invokestatic 111, 3) := by decide +kernel
theorem dX2_lengthNow_11 : decode cX2_lengthNow 11 = .ok (.aload_n 0, 1) := by decide +kernel
theorem dX2_lengthNow_12 : decode cX2_lengthNow 12 = .ok (.getfield 21, 3) := by decide +kernel
theorem dX2_lengthNow_15 : decode cX2_lengthNow 15 = .ok (.getfield 70, 3) := by decide +kernel
theorem dX2_lengthNow_18 : decode cX2_lengthNow 18 = .ok (.iload_n 1, 1) := by decide +kernel
theorem dX2_lengthNow_19 : decode cX2_lengthNow 19 = .ok (.invokestatic 111, 3) := by decide +kernel
theorem dX2_lengthNow_22 : decode cX2_lengthNow 22 = .ok (.isub, 1) := by decide +kernel
theorem dX2_lengthNow_23 : decode cX2_lengthNow 23 = .ok (.iconst 1, 1) := by decide +kernel
theorem dX2_lengthNow_24 : decode cX2_lengthNow 24 = .ok (.iadd, 1) := by decide +kernel
theorem dX2_lengthNow_25 : decode cX2_lengthNow 25 = .ok (.ireturn, 1) := by decide +kernel
theorem dX2_burnsNow_0 : decode cX2_burnsNow 0 = .ok (.iconst 0, 1) := by decide +kernel
theorem dX2_burnsNow_1 : decode cX2_burnsNow 1 = .ok (.istore_n 1, 1) := by decide +kernel
theorem dX2_burnsNow_2 : decode cX2_burnsNow 2 = .ok (.iconst 0, 1) := by decide +kernel
theorem dX2_burnsNow_3 : decode cX2_burnsNow 3 = .ok (.istore_n 2, 1) := by decide +kernel
theorem dX2_burnsNow_4 : decode cX2_burnsNow 4 = .ok (.iload_n 2, 1) := by decide +kernel
theorem dX2_burnsNow_5 : decode cX2_burnsNow 5 = .ok (.iconst 3, 1) := by decide +kernel
theorem dX2_burnsNow_6 : decode cX2_burnsNow 6 = .ok (.if_icmp .ge 35, 3) := by decide +kernel
theorem dX2_burnsNow_9 : decode cX2_burnsNow 9 = .ok (.iload_n 1, 1) := by decide +kernel
theorem dX2_burnsNow_10 : decode cX2_burnsNow 10 = .ok (.aload_n 0, 1) := by decide +kernel
theorem dX2_burnsNow_11 : decode cX2_burnsNow 11 = .ok (.getfield 21, 3) := by decide +kernel
theorem dX2_burnsNow_14 : decode cX2_burnsNow 14 = .ok (.getfield 78, 3) := by decide +kernel
theorem dX2_burnsNow_17 : decode cX2_burnsNow 17 = .ok (.iload_n 2, 1) := by decide +kernel
theorem dX2_burnsNow_18 : decode cX2_burnsNow 18 = .ok (.invokestatic 111, 3) := by decide +kernel
theorem dX2_burnsNow_21 : decode cX2_burnsNow 21 = .ok (.aload_n 0, 1) := by decide +kernel
theorem dX2_burnsNow_22 : decode cX2_burnsNow 22 = .ok (.getfield 21, 3) := by decide +kernel
theorem dX2_burnsNow_25 : decode cX2_burnsNow 25 = .ok (.getfield 70, 3) := by decide +kernel
theorem dX2_burnsNow_28 : decode cX2_burnsNow 28 = .ok (.iload_n 2, 1) := by decide +kernel
theorem dX2_burnsNow_29 : decode cX2_burnsNow 29 = .ok (.invokestatic 111, 3) := by decide +kernel
theorem dX2_burnsNow_32 : decode cX2_burnsNow 32 = .ok (.isub, 1) := by decide +kernel
theorem dX2_burnsNow_33 : decode cX2_burnsNow 33 = .ok (.iadd, 1) := by decide +kernel
theorem dX2_burnsNow_34 : decode cX2_burnsNow 34 = .ok (.istore_n 1, 1) := by decide +kernel
theorem dX2_burnsNow_35 : decode cX2_burnsNow 35 = .ok (.iinc 2 1, 3) := by decide +kernel
theorem dX2_burnsNow_38 : decode cX2_burnsNow 38 = .ok (.goto (-34), 3) := by decide +kernel
theorem dX2_burnsNow_41 : decode cX2_burnsNow 41 = .ok (.iload_n 1, 1) := by decide +kernel
theorem dX2_burnsNow_42 : decode cX2_burnsNow 42 = .ok (.ireturn, 1) := by decide +kernel
theorem dX2_slotNow_0 : decode cX2_slotNow 0 = .ok (.aload_n 0, 1) := by decide +kernel
theorem dX2_slotNow_1 : decode cX2_slotNow 1 = .ok (.getfield 12, 3) := by decide +kernel
theorem dX2_slotNow_4 : decode cX2_slotNow 4 = .ok (.aload_n 0, 1) := by decide +kernel
theorem dX2_slotNow_5 : decode cX2_slotNow 5 = .ok (.getfield 21, 3) := by decide +kernel
theorem dX2_slotNow_8 : decode cX2_slotNow 8 = .ok (.getfield 54, 3) := by decide +kernel
theorem dX2_slotNow_11 : decode cX2_slotNow 11 = .ok (.iload_n 1, 1) := by decide +kernel
theorem dX2_slotNow_12 : decode cX2_slotNow 12 = .ok (.aload_n 0, 1) := by decide +kernel
theorem dX2_slotNow_13 : decode cX2_slotNow 13 = .ok (.getfield 21, 3) := by decide +kernel
theorem dX2_slotNow_16 : decode cX2_slotNow 16 = .ok (.getfield 70, 3) := by decide +kernel
theorem dX2_slotNow_19 : decode cX2_slotNow 19 = .ok (.iload_n 1, 1) := by decide +kernel
theorem dX2_slotNow_20 : decode cX2_slotNow 20 = .ok (.invokestatic 111, 3) := by decide +kernel
theorem dX2_slotNow_23 : decode cX2_slotNow 23 = .ok (.iload_n 2, 1) := by decide +kernel
theorem dX2_slotNow_24 : decode cX2_slotNow 24 = .ok (.iadd, 1) := by decide +kernel
theorem dX2_slotNow_25 : decode cX2_slotNow 25 = .ok (.invokevirtual 115, 3) := by decide +kernel
theorem dX2_slotNow_28 : decode cX2_slotNow 28 = .ok (.ireturn, 1) := by decide +kernel
theorem dX2_leftNow_0 : decode cX2_leftNow 0 = .ok (.aload_n 0, 1) := by decide +kernel
theorem dX2_leftNow_1 : decode cX2_leftNow 1 = .ok (.getfield 12, 3) := by decide +kernel
theorem dX2_leftNow_4 : decode cX2_leftNow 4 = .ok (.getfield 119, 3) := by decide +kernel
theorem dX2_leftNow_7 : decode cX2_leftNow 7 = .ok (.aload_n 0, 1) := by decide +kernel
theorem dX2_leftNow_8 : decode cX2_leftNow 8 = .ok (.iload_n 1, 1) := by decide +kernel
theorem dX2_leftNow_9 : decode cX2_leftNow 9 = .ok (.iload_n 2, 1) := by decide +kernel
theorem dX2_leftNow_10 : decode cX2_leftNow 10 = .ok (.invokevirtual 122, 3) := by decide +kernel
theorem dX2_leftNow_13 : decode cX2_leftNow 13 = .ok (.invokestatic 111, 3) := by decide +kernel
theorem dX2_leftNow_16 : decode cX2_leftNow 16 = .ok (.ireturn, 1) := by decide +kernel
theorem dX2_rightNow_0 : decode cX2_rightNow 0 = .ok (.aload_n 0, 1) := by decide +kernel
theorem dX2_rightNow_1 : decode cX2_rightNow 1 = .ok (.getfield 12, 3) := by decide +kernel
theorem dX2_rightNow_4 : decode cX2_rightNow 4 = .ok (.getfield 125, 3) := by decide +kernel
theorem dX2_rightNow_7 : decode cX2_rightNow 7 = .ok (.aload_n 0, 1) := by decide +kernel
theorem dX2_rightNow_8 : decode cX2_rightNow 8 = .ok (.iload_n 1, 1) := by decide +kernel
theorem dX2_rightNow_9 : decode cX2_rightNow 9 = .ok (.iload_n 2, 1) := by decide +kernel
theorem dX2_rightNow_10 : decode cX2_rightNow 10 = .ok (.invokevirtual 122, 3) := by decide +kernel
theorem dX2_rightNow_13 : decode cX2_rightNow 13 = .ok (.invokestatic 111, 3) := by decide +kernel
theorem dX2_rightNow_16 : decode cX2_rightNow 16 = .ok (.ireturn, 1) := by decide +kernel
theorem dX2_pointsNow_0 : decode cX2_pointsNow 0 = .ok (.aload_n 0, 1) := by decide +kernel
theorem dX2_pointsNow_1 : decode cX2_pointsNow 1 = .ok (.getfield 12, 3) := by decide +kernel
theorem dX2_pointsNow_4 : decode cX2_pointsNow 4 = .ok (.getfield 128, 3) := by decide +kernel
theorem dX2_pointsNow_7 : decode cX2_pointsNow 7 = .ok (.aload_n 0, 1) := by decide +kernel
theorem dX2_pointsNow_8 : decode cX2_pointsNow 8 = .ok (.iload_n 1, 1) := by decide +kernel
theorem dX2_pointsNow_9 : decode cX2_pointsNow 9 = .ok (.iload_n 2, 1) := by decide +kernel
theorem dX2_pointsNow_10 : decode cX2_pointsNow 10 = .ok (.invokevirtual 122, 3) := by decide +kernel
theorem dX2_pointsNow_13 : decode cX2_pointsNow 13 = .ok (.invokestatic 111, 3) := by decide +kernel
theorem dX2_pointsNow_16 : decode cX2_pointsNow 16 = .ok (.ireturn, 1) := by decide +kernel
theorem dX2_pointsOfChain_0 : decode cX2_pointsOfChain 0 = .ok (.iconst 0, 1) := by decide +kernel
theorem dX2_pointsOfChain_1 : decode cX2_pointsOfChain 1 = .ok (.istore_n 2, 1) := by decide +kernel
theorem dX2_pointsOfChain_2 : decode cX2_pointsOfChain 2 = .ok (.iconst 0, 1) := by decide +kernel
theorem dX2_pointsOfChain_3 : decode cX2_pointsOfChain 3 = .ok (.istore_n 3, 1) := by decide +kernel
theorem dX2_pointsOfChain_4 : decode cX2_pointsOfChain 4 = .ok (.iload_n 3, 1) := by decide +kernel
theorem dX2_pointsOfChain_5 : decode cX2_pointsOfChain 5 = .ok (.aload_n 0, 1) := by decide +kernel
theorem dX2_pointsOfChain_6 : decode cX2_pointsOfChain 6 = .ok (.iload_n 1, 1) := by decide +kernel
theorem dX2_pointsOfChain_7 : decode cX2_pointsOfChain 7 = .ok (.invokevirtual 131, 3) := by decide +kernel
theorem dX2_pointsOfChain_10 : decode cX2_pointsOfChain 10 = .ok (.if_icmp .ge 18, 3) := by decide +kernel
theorem dX2_pointsOfChain_13 : decode cX2_pointsOfChain 13 = .ok (.iload_n 2, 1) := by decide +kernel
theorem dX2_pointsOfChain_14 : decode cX2_pointsOfChain 14 = .ok (.aload_n 0, 1) := by decide +kernel
theorem dX2_pointsOfChain_15 : decode cX2_pointsOfChain 15 = .ok (.iload_n 1, 1) := by decide +kernel
theorem dX2_pointsOfChain_16 : decode cX2_pointsOfChain 16 = .ok (.iload_n 3, 1) := by decide +kernel
theorem dX2_pointsOfChain_17 : decode cX2_pointsOfChain 17 = .ok (.invokevirtual 134, 3) := by decide +kernel
theorem dX2_pointsOfChain_20 : decode cX2_pointsOfChain 20 = .ok (.iadd, 1) := by decide +kernel
theorem dX2_pointsOfChain_21 : decode cX2_pointsOfChain 21 = .ok (.istore_n 2, 1) := by decide +kernel
theorem dX2_pointsOfChain_22 : decode cX2_pointsOfChain 22 = .ok (.iinc 3 1, 3) := by decide +kernel
theorem dX2_pointsOfChain_25 : decode cX2_pointsOfChain 25 = .ok (.goto (-21), 3) := by decide +kernel
theorem dX2_pointsOfChain_28 : decode cX2_pointsOfChain 28 = .ok (.iload_n 2, 1) := by decide +kernel
theorem dX2_pointsOfChain_29 : decode cX2_pointsOfChain 29 = .ok (.ireturn, 1) := by decide +kernel
theorem dX2_scoreOf_0 : decode cX2_scoreOf 0 = .ok (.aload_n 0, 1) := by decide +kernel
theorem dX2_scoreOf_1 : decode cX2_scoreOf 1 = .ok (.getfield 21, 3) := by decide +kernel
theorem dX2_scoreOf_4 : decode cX2_scoreOf 4 = .ok (.getfield 140, 3) := by decide +kernel
theorem dX2_scoreOf_7 : decode cX2_scoreOf 7 = .ok (.iload_n 1, 1) := by decide +kernel
theorem dX2_scoreOf_8 : decode cX2_scoreOf 8 = .ok (.iconst 2, 1) := by decide +kernel
theorem dX2_scoreOf_9 : decode cX2_scoreOf 9 = .ok (.imul, 1) := by decide +kernel
theorem dX2_scoreOf_10 : decode cX2_scoreOf 10 = .ok (.iload_n 2, 1) := by decide +kernel
theorem dX2_scoreOf_11 : decode cX2_scoreOf 11 = .ok (.iadd, 1) := by decide +kernel
theorem dX2_scoreOf_12 : decode cX2_scoreOf 12 = .ok (.invokestatic 111, 3) := by decide +kernel
theorem dX2_scoreOf_15 : decode cX2_scoreOf 15 = .ok (.ireturn, 1) := by decide +kernel
theorem dX2_scoreNow_0 : decode cX2_scoreNow 0 = .ok (.aload_n 0, 1) := by decide +kernel
theorem dX2_scoreNow_1 : decode cX2_scoreNow 1 = .ok (.aload_n 0, 1) := by decide +kernel
theorem dX2_scoreNow_2 : decode cX2_scoreNow 2 = .ok (.getfield 21, 3) := by decide +kernel
theorem dX2_scoreNow_5 : decode cX2_scoreNow 5 = .ok (.getfield 54, 3) := by decide +kernel
theorem dX2_scoreNow_8 : decode cX2_scoreNow 8 = .ok (.iload_n 1, 1) := by decide +kernel
theorem dX2_scoreNow_9 : decode cX2_scoreNow 9 = .ok (.invokevirtual 143, 3) := by decide +kernel
theorem dX2_scoreNow_12 : decode cX2_scoreNow 12 = .ok (.ireturn, 1) := by decide +kernel
theorem dX2_movesNow_0 : decode cX2_movesNow 0 = .ok (.aload_n 0, 1) := by decide +kernel
theorem dX2_movesNow_1 : decode cX2_movesNow 1 = .ok (.getfield 21, 3) := by decide +kernel
theorem dX2_movesNow_4 : decode cX2_movesNow 4 = .ok (.getfield 94, 3) := by decide +kernel
theorem dX2_movesNow_7 : decode cX2_movesNow 7 = .ok (.ifCond .eq 5, 3) := by decide +kernel
theorem dX2_movesNow_10 : decode cX2_movesNow 10 = .ok (.iconst 0, 1) := by decide +kernel
theorem dX2_movesNow_11 : decode cX2_movesNow 11 = .ok (.ireturn, 1) := by decide +kernel
theorem dX2_movesNow_12 : decode cX2_movesNow 12 = .ok (.iconst 1, 1) := by decide +kernel
theorem dX2_movesNow_13 : decode cX2_movesNow 13 = .ok (.istore_n 1, 1) := by decide +kernel
theorem dX2_movesNow_14 : decode cX2_movesNow 14 = .ok (.iconst 0, 1) := by decide +kernel
theorem dX2_movesNow_15 : decode cX2_movesNow 15 = .ok (.istore_n 2, 1) := by decide +kernel
theorem dX2_movesNow_16 : decode cX2_movesNow 16 = .ok (.iload_n 2, 1) := by decide +kernel
theorem dX2_movesNow_17 : decode cX2_movesNow 17 = .ok (.aload_n 0, 1) := by decide +kernel
theorem dX2_movesNow_18 : decode cX2_movesNow 18 = .ok (.invokevirtual 149, 3) := by decide +kernel
theorem dX2_movesNow_21 : decode cX2_movesNow 21 = .ok (.if_icmp .ge 21, 3) := by decide +kernel
theorem dX2_movesNow_24 : decode cX2_movesNow 24 = .ok (.aload_n 0, 1) := by decide +kernel
theorem dX2_movesNow_25 : decode cX2_movesNow 25 = .ok (.iload_n 2, 1) := by decide +kernel
theorem dX2_movesNow_26 : decode cX2_movesNow 26 = .ok (.invokevirtual 131, 3) := by decide +kernel
theorem dX2_movesNow_29 : decode cX2_movesNow 29 = .ok (.iconst 1, 1) := by decide +kernel
theorem dX2_movesNow_30 : decode cX2_movesNow 30 = .ok (.if_icmp .le 6, 3) := by decide +kernel
theorem dX2_movesNow_33 : decode cX2_movesNow 33 = .ok (.iinc 1 2, 3) := by decide +kernel
theorem dX2_movesNow_36 : decode cX2_movesNow 36 = .ok (.iinc 2 1, 3) := by decide +kernel
theorem dX2_movesNow_39 : decode cX2_movesNow 39 = .ok (.goto (-23), 3) := by decide +kernel
theorem dX2_movesNow_42 : decode cX2_movesNow 42 = .ok (.iload_n 1, 1) := by decide +kernel
theorem dX2_movesNow_43 : decode cX2_movesNow 43 = .ok (.ireturn, 1) := by decide +kernel
theorem dX2_codeOfMove_0 : decode cX2_codeOfMove 0 = .ok (.iload_n 1, 1) := by decide +kernel
theorem dX2_codeOfMove_1 : decode cX2_codeOfMove 1 = .ok (.ifCond .lt 13, 3) := by decide +kernel
theorem dX2_codeOfMove_4 : decode cX2_codeOfMove 4 = .ok (.aload_n 0, 1) := by decide +kernel
theorem dX2_codeOfMove_5 : decode cX2_codeOfMove 5 = .ok (.getfield 21, 3) := by decide +kernel
theorem dX2_codeOfMove_8 : decode cX2_codeOfMove 8 = .ok (.getfield 94, 3) := by decide +kernel
theorem dX2_codeOfMove_11 : decode cX2_codeOfMove 11 = .ok (.ifCond .eq 5, 3) := by decide +kernel
theorem dX2_codeOfMove_14 : decode cX2_codeOfMove 14 = .ok (.iconst (-1), 1) := by decide +kernel
theorem dX2_codeOfMove_15 : decode cX2_codeOfMove 15 = .ok (.ireturn, 1) := by decide +kernel
theorem dX2_codeOfMove_16 : decode cX2_codeOfMove 16 = .ok (.iload_n 1, 1) := by decide +kernel
theorem dX2_codeOfMove_17 : decode cX2_codeOfMove 17 = .ok (.istore_n 2, 1) := by decide +kernel
theorem dX2_codeOfMove_18 : decode cX2_codeOfMove 18 = .ok (.iconst 0, 1) := by decide +kernel
theorem dX2_codeOfMove_19 : decode cX2_codeOfMove 19 = .ok (.istore_n 3, 1) := by decide +kernel
theorem dX2_codeOfMove_20 : decode cX2_codeOfMove 20 = .ok (.iload_n 3, 1) := by decide +kernel
theorem dX2_codeOfMove_21 : decode cX2_codeOfMove 21 = .ok (.aload_n 0, 1) := by decide +kernel
theorem dX2_codeOfMove_22 : decode cX2_codeOfMove 22 = .ok (.invokevirtual 149, 3) := by decide +kernel
theorem dX2_codeOfMove_25 : decode cX2_codeOfMove 25 = .ok (.if_icmp .ge 40, 3) := by decide +kernel
theorem dX2_codeOfMove_28 : decode cX2_codeOfMove 28 = .ok (.aload_n 0, 1) := by decide +kernel
theorem dX2_codeOfMove_29 : decode cX2_codeOfMove 29 = .ok (.iload_n 3, 1) := by decide +kernel
theorem dX2_codeOfMove_30 : decode cX2_codeOfMove 30 = .ok (.invokevirtual 131, 3) := by decide +kernel
theorem dX2_codeOfMove_33 : decode cX2_codeOfMove 33 = .ok (.iconst 1, 1) := by decide +kernel
theorem dX2_codeOfMove_34 : decode cX2_codeOfMove 34 = .ok (.if_icmp .le 25, 3) := by decide +kernel
theorem dX2_codeOfMove_37 : decode cX2_codeOfMove 37 = .ok (.iload_n 2, 1) := by decide +kernel
theorem dX2_codeOfMove_38 : decode cX2_codeOfMove 38 = .ok (.iconst 2, 1) := by decide +kernel
theorem dX2_codeOfMove_39 : decode cX2_codeOfMove 39 = .ok (.if_icmp .ge 17, 3) := by decide +kernel
theorem dX2_codeOfMove_42 : decode cX2_codeOfMove 42 = .ok (.iload_n 3, 1) := by decide +kernel
theorem dX2_codeOfMove_43 : decode cX2_codeOfMove 43 = .ok (.iload_n 2, 1) := by decide +kernel
theorem dX2_codeOfMove_44 : decode cX2_codeOfMove 44 = .ok (.ifCond .ne 7, 3) := by decide +kernel
theorem dX2_codeOfMove_47 : decode cX2_codeOfMove 47 = .ok (.iconst 1, 1) := by decide +kernel
theorem dX2_codeOfMove_48 : decode cX2_codeOfMove 48 = .ok (.goto 4, 3) := by decide +kernel
theorem dX2_codeOfMove_51 : decode cX2_codeOfMove 51 = .ok (.iconst 0, 1) := by decide +kernel
theorem dX2_codeOfMove_52 : decode cX2_codeOfMove 52 = .ok (.invokestatic 158, 3) := by decide +kernel
theorem dX2_codeOfMove_55 : decode cX2_codeOfMove 55 = .ok (.ireturn, 1) := by decide +kernel
theorem dX2_codeOfMove_56 : decode cX2_codeOfMove 56 = .ok (.iinc 2 (-2), 3) := by decide +kernel
theorem dX2_codeOfMove_59 : decode cX2_codeOfMove 59 = .ok (.iinc 3 1, 3) := by decide +kernel
theorem dX2_codeOfMove_62 : decode cX2_codeOfMove 62 = .ok (.goto (-42), 3) := by decide +kernel
theorem dX2_codeOfMove_65 : decode cX2_codeOfMove 65 = .ok (.iload_n 2, 1) := by decide +kernel
theorem dX2_codeOfMove_66 : decode cX2_codeOfMove 66 = .ok (.ifCond .ne 8, 3) := by decide +kernel
theorem dX2_codeOfMove_69 : decode cX2_codeOfMove 69 = .ok (.bipush 6, 2) := by decide +kernel
theorem dX2_codeOfMove_71 : decode cX2_codeOfMove 71 = .ok (.goto 4, 3) := by decide +kernel
theorem dX2_codeOfMove_74 : decode cX2_codeOfMove 74 = .ok (.iconst (-1), 1) := by decide +kernel
theorem dX2_codeOfMove_75 : decode cX2_codeOfMove 75 = .ok (.ireturn, 1) := by decide +kernel
theorem dX2_pointsOfCode_0 : decode cX2_pointsOfCode 0 = .ok (.iload_n 1, 1) := by decide +kernel
theorem dX2_pointsOfCode_1 : decode cX2_pointsOfCode 1 = .ok (.bipush 6, 2) := by decide +kernel
theorem dX2_pointsOfCode_3 : decode cX2_pointsOfCode 3 = .ok (.if_icmp .ne 5, 3) := by decide +kernel
theorem dX2_pointsOfCode_6 : decode cX2_pointsOfCode 6 = .ok (.iconst 0, 1) := by decide +kernel
theorem dX2_pointsOfCode_7 : decode cX2_pointsOfCode 7 = .ok (.ireturn, 1) := by decide +kernel
theorem dX2_pointsOfCode_8 : decode cX2_pointsOfCode 8 = .ok (.iload_n 1, 1) := by decide +kernel
theorem dX2_pointsOfCode_9 : decode cX2_pointsOfCode 9 = .ok (.invokestatic 162, 3) := by decide +kernel
theorem dX2_pointsOfCode_12 : decode cX2_pointsOfCode 12 = .ok (.istore_n 2, 1) := by decide +kernel
theorem dX2_pointsOfCode_13 : decode cX2_pointsOfCode 13 = .ok (.iload_n 1, 1) := by decide +kernel
theorem dX2_pointsOfCode_14 : decode cX2_pointsOfCode 14 = .ok (.invokestatic 165, 3) := by decide +kernel
theorem dX2_pointsOfCode_17 : decode cX2_pointsOfCode 17 = .ok (.ifCond .eq 13, 3) := by decide +kernel
theorem dX2_pointsOfCode_20 : decode cX2_pointsOfCode 20 = .ok (.aload_n 0, 1) := by decide +kernel
theorem dX2_pointsOfCode_21 : decode cX2_pointsOfCode 21 = .ok (.getfield 21, 3) := by decide +kernel
theorem dX2_pointsOfCode_24 : decode cX2_pointsOfCode 24 = .ok (.getfield 70, 3) := by decide +kernel
theorem dX2_pointsOfCode_27 : decode cX2_pointsOfCode 27 = .ok (.goto 10, 3) := by decide +kernel
theorem dX2_pointsOfCode_30 : decode cX2_pointsOfCode 30 = .ok (.aload_n 0, 1) := by decide +kernel
theorem dX2_pointsOfCode_31 : decode cX2_pointsOfCode 31 = .ok (.getfield 21, 3) := by decide +kernel
theorem dX2_pointsOfCode_34 : decode cX2_pointsOfCode 34 = .ok (.getfield 78, 3) := by decide +kernel
theorem dX2_pointsOfCode_37 : decode cX2_pointsOfCode 37 = .ok (.astore_n 3, 1) := by decide +kernel
theorem dX2_pointsOfCode_38 : decode cX2_pointsOfCode 38 = .ok (.aload_n 0, 1) := by decide +kernel
theorem dX2_pointsOfCode_39 : decode cX2_pointsOfCode 39 = .ok (.getfield 12, 3) := by decide +kernel
theorem dX2_pointsOfCode_42 : decode cX2_pointsOfCode 42 = .ok (.getfield 128, 3) := by decide +kernel
theorem dX2_pointsOfCode_45 : decode cX2_pointsOfCode 45 = .ok (.aload_n 0, 1) := by decide +kernel
theorem dX2_pointsOfCode_46 : decode cX2_pointsOfCode 46 = .ok (.getfield 12, 3) := by decide +kernel
theorem dX2_pointsOfCode_49 : decode cX2_pointsOfCode 49 = .ok (.aload_n 0, 1) := by decide +kernel
theorem dX2_pointsOfCode_50 : decode cX2_pointsOfCode 50 = .ok (.getfield 21, 3) := by decide +kernel
theorem dX2_pointsOfCode_53 : decode cX2_pointsOfCode 53 = .ok (.getfield 54, 3) := by decide +kernel
theorem dX2_pointsOfCode_56 : decode cX2_pointsOfCode 56 = .ok (.iload_n 2, 1) := by decide +kernel
theorem dX2_pointsOfCode_57 : decode cX2_pointsOfCode 57 = .ok (.aload_n 3, 1) := by decide +kernel
theorem dX2_pointsOfCode_58 : decode cX2_pointsOfCode 58 = .ok (.iload_n 2, 1) := by decide +kernel
theorem dX2_pointsOfCode_59 : decode cX2_pointsOfCode 59 = .ok (.invokestatic 111, 3) := by decide +kernel
theorem dX2_pointsOfCode_62 : decode cX2_pointsOfCode 62 = .ok (.invokevirtual 115, 3) := by decide +kernel
theorem dX2_pointsOfCode_65 : decode cX2_pointsOfCode 65 = .ok (.invokestatic 111, 3) := by decide +kernel
theorem dX2_pointsOfCode_68 : decode cX2_pointsOfCode 68 = .ok (.ireturn, 1) := by decide +kernel
theorem dX2_greediestMove_0 : decode cX2_greediestMove 0 = .ok (.iconst (-1), 1) := by decide +kernel
theorem dX2_greediestMove_1 : decode cX2_greediestMove 1 = .ok (.istore_n 1, 1) := by decide +kernel
theorem dX2_greediestMove_2 : decode cX2_greediestMove 2 = .ok (.iconst (-1), 1) := by decide +kernel
theorem dX2_greediestMove_3 : decode cX2_greediestMove 3 = .ok (.istore_n 2, 1) := by decide +kernel
theorem dX2_greediestMove_4 : decode cX2_greediestMove 4 = .ok (.iconst 0, 1) := by decide +kernel
theorem dX2_greediestMove_5 : decode cX2_greediestMove 5 = .ok (.istore_n 3, 1) := by decide +kernel
theorem dX2_greediestMove_6 : decode cX2_greediestMove 6 = .ok (.iload_n 3, 1) := by decide +kernel
theorem dX2_greediestMove_7 : decode cX2_greediestMove 7 = .ok (.aload_n 0, 1) := by decide +kernel
theorem dX2_greediestMove_8 : decode cX2_greediestMove 8 = .ok (.invokevirtual 169, 3) := by decide +kernel
theorem dX2_greediestMove_11 : decode cX2_greediestMove 11 = .ok (.iconst 1, 1) := by decide +kernel
theorem dX2_greediestMove_12 : decode cX2_greediestMove 12 = .ok (.isub, 1) := by decide +kernel
theorem dX2_greediestMove_13 : decode cX2_greediestMove 13 = .ok (.if_icmp .ge 31, 3) := by decide +kernel
theorem dX2_greediestMove_16 : decode cX2_greediestMove 16 = .ok (.aload_n 0, 1) := by decide +kernel
theorem dX2_greediestMove_17 : decode cX2_greediestMove 17 = .ok (.aload_n 0, 1) := by decide +kernel
theorem dX2_greediestMove_18 : decode cX2_greediestMove 18 = .ok (.iload_n 3, 1) := by decide +kernel
theorem dX2_greediestMove_19 : decode cX2_greediestMove 19 = .ok (.invokevirtual 172, 3) := by decide +kernel
theorem dX2_greediestMove_22 : decode cX2_greediestMove 22 = .ok (.invokevirtual 175, 3) := by decide +kernel
theorem dX2_greediestMove_25 : decode cX2_greediestMove 25 = .ok (.istore 4, 2) := by decide +kernel
theorem dX2_greediestMove_27 : decode cX2_greediestMove 27 = .ok (.iload 4, 2) := by decide +kernel
theorem dX2_greediestMove_29 : decode cX2_greediestMove 29 = .ok (.iload_n 2, 1) := by decide +kernel
theorem dX2_greediestMove_30 : decode cX2_greediestMove 30 = .ok (.if_icmp .le 8, 3) := by decide +kernel
theorem dX2_greediestMove_33 : decode cX2_greediestMove 33 = .ok (.iload 4, 2) := by decide +kernel
theorem dX2_greediestMove_35 : decode cX2_greediestMove 35 = .ok (.istore_n 2, 1) := by decide +kernel
theorem dX2_greediestMove_36 : decode cX2_greediestMove 36 = .ok (.iload_n 3, 1) := by decide +kernel
theorem dX2_greediestMove_37 : decode cX2_greediestMove 37 = .ok (.istore_n 1, 1) := by decide +kernel
theorem dX2_greediestMove_38 : decode cX2_greediestMove 38 = .ok (.iinc 3 1, 3) := by decide +kernel
theorem dX2_greediestMove_41 : decode cX2_greediestMove 41 = .ok (.goto (-35), 3) := by decide +kernel
theorem dX2_greediestMove_44 : decode cX2_greediestMove 44 = .ok (.iload_n 1, 1) := by decide +kernel
theorem dX2_greediestMove_45 : decode cX2_greediestMove 45 = .ok (.ireturn, 1) := by decide +kernel
theorem dX2_play_0 : decode cX2_play 0 = .ok (.aload_n 0, 1) := by decide +kernel
theorem dX2_play_1 : decode cX2_play 1 = .ok (.iload_n 1, 1) := by decide +kernel
theorem dX2_play_2 : decode cX2_play 2 = .ok (.invokevirtual 175, 3) := by decide +kernel
theorem dX2_play_5 : decode cX2_play 5 = .ok (.istore_n 2, 1) := by decide +kernel
theorem dX2_play_6 : decode cX2_play 6 = .ok (.iload_n 1, 1) := by decide +kernel
theorem dX2_play_7 : decode cX2_play 7 = .ok (.bipush 6, 2) := by decide +kernel
theorem dX2_play_9 : decode cX2_play 9 = .ok (.if_icmp .ne 55, 3) := by decide +kernel
theorem dX2_play_12 : decode cX2_play 12 = .ok (.aload_n 0, 1) := by decide +kernel
theorem dX2_play_13 : decode cX2_play 13 = .ok (.getfield 21, 3) := by decide +kernel
theorem dX2_play_16 : decode cX2_play 16 = .ok (.getfield 178, 3) := by decide +kernel
theorem dX2_play_19 : decode cX2_play 19 = .ok (.aload_n 0, 1) := by decide +kernel
theorem dX2_play_20 : decode cX2_play 20 = .ok (.getfield 21, 3) := by decide +kernel
theorem dX2_play_23 : decode cX2_play 23 = .ok (.getfield 61, 3) := by decide +kernel
theorem dX2_play_26 : decode cX2_play 26 = .ok (.aload_n 0, 1) := by decide +kernel
theorem dX2_play_27 : decode cX2_play 27 = .ok (.getfield 21, 3) := by decide +kernel
theorem dX2_play_30 : decode cX2_play 30 = .ok (.getfield 178, 3) := by decide +kernel
theorem dX2_play_33 : decode cX2_play 33 = .ok (.aload_n 0, 1) := by decide +kernel
theorem dX2_play_34 : decode cX2_play 34 = .ok (.getfield 21, 3) := by decide +kernel
theorem dX2_play_37 : decode cX2_play 37 = .ok (.getfield 61, 3) := by decide +kernel
theorem dX2_play_40 : decode cX2_play 40 = .ok (.invokestatic 111, 3) := by decide +kernel
theorem dX2_play_43 : decode cX2_play 43 = .ok (.iconst 1, 1) := by decide +kernel
theorem dX2_play_44 : decode cX2_play 44 = .ok (.iadd, 1) := by decide +kernel
theorem dX2_play_45 : decode cX2_play 45 = .ok (.invokestatic 74, 3) := by decide +kernel
theorem dX2_play_48 : decode cX2_play 48 = .ok (.aload_n 0, 1) := by decide +kernel
theorem dX2_play_49 : decode cX2_play 49 = .ok (.getfield 21, 3) := by decide +kernel
theorem dX2_play_52 : decode cX2_play 52 = .ok (.dup, 1) := by decide +kernel
theorem dX2_play_53 : decode cX2_play 53 = .ok (.getfield 64, 3) := by decide +kernel
theorem dX2_play_56 : decode cX2_play 56 = .ok (.iconst 1, 1) := by decide +kernel
theorem dX2_play_57 : decode cX2_play 57 = .ok (.iadd, 1) := by decide +kernel
theorem dX2_play_58 : decode cX2_play 58 = .ok (.putfield 64, 3) := by decide +kernel
theorem dX2_play_61 : decode cX2_play 61 = .ok (.goto 94, 3) := by decide +kernel
theorem dX2_play_64 : decode cX2_play 64 = .ok (.aload_n 0, 1) := by decide +kernel
theorem dX2_play_65 : decode cX2_play 65 = .ok (.iload_n 1, 1) := by decide +kernel
theorem dX2_play_66 : decode cX2_play 66 = .ok (.invokevirtual 181, 3) := by decide +kernel
theorem dX2_play_69 : decode cX2_play 69 = .ok (.aload_n 0, 1) := by decide +kernel
theorem dX2_play_70 : decode cX2_play 70 = .ok (.getfield 21, 3) := by decide +kernel
theorem dX2_play_73 : decode cX2_play 73 = .ok (.getfield 54, 3) := by decide +kernel
theorem dX2_play_76 : decode cX2_play 76 = .ok (.iconst 2, 1) := by decide +kernel
theorem dX2_play_77 : decode cX2_play 77 = .ok (.imul, 1) := by decide +kernel
theorem dX2_play_78 : decode cX2_play 78 = .ok (.aload_n 0, 1) := by decide +kernel
theorem dX2_play_79 : decode cX2_play 79 = .ok (.getfield 21, 3) := by decide +kernel
theorem dX2_play_82 : decode cX2_play 82 = .ok (.getfield 61, 3) := by decide +kernel
theorem dX2_play_85 : decode cX2_play 85 = .ok (.iadd, 1) := by decide +kernel
theorem dX2_play_86 : decode cX2_play 86 = .ok (.istore_n 3, 1) := by decide +kernel
theorem dX2_play_87 : decode cX2_play 87 = .ok (.aload_n 0, 1) := by decide +kernel
theorem dX2_play_88 : decode cX2_play 88 = .ok (.getfield 21, 3) := by decide +kernel
theorem dX2_play_91 : decode cX2_play 91 = .ok (.getfield 140, 3) := by decide +kernel
theorem dX2_play_94 : decode cX2_play 94 = .ok (.iload_n 3, 1) := by decide +kernel
theorem dX2_play_95 : decode cX2_play 95 = .ok (.aload_n 0, 1) := by decide +kernel
theorem dX2_play_96 : decode cX2_play 96 = .ok (.getfield 21, 3) := by decide +kernel
theorem dX2_play_99 : decode cX2_play 99 = .ok (.getfield 140, 3) := by decide +kernel
theorem dX2_play_102 : decode cX2_play 102 = .ok (.iload_n 3, 1) := by decide +kernel
theorem dX2_play_103 : decode cX2_play 103 = .ok (.invokestatic 111, 3) := by decide +kernel
theorem dX2_play_106 : decode cX2_play 106 = .ok (.iload_n 2, 1) := by decide +kernel
theorem dX2_play_107 : decode cX2_play 107 = .ok (.iadd, 1) := by decide +kernel
theorem dX2_play_108 : decode cX2_play 108 = .ok (.invokestatic 74, 3) := by decide +kernel
theorem dX2_play_111 : decode cX2_play 111 = .ok (.aload_n 0, 1) := by decide +kernel
theorem dX2_play_112 : decode cX2_play 112 = .ok (.getfield 21, 3) := by decide +kernel
theorem dX2_play_115 : decode cX2_play 115 = .ok (.getfield 185, 3) := by decide +kernel
theorem dX2_play_118 : decode cX2_play 118 = .ok (.aload_n 0, 1) := by decide +kernel
theorem dX2_play_119 : decode cX2_play 119 = .ok (.getfield 21, 3) := by decide +kernel
theorem dX2_play_122 : decode cX2_play 122 = .ok (.getfield 61, 3) := by decide +kernel
theorem dX2_play_125 : decode cX2_play 125 = .ok (.aload_n 0, 1) := by decide +kernel
theorem dX2_play_126 : decode cX2_play 126 = .ok (.getfield 21, 3) := by decide +kernel
theorem dX2_play_129 : decode cX2_play 129 = .ok (.getfield 185, 3) := by decide +kernel
theorem dX2_play_132 : decode cX2_play 132 = .ok (.aload_n 0, 1) := by decide +kernel
theorem dX2_play_133 : decode cX2_play 133 = .ok (.getfield 21, 3) := by decide +kernel
theorem dX2_play_136 : decode cX2_play 136 = .ok (.getfield 61, 3) := by decide +kernel
theorem dX2_play_139 : decode cX2_play 139 = .ok (.invokestatic 111, 3) := by decide +kernel
theorem dX2_play_142 : decode cX2_play 142 = .ok (.iconst 1, 1) := by decide +kernel
theorem dX2_play_143 : decode cX2_play 143 = .ok (.iadd, 1) := by decide +kernel
theorem dX2_play_144 : decode cX2_play 144 = .ok (.invokestatic 74, 3) := by decide +kernel
theorem dX2_play_147 : decode cX2_play 147 = .ok (.aload_n 0, 1) := by decide +kernel
theorem dX2_play_148 : decode cX2_play 148 = .ok (.getfield 21, 3) := by decide +kernel
theorem dX2_play_151 : decode cX2_play 151 = .ok (.iconst 0, 1) := by decide +kernel
theorem dX2_play_152 : decode cX2_play 152 = .ok (.putfield 64, 3) := by decide +kernel
theorem dX2_play_155 : decode cX2_play 155 = .ok (.aload_n 0, 1) := by decide +kernel
theorem dX2_play_156 : decode cX2_play 156 = .ok (.getfield 21, 3) := by decide +kernel
theorem dX2_play_159 : decode cX2_play 159 = .ok (.iload_n 1, 1) := by decide +kernel
theorem dX2_play_160 : decode cX2_play 160 = .ok (.iload_n 2, 1) := by decide +kernel
theorem dX2_play_161 : decode cX2_play 161 = .ok (.invokevirtual 188, 3) := by decide +kernel
theorem dX2_play_164 : decode cX2_play 164 = .ok (.aload_n 0, 1) := by decide +kernel
theorem dX2_play_165 : decode cX2_play 165 = .ok (.getfield 21, 3) := by decide +kernel
theorem dX2_play_168 : decode cX2_play 168 = .ok (.iconst 1, 1) := by decide +kernel
theorem dX2_play_169 : decode cX2_play 169 = .ok (.aload_n 0, 1) := by decide +kernel
theorem dX2_play_170 : decode cX2_play 170 = .ok (.getfield 21, 3) := by decide +kernel
theorem dX2_play_173 : decode cX2_play 173 = .ok (.getfield 61, 3) := by decide +kernel
theorem dX2_play_176 : decode cX2_play 176 = .ok (.isub, 1) := by decide +kernel
theorem dX2_play_177 : decode cX2_play 177 = .ok (.putfield 61, 3) := by decide +kernel
theorem dX2_play_180 : decode cX2_play 180 = .ok (.aload_n 0, 1) := by decide +kernel
theorem dX2_play_181 : decode cX2_play 181 = .ok (.getfield 21, 3) := by decide +kernel
theorem dX2_play_184 : decode cX2_play 184 = .ok (.aload_n 0, 1) := by decide +kernel
theorem dX2_play_185 : decode cX2_play 185 = .ok (.getfield 21, 3) := by decide +kernel
theorem dX2_play_188 : decode cX2_play 188 = .ok (.getfield 64, 3) := by decide +kernel
theorem dX2_play_191 : decode cX2_play 191 = .ok (.iconst 1, 1) := by decide +kernel
theorem dX2_play_192 : decode cX2_play 192 = .ok (.if_icmp .gt 10, 3) := by decide +kernel
theorem dX2_play_195 : decode cX2_play 195 = .ok (.aload_n 0, 1) := by decide +kernel
theorem dX2_play_196 : decode cX2_play 196 = .ok (.invokevirtual 90, 3) := by decide +kernel
theorem dX2_play_199 : decode cX2_play 199 = .ok (.ifCond .ne 7, 3) := by decide +kernel
theorem dX2_play_202 : decode cX2_play 202 = .ok (.iconst 1, 1) := by decide +kernel
theorem dX2_play_203 : decode cX2_play 203 = .ok (.goto 4, 3) := by decide +kernel
theorem dX2_play_206 : decode cX2_play 206 = .ok (.iconst 0, 1) := by decide +kernel
theorem dX2_play_207 : decode cX2_play 207 = .ok (.putfield 94, 3) := by decide +kernel
theorem dX2_play_210 : decode cX2_play 210 = .ok (.return_, 1) := by decide +kernel
theorem dX2_takeEnd_0 : decode cX2_takeEnd 0 = .ok (.iload_n 1, 1) := by decide +kernel
theorem dX2_takeEnd_1 : decode cX2_takeEnd 1 = .ok (.invokestatic 162, 3) := by decide +kernel
theorem dX2_takeEnd_4 : decode cX2_takeEnd 4 = .ok (.istore_n 2, 1) := by decide +kernel
theorem dX2_takeEnd_5 : decode cX2_takeEnd 5 = .ok (.iload_n 1, 1) := by decide +kernel
theorem dX2_takeEnd_6 : decode cX2_takeEnd 6 = .ok (.invokestatic 165, 3) := by decide +kernel
theorem dX2_takeEnd_9 : decode cX2_takeEnd 9 = .ok (.ifCond .eq 30, 3) := by decide +kernel
theorem dX2_takeEnd_12 : decode cX2_takeEnd 12 = .ok (.aload_n 0, 1) := by decide +kernel
theorem dX2_takeEnd_13 : decode cX2_takeEnd 13 = .ok (.getfield 21, 3) := by decide +kernel
theorem dX2_takeEnd_16 : decode cX2_takeEnd 16 = .ok (.getfield 70, 3) := by decide +kernel
theorem dX2_takeEnd_19 : decode cX2_takeEnd 19 = .ok (.iload_n 2, 1) := by decide +kernel
theorem dX2_takeEnd_20 : decode cX2_takeEnd 20 = .ok (.aload_n 0, 1) := by decide +kernel
theorem dX2_takeEnd_21 : decode cX2_takeEnd 21 = .ok (.getfield 21, 3) := by decide +kernel
theorem dX2_takeEnd_24 : decode cX2_takeEnd 24 = .ok (.getfield 70, 3) := by decide +kernel
theorem dX2_takeEnd_27 : decode cX2_takeEnd 27 = .ok (.iload_n 2, 1) := by decide +kernel
theorem dX2_takeEnd_28 : decode cX2_takeEnd 28 = .ok (.invokestatic 111, 3) := by decide +kernel
theorem dX2_takeEnd_31 : decode cX2_takeEnd 31 = .ok (.iconst 1, 1) := by decide +kernel
theorem dX2_takeEnd_32 : decode cX2_takeEnd 32 = .ok (.iadd, 1) := by decide +kernel
theorem dX2_takeEnd_33 : decode cX2_takeEnd 33 = .ok (.invokestatic 74, 3) := by decide +kernel
theorem dX2_takeEnd_36 : decode cX2_takeEnd 36 = .ok (.goto 27, 3) := by decide +kernel
theorem dX2_takeEnd_39 : decode cX2_takeEnd 39 = .ok (.aload_n 0, 1) := by decide +kernel
theorem dX2_takeEnd_40 : decode cX2_takeEnd 40 = .ok (.getfield 21, 3) := by decide +kernel
theorem dX2_takeEnd_43 : decode cX2_takeEnd 43 = .ok (.getfield 78, 3) := by decide +kernel
theorem dX2_takeEnd_46 : decode cX2_takeEnd 46 = .ok (.iload_n 2, 1) := by decide +kernel
theorem dX2_takeEnd_47 : decode cX2_takeEnd 47 = .ok (.aload_n 0, 1) := by decide +kernel
theorem dX2_takeEnd_48 : decode cX2_takeEnd 48 = .ok (.getfield 21, 3) := by decide +kernel
theorem dX2_takeEnd_51 : decode cX2_takeEnd 51 = .ok (.getfield 78, 3) := by decide +kernel
theorem dX2_takeEnd_54 : decode cX2_takeEnd 54 = .ok (.iload_n 2, 1) := by decide +kernel
theorem dX2_takeEnd_55 : decode cX2_takeEnd 55 = .ok (.invokestatic 111, 3) := by decide +kernel
theorem dX2_takeEnd_58 : decode cX2_takeEnd 58 = .ok (.iconst 1, 1) := by decide +kernel
theorem dX2_takeEnd_59 : decode cX2_takeEnd 59 = .ok (.isub, 1) := by decide +kernel
theorem dX2_takeEnd_60 : decode cX2_takeEnd 60 = .ok (.invokestatic 74, 3) := by decide +kernel
theorem dX2_takeEnd_63 : decode cX2_takeEnd 63 = .ok (.return_, 1) := by decide +kernel
theorem dX3_init_0 : decode cX3_init 0 = .ok (.aload_n 0, 1) := by decide +kernel
theorem dX3_init_1 : decode cX3_init 1 = .ok (.invokespecial 3, 3) := by decide +kernel
theorem dX3_init_4 : decode cX3_init 4 = .ok (.aload_n 0, 1) := by decide +kernel
theorem dX3_init_5 : decode cX3_init 5 = .ok (.new 9, 3) := by decide +kernel
theorem dX3_init_8 : decode cX3_init 8 = .ok (.dup, 1) := by decide +kernel
theorem dX3_init_9 : decode cX3_init 9 = .ok (.invokespecial 11, 3) := by decide +kernel
theorem dX3_init_12 : decode cX3_init 12 = .ok (.putfield 12, 3) := by decide +kernel
theorem dX3_init_15 : decode cX3_init 15 = .ok (.aload_n 0, 1) := by decide +kernel
theorem dX3_init_16 : decode cX3_init 16 = .ok (.new 18, 3) := by decide +kernel
theorem dX3_init_19 : decode cX3_init 19 = .ok (.dup, 1) := by decide +kernel
theorem dX3_init_20 : decode cX3_init 20 = .ok (.invokespecial 20, 3) := by decide +kernel
theorem dX3_init_23 : decode cX3_init 23 = .ok (.putfield 21, 3) := by decide +kernel
theorem dX3_init_26 : decode cX3_init 26 = .ok (.aload_n 0, 1) := by decide +kernel
theorem dX3_init_27 : decode cX3_init 27 = .ok (.bipush 49, 2) := by decide +kernel
theorem dX3_init_29 : decode cX3_init 29 = .ok (.newarray .int, 2) := by decide +kernel
theorem dX3_init_31 : decode cX3_init 31 = .ok (.putfield 25, 3) := by decide +kernel
theorem dX3_init_34 : decode cX3_init 34 = .ok (.return_, 1) := by decide +kernel
theorem dX3_readRounds_0 : decode cX3_readRounds 0 = .ok (.aload_n 0, 1) := by decide +kernel
theorem dX3_readRounds_1 : decode cX3_readRounds 1 = .ok (.iconst 0, 1) := by decide +kernel
theorem dX3_readRounds_2 : decode cX3_readRounds 2 = .ok (.putfield 29, 3) := by decide +kernel
theorem dX3_readRounds_5 : decode cX3_readRounds 5 = .ok (.aload_n 0, 1) := by decide +kernel
theorem dX3_readRounds_6 : decode cX3_readRounds 6 = .ok (.iconst (-1), 1) := by decide +kernel
theorem dX3_readRounds_7 : decode cX3_readRounds 7 = .ok (.putfield 33, 3) := by decide +kernel
theorem dX3_readRounds_10 : decode cX3_readRounds 10 = .ok (.aload_n 0, 1) := by decide +kernel
theorem dX3_readRounds_11 : decode cX3_readRounds 11 = .ok (.getfield 12, 3) := by decide +kernel
theorem dX3_readRounds_14 : decode cX3_readRounds 14 = .ok (.getfield 36, 3) := by decide +kernel
theorem dX3_readRounds_17 : decode cX3_readRounds 17 = .ok (.invokevirtual 40, 3) := by decide +kernel
theorem dX3_readRounds_20 : decode cX3_readRounds 20 = .ok (.aload_n 0, 1) := by decide +kernel
theorem dX3_readRounds_21 : decode cX3_readRounds 21 = .ok (.getfield 21, 3) := by decide +kernel
theorem dX3_readRounds_24 : decode cX3_readRounds 24 = .ok (.aload_n 1, 1) := by decide +kernel
theorem dX3_readRounds_25 : decode cX3_readRounds 25 = .ok (.iload_n 2, 1) := by decide +kernel
theorem dX3_readRounds_26 : decode cX3_readRounds 26 = .ok (.invokevirtual 45, 3) := by decide +kernel
theorem dX3_readRounds_29 : decode cX3_readRounds 29 = .ok (.aload_n 0, 1) := by decide +kernel
theorem dX3_readRounds_30 : decode cX3_readRounds 30 = .ok (.getfield 21, 3) := by decide +kernel
theorem dX3_readRounds_33 : decode cX3_readRounds 33 = .ok (.ldc 49, 2) := by decide +kernel
theorem dX3_readRounds_35 : decode cX3_readRounds 35 = .ok (.invokevirtual 51, 3) := by decide +kernel
theorem dX3_readRounds_38 : decode cX3_readRounds 38 = .ok (.ifCond .ne 9, 3) := by decide +kernel
theorem dX3_readRounds_41 : decode cX3_readRounds 41 = .ok (.aload_n 0, 1) := by decide +kernel
theorem dX3_readRounds_42 : decode cX3_readRounds 42 = .ok (.iconst 1, 1) := by decide +kernel
theorem dX3_readRounds_43 : decode cX3_readRounds 43 = .ok (.invokevirtual 55, 3) := by decide +kernel
theorem dX3_readRounds_46 : decode cX3_readRounds 46 = .ok (.ireturn, 1) := by decide +kernel
theorem dX3_readRounds_47 : decode cX3_readRounds 47 = .ok (.iconst 0, 1) := by decide +kernel
theorem dX3_readRounds_48 : decode cX3_readRounds 48 = .ok (.istore_n 3, 1) := by decide +kernel
theorem dX3_readRounds_49 : decode cX3_readRounds 49 = .ok (.iload_n 3, 1) := by decide +kernel
theorem dX3_readRounds_50 : decode cX3_readRounds 50 = .ok (.iconst 4, 1) := by decide +kernel
theorem dX3_readRounds_51 : decode cX3_readRounds 51 = .ok (.if_icmp .gt 41, 3) := by decide +kernel
theorem dX3_readRounds_54 : decode cX3_readRounds 54 = .ok (.aload_n 0, 1) := by decide +kernel
theorem dX3_readRounds_55 : decode cX3_readRounds 55 = .ok (.getfield 21, 3) := by decide +kernel
theorem dX3_readRounds_58 : decode cX3_readRounds 58 = .ok (.ldc 49, 2) := by decide +kernel
theorem dX3_readRounds_60 : decode cX3_readRounds 60 = .ok (.invokevirtual 51, 3) := by decide +kernel
theorem dX3_readRounds_63 : decode cX3_readRounds 63 = .ok (.ifCond .eq 29, 3) := by decide +kernel
theorem dX3_readRounds_66 : decode cX3_readRounds 66 = .ok (.iload_n 3, 1) := by decide +kernel
theorem dX3_readRounds_67 : decode cX3_readRounds 67 = .ok (.iconst 4, 1) := by decide +kernel
theorem dX3_readRounds_68 : decode cX3_readRounds 68 = .ok (.if_icmp .ne 9, 3) := by decide +kernel
theorem dX3_readRounds_71 : decode cX3_readRounds 71 = .ok (.aload_n 0, 1) := by decide +kernel
theorem dX3_readRounds_72 : decode cX3_readRounds 72 = .ok (.iconst 5, 1) := by decide +kernel
theorem dX3_readRounds_73 : decode cX3_readRounds 73 = .ok (.invokevirtual 55, 3) := by decide +kernel
theorem dX3_readRounds_76 : decode cX3_readRounds 76 = .ok (.ireturn, 1) := by decide +kernel
theorem dX3_readRounds_77 : decode cX3_readRounds 77 = .ok (.aload_n 0, 1) := by decide +kernel
theorem dX3_readRounds_78 : decode cX3_readRounds 78 = .ok (.invokevirtual 59, 3) := by decide +kernel
theorem dX3_readRounds_81 : decode cX3_readRounds 81 = .ok (.ifCond .ne 5, 3) := by decide +kernel
theorem dX3_readRounds_84 : decode cX3_readRounds 84 = .ok (.iconst 0, 1) := by decide +kernel
theorem dX3_readRounds_85 : decode cX3_readRounds 85 = .ok (.ireturn, 1) := by decide +kernel
theorem dX3_readRounds_86 : decode cX3_readRounds 86 = .ok (.iinc 3 1, 3) := by decide +kernel
theorem dX3_readRounds_89 : decode cX3_readRounds 89 = .ok (.goto (-40), 3) := by decide +kernel
theorem dX3_readRounds_92 : decode cX3_readRounds 92 = .ok (.iconst 1, 1) := by decide +kernel
theorem dX3_readRounds_93 : decode cX3_readRounds 93 = .ok (.ireturn, 1) := by decide +kernel
theorem dX3_readMoves_0 : decode cX3_readMoves 0 = .ok (.aload_n 0, 1) := by decide +kernel
theorem dX3_readMoves_1 : decode cX3_readMoves 1 = .ok (.getfield 12, 3) := by decide +kernel
theorem dX3_readMoves_4 : decode cX3_readMoves 4 = .ok (.invokevirtual 63, 3) := by decide +kernel
theorem dX3_readMoves_7 : decode cX3_readMoves 7 = .ok (.iconst 0, 1) := by decide +kernel
theorem dX3_readMoves_8 : decode cX3_readMoves 8 = .ok (.istore_n 1, 1) := by decide +kernel
theorem dX3_readMoves_9 : decode cX3_readMoves 9 = .ok (.iload_n 1, 1) := by decide +kernel
theorem dX3_readMoves_10 : decode cX3_readMoves 10 = .ok (.sipush 500, 3) := by decide +kernel
theorem dX3_readMoves_13 : decode cX3_readMoves 13 = .ok (.if_icmp .ge 28, 3) := by decide +kernel
theorem dX3_readMoves_16 : decode cX3_readMoves 16 = .ok (.aload_n 0, 1) := by decide +kernel
theorem dX3_readMoves_17 : decode cX3_readMoves 17 = .ok (.getfield 21, 3) := by decide +kernel
theorem dX3_readMoves_20 : decode cX3_readMoves 20 = .ok (.getfield 66, 3) := by decide +kernel
theorem dX3_readMoves_23 : decode cX3_readMoves 23 = .ok (.ifCond .eq 18, 3) := by decide +kernel
theorem dX3_readMoves_26 : decode cX3_readMoves 26 = .ok (.aload_n 0, 1) := by decide +kernel
theorem dX3_readMoves_27 : decode cX3_readMoves 27 = .ok (.invokevirtual 69, 3) := by decide +kernel
theorem dX3_readMoves_30 : decode cX3_readMoves 30 = .ok (.ifCond .ne 5, 3) := by decide +kernel
theorem dX3_readMoves_33 : decode cX3_readMoves 33 = .ok (.iconst 0, 1) := by decide +kernel
theorem dX3_readMoves_34 : decode cX3_readMoves 34 = .ok (.ireturn, 1) := by decide +kernel
theorem dX3_readMoves_35 : decode cX3_readMoves 35 = .ok (.iinc 1 1, 3) := by decide +kernel
theorem dX3_readMoves_38 : decode cX3_readMoves 38 = .ok (.goto (-29), 3) := by decide +kernel
theorem dX3_readMoves_41 : decode cX3_readMoves 41 = .ok (.iconst 1, 1) := by decide +kernel
theorem dX3_readMoves_42 : decode cX3_readMoves 42 = .ok (.ireturn, 1) := by decide +kernel
theorem dX3_readRound_0 : decode cX3_readRound 0 = .ok (.aload_n 0, 1) := by decide +kernel
theorem dX3_readRound_1 : decode cX3_readRound 1 = .ok (.getfield 12, 3) := by decide +kernel
theorem dX3_readRound_4 : decode cX3_readRound 4 = .ok (.getfield 36, 3) := by decide +kernel
theorem dX3_readRound_7 : decode cX3_readRound 7 = .ok (.invokevirtual 72, 3) := by decide +kernel
theorem dX3_readRound_10 : decode cX3_readRound 10 = .ok (.iconst 0, 1) := by decide +kernel
theorem dX3_readRound_11 : decode cX3_readRound 11 = .ok (.istore_n 1, 1) := by decide +kernel
theorem dX3_readRound_12 : decode cX3_readRound 12 = .ok (.iload_n 1, 1) := by decide +kernel
theorem dX3_readRound_13 : decode cX3_readRound 13 = .ok (.aload_n 0, 1) := by decide +kernel
theorem dX3_readRound_14 : decode cX3_readRound 14 = .ok (.getfield 25, 3) := by decide +kernel
theorem dX3_readRound_17 : decode cX3_readRound 17 = .ok (.arraylength, 1) := by decide +kernel
theorem dX3_readRound_18 : decode cX3_readRound 18 = .ok (.if_icmp .ge 16, 3) := by decide +kernel
theorem dX3_readRound_21 : decode cX3_readRound 21 = .ok (.aload_n 0, 1) := by decide +kernel
theorem dX3_readRound_22 : decode cX3_readRound 22 = .ok (.getfield 25, 3) := by decide +kernel
theorem dX3_readRound_25 : decode cX3_readRound 25 = .ok (.iload_n 1, 1) := by decide +kernel
theorem dX3_readRound_26 : decode cX3_readRound 26 = .ok (.iconst 0, 1) := by decide +kernel
theorem dX3_readRound_27 : decode cX3_readRound 27 = .ok (.iastore, 1) := by decide +kernel
theorem dX3_readRound_28 : decode cX3_readRound 28 = .ok (.iinc 1 1, 3) := by decide +kernel
theorem dX3_readRound_31 : decode cX3_readRound 31 = .ok (.goto (-19), 3) := by decide +kernel
theorem dX3_readRound_34 : decode cX3_readRound 34 = .ok (.iconst 0, 1) := by decide +kernel
theorem dX3_readRound_35 : decode cX3_readRound 35 = .ok (.istore_n 1, 1) := by decide +kernel
theorem dX3_readRound_36 : decode cX3_readRound 36 = .ok (.iload_n 1, 1) := by decide +kernel
theorem dX3_readRound_37 : decode cX3_readRound 37 = .ok (.iconst 3, 1) := by decide +kernel
theorem dX3_readRound_38 : decode cX3_readRound 38 = .ok (.if_icmp .ge 72, 3) := by decide +kernel
theorem dX3_readRound_41 : decode cX3_readRound 41 = .ok (.aload_n 0, 1) := by decide +kernel
theorem dX3_readRound_42 : decode cX3_readRound 42 = .ok (.getfield 21, 3) := by decide +kernel
theorem dX3_readRound_45 : decode cX3_readRound 45 = .ok (.invokevirtual 75, 3) := by decide +kernel
theorem dX3_readRound_48 : decode cX3_readRound 48 = .ok (.aload_n 0, 1) := by decide +kernel
theorem dX3_readRound_49 : decode cX3_readRound 49 = .ok (.getfield 12, 3) := by decide +kernel
theorem dX3_readRound_52 : decode cX3_readRound 52 = .ok (.getfield 36, 3) := by decide +kernel
theorem dX3_readRound_55 : decode cX3_readRound 55 = .ok (.invokevirtual 78, 3) := by decide +kernel
theorem dX3_readRound_58 : decode cX3_readRound 58 = .ok (.aload_n 0, 1) := by decide +kernel
theorem dX3_readRound_59 : decode cX3_readRound 59 = .ok (.invokevirtual 81, 3) := by decide +kernel
theorem dX3_readRound_62 : decode cX3_readRound 62 = .ok (.ifCond .ne 5, 3) := by decide +kernel
theorem dX3_readRound_65 : decode cX3_readRound 65 = .ok (.iconst 0, 1) := by decide +kernel
theorem dX3_readRound_66 : decode cX3_readRound 66 = .ok (.ireturn, 1) := by decide +kernel
theorem dX3_readRound_67 : decode cX3_readRound 67 = .ok (.aload_n 0, 1) := by decide +kernel
theorem dX3_readRound_68 : decode cX3_readRound 68 = .ok (.getfield 21, 3) := by decide +kernel
theorem dX3_readRound_71 : decode cX3_readRound 71 = .ok (.getfield 66, 3) := by decide +kernel
theorem dX3_readRound_74 : decode cX3_readRound 74 = .ok (.iconst 4, 1) := by decide +kernel
theorem dX3_readRound_75 : decode cX3_readRound 75 = .ok (.if_icmp .ne 12, 3) := by decide +kernel
theorem dX3_readRound_78 : decode cX3_readRound 78 = .ok (.aload_n 0, 1) := by decide +kernel
theorem dX3_readRound_79 : decode cX3_readRound 79 = .ok (.getfield 21, 3) := by decide +kernel
theorem dX3_readRound_82 : decode cX3_readRound 82 = .ok (.invokevirtual 75, 3) := by decide +kernel
theorem dX3_readRound_85 : decode cX3_readRound 85 = .ok (.iconst 1, 1) := by decide +kernel
theorem dX3_readRound_86 : decode cX3_readRound 86 = .ok (.ireturn, 1) := by decide +kernel
theorem dX3_readRound_87 : decode cX3_readRound 87 = .ok (.aload_n 0, 1) := by decide +kernel
theorem dX3_readRound_88 : decode cX3_readRound 88 = .ok (.getfield 21, 3) := by decide +kernel
theorem dX3_readRound_91 : decode cX3_readRound 91 = .ok (.getfield 66, 3) := by decide +kernel
theorem dX3_readRound_94 : decode cX3_readRound 94 = .ok (.iconst 3, 1) := by decide +kernel
theorem dX3_readRound_95 : decode cX3_readRound 95 = .ok (.if_icmp .eq 9, 3) := by decide +kernel
theorem dX3_readRound_98 : decode cX3_readRound 98 = .ok (.aload_n 0, 1) := by decide +kernel
theorem dX3_readRound_99 : decode cX3_readRound 99 = .ok (.iconst 1, 1) := by decide +kernel
theorem dX3_readRound_100 : decode cX3_readRound 100 = .ok (.invokevirtual 55, 3) := by decide +kernel
theorem dX3_readRound_103 : decode cX3_readRound 103 = .ok (.ireturn, 1) := by decide +kernel
theorem dX3_readRound_104 : decode cX3_readRound 104 = .ok (.iinc 1 1, 3) := by decide +kernel
theorem dX3_readRound_107 : decode cX3_readRound 107 = .ok (.goto (-71), 3) := by decide +kernel
theorem dX3_readRound_110 : decode cX3_readRound 110 = .ok (.aload_n 0, 1) := by decide +kernel
theorem dX3_readRound_111 : decode cX3_readRound 111 = .ok (.iconst 5, 1) := by decide +kernel
theorem dX3_readRound_112 : decode cX3_readRound 112 = .ok (.invokevirtual 55, 3) := by decide +kernel
theorem dX3_readRound_115 : decode cX3_readRound 115 = .ok (.ireturn, 1) := by decide +kernel
theorem dX3_readChain_0 : decode cX3_readChain 0 = .ok (.aload_n 0, 1) := by decide +kernel
theorem dX3_readChain_1 : decode cX3_readChain 1 = .ok (.getfield 21, 3) := by decide +kernel
theorem dX3_readChain_4 : decode cX3_readChain 4 = .ok (.getfield 66, 3) := by decide +kernel
theorem dX3_readChain_7 : decode cX3_readChain 7 = .ok (.iconst 2, 1) := by decide +kernel
theorem dX3_readChain_8 : decode cX3_readChain 8 = .ok (.if_icmp .eq 9, 3) := by decide +kernel
theorem dX3_readChain_11 : decode cX3_readChain 11 = .ok (.aload_n 0, 1) := by decide +kernel
theorem dX3_readChain_12 : decode cX3_readChain 12 = .ok (.iconst 1, 1) := by decide +kernel
theorem dX3_readChain_13 : decode cX3_readChain 13 = .ok (.invokevirtual 55, 3) := by decide +kernel
theorem dX3_readChain_16 : decode cX3_readChain 16 = .ok (.ireturn, 1) := by decide +kernel
theorem dX3_readChain_17 : decode cX3_readChain 17 = .ok (.iconst 0, 1) := by decide +kernel
theorem dX3_readChain_18 : decode cX3_readChain 18 = .ok (.istore_n 1, 1) := by decide +kernel
theorem dX3_readChain_19 : decode cX3_readChain 19 = .ok (.iload_n 1, 1) := by decide +kernel
theorem dX3_readChain_20 : decode cX3_readChain 20 = .ok (.bipush 8, 2) := by decide +kernel
theorem dX3_readChain_22 : decode cX3_readChain 22 = .ok (.if_icmp .gt 63, 3) := by decide +kernel
theorem dX3_readChain_25 : decode cX3_readChain 25 = .ok (.aload_n 0, 1) := by decide +kernel
theorem dX3_readChain_26 : decode cX3_readChain 26 = .ok (.getfield 21, 3) := by decide +kernel
theorem dX3_readChain_29 : decode cX3_readChain 29 = .ok (.getfield 66, 3) := by decide +kernel
theorem dX3_readChain_32 : decode cX3_readChain 32 = .ok (.iconst 2, 1) := by decide +kernel
theorem dX3_readChain_33 : decode cX3_readChain 33 = .ok (.if_icmp .ne 52, 3) := by decide +kernel
theorem dX3_readChain_36 : decode cX3_readChain 36 = .ok (.aload_n 0, 1) := by decide +kernel
theorem dX3_readChain_37 : decode cX3_readChain 37 = .ok (.iload_n 1, 1) := by decide +kernel
theorem dX3_readChain_38 : decode cX3_readChain 38 = .ok (.invokevirtual 84, 3) := by decide +kernel
theorem dX3_readChain_41 : decode cX3_readChain 41 = .ok (.istore_n 2, 1) := by decide +kernel
theorem dX3_readChain_42 : decode cX3_readChain 42 = .ok (.iload_n 2, 1) := by decide +kernel
theorem dX3_readChain_43 : decode cX3_readChain 43 = .ok (.ifCond .eq 9, 3) := by decide +kernel
theorem dX3_readChain_46 : decode cX3_readChain 46 = .ok (.aload_n 0, 1) := by decide +kernel
theorem dX3_readChain_47 : decode cX3_readChain 47 = .ok (.iload_n 2, 1) := by decide +kernel
theorem dX3_readChain_48 : decode cX3_readChain 48 = .ok (.invokevirtual 55, 3) := by decide +kernel
theorem dX3_readChain_51 : decode cX3_readChain 51 = .ok (.ireturn, 1) := by decide +kernel
theorem dX3_readChain_52 : decode cX3_readChain 52 = .ok (.aload_n 0, 1) := by decide +kernel
theorem dX3_readChain_53 : decode cX3_readChain 53 = .ok (.aload_n 0, 1) := by decide +kernel
theorem dX3_readChain_54 : decode cX3_readChain 54 = .ok (.getfield 21, 3) := by decide +kernel
theorem dX3_readChain_57 : decode cX3_readChain 57 = .ok (.iconst 0, 1) := by decide +kernel
theorem dX3_readChain_58 : decode cX3_readChain 58 = .ok (.invokevirtual 88, 3) := by decide +kernel
theorem dX3_readChain_61 : decode cX3_readChain 61 = .ok (.aload_n 0, 1) := by decide +kernel
theorem dX3_readChain_62 : decode cX3_readChain 62 = .ok (.getfield 21, 3) := by decide +kernel
theorem dX3_readChain_65 : decode cX3_readChain 65 = .ok (.iconst 1, 1) := by decide +kernel
theorem dX3_readChain_66 : decode cX3_readChain 66 = .ok (.invokevirtual 88, 3) := by decide +kernel
theorem dX3_readChain_69 : decode cX3_readChain 69 = .ok (.invokevirtual 91, 3) := by decide +kernel
theorem dX3_readChain_72 : decode cX3_readChain 72 = .ok (.aload_n 0, 1) := by decide +kernel
theorem dX3_readChain_73 : decode cX3_readChain 73 = .ok (.getfield 21, 3) := by decide +kernel
theorem dX3_readChain_76 : decode cX3_readChain 76 = .ok (.invokevirtual 75, 3) := by decide +kernel
theorem dX3_readChain_79 : decode cX3_readChain 79 = .ok (.iinc 1 1, 3) := by decide +kernel
theorem dX3_readChain_82 : decode cX3_readChain 82 = .ok (.goto (-63), 3) := by decide +kernel
theorem dX3_readChain_85 : decode cX3_readChain 85 = .ok (.iconst 1, 1) := by decide +kernel
theorem dX3_readChain_86 : decode cX3_readChain 86 = .ok (.ireturn, 1) := by decide +kernel
theorem dX3_tileFault_0 : decode cX3_tileFault 0 = .ok (.aload_n 0, 1) := by decide +kernel
theorem dX3_tileFault_1 : decode cX3_tileFault 1 = .ok (.getfield 21, 3) := by decide +kernel
theorem dX3_tileFault_4 : decode cX3_tileFault 4 = .ok (.iconst 2, 1) := by decide +kernel
theorem dX3_tileFault_5 : decode cX3_tileFault 5 = .ok (.invokevirtual 95, 3) := by decide +kernel
theorem dX3_tileFault_8 : decode cX3_tileFault 8 = .ok (.ifCond .ne 5, 3) := by decide +kernel
theorem dX3_tileFault_11 : decode cX3_tileFault 11 = .ok (.iconst 1, 1) := by decide +kernel
theorem dX3_tileFault_12 : decode cX3_tileFault 12 = .ok (.ireturn, 1) := by decide +kernel
theorem dX3_tileFault_13 : decode cX3_tileFault 13 = .ok (.aload_n 0, 1) := by decide +kernel
theorem dX3_tileFault_14 : decode cX3_tileFault 14 = .ok (.getfield 21, 3) := by decide +kernel
theorem dX3_tileFault_17 : decode cX3_tileFault 17 = .ok (.iconst 0, 1) := by decide +kernel
theorem dX3_tileFault_18 : decode cX3_tileFault 18 = .ok (.invokevirtual 88, 3) := by decide +kernel
theorem dX3_tileFault_21 : decode cX3_tileFault 21 = .ok (.istore_n 2, 1) := by decide +kernel
theorem dX3_tileFault_22 : decode cX3_tileFault 22 = .ok (.aload_n 0, 1) := by decide +kernel
theorem dX3_tileFault_23 : decode cX3_tileFault 23 = .ok (.getfield 21, 3) := by decide +kernel
theorem dX3_tileFault_26 : decode cX3_tileFault 26 = .ok (.iconst 1, 1) := by decide +kernel
theorem dX3_tileFault_27 : decode cX3_tileFault 27 = .ok (.invokevirtual 88, 3) := by decide +kernel
theorem dX3_tileFault_30 : decode cX3_tileFault 30 = .ok (.istore_n 3, 1) := by decide +kernel
theorem dX3_tileFault_31 : decode cX3_tileFault 31 = .ok (.iload_n 2, 1) := by decide +kernel
theorem dX3_tileFault_32 : decode cX3_tileFault 32 = .ok (.bipush 6, 2) := by decide +kernel
theorem dX3_tileFault_34 : decode cX3_tileFault 34 = .ok (.if_icmp .gt 9, 3) := by decide +kernel
theorem dX3_tileFault_37 : decode cX3_tileFault 37 = .ok (.iload_n 3, 1) := by decide +kernel
theorem dX3_tileFault_38 : decode cX3_tileFault 38 = .ok (.bipush 6, 2) := by decide +kernel
theorem dX3_tileFault_40 : decode cX3_tileFault 40 = .ok (.if_icmp .le 5, 3) := by decide +kernel
theorem dX3_tileFault_43 : decode cX3_tileFault 43 = .ok (.iconst 2, 1) := by decide +kernel
theorem dX3_tileFault_44 : decode cX3_tileFault 44 = .ok (.ireturn, 1) := by decide +kernel
theorem dX3_tileFault_45 : decode cX3_tileFault 45 = .ok (.iload_n 1, 1) := by decide +kernel
theorem dX3_tileFault_46 : decode cX3_tileFault 46 = .ok (.ifCond .le 13, 3) := by decide +kernel
theorem dX3_tileFault_49 : decode cX3_tileFault 49 = .ok (.iload_n 2, 1) := by decide +kernel
theorem dX3_tileFault_50 : decode cX3_tileFault 50 = .ok (.aload_n 0, 1) := by decide +kernel
theorem dX3_tileFault_51 : decode cX3_tileFault 51 = .ok (.getfield 98, 3) := by decide +kernel
theorem dX3_tileFault_54 : decode cX3_tileFault 54 = .ok (.if_icmp .eq 5, 3) := by decide +kernel
theorem dX3_tileFault_57 : decode cX3_tileFault 57 = .ok (.iconst 3, 1) := by decide +kernel
theorem dX3_tileFault_58 : decode cX3_tileFault 58 = .ok (.ireturn, 1) := by decide +kernel
theorem dX3_tileFault_59 : decode cX3_tileFault 59 = .ok (.aload_n 0, 1) := by decide +kernel
theorem dX3_tileFault_60 : decode cX3_tileFault 60 = .ok (.getfield 25, 3) := by decide +kernel
theorem dX3_tileFault_63 : decode cX3_tileFault 63 = .ok (.iload_n 2, 1) := by decide +kernel
theorem dX3_tileFault_64 : decode cX3_tileFault 64 = .ok (.iload_n 3, 1) := by decide +kernel
theorem dX3_tileFault_65 : decode cX3_tileFault 65 = .ok (.invokestatic 101, 3) := by decide +kernel
theorem dX3_tileFault_68 : decode cX3_tileFault 68 = .ok (.invokestatic 105, 3) := by decide +kernel
theorem dX3_tileFault_71 : decode cX3_tileFault 71 = .ok (.ifCond .eq 5, 3) := by decide +kernel
theorem dX3_tileFault_74 : decode cX3_tileFault 74 = .ok (.iconst 4, 1) := by decide +kernel
theorem dX3_tileFault_75 : decode cX3_tileFault 75 = .ok (.ireturn, 1) := by decide +kernel
theorem dX3_tileFault_76 : decode cX3_tileFault 76 = .ok (.iload_n 1, 1) := by decide +kernel
theorem dX3_tileFault_77 : decode cX3_tileFault 77 = .ok (.bipush 8, 2) := by decide +kernel
theorem dX3_tileFault_79 : decode cX3_tileFault 79 = .ok (.if_icmp .ge 7, 3) := by decide +kernel
theorem dX3_tileFault_82 : decode cX3_tileFault 82 = .ok (.iconst 0, 1) := by decide +kernel
theorem dX3_tileFault_83 : decode cX3_tileFault 83 = .ok (.goto 4, 3) := by decide +kernel
theorem dX3_tileFault_86 : decode cX3_tileFault 86 = .ok (.iconst 5, 1) := by decide +kernel
theorem dX3_tileFault_87 : decode cX3_tileFault 87 = .ok (.ireturn, 1) := by decide +kernel
theorem dX3_takeTile_0 : decode cX3_takeTile 0 = .ok (.aload_n 0, 1) := by decide +kernel
theorem dX3_takeTile_1 : decode cX3_takeTile 1 = .ok (.getfield 12, 3) := by decide +kernel
theorem dX3_takeTile_4 : decode cX3_takeTile 4 = .ok (.getfield 36, 3) := by decide +kernel
theorem dX3_takeTile_7 : decode cX3_takeTile 7 = .ok (.iload_n 1, 1) := by decide +kernel
theorem dX3_takeTile_8 : decode cX3_takeTile 8 = .ok (.iload_n 2, 1) := by decide +kernel
theorem dX3_takeTile_9 : decode cX3_takeTile 9 = .ok (.invokevirtual 109, 3) := by decide +kernel
theorem dX3_takeTile_12 : decode cX3_takeTile 12 = .ok (.aload_n 0, 1) := by decide +kernel
theorem dX3_takeTile_13 : decode cX3_takeTile 13 = .ok (.getfield 25, 3) := by decide +kernel
theorem dX3_takeTile_16 : decode cX3_takeTile 16 = .ok (.iload_n 1, 1) := by decide +kernel
theorem dX3_takeTile_17 : decode cX3_takeTile 17 = .ok (.iload_n 2, 1) := by decide +kernel
theorem dX3_takeTile_18 : decode cX3_takeTile 18 = .ok (.invokestatic 101, 3) := by decide +kernel
theorem dX3_takeTile_21 : decode cX3_takeTile 21 = .ok (.iconst 1, 1) := by decide +kernel
theorem dX3_takeTile_22 : decode cX3_takeTile 22 = .ok (.invokestatic 112, 3) := by decide +kernel
theorem dX3_takeTile_25 : decode cX3_takeTile 25 = .ok (.aload_n 0, 1) := by decide +kernel
theorem dX3_takeTile_26 : decode cX3_takeTile 26 = .ok (.getfield 25, 3) := by decide +kernel
theorem dX3_takeTile_29 : decode cX3_takeTile 29 = .ok (.iload_n 2, 1) := by decide +kernel
theorem dX3_takeTile_30 : decode cX3_takeTile 30 = .ok (.iload_n 1, 1) := by decide +kernel
theorem dX3_takeTile_31 : decode cX3_takeTile 31 = .ok (.invokestatic 101, 3) := by decide +kernel
theorem dX3_takeTile_34 : decode cX3_takeTile 34 = .ok (.iconst 1, 1) := by decide +kernel
theorem dX3_takeTile_35 : decode cX3_takeTile 35 = .ok (.invokestatic 112, 3) := by decide +kernel
theorem dX3_takeTile_38 : decode cX3_takeTile 38 = .ok (.aload_n 0, 1) := by decide +kernel
theorem dX3_takeTile_39 : decode cX3_takeTile 39 = .ok (.iload_n 2, 1) := by decide +kernel
theorem dX3_takeTile_40 : decode cX3_takeTile 40 = .ok (.putfield 98, 3) := by decide +kernel
theorem dX3_takeTile_43 : decode cX3_takeTile 43 = .ok (.return_, 1) := by decide +kernel
theorem dX3_pairOf_0 : decode cX3_pairOf 0 = .ok (.iload_n 0, 1) := by decide +kernel
theorem dX3_pairOf_1 : decode cX3_pairOf 1 = .ok (.bipush 7, 2) := by decide +kernel
theorem dX3_pairOf_3 : decode cX3_pairOf 3 = .ok (.imul, 1) := by decide +kernel
theorem dX3_pairOf_4 : decode cX3_pairOf 4 = .ok (.iload_n 1, 1) := by decide +kernel
theorem dX3_pairOf_5 : decode cX3_pairOf 5 = .ok (.iadd, 1) := by decide +kernel
theorem dX3_pairOf_6 : decode cX3_pairOf 6 = .ok (.ireturn, 1) := by decide +kernel
theorem dX3_readMove_0 : decode cX3_readMove 0 = .ok (.aload_n 0, 1) := by decide +kernel
theorem dX3_readMove_1 : decode cX3_readMove 1 = .ok (.getfield 21, 3) := by decide +kernel
theorem dX3_readMove_4 : decode cX3_readMove 4 = .ok (.ldc 116, 2) := by decide +kernel
theorem dX3_readMove_6 : decode cX3_readMove 6 = .ok (.invokevirtual 51, 3) := by decide +kernel
theorem dX3_readMove_9 : decode cX3_readMove 9 = .ok (.ifCond .eq 9, 3) := by decide +kernel
theorem dX3_readMove_12 : decode cX3_readMove 12 = .ok (.aload_n 0, 1) := by decide +kernel
theorem dX3_readMove_13 : decode cX3_readMove 13 = .ok (.iconst 1, 1) := by decide +kernel
theorem dX3_readMove_14 : decode cX3_readMove 14 = .ok (.invokevirtual 118, 3) := by decide +kernel
theorem dX3_readMove_17 : decode cX3_readMove 17 = .ok (.ireturn, 1) := by decide +kernel
theorem dX3_readMove_18 : decode cX3_readMove 18 = .ok (.aload_n 0, 1) := by decide +kernel
theorem dX3_readMove_19 : decode cX3_readMove 19 = .ok (.getfield 21, 3) := by decide +kernel
theorem dX3_readMove_22 : decode cX3_readMove 22 = .ok (.ldc 122, 2) := by decide +kernel
theorem dX3_readMove_24 : decode cX3_readMove 24 = .ok (.invokevirtual 51, 3) := by decide +kernel
theorem dX3_readMove_27 : decode cX3_readMove 27 = .ok (.ifCond .eq 9, 3) := by decide +kernel
theorem dX3_readMove_30 : decode cX3_readMove 30 = .ok (.aload_n 0, 1) := by decide +kernel
theorem dX3_readMove_31 : decode cX3_readMove 31 = .ok (.iconst 0, 1) := by decide +kernel
theorem dX3_readMove_32 : decode cX3_readMove 32 = .ok (.invokevirtual 118, 3) := by decide +kernel
theorem dX3_readMove_35 : decode cX3_readMove 35 = .ok (.ireturn, 1) := by decide +kernel
theorem dX3_readMove_36 : decode cX3_readMove 36 = .ok (.aload_n 0, 1) := by decide +kernel
theorem dX3_readMove_37 : decode cX3_readMove 37 = .ok (.getfield 21, 3) := by decide +kernel
theorem dX3_readMove_40 : decode cX3_readMove 40 = .ok (.ldc 124, 2) := by decide +kernel
theorem dX3_readMove_42 : decode cX3_readMove 42 = .ok (.invokevirtual 51, 3) := by decide +kernel
theorem dX3_readMove_45 : decode cX3_readMove 45 = .ok (.ifCond .eq 8, 3) := by decide +kernel
theorem dX3_readMove_48 : decode cX3_readMove 48 = .ok (.aload_n 0, 1) := by decide +kernel
theorem dX3_readMove_49 : decode cX3_readMove 49 = .ok (.invokevirtual 126, 3) := by decide +kernel
theorem dX3_readMove_52 : decode cX3_readMove 52 = .ok (.ireturn, 1) := by decide +kernel
theorem dX3_readMove_53 : decode cX3_readMove 53 = .ok (.aload_n 0, 1) := by decide +kernel
theorem dX3_readMove_54 : decode cX3_readMove 54 = .ok (.getfield 21, 3) := by decide +kernel
theorem dX3_readMove_57 : decode cX3_readMove 57 = .ok (.ldc 129, 2) := by decide +kernel
theorem dX3_readMove_59 : decode cX3_readMove 59 = .ok (.invokevirtual 51, 3) := by decide +kernel
theorem dX3_readMove_62 : decode cX3_readMove 62 = .ok (.ifCond .eq 8, 3) := by decide +kernel
theorem dX3_readMove_65 : decode cX3_readMove 65 = .ok (.aload_n 0, 1) := by decide +kernel
theorem dX3_readMove_66 : decode cX3_readMove 66 = .ok (.invokevirtual 131, 3) := by decide +kernel
theorem dX3_readMove_69 : decode cX3_readMove 69 = .ok (.ireturn, 1) := by decide +kernel
theorem dX3_readMove_70 : decode cX3_readMove 70 = .ok (.aload_n 0, 1) := by decide +kernel
theorem dX3_readMove_71 : decode cX3_readMove 71 = .ok (.iconst 1, 1) := by decide +kernel
theorem dX3_readMove_72 : decode cX3_readMove 72 = .ok (.invokevirtual 55, 3) := by decide +kernel
theorem dX3_readMove_75 : decode cX3_readMove 75 = .ok (.ireturn, 1) := by decide +kernel
theorem dX3_readBurn_0 : decode cX3_readBurn 0 = .ok (.aload_n 0, 1) := by decide +kernel
theorem dX3_readBurn_1 : decode cX3_readBurn 1 = .ok (.getfield 21, 3) := by decide +kernel
theorem dX3_readBurn_4 : decode cX3_readBurn 4 = .ok (.invokevirtual 75, 3) := by decide +kernel
theorem dX3_readBurn_7 : decode cX3_readBurn 7 = .ok (.aload_n 0, 1) := by decide +kernel
theorem dX3_readBurn_8 : decode cX3_readBurn 8 = .ok (.getfield 21, 3) := by decide +kernel
theorem dX3_readBurn_11 : decode cX3_readBurn 11 = .ok (.iconst 1, 1) := by decide +kernel
theorem dX3_readBurn_12 : decode cX3_readBurn 12 = .ok (.invokevirtual 95, 3) := by decide +kernel
theorem dX3_readBurn_15 : decode cX3_readBurn 15 = .ok (.ifCond .ne 9, 3) := by decide +kernel
theorem dX3_readBurn_18 : decode cX3_readBurn 18 = .ok (.aload_n 0, 1) := by decide +kernel
theorem dX3_readBurn_19 : decode cX3_readBurn 19 = .ok (.iconst 1, 1) := by decide +kernel
theorem dX3_readBurn_20 : decode cX3_readBurn 20 = .ok (.invokevirtual 55, 3) := by decide +kernel
theorem dX3_readBurn_23 : decode cX3_readBurn 23 = .ok (.ireturn, 1) := by decide +kernel
theorem dX3_readBurn_24 : decode cX3_readBurn 24 = .ok (.aload_n 0, 1) := by decide +kernel
theorem dX3_readBurn_25 : decode cX3_readBurn 25 = .ok (.getfield 21, 3) := by decide +kernel
theorem dX3_readBurn_28 : decode cX3_readBurn 28 = .ok (.iconst 0, 1) := by decide +kernel
theorem dX3_readBurn_29 : decode cX3_readBurn 29 = .ok (.invokevirtual 88, 3) := by decide +kernel
theorem dX3_readBurn_32 : decode cX3_readBurn 32 = .ok (.istore_n 2, 1) := by decide +kernel
theorem dX3_readBurn_33 : decode cX3_readBurn 33 = .ok (.aload_n 0, 1) := by decide +kernel
theorem dX3_readBurn_34 : decode cX3_readBurn 34 = .ok (.getfield 12, 3) := by decide +kernel
theorem dX3_readBurn_37 : decode cX3_readBurn 37 = .ok (.getfield 134, 3) := by decide +kernel
theorem dX3_readBurn_40 : decode cX3_readBurn 40 = .ok (.getfield 138, 3) := by decide +kernel
theorem dX3_readBurn_43 : decode cX3_readBurn 43 = .ok (.ifCond .ne 26, 3) := by decide +kernel
theorem dX3_readBurn_46 : decode cX3_readBurn 46 = .ok (.iload_n 2, 1) := by decide +kernel
theorem dX3_readBurn_47 : decode cX3_readBurn 47 = .ok (.aload_n 0, 1) := by decide +kernel
theorem dX3_readBurn_48 : decode cX3_readBurn 48 = .ok (.getfield 12, 3) := by decide +kernel
theorem dX3_readBurn_51 : decode cX3_readBurn 51 = .ok (.invokevirtual 144, 3) := by decide +kernel
theorem dX3_readBurn_54 : decode cX3_readBurn 54 = .ok (.if_icmp .ge 15, 3) := by decide +kernel
theorem dX3_readBurn_57 : decode cX3_readBurn 57 = .ok (.aload_n 0, 1) := by decide +kernel
theorem dX3_readBurn_58 : decode cX3_readBurn 58 = .ok (.getfield 12, 3) := by decide +kernel
theorem dX3_readBurn_61 : decode cX3_readBurn 61 = .ok (.iload_n 2, 1) := by decide +kernel
theorem dX3_readBurn_62 : decode cX3_readBurn 62 = .ok (.invokevirtual 148, 3) := by decide +kernel
theorem dX3_readBurn_65 : decode cX3_readBurn 65 = .ok (.iconst 2, 1) := by decide +kernel
theorem dX3_readBurn_66 : decode cX3_readBurn 66 = .ok (.if_icmp .ge 10, 3) := by decide +kernel
theorem dX3_readBurn_69 : decode cX3_readBurn 69 = .ok (.aload_n 0, 1) := by decide +kernel
theorem dX3_readBurn_70 : decode cX3_readBurn 70 = .ok (.bipush 6, 2) := by decide +kernel
theorem dX3_readBurn_72 : decode cX3_readBurn 72 = .ok (.invokevirtual 55, 3) := by decide +kernel
theorem dX3_readBurn_75 : decode cX3_readBurn 75 = .ok (.ireturn, 1) := by decide +kernel
theorem dX3_readBurn_76 : decode cX3_readBurn 76 = .ok (.aload_n 0, 1) := by decide +kernel
theorem dX3_readBurn_77 : decode cX3_readBurn 77 = .ok (.invokevirtual 151, 3) := by decide +kernel
theorem dX3_readBurn_80 : decode cX3_readBurn 80 = .ok (.ifCond .ne 5, 3) := by decide +kernel
theorem dX3_readBurn_83 : decode cX3_readBurn 83 = .ok (.iconst 0, 1) := by decide +kernel
theorem dX3_readBurn_84 : decode cX3_readBurn 84 = .ok (.ireturn, 1) := by decide +kernel
theorem dX3_readBurn_85 : decode cX3_readBurn 85 = .ok (.aload_n 0, 1) := by decide +kernel
theorem dX3_readBurn_86 : decode cX3_readBurn 86 = .ok (.getfield 12, 3) := by decide +kernel
theorem dX3_readBurn_89 : decode cX3_readBurn 89 = .ok (.iload_n 2, 1) := by decide +kernel
theorem dX3_readBurn_90 : decode cX3_readBurn 90 = .ok (.iload_n 1, 1) := by decide +kernel
theorem dX3_readBurn_91 : decode cX3_readBurn 91 = .ok (.invokestatic 154, 3) := by decide +kernel
theorem dX3_readBurn_94 : decode cX3_readBurn 94 = .ok (.invokevirtual 158, 3) := by decide +kernel
theorem dX3_readBurn_97 : decode cX3_readBurn 97 = .ok (.iconst 1, 1) := by decide +kernel
theorem dX3_readBurn_98 : decode cX3_readBurn 98 = .ok (.ireturn, 1) := by decide +kernel
theorem dX3_readPass_0 : decode cX3_readPass 0 = .ok (.aload_n 0, 1) := by decide +kernel
theorem dX3_readPass_1 : decode cX3_readPass 1 = .ok (.getfield 12, 3) := by decide +kernel
theorem dX3_readPass_4 : decode cX3_readPass 4 = .ok (.getfield 134, 3) := by decide +kernel
theorem dX3_readPass_7 : decode cX3_readPass 7 = .ok (.getfield 138, 3) := by decide +kernel
theorem dX3_readPass_10 : decode cX3_readPass 10 = .ok (.ifCond .eq 10, 3) := by decide +kernel
theorem dX3_readPass_13 : decode cX3_readPass 13 = .ok (.aload_n 0, 1) := by decide +kernel
theorem dX3_readPass_14 : decode cX3_readPass 14 = .ok (.bipush 6, 2) := by decide +kernel
theorem dX3_readPass_16 : decode cX3_readPass 16 = .ok (.invokevirtual 55, 3) := by decide +kernel
theorem dX3_readPass_19 : decode cX3_readPass 19 = .ok (.ireturn, 1) := by decide +kernel
theorem dX3_readPass_20 : decode cX3_readPass 20 = .ok (.aload_n 0, 1) := by decide +kernel
theorem dX3_readPass_21 : decode cX3_readPass 21 = .ok (.invokevirtual 151, 3) := by decide +kernel
theorem dX3_readPass_24 : decode cX3_readPass 24 = .ok (.ifCond .ne 5, 3) := by decide +kernel
theorem dX3_readPass_27 : decode cX3_readPass 27 = .ok (.iconst 0, 1) := by decide +kernel
theorem dX3_readPass_28 : decode cX3_readPass 28 = .ok (.ireturn, 1) := by decide +kernel
theorem dX3_readPass_29 : decode cX3_readPass 29 = .ok (.aload_n 0, 1) := by decide +kernel
theorem dX3_readPass_30 : decode cX3_readPass 30 = .ok (.getfield 12, 3) := by decide +kernel
theorem dX3_readPass_33 : decode cX3_readPass 33 = .ok (.bipush 6, 2) := by decide +kernel
theorem dX3_readPass_35 : decode cX3_readPass 35 = .ok (.invokevirtual 158, 3) := by decide +kernel
theorem dX3_readPass_38 : decode cX3_readPass 38 = .ok (.iconst 1, 1) := by decide +kernel
theorem dX3_readPass_39 : decode cX3_readPass 39 = .ok (.ireturn, 1) := by decide +kernel
theorem dX3_readNext_0 : decode cX3_readNext 0 = .ok (.aload_n 0, 1) := by decide +kernel
theorem dX3_readNext_1 : decode cX3_readNext 1 = .ok (.getfield 12, 3) := by decide +kernel
theorem dX3_readNext_4 : decode cX3_readNext 4 = .ok (.getfield 134, 3) := by decide +kernel
theorem dX3_readNext_7 : decode cX3_readNext 7 = .ok (.getfield 138, 3) := by decide +kernel
theorem dX3_readNext_10 : decode cX3_readNext 10 = .ok (.ifCond .eq 13, 3) := by decide +kernel
theorem dX3_readNext_13 : decode cX3_readNext 13 = .ok (.aload_n 0, 1) := by decide +kernel
theorem dX3_readNext_14 : decode cX3_readNext 14 = .ok (.getfield 12, 3) := by decide +kernel
theorem dX3_readNext_17 : decode cX3_readNext 17 = .ok (.invokevirtual 162, 3) := by decide +kernel
theorem dX3_readNext_20 : decode cX3_readNext 20 = .ok (.ifCond .eq 10, 3) := by decide +kernel
theorem dX3_readNext_23 : decode cX3_readNext 23 = .ok (.aload_n 0, 1) := by decide +kernel
theorem dX3_readNext_24 : decode cX3_readNext 24 = .ok (.bipush 6, 2) := by decide +kernel
theorem dX3_readNext_26 : decode cX3_readNext 26 = .ok (.invokevirtual 55, 3) := by decide +kernel
theorem dX3_readNext_29 : decode cX3_readNext 29 = .ok (.ireturn, 1) := by decide +kernel
theorem dX3_readNext_30 : decode cX3_readNext 30 = .ok (.aload_n 0, 1) := by decide +kernel
theorem dX3_readNext_31 : decode cX3_readNext 31 = .ok (.invokevirtual 151, 3) := by decide +kernel
theorem dX3_readNext_34 : decode cX3_readNext 34 = .ok (.ifCond .ne 5, 3) := by decide +kernel
theorem dX3_readNext_37 : decode cX3_readNext 37 = .ok (.iconst 0, 1) := by decide +kernel
theorem dX3_readNext_38 : decode cX3_readNext 38 = .ok (.ireturn, 1) := by decide +kernel
theorem dX3_readNext_39 : decode cX3_readNext 39 = .ok (.aload_n 0, 1) := by decide +kernel
theorem dX3_readNext_40 : decode cX3_readNext 40 = .ok (.getfield 12, 3) := by decide +kernel
theorem dX3_readNext_43 : decode cX3_readNext 43 = .ok (.invokevirtual 165, 3) := by decide +kernel
theorem dX3_readNext_46 : decode cX3_readNext 46 = .ok (.iconst 1, 1) := by decide +kernel
theorem dX3_readNext_47 : decode cX3_readNext 47 = .ok (.ireturn, 1) := by decide +kernel
theorem dX3_readSemicolon_0 : decode cX3_readSemicolon 0 = .ok (.aload_n 0, 1) := by decide +kernel
theorem dX3_readSemicolon_1 : decode cX3_readSemicolon 1 = .ok (.getfield 21, 3) := by decide +kernel
theorem dX3_readSemicolon_4 : decode cX3_readSemicolon 4 = .ok (.invokevirtual 75, 3) := by decide +kernel
theorem dX3_readSemicolon_7 : decode cX3_readSemicolon 7 = .ok (.aload_n 0, 1) := by decide +kernel
theorem dX3_readSemicolon_8 : decode cX3_readSemicolon 8 = .ok (.getfield 21, 3) := by decide +kernel
theorem dX3_readSemicolon_11 : decode cX3_readSemicolon 11 = .ok (.getfield 66, 3) := by decide +kernel
theorem dX3_readSemicolon_14 : decode cX3_readSemicolon 14 = .ok (.iconst 4, 1) := by decide +kernel
theorem dX3_readSemicolon_15 : decode cX3_readSemicolon 15 = .ok (.if_icmp .eq 9, 3) := by decide +kernel
theorem dX3_readSemicolon_18 : decode cX3_readSemicolon 18 = .ok (.aload_n 0, 1) := by decide +kernel
theorem dX3_readSemicolon_19 : decode cX3_readSemicolon 19 = .ok (.iconst 1, 1) := by decide +kernel
theorem dX3_readSemicolon_20 : decode cX3_readSemicolon 20 = .ok (.invokevirtual 55, 3) := by decide +kernel
theorem dX3_readSemicolon_23 : decode cX3_readSemicolon 23 = .ok (.ireturn, 1) := by decide +kernel
theorem dX3_readSemicolon_24 : decode cX3_readSemicolon 24 = .ok (.aload_n 0, 1) := by decide +kernel
theorem dX3_readSemicolon_25 : decode cX3_readSemicolon 25 = .ok (.getfield 21, 3) := by decide +kernel
theorem dX3_readSemicolon_28 : decode cX3_readSemicolon 28 = .ok (.invokevirtual 75, 3) := by decide +kernel
theorem dX3_readSemicolon_31 : decode cX3_readSemicolon 31 = .ok (.iconst 1, 1) := by decide +kernel
theorem dX3_readSemicolon_32 : decode cX3_readSemicolon 32 = .ok (.ireturn, 1) := by decide +kernel
theorem dX3_fail_0 : decode cX3_fail 0 = .ok (.aload_n 0, 1) := by decide +kernel
theorem dX3_fail_1 : decode cX3_fail 1 = .ok (.iload_n 1, 1) := by decide +kernel
theorem dX3_fail_2 : decode cX3_fail 2 = .ok (.putfield 29, 3) := by decide +kernel
theorem dX3_fail_5 : decode cX3_fail 5 = .ok (.aload_n 0, 1) := by decide +kernel
theorem dX3_fail_6 : decode cX3_fail 6 = .ok (.aload_n 0, 1) := by decide +kernel
theorem dX3_fail_7 : decode cX3_fail 7 = .ok (.getfield 21, 3) := by decide +kernel
theorem dX3_fail_10 : decode cX3_fail 10 = .ok (.getfield 168, 3) := by decide +kernel
theorem dX3_fail_13 : decode cX3_fail 13 = .ok (.putfield 33, 3) := by decide +kernel
theorem dX3_fail_16 : decode cX3_fail 16 = .ok (.iconst 0, 1) := by decide +kernel
theorem dX3_fail_17 : decode cX3_fail 17 = .ok (.ireturn, 1) := by decide +kernel
theorem dX4_init_0 : decode cX4_init 0 = .ok (.aload_n 0, 1) := by decide +kernel
theorem dX4_init_1 : decode cX4_init 1 = .ok (.invokespecial 3, 3) := by decide +kernel
theorem dX4_init_4 : decode cX4_init 4 = .ok (.aload_n 0, 1) := by decide +kernel
theorem dX4_init_5 : decode cX4_init 5 = .ok (.sipush 500, 3) := by decide +kernel
theorem dX4_init_8 : decode cX4_init 8 = .ok (.newarray .int, 2) := by decide +kernel
theorem dX4_init_10 : decode cX4_init 10 = .ok (.putfield 9, 3) := by decide +kernel
theorem dX4_init_13 : decode cX4_init 13 = .ok (.return_, 1) := by decide +kernel
theorem dX4_open_0 : decode cX4_open 0 = .ok (.aload_n 1, 1) := by decide +kernel
theorem dX4_open_1 : decode cX4_open 1 = .ok (.aload_n 0, 1) := by decide +kernel
theorem dX4_open_2 : decode cX4_open 2 = .ok (.getfield 9, 3) := by decide +kernel
theorem dX4_open_5 : decode cX4_open 5 = .ok (.invokestatic 15, 3) := by decide +kernel
theorem dX4_open_8 : decode cX4_open 8 = .ok (.aload_n 0, 1) := by decide +kernel
theorem dX4_open_9 : decode cX4_open 9 = .ok (.iload_n 2, 1) := by decide +kernel
theorem dX4_open_10 : decode cX4_open 10 = .ok (.putfield 19, 3) := by decide +kernel
theorem dX4_open_13 : decode cX4_open 13 = .ok (.aload_n 0, 1) := by decide +kernel
theorem dX4_open_14 : decode cX4_open 14 = .ok (.iconst 0, 1) := by decide +kernel
theorem dX4_open_15 : decode cX4_open 15 = .ok (.putfield 23, 3) := by decide +kernel
theorem dX4_open_18 : decode cX4_open 18 = .ok (.aload_n 0, 1) := by decide +kernel
theorem dX4_open_19 : decode cX4_open 19 = .ok (.invokevirtual 26, 3) := by decide +kernel
theorem dX4_open_22 : decode cX4_open 22 = .ok (.return_, 1) := by decide +kernel
theorem dX4_step_0 : decode cX4_step 0 = .ok (.aload_n 0, 1) := by decide +kernel
theorem dX4_step_1 : decode cX4_step 1 = .ok (.aload_n 0, 1) := by decide +kernel
theorem dX4_step_2 : decode cX4_step 2 = .ok (.getfield 23, 3) := by decide +kernel
theorem dX4_step_5 : decode cX4_step 5 = .ok (.putfield 29, 3) := by decide +kernel
theorem dX4_step_8 : decode cX4_step 8 = .ok (.aload_n 0, 1) := by decide +kernel
theorem dX4_step_9 : decode cX4_step 9 = .ok (.getfield 29, 3) := by decide +kernel
theorem dX4_step_12 : decode cX4_step 12 = .ok (.aload_n 0, 1) := by decide +kernel
theorem dX4_step_13 : decode cX4_step 13 = .ok (.getfield 19, 3) := by decide +kernel
theorem dX4_step_16 : decode cX4_step 16 = .ok (.if_icmp .ge 33, 3) := by decide +kernel
theorem dX4_step_19 : decode cX4_step 19 = .ok (.aload_n 0, 1) := by decide +kernel
theorem dX4_step_20 : decode cX4_step 20 = .ok (.getfield 9, 3) := by decide +kernel
theorem dX4_step_23 : decode cX4_step 23 = .ok (.aload_n 0, 1) := by decide +kernel
theorem dX4_step_24 : decode cX4_step 24 = .ok (.getfield 29, 3) := by decide +kernel
theorem dX4_step_27 : decode cX4_step 27 = .ok (.invokestatic 32, 3) := by decide +kernel
theorem dX4_step_30 : decode cX4_step 30 = .ok (.invokestatic 36, 3) := by decide +kernel
theorem dX4_step_33 : decode cX4_step 33 = .ok (.ifCond .eq 16, 3) := by decide +kernel
theorem dX4_step_36 : decode cX4_step 36 = .ok (.aload_n 0, 1) := by decide +kernel
theorem dX4_step_37 : decode cX4_step 37 = .ok (.dup, 1) := by decide +kernel
theorem dX4_step_38 : decode cX4_step 38 = .ok (.getfield 29, 3) := by decide +kernel
theorem dX4_step_41 : decode cX4_step 41 = .ok (.iconst 1, 1) := by decide +kernel
theorem dX4_step_42 : decode cX4_step 42 = .ok (.iadd, 1) := by decide +kernel
theorem dX4_step_43 : decode cX4_step 43 = .ok (.putfield 29, 3) := by decide +kernel
theorem dX4_step_46 : decode cX4_step 46 = .ok (.goto (-38), 3) := by decide +kernel
theorem dX4_step_49 : decode cX4_step 49 = .ok (.aload_n 0, 1) := by decide +kernel
theorem dX4_step_50 : decode cX4_step 50 = .ok (.aload_n 0, 1) := by decide +kernel
theorem dX4_step_51 : decode cX4_step 51 = .ok (.getfield 29, 3) := by decide +kernel
