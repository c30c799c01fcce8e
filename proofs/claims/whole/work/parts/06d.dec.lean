theorem dX8_at_6 : decode cX8_at 6 = .ok (.arraylength, 1) := by decide +kernel
theorem dX8_at_7 : decode cX8_at 7 = .ok (.if_icmp .ge 9, 3) := by decide +kernel
theorem dX8_at_10 : decode cX8_at 10 = .ok (.aload_n 0, 1) := by decide +kernel
theorem dX8_at_11 : decode cX8_at 11 = .ok (.iload_n 1, 1) := by decide +kernel
theorem dX8_at_12 : decode cX8_at 12 = .ok (.iaload, 1) := by decide +kernel
theorem dX8_at_13 : decode cX8_at 13 = .ok (.goto 4, 3) := by decide +kernel
theorem dX8_at_16 : decode cX8_at 16 = .ok (.iconst 0, 1) := by decide +kernel
theorem dX8_at_17 : decode cX8_at 17 = .ok (.ireturn, 1) := by decide +kernel
theorem dX8_put_0 : decode cX8_put 0 = .ok (.iload_n 1, 1) := by decide +kernel
theorem dX8_put_1 : decode cX8_put 1 = .ok (.ifCond .lt 13, 3) := by decide +kernel
theorem dX8_put_4 : decode cX8_put 4 = .ok (.iload_n 1, 1) := by decide +kernel
theorem dX8_put_5 : decode cX8_put 5 = .ok (.aload_n 0, 1) := by decide +kernel
theorem dX8_put_6 : decode cX8_put 6 = .ok (.arraylength, 1) := by decide +kernel
theorem dX8_put_7 : decode cX8_put 7 = .ok (.if_icmp .ge 7, 3) := by decide +kernel
theorem dX8_put_10 : decode cX8_put 10 = .ok (.aload_n 0, 1) := by decide +kernel
theorem dX8_put_11 : decode cX8_put 11 = .ok (.iload_n 1, 1) := by decide +kernel
theorem dX8_put_12 : decode cX8_put 12 = .ok (.iload_n 2, 1) := by decide +kernel
theorem dX8_put_13 : decode cX8_put 13 = .ok (.iastore, 1) := by decide +kernel
theorem dX8_put_14 : decode cX8_put 14 = .ok (.return_, 1) := by decide +kernel
theorem dX8_copyRow_0 : decode cX8_copyRow 0 = .ok (.aload_n 0, 1) := by decide +kernel
theorem dX8_copyRow_1 : decode cX8_copyRow 1 = .ok (.iconst 0, 1) := by decide +kernel
theorem dX8_copyRow_2 : decode cX8_copyRow 2 = .ok (.aload_n 1, 1) := by decide +kernel
theorem dX8_copyRow_3 : decode cX8_copyRow 3 = .ok (.iconst 0, 1) := by decide +kernel
theorem dX8_copyRow_4 : decode cX8_copyRow 4 = .ok (.aload_n 0, 1) := by decide +kernel
theorem dX8_copyRow_5 : decode cX8_copyRow 5 = .ok (.arraylength, 1) := by decide +kernel
theorem dX8_copyRow_6 : decode cX8_copyRow 6 = .ok (.aload_n 1, 1) := by decide +kernel
theorem dX8_copyRow_7 : decode cX8_copyRow 7 = .ok (.arraylength, 1) := by decide +kernel
theorem dX8_copyRow_8 : decode cX8_copyRow 8 = .ok (.invokestatic 352, 3) := by decide +kernel
theorem dX8_copyRow_11 : decode cX8_copyRow 11 = .ok (.invokestatic 357, 3) := by decide +kernel
theorem dX8_copyRow_14 : decode cX8_copyRow 14 = .ok (.return_, 1) := by decide +kernel
theorem dX9_init_0 : decode cX9_init 0 = .ok (.aload_n 0, 1) := by decide +kernel
theorem dX9_init_1 : decode cX9_init 1 = .ok (.invokespecial 1, 3) := by decide +kernel
theorem dX9_init_4 : decode cX9_init 4 = .ok (.aload_n 0, 1) := by decide +kernel
theorem dX9_init_5 : decode cX9_init 5 = .ok (.sipush 2784, 3) := by decide +kernel
theorem dX9_init_8 : decode cX9_init 8 = .ok (.newarray .int, 2) := by decide +kernel
theorem dX9_init_10 : decode cX9_init 10 = .ok (.putfield 7, 3) := by decide +kernel
theorem dX9_init_13 : decode cX9_init 13 = .ok (.aload_n 0, 1) := by decide +kernel
theorem dX9_init_14 : decode cX9_init 14 = .ok (.sipush 500, 3) := by decide +kernel
theorem dX9_init_17 : decode cX9_init 17 = .ok (.newarray .byte, 2) := by decide +kernel
theorem dX9_init_19 : decode cX9_init 19 = .ok (.putfield 13, 3) := by decide +kernel
theorem dX9_init_22 : decode cX9_init 22 = .ok (.aload_n 0, 1) := by decide +kernel
theorem dX9_init_23 : decode cX9_init 23 = .ok (.sipush 200, 3) := by decide +kernel
theorem dX9_init_26 : decode cX9_init 26 = .ok (.newarray .char, 2) := by decide +kernel
theorem dX9_init_28 : decode cX9_init 28 = .ok (.putfield 17, 3) := by decide +kernel
theorem dX9_init_31 : decode cX9_init 31 = .ok (.aload_n 0, 1) := by decide +kernel
theorem dX9_init_32 : decode cX9_init 32 = .ok (.ldc 21, 2) := by decide +kernel
theorem dX9_init_34 : decode cX9_init 34 = .ok (.newarray .int, 2) := by decide +kernel
theorem dX9_init_36 : decode cX9_init 36 = .ok (.putfield 22, 3) := by decide +kernel
theorem dX9_init_39 : decode cX9_init 39 = .ok (.aload_n 0, 1) := by decide +kernel
theorem dX9_init_40 : decode cX9_init 40 = .ok (.iconst (-1), 1) := by decide +kernel
theorem dX9_init_41 : decode cX9_init 41 = .ok (.putfield 25, 3) := by decide +kernel
theorem dX9_init_44 : decode cX9_init 44 = .ok (.aload_n 0, 1) := by decide +kernel
theorem dX9_init_45 : decode cX9_init 45 = .ok (.invokevirtual 29, 3) := by decide +kernel
theorem dX9_init_48 : decode cX9_init 48 = .ok (.aload_n 0, 1) := by decide +kernel
theorem dX9_init_49 : decode cX9_init 49 = .ok (.iconst 0, 1) := by decide +kernel
theorem dX9_init_50 : decode cX9_init 50 = .ok (.iconst 1, 1) := by decide +kernel
theorem dX9_init_51 : decode cX9_init 51 = .ok (.invokevirtual 32, 3) := by decide +kernel
theorem dX9_init_54 : decode cX9_init 54 = .ok (.aload_n 0, 1) := by decide +kernel
theorem dX9_init_55 : decode cX9_init 55 = .ok (.bipush 18, 2) := by decide +kernel
theorem dX9_init_57 : decode cX9_init 57 = .ok (.iconst 2, 1) := by decide +kernel
theorem dX9_init_58 : decode cX9_init 58 = .ok (.invokevirtual 32, 3) := by decide +kernel
theorem dX9_init_61 : decode cX9_init 61 = .ok (.aload_n 0, 1) := by decide +kernel
theorem dX9_init_62 : decode cX9_init 62 = .ok (.bipush 22, 2) := by decide +kernel
theorem dX9_init_64 : decode cX9_init 64 = .ok (.iconst 3, 1) := by decide +kernel
theorem dX9_init_65 : decode cX9_init 65 = .ok (.invokevirtual 32, 3) := by decide +kernel
theorem dX9_init_68 : decode cX9_init 68 = .ok (.aload_n 0, 1) := by decide +kernel
theorem dX9_init_69 : decode cX9_init 69 = .ok (.bipush 23, 2) := by decide +kernel
theorem dX9_init_71 : decode cX9_init 71 = .ok (.iconst 3, 1) := by decide +kernel
theorem dX9_init_72 : decode cX9_init 72 = .ok (.invokevirtual 32, 3) := by decide +kernel
theorem dX9_init_75 : decode cX9_init 75 = .ok (.aload_n 0, 1) := by decide +kernel
theorem dX9_init_76 : decode cX9_init 76 = .ok (.bipush 40, 2) := by decide +kernel
theorem dX9_init_78 : decode cX9_init 78 = .ok (.bipush 12, 2) := by decide +kernel
theorem dX9_init_80 : decode cX9_init 80 = .ok (.invokevirtual 32, 3) := by decide +kernel
theorem dX9_init_83 : decode cX9_init 83 = .ok (.aload_n 0, 1) := by decide +kernel
theorem dX9_init_84 : decode cX9_init 84 = .ok (.bipush 41, 2) := by decide +kernel
theorem dX9_init_86 : decode cX9_init 86 = .ok (.bipush 26, 2) := by decide +kernel
theorem dX9_init_88 : decode cX9_init 88 = .ok (.invokevirtual 32, 3) := by decide +kernel
theorem dX9_init_91 : decode cX9_init 91 = .ok (.aload_n 0, 1) := by decide +kernel
theorem dX9_init_92 : decode cX9_init 92 = .ok (.bipush 42, 2) := by decide +kernel
theorem dX9_init_94 : decode cX9_init 94 = .ok (.bipush 63, 2) := by decide +kernel
theorem dX9_init_96 : decode cX9_init 96 = .ok (.invokevirtual 32, 3) := by decide +kernel
theorem dX9_init_99 : decode cX9_init 99 = .ok (.aload_n 0, 1) := by decide +kernel
theorem dX9_init_100 : decode cX9_init 100 = .ok (.bipush 48, 2) := by decide +kernel
theorem dX9_init_102 : decode cX9_init 102 = .ok (.iconst 5, 1) := by decide +kernel
theorem dX9_init_103 : decode cX9_init 103 = .ok (.invokevirtual 32, 3) := by decide +kernel
theorem dX9_init_106 : decode cX9_init 106 = .ok (.aload_n 0, 1) := by decide +kernel
theorem dX9_init_107 : decode cX9_init 107 = .ok (.bipush 49, 2) := by decide +kernel
theorem dX9_init_109 : decode cX9_init 109 = .ok (.bipush 55, 2) := by decide +kernel
theorem dX9_init_111 : decode cX9_init 111 = .ok (.invokevirtual 32, 3) := by decide +kernel
theorem dX9_init_114 : decode cX9_init 114 = .ok (.aload_n 0, 1) := by decide +kernel
theorem dX9_init_115 : decode cX9_init 115 = .ok (.bipush 50, 2) := by decide +kernel
theorem dX9_init_117 : decode cX9_init 117 = .ok (.bipush 51, 2) := by decide +kernel
theorem dX9_init_119 : decode cX9_init 119 = .ok (.invokevirtual 32, 3) := by decide +kernel
theorem dX9_init_122 : decode cX9_init 122 = .ok (.aload_n 0, 1) := by decide +kernel
theorem dX9_init_123 : decode cX9_init 123 = .ok (.iconst 0, 1) := by decide +kernel
theorem dX9_init_124 : decode cX9_init 124 = .ok (.invokevirtual 36, 3) := by decide +kernel
theorem dX9_init_127 : decode cX9_init 127 = .ok (.return_, 1) := by decide +kernel
theorem dX9_thrown_0 : decode cX9_thrown 0 = .ok (.aload_n 0, 1) := by decide +kernel
theorem dX9_thrown_1 : decode cX9_thrown 1 = .ok (.getfield 40, 3) := by decide +kernel
theorem dX9_thrown_4 : decode cX9_thrown 4 = .ok (.ireturn, 1) := by decide +kernel
theorem dX9_fails_0 : decode cX9_fails 0 = .ok (.aload_n 0, 1) := by decide +kernel
theorem dX9_fails_1 : decode cX9_fails 1 = .ok (.iload_n 1, 1) := by decide +kernel
theorem dX9_fails_2 : decode cX9_fails 2 = .ok (.putfield 40, 3) := by decide +kernel
theorem dX9_fails_5 : decode cX9_fails 5 = .ok (.iconst 0, 1) := by decide +kernel
theorem dX9_fails_6 : decode cX9_fails 6 = .ok (.ireturn, 1) := by decide +kernel
theorem dX9_get_0 : decode cX9_get 0 = .ok (.aload_n 0, 1) := by decide +kernel
theorem dX9_get_1 : decode cX9_get 1 = .ok (.getfield 7, 3) := by decide +kernel
theorem dX9_get_4 : decode cX9_get 4 = .ok (.aload_n 0, 1) := by decide +kernel
theorem dX9_get_5 : decode cX9_get 5 = .ok (.getfield 43, 3) := by decide +kernel
theorem dX9_get_8 : decode cX9_get 8 = .ok (.iload_n 1, 1) := by decide +kernel
theorem dX9_get_9 : decode cX9_get 9 = .ok (.iadd, 1) := by decide +kernel
theorem dX9_get_10 : decode cX9_get 10 = .ok (.iaload, 1) := by decide +kernel
theorem dX9_get_11 : decode cX9_get 11 = .ok (.ireturn, 1) := by decide +kernel
theorem dX9_set_0 : decode cX9_set 0 = .ok (.aload_n 0, 1) := by decide +kernel
theorem dX9_set_1 : decode cX9_set 1 = .ok (.getfield 7, 3) := by decide +kernel
theorem dX9_set_4 : decode cX9_set 4 = .ok (.aload_n 0, 1) := by decide +kernel
theorem dX9_set_5 : decode cX9_set 5 = .ok (.getfield 43, 3) := by decide +kernel
theorem dX9_set_8 : decode cX9_set 8 = .ok (.iload_n 1, 1) := by decide +kernel
theorem dX9_set_9 : decode cX9_set 9 = .ok (.iadd, 1) := by decide +kernel
theorem dX9_set_10 : decode cX9_set 10 = .ok (.iload_n 2, 1) := by decide +kernel
theorem dX9_set_11 : decode cX9_set 11 = .ok (.iastore, 1) := by decide +kernel
theorem dX9_set_12 : decode cX9_set 12 = .ok (.return_, 1) := by decide +kernel
theorem dX9_adds_0 : decode cX9_adds 0 = .ok (.aload_n 0, 1) := by decide +kernel
theorem dX9_adds_1 : decode cX9_adds 1 = .ok (.iload_n 1, 1) := by decide +kernel
theorem dX9_adds_2 : decode cX9_adds 2 = .ok (.aload_n 0, 1) := by decide +kernel
theorem dX9_adds_3 : decode cX9_adds 3 = .ok (.iload_n 1, 1) := by decide +kernel
theorem dX9_adds_4 : decode cX9_adds 4 = .ok (.invokevirtual 46, 3) := by decide +kernel
theorem dX9_adds_7 : decode cX9_adds 7 = .ok (.iload_n 2, 1) := by decide +kernel
theorem dX9_adds_8 : decode cX9_adds 8 = .ok (.iadd, 1) := by decide +kernel
theorem dX9_adds_9 : decode cX9_adds 9 = .ok (.invokevirtual 32, 3) := by decide +kernel
theorem dX9_adds_12 : decode cX9_adds 12 = .ok (.return_, 1) := by decide +kernel
theorem dX9_copies_0 : decode cX9_copies 0 = .ok (.iconst 0, 1) := by decide +kernel
theorem dX9_copies_1 : decode cX9_copies 1 = .ok (.istore_n 3, 1) := by decide +kernel
theorem dX9_copies_2 : decode cX9_copies 2 = .ok (.iload_n 3, 1) := by decide +kernel
theorem dX9_copies_3 : decode cX9_copies 3 = .ok (.sipush 232, 3) := by decide +kernel
theorem dX9_copies_6 : decode cX9_copies 6 = .ok (.if_icmp .ge 33, 3) := by decide +kernel
theorem dX9_copies_9 : decode cX9_copies 9 = .ok (.aload_n 0, 1) := by decide +kernel
theorem dX9_copies_10 : decode cX9_copies 10 = .ok (.getfield 7, 3) := by decide +kernel
theorem dX9_copies_13 : decode cX9_copies 13 = .ok (.sipush 232, 3) := by decide +kernel
theorem dX9_copies_16 : decode cX9_copies 16 = .ok (.iload_n 2, 1) := by decide +kernel
theorem dX9_copies_17 : decode cX9_copies 17 = .ok (.imul, 1) := by decide +kernel
theorem dX9_copies_18 : decode cX9_copies 18 = .ok (.iload_n 3, 1) := by decide +kernel
theorem dX9_copies_19 : decode cX9_copies 19 = .ok (.iadd, 1) := by decide +kernel
theorem dX9_copies_20 : decode cX9_copies 20 = .ok (.aload_n 0, 1) := by decide +kernel
theorem dX9_copies_21 : decode cX9_copies 21 = .ok (.getfield 7, 3) := by decide +kernel
theorem dX9_copies_24 : decode cX9_copies 24 = .ok (.sipush 232, 3) := by decide +kernel
theorem dX9_copies_27 : decode cX9_copies 27 = .ok (.iload_n 1, 1) := by decide +kernel
theorem dX9_copies_28 : decode cX9_copies 28 = .ok (.imul, 1) := by decide +kernel
theorem dX9_copies_29 : decode cX9_copies 29 = .ok (.iload_n 3, 1) := by decide +kernel
theorem dX9_copies_30 : decode cX9_copies 30 = .ok (.iadd, 1) := by decide +kernel
theorem dX9_copies_31 : decode cX9_copies 31 = .ok (.iaload, 1) := by decide +kernel
theorem dX9_copies_32 : decode cX9_copies 32 = .ok (.iastore, 1) := by decide +kernel
theorem dX9_copies_33 : decode cX9_copies 33 = .ok (.iinc 3 1, 3) := by decide +kernel
theorem dX9_copies_36 : decode cX9_copies 36 = .ok (.goto (-34), 3) := by decide +kernel
theorem dX9_copies_39 : decode cX9_copies 39 = .ok (.return_, 1) := by decide +kernel
theorem dX9_records_0 : decode cX9_records 0 = .ok (.aload_n 0, 1) := by decide +kernel
theorem dX9_records_1 : decode cX9_records 1 = .ok (.getfield 50, 3) := by decide +kernel
theorem dX9_records_4 : decode cX9_records 4 = .ok (.aload_n 0, 1) := by decide +kernel
theorem dX9_records_5 : decode cX9_records 5 = .ok (.getfield 53, 3) := by decide +kernel
theorem dX9_records_8 : decode cX9_records 8 = .ok (.iadd, 1) := by decide +kernel
theorem dX9_records_9 : decode cX9_records 9 = .ok (.bipush 8, 2) := by decide +kernel
theorem dX9_records_11 : decode cX9_records 11 = .ok (.irem, 1) := by decide +kernel
theorem dX9_records_12 : decode cX9_records 12 = .ok (.istore_n 1, 1) := by decide +kernel
theorem dX9_records_13 : decode cX9_records 13 = .ok (.aload_n 0, 1) := by decide +kernel
theorem dX9_records_14 : decode cX9_records 14 = .ok (.getfield 53, 3) := by decide +kernel
theorem dX9_records_17 : decode cX9_records 17 = .ok (.bipush 8, 2) := by decide +kernel
theorem dX9_records_19 : decode cX9_records 19 = .ok (.if_icmp .ne 19, 3) := by decide +kernel
theorem dX9_records_22 : decode cX9_records 22 = .ok (.aload_n 0, 1) := by decide +kernel
theorem dX9_records_23 : decode cX9_records 23 = .ok (.aload_n 0, 1) := by decide +kernel
theorem dX9_records_24 : decode cX9_records 24 = .ok (.getfield 50, 3) := by decide +kernel
theorem dX9_records_27 : decode cX9_records 27 = .ok (.iconst 1, 1) := by decide +kernel
theorem dX9_records_28 : decode cX9_records 28 = .ok (.iadd, 1) := by decide +kernel
theorem dX9_records_29 : decode cX9_records 29 = .ok (.bipush 8, 2) := by decide +kernel
theorem dX9_records_31 : decode cX9_records 31 = .ok (.irem, 1) := by decide +kernel
theorem dX9_records_32 : decode cX9_records 32 = .ok (.putfield 50, 3) := by decide +kernel
theorem dX9_records_35 : decode cX9_records 35 = .ok (.goto 13, 3) := by decide +kernel
theorem dX9_records_38 : decode cX9_records 38 = .ok (.aload_n 0, 1) := by decide +kernel
theorem dX9_records_39 : decode cX9_records 39 = .ok (.dup, 1) := by decide +kernel
theorem dX9_records_40 : decode cX9_records 40 = .ok (.getfield 53, 3) := by decide +kernel
theorem dX9_records_43 : decode cX9_records 43 = .ok (.iconst 1, 1) := by decide +kernel
theorem dX9_records_44 : decode cX9_records 44 = .ok (.iadd, 1) := by decide +kernel
theorem dX9_records_45 : decode cX9_records 45 = .ok (.putfield 53, 3) := by decide +kernel
theorem dX9_records_48 : decode cX9_records 48 = .ok (.aload_n 0, 1) := by decide +kernel
theorem dX9_records_49 : decode cX9_records 49 = .ok (.iconst 0, 1) := by decide +kernel
theorem dX9_records_50 : decode cX9_records 50 = .ok (.iconst 1, 1) := by decide +kernel
theorem dX9_records_51 : decode cX9_records 51 = .ok (.iload_n 1, 1) := by decide +kernel
theorem dX9_records_52 : decode cX9_records 52 = .ok (.iadd, 1) := by decide +kernel
theorem dX9_records_53 : decode cX9_records 53 = .ok (.invokevirtual 56, 3) := by decide +kernel
theorem dX9_records_56 : decode cX9_records 56 = .ok (.return_, 1) := by decide +kernel
theorem dX9_begins_0 : decode cX9_begins 0 = .ok (.iconst 0, 1) := by decide +kernel
theorem dX9_begins_1 : decode cX9_begins 1 = .ok (.istore_n 1, 1) := by decide +kernel
theorem dX9_begins_2 : decode cX9_begins 2 = .ok (.iload_n 1, 1) := by decide +kernel
theorem dX9_begins_3 : decode cX9_begins 3 = .ok (.sipush 232, 3) := by decide +kernel
theorem dX9_begins_6 : decode cX9_begins 6 = .ok (.if_icmp .ge 15, 3) := by decide +kernel
theorem dX9_begins_9 : decode cX9_begins 9 = .ok (.aload_n 0, 1) := by decide +kernel
theorem dX9_begins_10 : decode cX9_begins 10 = .ok (.iload_n 1, 1) := by decide +kernel
theorem dX9_begins_11 : decode cX9_begins 11 = .ok (.iconst 0, 1) := by decide +kernel
theorem dX9_begins_12 : decode cX9_begins 12 = .ok (.invokevirtual 32, 3) := by decide +kernel
theorem dX9_begins_15 : decode cX9_begins 15 = .ok (.iinc 1 1, 3) := by decide +kernel
theorem dX9_begins_18 : decode cX9_begins 18 = .ok (.goto (-16), 3) := by decide +kernel
theorem dX9_begins_21 : decode cX9_begins 21 = .ok (.return_, 1) := by decide +kernel
theorem dX9_deals_0 : decode cX9_deals 0 = .ok (.aload_n 0, 1) := by decide +kernel
theorem dX9_deals_1 : decode cX9_deals 1 = .ok (.iconst 3, 1) := by decide +kernel
theorem dX9_deals_2 : decode cX9_deals 2 = .ok (.iload_n 1, 1) := by decide +kernel
theorem dX9_deals_3 : decode cX9_deals 3 = .ok (.invokevirtual 32, 3) := by decide +kernel
theorem dX9_deals_6 : decode cX9_deals 6 = .ok (.aload_n 0, 1) := by decide +kernel
theorem dX9_deals_7 : decode cX9_deals 7 = .ok (.iconst 2, 1) := by decide +kernel
theorem dX9_deals_8 : decode cX9_deals 8 = .ok (.iload_n 1, 1) := by decide +kernel
theorem dX9_deals_9 : decode cX9_deals 9 = .ok (.invokevirtual 32, 3) := by decide +kernel
theorem dX9_deals_12 : decode cX9_deals 12 = .ok (.aload_n 0, 1) := by decide +kernel
theorem dX9_deals_13 : decode cX9_deals 13 = .ok (.iconst 4, 1) := by decide +kernel
theorem dX9_deals_14 : decode cX9_deals 14 = .ok (.iconst 0, 1) := by decide +kernel
theorem dX9_deals_15 : decode cX9_deals 15 = .ok (.invokevirtual 32, 3) := by decide +kernel
theorem dX9_deals_18 : decode cX9_deals 18 = .ok (.aload_n 0, 1) := by decide +kernel
theorem dX9_deals_19 : decode cX9_deals 19 = .ok (.iconst 5, 1) := by decide +kernel
theorem dX9_deals_20 : decode cX9_deals 20 = .ok (.iconst 0, 1) := by decide +kernel
theorem dX9_deals_21 : decode cX9_deals 21 = .ok (.invokevirtual 32, 3) := by decide +kernel
theorem dX9_deals_24 : decode cX9_deals 24 = .ok (.iconst 0, 1) := by decide +kernel
theorem dX9_deals_25 : decode cX9_deals 25 = .ok (.istore_n 2, 1) := by decide +kernel
theorem dX9_deals_26 : decode cX9_deals 26 = .ok (.iload_n 2, 1) := by decide +kernel
theorem dX9_deals_27 : decode cX9_deals 27 = .ok (.iconst 3, 1) := by decide +kernel
theorem dX9_deals_28 : decode cX9_deals 28 = .ok (.if_icmp .ge 44, 3) := by decide +kernel
theorem dX9_deals_31 : decode cX9_deals 31 = .ok (.aload_n 0, 1) := by decide +kernel
theorem dX9_deals_32 : decode cX9_deals 32 = .ok (.bipush 34, 2) := by decide +kernel
theorem dX9_deals_34 : decode cX9_deals 34 = .ok (.iload_n 2, 1) := by decide +kernel
theorem dX9_deals_35 : decode cX9_deals 35 = .ok (.iadd, 1) := by decide +kernel
theorem dX9_deals_36 : decode cX9_deals 36 = .ok (.iconst 0, 1) := by decide +kernel
theorem dX9_deals_37 : decode cX9_deals 37 = .ok (.invokevirtual 32, 3) := by decide +kernel
theorem dX9_deals_40 : decode cX9_deals 40 = .ok (.aload_n 0, 1) := by decide +kernel
theorem dX9_deals_41 : decode cX9_deals 41 = .ok (.bipush 37, 2) := by decide +kernel
theorem dX9_deals_43 : decode cX9_deals 43 = .ok (.iload_n 2, 1) := by decide +kernel
theorem dX9_deals_44 : decode cX9_deals 44 = .ok (.iadd, 1) := by decide +kernel
theorem dX9_deals_45 : decode cX9_deals 45 = .ok (.aload_n 0, 1) := by decide +kernel
theorem dX9_deals_46 : decode cX9_deals 46 = .ok (.bipush 22, 2) := by decide +kernel
theorem dX9_deals_48 : decode cX9_deals 48 = .ok (.iconst 3, 1) := by decide +kernel
theorem dX9_deals_49 : decode cX9_deals 49 = .ok (.aload_n 0, 1) := by decide +kernel
theorem dX9_deals_50 : decode cX9_deals 50 = .ok (.iconst 1, 1) := by decide +kernel
theorem dX9_deals_51 : decode cX9_deals 51 = .ok (.invokevirtual 46, 3) := by decide +kernel
theorem dX9_deals_54 : decode cX9_deals 54 = .ok (.imul, 1) := by decide +kernel
theorem dX9_deals_55 : decode cX9_deals 55 = .ok (.iadd, 1) := by decide +kernel
theorem dX9_deals_56 : decode cX9_deals 56 = .ok (.iload_n 2, 1) := by decide +kernel
theorem dX9_deals_57 : decode cX9_deals 57 = .ok (.iadd, 1) := by decide +kernel
theorem dX9_deals_58 : decode cX9_deals 58 = .ok (.invokevirtual 46, 3) := by decide +kernel
theorem dX9_deals_61 : decode cX9_deals 61 = .ok (.iconst 1, 1) := by decide +kernel
theorem dX9_deals_62 : decode cX9_deals 62 = .ok (.isub, 1) := by decide +kernel
theorem dX9_deals_63 : decode cX9_deals 63 = .ok (.invokevirtual 32, 3) := by decide +kernel
theorem dX9_deals_66 : decode cX9_deals 66 = .ok (.iinc 2 1, 3) := by decide +kernel
theorem dX9_deals_69 : decode cX9_deals 69 = .ok (.goto (-43), 3) := by decide +kernel
theorem dX9_deals_72 : decode cX9_deals 72 = .ok (.return_, 1) := by decide +kernel
theorem dX9_chains_0 : decode cX9_chains 0 = .ok (.aload_n 0, 1) := by decide +kernel
theorem dX9_chains_1 : decode cX9_chains 1 = .ok (.bipush 18, 2) := by decide +kernel
theorem dX9_chains_3 : decode cX9_chains 3 = .ok (.aload_n 0, 1) := by decide +kernel
theorem dX9_chains_4 : decode cX9_chains 4 = .ok (.iconst 1, 1) := by decide +kernel
theorem dX9_chains_5 : decode cX9_chains 5 = .ok (.invokevirtual 46, 3) := by decide +kernel
theorem dX9_chains_8 : decode cX9_chains 8 = .ok (.iadd, 1) := by decide +kernel
theorem dX9_chains_9 : decode cX9_chains 9 = .ok (.invokevirtual 46, 3) := by decide +kernel
theorem dX9_chains_12 : decode cX9_chains 12 = .ok (.ireturn, 1) := by decide +kernel
theorem dX9_isChain_0 : decode cX9_isChain 0 = .ok (.iload_n 1, 1) := by decide +kernel
theorem dX9_isChain_1 : decode cX9_isChain 1 = .ok (.ifCond .lt 15, 3) := by decide +kernel
theorem dX9_isChain_4 : decode cX9_isChain 4 = .ok (.iload_n 1, 1) := by decide +kernel
theorem dX9_isChain_5 : decode cX9_isChain 5 = .ok (.aload_n 0, 1) := by decide +kernel
theorem dX9_isChain_6 : decode cX9_isChain 6 = .ok (.invokevirtual 59, 3) := by decide +kernel
theorem dX9_isChain_9 : decode cX9_isChain 9 = .ok (.if_icmp .ge 7, 3) := by decide +kernel
theorem dX9_isChain_12 : decode cX9_isChain 12 = .ok (.iconst 1, 1) := by decide +kernel
theorem dX9_isChain_13 : decode cX9_isChain 13 = .ok (.goto 4, 3) := by decide +kernel
theorem dX9_isChain_16 : decode cX9_isChain 16 = .ok (.iconst 0, 1) := by decide +kernel
theorem dX9_isChain_17 : decode cX9_isChain 17 = .ok (.ireturn, 1) := by decide +kernel
theorem dX9_isPlayer_0 : decode cX9_isPlayer 0 = .ok (.iload_n 0, 1) := by decide +kernel
theorem dX9_isPlayer_1 : decode cX9_isPlayer 1 = .ok (.ifCond .eq 8, 3) := by decide +kernel
theorem dX9_isPlayer_4 : decode cX9_isPlayer 4 = .ok (.iload_n 0, 1) := by decide +kernel
theorem dX9_isPlayer_5 : decode cX9_isPlayer 5 = .ok (.iconst 1, 1) := by decide +kernel
theorem dX9_isPlayer_6 : decode cX9_isPlayer 6 = .ok (.if_icmp .ne 7, 3) := by decide +kernel
theorem dX9_isPlayer_9 : decode cX9_isPlayer 9 = .ok (.iconst 1, 1) := by decide +kernel
theorem dX9_isPlayer_10 : decode cX9_isPlayer 10 = .ok (.goto 4, 3) := by decide +kernel
theorem dX9_isPlayer_13 : decode cX9_isPlayer 13 = .ok (.iconst 0, 1) := by decide +kernel
theorem dX9_isPlayer_14 : decode cX9_isPlayer 14 = .ok (.ireturn, 1) := by decide +kernel
theorem dX9_isRound_0 : decode cX9_isRound 0 = .ok (.iload_n 1, 1) := by decide +kernel
theorem dX9_isRound_1 : decode cX9_isRound 1 = .ok (.ifCond .lt 16, 3) := by decide +kernel
theorem dX9_isRound_4 : decode cX9_isRound 4 = .ok (.iload_n 1, 1) := by decide +kernel
theorem dX9_isRound_5 : decode cX9_isRound 5 = .ok (.aload_n 0, 1) := by decide +kernel
theorem dX9_isRound_6 : decode cX9_isRound 6 = .ok (.iconst 0, 1) := by decide +kernel
theorem dX9_isRound_7 : decode cX9_isRound 7 = .ok (.invokevirtual 46, 3) := by decide +kernel
theorem dX9_isRound_10 : decode cX9_isRound 10 = .ok (.if_icmp .ge 7, 3) := by decide +kernel
theorem dX9_isRound_13 : decode cX9_isRound 13 = .ok (.iconst 1, 1) := by decide +kernel
theorem dX9_isRound_14 : decode cX9_isRound 14 = .ok (.goto 4, 3) := by decide +kernel
theorem dX9_isRound_17 : decode cX9_isRound 17 = .ok (.iconst 0, 1) := by decide +kernel
theorem dX9_isRound_18 : decode cX9_isRound 18 = .ok (.ireturn, 1) := by decide +kernel
theorem dX9_lengthOf_0 : decode cX9_lengthOf 0 = .ok (.aload_n 0, 1) := by decide +kernel
theorem dX9_lengthOf_1 : decode cX9_lengthOf 1 = .ok (.bipush 37, 2) := by decide +kernel
theorem dX9_lengthOf_3 : decode cX9_lengthOf 3 = .ok (.iload_n 1, 1) := by decide +kernel
theorem dX9_lengthOf_4 : decode cX9_lengthOf 4 = .ok (.iadd, 1) := by decide +kernel
theorem dX9_lengthOf_5 : decode cX9_lengthOf 5 = .ok (.invokevirtual 46, 3) := by decide +kernel
theorem dX9_lengthOf_8 : decode cX9_lengthOf 8 = .ok (.aload_n 0, 1) := by decide +kernel
theorem dX9_lengthOf_9 : decode cX9_lengthOf 9 = .ok (.bipush 34, 2) := by decide +kernel
theorem dX9_lengthOf_11 : decode cX9_lengthOf 11 = .ok (.iload_n 1, 1) := by decide +kernel
theorem dX9_lengthOf_12 : decode cX9_lengthOf 12 = .ok (.iadd, 1) := by decide +kernel
theorem dX9_lengthOf_13 : decode cX9_lengthOf 13 = .ok (.invokevirtual 46, 3) := by decide +kernel
theorem dX9_lengthOf_16 : decode cX9_lengthOf 16 = .ok (.isub, 1) := by decide +kernel
theorem dX9_lengthOf_17 : decode cX9_lengthOf 17 = .ok (.iconst 1, 1) := by decide +kernel
theorem dX9_lengthOf_18 : decode cX9_lengthOf 18 = .ok (.iadd, 1) := by decide +kernel
theorem dX9_lengthOf_19 : decode cX9_lengthOf 19 = .ok (.ireturn, 1) := by decide +kernel
theorem dX9_tilePlace_0 : decode cX9_tilePlace 0 = .ok (.bipush 40, 2) := by decide +kernel
theorem dX9_tilePlace_2 : decode cX9_tilePlace 2 = .ok (.bipush 8, 2) := by decide +kernel
theorem dX9_tilePlace_4 : decode cX9_tilePlace 4 = .ok (.iconst 3, 1) := by decide +kernel
theorem dX9_tilePlace_5 : decode cX9_tilePlace 5 = .ok (.iload_n 0, 1) := by decide +kernel
theorem dX9_tilePlace_6 : decode cX9_tilePlace 6 = .ok (.imul, 1) := by decide +kernel
theorem dX9_tilePlace_7 : decode cX9_tilePlace 7 = .ok (.iload_n 1, 1) := by decide +kernel
theorem dX9_tilePlace_8 : decode cX9_tilePlace 8 = .ok (.iadd, 1) := by decide +kernel
theorem dX9_tilePlace_9 : decode cX9_tilePlace 9 = .ok (.imul, 1) := by decide +kernel
theorem dX9_tilePlace_10 : decode cX9_tilePlace 10 = .ok (.iadd, 1) := by decide +kernel
theorem dX9_tilePlace_11 : decode cX9_tilePlace 11 = .ok (.iload_n 2, 1) := by decide +kernel
theorem dX9_tilePlace_12 : decode cX9_tilePlace 12 = .ok (.iadd, 1) := by decide +kernel
theorem dX9_tilePlace_13 : decode cX9_tilePlace 13 = .ok (.ireturn, 1) := by decide +kernel
theorem dX9_laid_0 : decode cX9_laid 0 = .ok (.aload_n 0, 1) := by decide +kernel
theorem dX9_laid_1 : decode cX9_laid 1 = .ok (.aload_n 0, 1) := by decide +kernel
theorem dX9_laid_2 : decode cX9_laid 2 = .ok (.iconst 1, 1) := by decide +kernel
theorem dX9_laid_3 : decode cX9_laid 3 = .ok (.invokevirtual 46, 3) := by decide +kernel
theorem dX9_laid_6 : decode cX9_laid 6 = .ok (.iload_n 1, 1) := by decide +kernel
theorem dX9_laid_7 : decode cX9_laid 7 = .ok (.iload_n 2, 1) := by decide +kernel
theorem dX9_laid_8 : decode cX9_laid 8 = .ok (.invokestatic 63, 3) := by decide +kernel
theorem dX9_laid_11 : decode cX9_laid 11 = .ok (.invokevirtual 46, 3) := by decide +kernel
theorem dX9_laid_14 : decode cX9_laid 14 = .ok (.ireturn, 1) := by decide +kernel
theorem dX9_isDouble_0 : decode cX9_isDouble 0 = .ok (.iload_n 0, 1) := by decide +kernel
theorem dX9_isDouble_1 : decode cX9_isDouble 1 = .ok (.bipush 10, 2) := by decide +kernel
theorem dX9_isDouble_3 : decode cX9_isDouble 3 = .ok (.idiv, 1) := by decide +kernel
theorem dX9_isDouble_4 : decode cX9_isDouble 4 = .ok (.iload_n 0, 1) := by decide +kernel
theorem dX9_isDouble_5 : decode cX9_isDouble 5 = .ok (.bipush 10, 2) := by decide +kernel
theorem dX9_isDouble_7 : decode cX9_isDouble 7 = .ok (.irem, 1) := by decide +kernel
theorem dX9_isDouble_8 : decode cX9_isDouble 8 = .ok (.if_icmp .ne 7, 3) := by decide +kernel
theorem dX9_isDouble_11 : decode cX9_isDouble 11 = .ok (.iconst 1, 1) := by decide +kernel
theorem dX9_isDouble_12 : decode cX9_isDouble 12 = .ok (.goto 4, 3) := by decide +kernel
theorem dX9_isDouble_15 : decode cX9_isDouble 15 = .ok (.iconst 0, 1) := by decide +kernel
theorem dX9_isDouble_16 : decode cX9_isDouble 16 = .ok (.ireturn, 1) := by decide +kernel
theorem dX9_hasPips_0 : decode cX9_hasPips 0 = .ok (.iload_n 0, 1) := by decide +kernel
theorem dX9_hasPips_1 : decode cX9_hasPips 1 = .ok (.bipush 10, 2) := by decide +kernel
theorem dX9_hasPips_3 : decode cX9_hasPips 3 = .ok (.idiv, 1) := by decide +kernel
theorem dX9_hasPips_4 : decode cX9_hasPips 4 = .ok (.iload_n 1, 1) := by decide +kernel
theorem dX9_hasPips_5 : decode cX9_hasPips 5 = .ok (.if_icmp .eq 11, 3) := by decide +kernel
theorem dX9_hasPips_8 : decode cX9_hasPips 8 = .ok (.iload_n 0, 1) := by decide +kernel
theorem dX9_hasPips_9 : decode cX9_hasPips 9 = .ok (.bipush 10, 2) := by decide +kernel
theorem dX9_hasPips_11 : decode cX9_hasPips 11 = .ok (.irem, 1) := by decide +kernel
theorem dX9_hasPips_12 : decode cX9_hasPips 12 = .ok (.iload_n 1, 1) := by decide +kernel
theorem dX9_hasPips_13 : decode cX9_hasPips 13 = .ok (.if_icmp .ne 7, 3) := by decide +kernel
theorem dX9_hasPips_16 : decode cX9_hasPips 16 = .ok (.iconst 1, 1) := by decide +kernel
theorem dX9_hasPips_17 : decode cX9_hasPips 17 = .ok (.goto 4, 3) := by decide +kernel
theorem dX9_hasPips_20 : decode cX9_hasPips 20 = .ok (.iconst 0, 1) := by decide +kernel
theorem dX9_hasPips_21 : decode cX9_hasPips 21 = .ok (.ireturn, 1) := by decide +kernel
theorem dX9_scoreOf_0 : decode cX9_scoreOf 0 = .ok (.iload_n 0, 1) := by decide +kernel
theorem dX9_scoreOf_1 : decode cX9_scoreOf 1 = .ok (.bipush 10, 2) := by decide +kernel
theorem dX9_scoreOf_3 : decode cX9_scoreOf 3 = .ok (.idiv, 1) := by decide +kernel
theorem dX9_scoreOf_4 : decode cX9_scoreOf 4 = .ok (.iload_n 0, 1) := by decide +kernel
theorem dX9_scoreOf_5 : decode cX9_scoreOf 5 = .ok (.bipush 10, 2) := by decide +kernel
theorem dX9_scoreOf_7 : decode cX9_scoreOf 7 = .ok (.irem, 1) := by decide +kernel
theorem dX9_scoreOf_8 : decode cX9_scoreOf 8 = .ok (.iadd, 1) := by decide +kernel
theorem dX9_scoreOf_9 : decode cX9_scoreOf 9 = .ok (.istore_n 1, 1) := by decide +kernel
theorem dX9_scoreOf_10 : decode cX9_scoreOf 10 = .ok (.iload_n 0, 1) := by decide +kernel
theorem dX9_scoreOf_11 : decode cX9_scoreOf 11 = .ok (.invokestatic 67, 3) := by decide +kernel
theorem dX9_scoreOf_14 : decode cX9_scoreOf 14 = .ok (.ifCond .eq 9, 3) := by decide +kernel
theorem dX9_scoreOf_17 : decode cX9_scoreOf 17 = .ok (.iconst 2, 1) := by decide +kernel
theorem dX9_scoreOf_18 : decode cX9_scoreOf 18 = .ok (.iload_n 1, 1) := by decide +kernel
theorem dX9_scoreOf_19 : decode cX9_scoreOf 19 = .ok (.imul, 1) := by decide +kernel
theorem dX9_scoreOf_20 : decode cX9_scoreOf 20 = .ok (.goto 4, 3) := by decide +kernel
theorem dX9_scoreOf_23 : decode cX9_scoreOf 23 = .ok (.iload_n 1, 1) := by decide +kernel
theorem dX9_scoreOf_24 : decode cX9_scoreOf 24 = .ok (.ireturn, 1) := by decide +kernel
theorem dX9_isBurnable_0 : decode cX9_isBurnable 0 = .ok (.aload_n 0, 1) := by decide +kernel
theorem dX9_isBurnable_1 : decode cX9_isBurnable 1 = .ok (.iload_n 1, 1) := by decide +kernel
theorem dX9_isBurnable_2 : decode cX9_isBurnable 2 = .ok (.invokevirtual 71, 3) := by decide +kernel
theorem dX9_isBurnable_5 : decode cX9_isBurnable 5 = .ok (.iconst 1, 1) := by decide +kernel
theorem dX9_isBurnable_6 : decode cX9_isBurnable 6 = .ok (.if_icmp .le 7, 3) := by decide +kernel
theorem dX9_isBurnable_9 : decode cX9_isBurnable 9 = .ok (.iconst 1, 1) := by decide +kernel
theorem dX9_isBurnable_10 : decode cX9_isBurnable 10 = .ok (.goto 4, 3) := by decide +kernel
theorem dX9_isBurnable_13 : decode cX9_isBurnable 13 = .ok (.iconst 0, 1) := by decide +kernel
theorem dX9_isBurnable_14 : decode cX9_isBurnable 14 = .ok (.ireturn, 1) := by decide +kernel
theorem dX9_scoreAt_0 : decode cX9_scoreAt 0 = .ok (.aload_n 0, 1) := by decide +kernel
theorem dX9_scoreAt_1 : decode cX9_scoreAt 1 = .ok (.iload_n 1, 1) := by decide +kernel
theorem dX9_scoreAt_2 : decode cX9_scoreAt 2 = .ok (.iload_n 2, 1) := by decide +kernel
theorem dX9_scoreAt_3 : decode cX9_scoreAt 3 = .ok (.invokevirtual 74, 3) := by decide +kernel
theorem dX9_scoreAt_6 : decode cX9_scoreAt 6 = .ok (.invokestatic 78, 3) := by decide +kernel
theorem dX9_scoreAt_9 : decode cX9_scoreAt 9 = .ok (.ireturn, 1) := by decide +kernel
theorem dX9_areShort_0 : decode cX9_areShort 0 = .ok (.iconst 0, 1) := by decide +kernel
theorem dX9_areShort_1 : decode cX9_areShort 1 = .ok (.istore_n 1, 1) := by decide +kernel
theorem dX9_areShort_2 : decode cX9_areShort 2 = .ok (.iload_n 1, 1) := by decide +kernel
theorem dX9_areShort_3 : decode cX9_areShort 3 = .ok (.aload_n 0, 1) := by decide +kernel
theorem dX9_areShort_4 : decode cX9_areShort 4 = .ok (.invokevirtual 59, 3) := by decide +kernel
theorem dX9_areShort_7 : decode cX9_areShort 7 = .ok (.if_icmp .ge 19, 3) := by decide +kernel
theorem dX9_areShort_10 : decode cX9_areShort 10 = .ok (.aload_n 0, 1) := by decide +kernel
theorem dX9_areShort_11 : decode cX9_areShort 11 = .ok (.iload_n 1, 1) := by decide +kernel
theorem dX9_areShort_12 : decode cX9_areShort 12 = .ok (.invokevirtual 81, 3) := by decide +kernel
theorem dX9_areShort_15 : decode cX9_areShort 15 = .ok (.ifCond .eq 5, 3) := by decide +kernel
theorem dX9_areShort_18 : decode cX9_areShort 18 = .ok (.iconst 0, 1) := by decide +kernel
theorem dX9_areShort_19 : decode cX9_areShort 19 = .ok (.ireturn, 1) := by decide +kernel
theorem dX9_areShort_20 : decode cX9_areShort 20 = .ok (.iinc 1 1, 3) := by decide +kernel
theorem dX9_areShort_23 : decode cX9_areShort 23 = .ok (.goto (-21), 3) := by decide +kernel
theorem dX9_areShort_26 : decode cX9_areShort 26 = .ok (.iconst 1, 1) := by decide +kernel
theorem dX9_areShort_27 : decode cX9_areShort 27 = .ok (.ireturn, 1) := by decide +kernel
theorem dX9_isOver_0 : decode cX9_isOver 0 = .ok (.aload_n 0, 1) := by decide +kernel
theorem dX9_isOver_1 : decode cX9_isOver 1 = .ok (.iconst 4, 1) := by decide +kernel
theorem dX9_isOver_2 : decode cX9_isOver 2 = .ok (.invokevirtual 46, 3) := by decide +kernel
theorem dX9_isOver_5 : decode cX9_isOver 5 = .ok (.iconst 2, 1) := by decide +kernel
theorem dX9_isOver_6 : decode cX9_isOver 6 = .ok (.if_icmp .eq 10, 3) := by decide +kernel
theorem dX9_isOver_9 : decode cX9_isOver 9 = .ok (.aload_n 0, 1) := by decide +kernel
theorem dX9_isOver_10 : decode cX9_isOver 10 = .ok (.invokevirtual 84, 3) := by decide +kernel
theorem dX9_isOver_13 : decode cX9_isOver 13 = .ok (.ifCond .eq 7, 3) := by decide +kernel
theorem dX9_isOver_16 : decode cX9_isOver 16 = .ok (.iconst 1, 1) := by decide +kernel
theorem dX9_isOver_17 : decode cX9_isOver 17 = .ok (.goto 4, 3) := by decide +kernel
theorem dX9_isOver_20 : decode cX9_isOver 20 = .ok (.iconst 0, 1) := by decide +kernel
theorem dX9_isOver_21 : decode cX9_isOver 21 = .ok (.ireturn, 1) := by decide +kernel
theorem dX9_moves_0 : decode cX9_moves 0 = .ok (.aload_n 0, 1) := by decide +kernel
theorem dX9_moves_1 : decode cX9_moves 1 = .ok (.invokevirtual 88, 3) := by decide +kernel
theorem dX9_moves_4 : decode cX9_moves 4 = .ok (.ifCond .eq 5, 3) := by decide +kernel
theorem dX9_moves_7 : decode cX9_moves 7 = .ok (.iconst 0, 1) := by decide +kernel
theorem dX9_moves_8 : decode cX9_moves 8 = .ok (.ireturn, 1) := by decide +kernel
theorem dX9_moves_9 : decode cX9_moves 9 = .ok (.iconst 1, 1) := by decide +kernel
theorem dX9_moves_10 : decode cX9_moves 10 = .ok (.istore_n 1, 1) := by decide +kernel
theorem dX9_moves_11 : decode cX9_moves 11 = .ok (.iconst 0, 1) := by decide +kernel
theorem dX9_moves_12 : decode cX9_moves 12 = .ok (.istore_n 2, 1) := by decide +kernel
theorem dX9_moves_13 : decode cX9_moves 13 = .ok (.iload_n 2, 1) := by decide +kernel
theorem dX9_moves_14 : decode cX9_moves 14 = .ok (.aload_n 0, 1) := by decide +kernel
theorem dX9_moves_15 : decode cX9_moves 15 = .ok (.invokevirtual 59, 3) := by decide +kernel
theorem dX9_moves_18 : decode cX9_moves 18 = .ok (.if_icmp .ge 20, 3) := by decide +kernel
theorem dX9_moves_21 : decode cX9_moves 21 = .ok (.aload_n 0, 1) := by decide +kernel
theorem dX9_moves_22 : decode cX9_moves 22 = .ok (.iload_n 2, 1) := by decide +kernel
theorem dX9_moves_23 : decode cX9_moves 23 = .ok (.invokevirtual 81, 3) := by decide +kernel
theorem dX9_moves_26 : decode cX9_moves 26 = .ok (.ifCond .eq 6, 3) := by decide +kernel
theorem dX9_moves_29 : decode cX9_moves 29 = .ok (.iinc 1 2, 3) := by decide +kernel
theorem dX9_moves_32 : decode cX9_moves 32 = .ok (.iinc 2 1, 3) := by decide +kernel
theorem dX9_moves_35 : decode cX9_moves 35 = .ok (.goto (-22), 3) := by decide +kernel
theorem dX9_moves_38 : decode cX9_moves 38 = .ok (.iload_n 1, 1) := by decide +kernel
theorem dX9_moves_39 : decode cX9_moves 39 = .ok (.ireturn, 1) := by decide +kernel
theorem dX9_moveAt_0 : decode cX9_moveAt 0 = .ok (.iload_n 1, 1) := by decide +kernel
theorem dX9_moveAt_1 : decode cX9_moveAt 1 = .ok (.istore_n 2, 1) := by decide +kernel
theorem dX9_moveAt_2 : decode cX9_moveAt 2 = .ok (.iconst 0, 1) := by decide +kernel
theorem dX9_moveAt_3 : decode cX9_moveAt 3 = .ok (.istore_n 3, 1) := by decide +kernel
theorem dX9_moveAt_4 : decode cX9_moveAt 4 = .ok (.iload_n 3, 1) := by decide +kernel
theorem dX9_moveAt_5 : decode cX9_moveAt 5 = .ok (.aload_n 0, 1) := by decide +kernel
theorem dX9_moveAt_6 : decode cX9_moveAt 6 = .ok (.invokevirtual 59, 3) := by decide +kernel
theorem dX9_moveAt_9 : decode cX9_moveAt 9 = .ok (.if_icmp .ge 34, 3) := by decide +kernel
theorem dX9_moveAt_12 : decode cX9_moveAt 12 = .ok (.aload_n 0, 1) := by decide +kernel
theorem dX9_moveAt_13 : decode cX9_moveAt 13 = .ok (.iload_n 3, 1) := by decide +kernel
theorem dX9_moveAt_14 : decode cX9_moveAt 14 = .ok (.invokevirtual 81, 3) := by decide +kernel
theorem dX9_moveAt_17 : decode cX9_moveAt 17 = .ok (.ifCond .ne 6, 3) := by decide +kernel
theorem dX9_moveAt_20 : decode cX9_moveAt 20 = .ok (.goto 17, 3) := by decide +kernel
theorem dX9_moveAt_23 : decode cX9_moveAt 23 = .ok (.iload_n 2, 1) := by decide +kernel
theorem dX9_moveAt_24 : decode cX9_moveAt 24 = .ok (.iconst 2, 1) := by decide +kernel
theorem dX9_moveAt_25 : decode cX9_moveAt 25 = .ok (.if_icmp .ge 9, 3) := by decide +kernel
theorem dX9_moveAt_28 : decode cX9_moveAt 28 = .ok (.iconst 2, 1) := by decide +kernel
theorem dX9_moveAt_29 : decode cX9_moveAt 29 = .ok (.iload_n 3, 1) := by decide +kernel
theorem dX9_moveAt_30 : decode cX9_moveAt 30 = .ok (.imul, 1) := by decide +kernel
theorem dX9_moveAt_31 : decode cX9_moveAt 31 = .ok (.iload_n 2, 1) := by decide +kernel
theorem dX9_moveAt_32 : decode cX9_moveAt 32 = .ok (.iadd, 1) := by decide +kernel
theorem dX9_moveAt_33 : decode cX9_moveAt 33 = .ok (.ireturn, 1) := by decide +kernel
theorem dX9_moveAt_34 : decode cX9_moveAt 34 = .ok (.iinc 2 (-2), 3) := by decide +kernel
theorem dX9_moveAt_37 : decode cX9_moveAt 37 = .ok (.iinc 3 1, 3) := by decide +kernel
theorem dX9_moveAt_40 : decode cX9_moveAt 40 = .ok (.goto (-36), 3) := by decide +kernel
theorem dX9_moveAt_43 : decode cX9_moveAt 43 = .ok (.bipush 6, 2) := by decide +kernel
theorem dX9_moveAt_45 : decode cX9_moveAt 45 = .ok (.ireturn, 1) := by decide +kernel
theorem dX9_scoreOfMove_0 : decode cX9_scoreOfMove 0 = .ok (.iload_n 1, 1) := by decide +kernel
theorem dX9_scoreOfMove_1 : decode cX9_scoreOfMove 1 = .ok (.bipush 6, 2) := by decide +kernel
theorem dX9_scoreOfMove_3 : decode cX9_scoreOfMove 3 = .ok (.if_icmp .ne 5, 3) := by decide +kernel
theorem dX9_scoreOfMove_6 : decode cX9_scoreOfMove 6 = .ok (.iconst 0, 1) := by decide +kernel
theorem dX9_scoreOfMove_7 : decode cX9_scoreOfMove 7 = .ok (.ireturn, 1) := by decide +kernel
theorem dX9_scoreOfMove_8 : decode cX9_scoreOfMove 8 = .ok (.iload_n 1, 1) := by decide +kernel
theorem dX9_scoreOfMove_9 : decode cX9_scoreOfMove 9 = .ok (.iconst 2, 1) := by decide +kernel
theorem dX9_scoreOfMove_10 : decode cX9_scoreOfMove 10 = .ok (.idiv, 1) := by decide +kernel
theorem dX9_scoreOfMove_11 : decode cX9_scoreOfMove 11 = .ok (.istore_n 2, 1) := by decide +kernel
theorem dX9_scoreOfMove_12 : decode cX9_scoreOfMove 12 = .ok (.aload_n 0, 1) := by decide +kernel
theorem dX9_scoreOfMove_13 : decode cX9_scoreOfMove 13 = .ok (.iload_n 2, 1) := by decide +kernel
theorem dX9_scoreOfMove_14 : decode cX9_scoreOfMove 14 = .ok (.aload_n 0, 1) := by decide +kernel
theorem dX9_scoreOfMove_15 : decode cX9_scoreOfMove 15 = .ok (.iload_n 1, 1) := by decide +kernel
theorem dX9_scoreOfMove_16 : decode cX9_scoreOfMove 16 = .ok (.iconst 2, 1) := by decide +kernel
theorem dX9_scoreOfMove_17 : decode cX9_scoreOfMove 17 = .ok (.irem, 1) := by decide +kernel
theorem dX9_scoreOfMove_18 : decode cX9_scoreOfMove 18 = .ok (.ifCond .ne 8, 3) := by decide +kernel
theorem dX9_scoreOfMove_21 : decode cX9_scoreOfMove 21 = .ok (.bipush 34, 2) := by decide +kernel
theorem dX9_scoreOfMove_23 : decode cX9_scoreOfMove 23 = .ok (.goto 5, 3) := by decide +kernel
theorem dX9_scoreOfMove_26 : decode cX9_scoreOfMove 26 = .ok (.bipush 37, 2) := by decide +kernel
theorem dX9_scoreOfMove_28 : decode cX9_scoreOfMove 28 = .ok (.iload_n 2, 1) := by decide +kernel
theorem dX9_scoreOfMove_29 : decode cX9_scoreOfMove 29 = .ok (.iadd, 1) := by decide +kernel
theorem dX9_scoreOfMove_30 : decode cX9_scoreOfMove 30 = .ok (.invokevirtual 46, 3) := by decide +kernel
theorem dX9_scoreOfMove_33 : decode cX9_scoreOfMove 33 = .ok (.invokevirtual 91, 3) := by decide +kernel
theorem dX9_scoreOfMove_36 : decode cX9_scoreOfMove 36 = .ok (.ireturn, 1) := by decide +kernel
theorem dX9_makes_0 : decode cX9_makes 0 = .ok (.aload_n 0, 1) := by decide +kernel
theorem dX9_makes_1 : decode cX9_makes 1 = .ok (.iload_n 1, 1) := by decide +kernel
theorem dX9_makes_2 : decode cX9_makes 2 = .ok (.invokevirtual 94, 3) := by decide +kernel
theorem dX9_makes_5 : decode cX9_makes 5 = .ok (.istore_n 2, 1) := by decide +kernel
theorem dX9_makes_6 : decode cX9_makes 6 = .ok (.aload_n 0, 1) := by decide +kernel
theorem dX9_makes_7 : decode cX9_makes 7 = .ok (.sipush 136, 3) := by decide +kernel
theorem dX9_makes_10 : decode cX9_makes 10 = .ok (.aload_n 0, 1) := by decide +kernel
theorem dX9_makes_11 : decode cX9_makes 11 = .ok (.iconst 5, 1) := by decide +kernel
theorem dX9_makes_12 : decode cX9_makes 12 = .ok (.invokevirtual 46, 3) := by decide +kernel
theorem dX9_makes_15 : decode cX9_makes 15 = .ok (.iadd, 1) := by decide +kernel
theorem dX9_makes_16 : decode cX9_makes 16 = .ok (.iload_n 1, 1) := by decide +kernel
theorem dX9_makes_17 : decode cX9_makes 17 = .ok (.invokevirtual 32, 3) := by decide +kernel
theorem dX9_makes_20 : decode cX9_makes 20 = .ok (.aload_n 0, 1) := by decide +kernel
theorem dX9_makes_21 : decode cX9_makes 21 = .ok (.sipush 184, 3) := by decide +kernel
theorem dX9_makes_24 : decode cX9_makes 24 = .ok (.aload_n 0, 1) := by decide +kernel
theorem dX9_makes_25 : decode cX9_makes 25 = .ok (.iconst 5, 1) := by decide +kernel
theorem dX9_makes_26 : decode cX9_makes 26 = .ok (.invokevirtual 46, 3) := by decide +kernel
theorem dX9_makes_29 : decode cX9_makes 29 = .ok (.iadd, 1) := by decide +kernel
theorem dX9_makes_30 : decode cX9_makes 30 = .ok (.iload_n 2, 1) := by decide +kernel
theorem dX9_makes_31 : decode cX9_makes 31 = .ok (.invokevirtual 32, 3) := by decide +kernel
theorem dX9_makes_34 : decode cX9_makes 34 = .ok (.aload_n 0, 1) := by decide +kernel
theorem dX9_makes_35 : decode cX9_makes 35 = .ok (.iconst 5, 1) := by decide +kernel
theorem dX9_makes_36 : decode cX9_makes 36 = .ok (.iconst 1, 1) := by decide +kernel
theorem dX9_makes_37 : decode cX9_makes 37 = .ok (.invokevirtual 97, 3) := by decide +kernel
theorem dX9_makes_40 : decode cX9_makes 40 = .ok (.aload_n 0, 1) := by decide +kernel
theorem dX9_makes_41 : decode cX9_makes 41 = .ok (.bipush 6, 2) := by decide +kernel
theorem dX9_makes_43 : decode cX9_makes 43 = .ok (.iconst 2, 1) := by decide +kernel
theorem dX9_makes_44 : decode cX9_makes 44 = .ok (.aload_n 0, 1) := by decide +kernel
theorem dX9_makes_45 : decode cX9_makes 45 = .ok (.iconst 1, 1) := by decide +kernel
theorem dX9_makes_46 : decode cX9_makes 46 = .ok (.invokevirtual 46, 3) := by decide +kernel
theorem dX9_makes_49 : decode cX9_makes 49 = .ok (.imul, 1) := by decide +kernel
theorem dX9_makes_50 : decode cX9_makes 50 = .ok (.iadd, 1) := by decide +kernel
theorem dX9_makes_51 : decode cX9_makes 51 = .ok (.aload_n 0, 1) := by decide +kernel
theorem dX9_makes_52 : decode cX9_makes 52 = .ok (.iconst 2, 1) := by decide +kernel
theorem dX9_makes_53 : decode cX9_makes 53 = .ok (.invokevirtual 46, 3) := by decide +kernel
theorem dX9_makes_56 : decode cX9_makes 56 = .ok (.iadd, 1) := by decide +kernel
theorem dX9_makes_57 : decode cX9_makes 57 = .ok (.iload_n 2, 1) := by decide +kernel
theorem dX9_makes_58 : decode cX9_makes 58 = .ok (.invokevirtual 97, 3) := by decide +kernel
theorem dX9_makes_61 : decode cX9_makes 61 = .ok (.iload_n 1, 1) := by decide +kernel
theorem dX9_makes_62 : decode cX9_makes 62 = .ok (.bipush 6, 2) := by decide +kernel
theorem dX9_makes_64 : decode cX9_makes 64 = .ok (.if_icmp .ne 25, 3) := by decide +kernel
theorem dX9_makes_67 : decode cX9_makes 67 = .ok (.aload_n 0, 1) := by decide +kernel
theorem dX9_makes_68 : decode cX9_makes 68 = .ok (.bipush 16, 2) := by decide +kernel
theorem dX9_makes_70 : decode cX9_makes 70 = .ok (.aload_n 0, 1) := by decide +kernel
theorem dX9_makes_71 : decode cX9_makes 71 = .ok (.iconst 2, 1) := by decide +kernel
theorem dX9_makes_72 : decode cX9_makes 72 = .ok (.invokevirtual 46, 3) := by decide +kernel
theorem dX9_makes_75 : decode cX9_makes 75 = .ok (.iadd, 1) := by decide +kernel
theorem dX9_makes_76 : decode cX9_makes 76 = .ok (.iconst 1, 1) := by decide +kernel
theorem dX9_makes_77 : decode cX9_makes 77 = .ok (.invokevirtual 97, 3) := by decide +kernel
theorem dX9_makes_80 : decode cX9_makes 80 = .ok (.aload_n 0, 1) := by decide +kernel
theorem dX9_makes_81 : decode cX9_makes 81 = .ok (.iconst 4, 1) := by decide +kernel
theorem dX9_makes_82 : decode cX9_makes 82 = .ok (.iconst 1, 1) := by decide +kernel
theorem dX9_makes_83 : decode cX9_makes 83 = .ok (.invokevirtual 97, 3) := by decide +kernel
theorem dX9_makes_86 : decode cX9_makes 86 = .ok (.goto 27, 3) := by decide +kernel
theorem dX9_makes_89 : decode cX9_makes 89 = .ok (.aload_n 0, 1) := by decide +kernel
theorem dX9_makes_90 : decode cX9_makes 90 = .ok (.bipush 14, 2) := by decide +kernel
theorem dX9_makes_92 : decode cX9_makes 92 = .ok (.aload_n 0, 1) := by decide +kernel
theorem dX9_makes_93 : decode cX9_makes 93 = .ok (.iconst 2, 1) := by decide +kernel
theorem dX9_makes_94 : decode cX9_makes 94 = .ok (.invokevirtual 46, 3) := by decide +kernel
theorem dX9_makes_97 : decode cX9_makes 97 = .ok (.iadd, 1) := by decide +kernel
theorem dX9_makes_98 : decode cX9_makes 98 = .ok (.iconst 1, 1) := by decide +kernel
theorem dX9_makes_99 : decode cX9_makes 99 = .ok (.invokevirtual 97, 3) := by decide +kernel
theorem dX9_makes_102 : decode cX9_makes 102 = .ok (.aload_n 0, 1) := by decide +kernel
theorem dX9_makes_103 : decode cX9_makes 103 = .ok (.iconst 4, 1) := by decide +kernel
theorem dX9_makes_104 : decode cX9_makes 104 = .ok (.iconst 0, 1) := by decide +kernel
theorem dX9_makes_105 : decode cX9_makes 105 = .ok (.invokevirtual 32, 3) := by decide +kernel
theorem dX9_makes_108 : decode cX9_makes 108 = .ok (.aload_n 0, 1) := by decide +kernel
theorem dX9_makes_109 : decode cX9_makes 109 = .ok (.iload_n 1, 1) := by decide +kernel
theorem dX9_makes_110 : decode cX9_makes 110 = .ok (.invokevirtual 100, 3) := by decide +kernel
theorem dX9_makes_113 : decode cX9_makes 113 = .ok (.aload_n 0, 1) := by decide +kernel
theorem dX9_makes_114 : decode cX9_makes 114 = .ok (.iconst 2, 1) := by decide +kernel
theorem dX9_makes_115 : decode cX9_makes 115 = .ok (.iconst 1, 1) := by decide +kernel
theorem dX9_makes_116 : decode cX9_makes 116 = .ok (.aload_n 0, 1) := by decide +kernel
theorem dX9_makes_117 : decode cX9_makes 117 = .ok (.iconst 2, 1) := by decide +kernel
theorem dX9_makes_118 : decode cX9_makes 118 = .ok (.invokevirtual 46, 3) := by decide +kernel
theorem dX9_makes_121 : decode cX9_makes 121 = .ok (.isub, 1) := by decide +kernel
theorem dX9_makes_122 : decode cX9_makes 122 = .ok (.invokevirtual 32, 3) := by decide +kernel
theorem dX9_makes_125 : decode cX9_makes 125 = .ok (.return_, 1) := by decide +kernel
theorem dX9_removes_0 : decode cX9_removes 0 = .ok (.iload_n 1, 1) := by decide +kernel
theorem dX9_removes_1 : decode cX9_removes 1 = .ok (.iconst 2, 1) := by decide +kernel
theorem dX9_removes_2 : decode cX9_removes 2 = .ok (.irem, 1) := by decide +kernel
theorem dX9_removes_3 : decode cX9_removes 3 = .ok (.ifCond .ne 17, 3) := by decide +kernel
theorem dX9_removes_6 : decode cX9_removes 6 = .ok (.aload_n 0, 1) := by decide +kernel
theorem dX9_removes_7 : decode cX9_removes 7 = .ok (.bipush 34, 2) := by decide +kernel
theorem dX9_removes_9 : decode cX9_removes 9 = .ok (.iload_n 1, 1) := by decide +kernel
theorem dX9_removes_10 : decode cX9_removes 10 = .ok (.iconst 2, 1) := by decide +kernel
theorem dX9_removes_11 : decode cX9_removes 11 = .ok (.idiv, 1) := by decide +kernel
theorem dX9_removes_12 : decode cX9_removes 12 = .ok (.iadd, 1) := by decide +kernel
theorem dX9_removes_13 : decode cX9_removes 13 = .ok (.iconst 1, 1) := by decide +kernel
theorem dX9_removes_14 : decode cX9_removes 14 = .ok (.invokevirtual 97, 3) := by decide +kernel
theorem dX9_removes_17 : decode cX9_removes 17 = .ok (.goto 14, 3) := by decide +kernel
theorem dX9_removes_20 : decode cX9_removes 20 = .ok (.aload_n 0, 1) := by decide +kernel
theorem dX9_removes_21 : decode cX9_removes 21 = .ok (.bipush 37, 2) := by decide +kernel
theorem dX9_removes_23 : decode cX9_removes 23 = .ok (.iload_n 1, 1) := by decide +kernel
theorem dX9_removes_24 : decode cX9_removes 24 = .ok (.iconst 2, 1) := by decide +kernel
theorem dX9_removes_25 : decode cX9_removes 25 = .ok (.idiv, 1) := by decide +kernel
theorem dX9_removes_26 : decode cX9_removes 26 = .ok (.iadd, 1) := by decide +kernel
theorem dX9_removes_27 : decode cX9_removes 27 = .ok (.iconst (-1), 1) := by decide +kernel
theorem dX9_removes_28 : decode cX9_removes 28 = .ok (.invokevirtual 97, 3) := by decide +kernel
theorem dX9_removes_31 : decode cX9_removes 31 = .ok (.return_, 1) := by decide +kernel
theorem dX9_putsBack_0 : decode cX9_putsBack 0 = .ok (.iload_n 1, 1) := by decide +kernel
theorem dX9_putsBack_1 : decode cX9_putsBack 1 = .ok (.iconst 2, 1) := by decide +kernel
theorem dX9_putsBack_2 : decode cX9_putsBack 2 = .ok (.irem, 1) := by decide +kernel
theorem dX9_putsBack_3 : decode cX9_putsBack 3 = .ok (.ifCond .ne 17, 3) := by decide +kernel
theorem dX9_putsBack_6 : decode cX9_putsBack 6 = .ok (.aload_n 0, 1) := by decide +kernel
theorem dX9_putsBack_7 : decode cX9_putsBack 7 = .ok (.bipush 34, 2) := by decide +kernel
theorem dX9_putsBack_9 : decode cX9_putsBack 9 = .ok (.iload_n 1, 1) := by decide +kernel
theorem dX9_putsBack_10 : decode cX9_putsBack 10 = .ok (.iconst 2, 1) := by decide +kernel
theorem dX9_putsBack_11 : decode cX9_putsBack 11 = .ok (.idiv, 1) := by decide +kernel
theorem dX9_putsBack_12 : decode cX9_putsBack 12 = .ok (.iadd, 1) := by decide +kernel
theorem dX9_putsBack_13 : decode cX9_putsBack 13 = .ok (.iconst (-1), 1) := by decide +kernel
theorem dX9_putsBack_14 : decode cX9_putsBack 14 = .ok (.invokevirtual 97, 3) := by decide +kernel
theorem dX9_putsBack_17 : decode cX9_putsBack 17 = .ok (.goto 14, 3) := by decide +kernel
theorem dX9_putsBack_20 : decode cX9_putsBack 20 = .ok (.aload_n 0, 1) := by decide +kernel
theorem dX9_putsBack_21 : decode cX9_putsBack 21 = .ok (.bipush 37, 2) := by decide +kernel
theorem dX9_putsBack_23 : decode cX9_putsBack 23 = .ok (.iload_n 1, 1) := by decide +kernel
theorem dX9_putsBack_24 : decode cX9_putsBack 24 = .ok (.iconst 2, 1) := by decide +kernel
theorem dX9_putsBack_25 : decode cX9_putsBack 25 = .ok (.idiv, 1) := by decide +kernel
theorem dX9_putsBack_26 : decode cX9_putsBack 26 = .ok (.iadd, 1) := by decide +kernel
theorem dX9_putsBack_27 : decode cX9_putsBack 27 = .ok (.iconst 1, 1) := by decide +kernel
theorem dX9_putsBack_28 : decode cX9_putsBack 28 = .ok (.invokevirtual 97, 3) := by decide +kernel
theorem dX9_putsBack_31 : decode cX9_putsBack 31 = .ok (.return_, 1) := by decide +kernel
theorem dX9_position_0 : decode cX9_position 0 = .ok (.iconst 0, 1) := by decide +kernel
theorem dX9_position_1 : decode cX9_position 1 = .ok (.istore_n 1, 1) := by decide +kernel
theorem dX9_position_2 : decode cX9_position 2 = .ok (.iconst 0, 1) := by decide +kernel
theorem dX9_position_3 : decode cX9_position 3 = .ok (.istore_n 2, 1) := by decide +kernel
theorem dX9_position_4 : decode cX9_position 4 = .ok (.iload_n 2, 1) := by decide +kernel
theorem dX9_position_5 : decode cX9_position 5 = .ok (.aload_n 0, 1) := by decide +kernel
theorem dX9_position_6 : decode cX9_position 6 = .ok (.invokevirtual 59, 3) := by decide +kernel
theorem dX9_position_9 : decode cX9_position 9 = .ok (.if_icmp .ge 35, 3) := by decide +kernel
theorem dX9_position_12 : decode cX9_position 12 = .ok (.bipush 64, 2) := by decide +kernel
theorem dX9_position_14 : decode cX9_position 14 = .ok (.iload_n 1, 1) := by decide +kernel
theorem dX9_position_15 : decode cX9_position 15 = .ok (.imul, 1) := by decide +kernel
theorem dX9_position_16 : decode cX9_position 16 = .ok (.bipush 8, 2) := by decide +kernel
theorem dX9_position_18 : decode cX9_position 18 = .ok (.aload_n 0, 1) := by decide +kernel
theorem dX9_position_19 : decode cX9_position 19 = .ok (.bipush 34, 2) := by decide +kernel
theorem dX9_position_21 : decode cX9_position 21 = .ok (.iload_n 2, 1) := by decide +kernel
theorem dX9_position_22 : decode cX9_position 22 = .ok (.iadd, 1) := by decide +kernel
theorem dX9_position_23 : decode cX9_position 23 = .ok (.invokevirtual 46, 3) := by decide +kernel
theorem dX9_position_26 : decode cX9_position 26 = .ok (.imul, 1) := by decide +kernel
theorem dX9_position_27 : decode cX9_position 27 = .ok (.iadd, 1) := by decide +kernel
theorem dX9_position_28 : decode cX9_position 28 = .ok (.aload_n 0, 1) := by decide +kernel
theorem dX9_position_29 : decode cX9_position 29 = .ok (.bipush 37, 2) := by decide +kernel
theorem dX9_position_31 : decode cX9_position 31 = .ok (.iload_n 2, 1) := by decide +kernel
theorem dX9_position_32 : decode cX9_position 32 = .ok (.iadd, 1) := by decide +kernel
theorem dX9_position_33 : decode cX9_position 33 = .ok (.invokevirtual 46, 3) := by decide +kernel
theorem dX9_position_36 : decode cX9_position 36 = .ok (.iadd, 1) := by decide +kernel
theorem dX9_position_37 : decode cX9_position 37 = .ok (.istore_n 1, 1) := by decide +kernel
theorem dX9_position_38 : decode cX9_position 38 = .ok (.iinc 2 1, 3) := by decide +kernel
theorem dX9_position_41 : decode cX9_position 41 = .ok (.goto (-37), 3) := by decide +kernel
theorem dX9_position_44 : decode cX9_position 44 = .ok (.iload_n 1, 1) := by decide +kernel
theorem dX9_position_45 : decode cX9_position 45 = .ok (.ireturn, 1) := by decide +kernel
theorem dX9_forgets_0 : decode cX9_forgets 0 = .ok (.iconst 1, 1) := by decide +kernel
theorem dX9_forgets_1 : decode cX9_forgets 1 = .ok (.istore_n 1, 1) := by decide +kernel
theorem dX9_forgets_2 : decode cX9_forgets 2 = .ok (.iconst 0, 1) := by decide +kernel
theorem dX9_forgets_3 : decode cX9_forgets 3 = .ok (.istore_n 2, 1) := by decide +kernel
theorem dX9_forgets_4 : decode cX9_forgets 4 = .ok (.iload_n 2, 1) := by decide +kernel
theorem dX9_forgets_5 : decode cX9_forgets 5 = .ok (.aload_n 0, 1) := by decide +kernel
theorem dX9_forgets_6 : decode cX9_forgets 6 = .ok (.invokevirtual 59, 3) := by decide +kernel
theorem dX9_forgets_9 : decode cX9_forgets 9 = .ok (.if_icmp .ge 14, 3) := by decide +kernel
theorem dX9_forgets_12 : decode cX9_forgets 12 = .ok (.iload_n 1, 1) := by decide +kernel
theorem dX9_forgets_13 : decode cX9_forgets 13 = .ok (.bipush 64, 2) := by decide +kernel
theorem dX9_forgets_15 : decode cX9_forgets 15 = .ok (.imul, 1) := by decide +kernel
theorem dX9_forgets_16 : decode cX9_forgets 16 = .ok (.istore_n 1, 1) := by decide +kernel
theorem dX9_forgets_17 : decode cX9_forgets 17 = .ok (.iinc 2 1, 3) := by decide +kernel
theorem dX9_forgets_20 : decode cX9_forgets 20 = .ok (.goto (-16), 3) := by decide +kernel
theorem dX9_forgets_23 : decode cX9_forgets 23 = .ok (.iconst 0, 1) := by decide +kernel
theorem dX9_forgets_24 : decode cX9_forgets 24 = .ok (.istore_n 2, 1) := by decide +kernel
theorem dX9_forgets_25 : decode cX9_forgets 25 = .ok (.iload_n 2, 1) := by decide +kernel
theorem dX9_forgets_26 : decode cX9_forgets 26 = .ok (.iload_n 1, 1) := by decide +kernel
theorem dX9_forgets_27 : decode cX9_forgets 27 = .ok (.if_icmp .ge 28, 3) := by decide +kernel
theorem dX9_forgets_30 : decode cX9_forgets 30 = .ok (.aload_n 0, 1) := by decide +kernel
theorem dX9_forgets_31 : decode cX9_forgets 31 = .ok (.getfield 22, 3) := by decide +kernel
theorem dX9_forgets_34 : decode cX9_forgets 34 = .ok (.iload_n 2, 1) := by decide +kernel
theorem dX9_forgets_35 : decode cX9_forgets 35 = .ok (.ldc 103, 2) := by decide +kernel
theorem dX9_forgets_37 : decode cX9_forgets 37 = .ok (.iastore, 1) := by decide +kernel
theorem dX9_forgets_38 : decode cX9_forgets 38 = .ok (.aload_n 0, 1) := by decide +kernel
theorem dX9_forgets_39 : decode cX9_forgets 39 = .ok (.getfield 22, 3) := by decide +kernel
theorem dX9_forgets_42 : decode cX9_forgets 42 = .ok (.ldc 104, 2) := by decide +kernel
theorem dX9_forgets_44 : decode cX9_forgets 44 = .ok (.iload_n 2, 1) := by decide +kernel
theorem dX9_forgets_45 : decode cX9_forgets 45 = .ok (.iadd, 1) := by decide +kernel
theorem dX9_forgets_46 : decode cX9_forgets 46 = .ok (.ldc 103, 2) := by decide +kernel
theorem dX9_forgets_48 : decode cX9_forgets 48 = .ok (.iastore, 1) := by decide +kernel
theorem dX9_forgets_49 : decode cX9_forgets 49 = .ok (.iinc 2 1, 3) := by decide +kernel
theorem dX9_forgets_52 : decode cX9_forgets 52 = .ok (.goto (-27), 3) := by decide +kernel
theorem dX9_forgets_55 : decode cX9_forgets 55 = .ok (.return_, 1) := by decide +kernel
theorem dX9_valuePlace_0 : decode cX9_valuePlace 0 = .ok (.aload_n 0, 1) := by decide +kernel
theorem dX9_valuePlace_1 : decode cX9_valuePlace 1 = .ok (.invokevirtual 105, 3) := by decide +kernel
theorem dX9_valuePlace_4 : decode cX9_valuePlace 4 = .ok (.iload_n 1, 1) := by decide +kernel
theorem dX9_valuePlace_5 : decode cX9_valuePlace 5 = .ok (.ifCond .eq 8, 3) := by decide +kernel
theorem dX9_valuePlace_8 : decode cX9_valuePlace 8 = .ok (.ldc 104, 2) := by decide +kernel
theorem dX9_valuePlace_10 : decode cX9_valuePlace 10 = .ok (.goto 4, 3) := by decide +kernel
theorem dX9_valuePlace_13 : decode cX9_valuePlace 13 = .ok (.iconst 0, 1) := by decide +kernel
theorem dX9_valuePlace_14 : decode cX9_valuePlace 14 = .ok (.iadd, 1) := by decide +kernel
theorem dX9_valuePlace_15 : decode cX9_valuePlace 15 = .ok (.ireturn, 1) := by decide +kernel
theorem dX9_optimal_0 : decode cX9_optimal 0 = .ok (.aload_n 0, 1) := by decide +kernel
theorem dX9_optimal_1 : decode cX9_optimal 1 = .ok (.iload_n 1, 1) := by decide +kernel
theorem dX9_optimal_2 : decode cX9_optimal 2 = .ok (.invokevirtual 108, 3) := by decide +kernel
theorem dX9_optimal_5 : decode cX9_optimal 5 = .ok (.istore_n 2, 1) := by decide +kernel
theorem dX9_optimal_6 : decode cX9_optimal 6 = .ok (.aload_n 0, 1) := by decide +kernel
theorem dX9_optimal_7 : decode cX9_optimal 7 = .ok (.getfield 22, 3) := by decide +kernel
theorem dX9_optimal_10 : decode cX9_optimal 10 = .ok (.iload_n 2, 1) := by decide +kernel
theorem dX9_optimal_11 : decode cX9_optimal 11 = .ok (.iaload, 1) := by decide +kernel
theorem dX9_optimal_12 : decode cX9_optimal 12 = .ok (.ldc 103, 2) := by decide +kernel
theorem dX9_optimal_14 : decode cX9_optimal 14 = .ok (.if_icmp .ne 25, 3) := by decide +kernel
theorem dX9_optimal_17 : decode cX9_optimal 17 = .ok (.aload_n 0, 1) := by decide +kernel
theorem dX9_optimal_18 : decode cX9_optimal 18 = .ok (.getfield 22, 3) := by decide +kernel
theorem dX9_optimal_21 : decode cX9_optimal 21 = .ok (.iload_n 2, 1) := by decide +kernel
theorem dX9_optimal_22 : decode cX9_optimal 22 = .ok (.aload_n 0, 1) := by decide +kernel
theorem dX9_optimal_23 : decode cX9_optimal 23 = .ok (.invokevirtual 84, 3) := by decide +kernel
theorem dX9_optimal_26 : decode cX9_optimal 26 = .ok (.ifCond .eq 7, 3) := by decide +kernel
theorem dX9_optimal_29 : decode cX9_optimal 29 = .ok (.iconst 0, 1) := by decide +kernel
theorem dX9_optimal_30 : decode cX9_optimal 30 = .ok (.goto 8, 3) := by decide +kernel
theorem dX9_optimal_33 : decode cX9_optimal 33 = .ok (.aload_n 0, 1) := by decide +kernel
theorem dX9_optimal_34 : decode cX9_optimal 34 = .ok (.iload_n 1, 1) := by decide +kernel
theorem dX9_optimal_35 : decode cX9_optimal 35 = .ok (.invokevirtual 112, 3) := by decide +kernel
theorem dX9_optimal_38 : decode cX9_optimal 38 = .ok (.iastore, 1) := by decide +kernel
theorem dX9_optimal_39 : decode cX9_optimal 39 = .ok (.aload_n 0, 1) := by decide +kernel
theorem dX9_optimal_40 : decode cX9_optimal 40 = .ok (.getfield 22, 3) := by decide +kernel
theorem dX9_optimal_43 : decode cX9_optimal 43 = .ok (.iload_n 2, 1) := by decide +kernel
theorem dX9_optimal_44 : decode cX9_optimal 44 = .ok (.iaload, 1) := by decide +kernel
theorem dX9_optimal_45 : decode cX9_optimal 45 = .ok (.ireturn, 1) := by decide +kernel
theorem dX9_optimalOf_0 : decode cX9_optimalOf 0 = .ok (.iload_n 1, 1) := by decide +kernel
theorem dX9_optimalOf_1 : decode cX9_optimalOf 1 = .ok (.ifCond .eq 7, 3) := by decide +kernel
theorem dX9_optimalOf_4 : decode cX9_optimalOf 4 = .ok (.iconst 0, 1) := by decide +kernel
theorem dX9_optimalOf_5 : decode cX9_optimalOf 5 = .ok (.goto 9, 3) := by decide +kernel
theorem dX9_optimalOf_8 : decode cX9_optimalOf 8 = .ok (.aload_n 0, 1) := by decide +kernel
theorem dX9_optimalOf_9 : decode cX9_optimalOf 9 = .ok (.iconst 1, 1) := by decide +kernel
theorem dX9_optimalOf_10 : decode cX9_optimalOf 10 = .ok (.invokevirtual 115, 3) := by decide +kernel
theorem dX9_optimalOf_13 : decode cX9_optimalOf 13 = .ok (.ineg, 1) := by decide +kernel
theorem dX9_optimalOf_14 : decode cX9_optimalOf 14 = .ok (.istore_n 2, 1) := by decide +kernel
theorem dX9_optimalOf_15 : decode cX9_optimalOf 15 = .ok (.iconst 0, 1) := by decide +kernel
theorem dX9_optimalOf_16 : decode cX9_optimalOf 16 = .ok (.istore_n 3, 1) := by decide +kernel
theorem dX9_optimalOf_17 : decode cX9_optimalOf 17 = .ok (.iload_n 3, 1) := by decide +kernel
theorem dX9_optimalOf_18 : decode cX9_optimalOf 18 = .ok (.aload_n 0, 1) := by decide +kernel
theorem dX9_optimalOf_19 : decode cX9_optimalOf 19 = .ok (.invokevirtual 59, 3) := by decide +kernel
theorem dX9_optimalOf_22 : decode cX9_optimalOf 22 = .ok (.if_icmp .ge 44, 3) := by decide +kernel
theorem dX9_optimalOf_25 : decode cX9_optimalOf 25 = .ok (.aload_n 0, 1) := by decide +kernel
theorem dX9_optimalOf_26 : decode cX9_optimalOf 26 = .ok (.iload_n 3, 1) := by decide +kernel
theorem dX9_optimalOf_27 : decode cX9_optimalOf 27 = .ok (.invokevirtual 81, 3) := by decide +kernel
theorem dX9_optimalOf_30 : decode cX9_optimalOf 30 = .ok (.ifCond .ne 6, 3) := by decide +kernel
theorem dX9_optimalOf_33 : decode cX9_optimalOf 33 = .ok (.goto 27, 3) := by decide +kernel
theorem dX9_optimalOf_36 : decode cX9_optimalOf 36 = .ok (.iload_n 2, 1) := by decide +kernel
theorem dX9_optimalOf_37 : decode cX9_optimalOf 37 = .ok (.aload_n 0, 1) := by decide +kernel
theorem dX9_optimalOf_38 : decode cX9_optimalOf 38 = .ok (.iconst 2, 1) := by decide +kernel
theorem dX9_optimalOf_39 : decode cX9_optimalOf 39 = .ok (.iload_n 3, 1) := by decide +kernel
theorem dX9_optimalOf_40 : decode cX9_optimalOf 40 = .ok (.imul, 1) := by decide +kernel
theorem dX9_optimalOf_41 : decode cX9_optimalOf 41 = .ok (.invokevirtual 118, 3) := by decide +kernel
theorem dX9_optimalOf_44 : decode cX9_optimalOf 44 = .ok (.aload_n 0, 1) := by decide +kernel
theorem dX9_optimalOf_45 : decode cX9_optimalOf 45 = .ok (.iconst 2, 1) := by decide +kernel
theorem dX9_optimalOf_46 : decode cX9_optimalOf 46 = .ok (.iload_n 3, 1) := by decide +kernel
theorem dX9_optimalOf_47 : decode cX9_optimalOf 47 = .ok (.imul, 1) := by decide +kernel
theorem dX9_optimalOf_48 : decode cX9_optimalOf 48 = .ok (.iconst 1, 1) := by decide +kernel
theorem dX9_optimalOf_49 : decode cX9_optimalOf 49 = .ok (.iadd, 1) := by decide +kernel
theorem dX9_optimalOf_50 : decode cX9_optimalOf 50 = .ok (.invokevirtual 118, 3) := by decide +kernel
theorem dX9_optimalOf_53 : decode cX9_optimalOf 53 = .ok (.invokestatic 121, 3) := by decide +kernel
theorem dX9_optimalOf_56 : decode cX9_optimalOf 56 = .ok (.invokestatic 121, 3) := by decide +kernel
theorem dX9_optimalOf_59 : decode cX9_optimalOf 59 = .ok (.istore_n 2, 1) := by decide +kernel
theorem dX9_optimalOf_60 : decode cX9_optimalOf 60 = .ok (.iinc 3 1, 3) := by decide +kernel
theorem dX9_optimalOf_63 : decode cX9_optimalOf 63 = .ok (.goto (-46), 3) := by decide +kernel
theorem dX9_optimalOf_66 : decode cX9_optimalOf 66 = .ok (.iload_n 2, 1) := by decide +kernel
theorem dX9_optimalOf_67 : decode cX9_optimalOf 67 = .ok (.ireturn, 1) := by decide +kernel
theorem dX9_burnValue_0 : decode cX9_burnValue 0 = .ok (.aload_n 0, 1) := by decide +kernel
theorem dX9_burnValue_1 : decode cX9_burnValue 1 = .ok (.iload_n 1, 1) := by decide +kernel
theorem dX9_burnValue_2 : decode cX9_burnValue 2 = .ok (.invokevirtual 94, 3) := by decide +kernel
theorem dX9_burnValue_5 : decode cX9_burnValue 5 = .ok (.istore_n 2, 1) := by decide +kernel
theorem dX9_burnValue_6 : decode cX9_burnValue 6 = .ok (.aload_n 0, 1) := by decide +kernel
theorem dX9_burnValue_7 : decode cX9_burnValue 7 = .ok (.iload_n 1, 1) := by decide +kernel
theorem dX9_burnValue_8 : decode cX9_burnValue 8 = .ok (.invokevirtual 100, 3) := by decide +kernel
theorem dX9_burnValue_11 : decode cX9_burnValue 11 = .ok (.iload_n 2, 1) := by decide +kernel
theorem dX9_burnValue_12 : decode cX9_burnValue 12 = .ok (.aload_n 0, 1) := by decide +kernel
theorem dX9_burnValue_13 : decode cX9_burnValue 13 = .ok (.iconst 0, 1) := by decide +kernel
theorem dX9_burnValue_14 : decode cX9_burnValue 14 = .ok (.invokevirtual 115, 3) := by decide +kernel
theorem dX9_burnValue_17 : decode cX9_burnValue 17 = .ok (.isub, 1) := by decide +kernel
theorem dX9_burnValue_18 : decode cX9_burnValue 18 = .ok (.istore_n 3, 1) := by decide +kernel
theorem dX9_burnValue_19 : decode cX9_burnValue 19 = .ok (.aload_n 0, 1) := by decide +kernel
theorem dX9_burnValue_20 : decode cX9_burnValue 20 = .ok (.iload_n 1, 1) := by decide +kernel
theorem dX9_burnValue_21 : decode cX9_burnValue 21 = .ok (.invokevirtual 126, 3) := by decide +kernel
theorem dX9_burnValue_24 : decode cX9_burnValue 24 = .ok (.iload_n 3, 1) := by decide +kernel
theorem dX9_burnValue_25 : decode cX9_burnValue 25 = .ok (.ireturn, 1) := by decide +kernel
theorem dX9_valueOf_0 : decode cX9_valueOf 0 = .ok (.iload_n 1, 1) := by decide +kernel
theorem dX9_valueOf_1 : decode cX9_valueOf 1 = .ok (.bipush 6, 2) := by decide +kernel
theorem dX9_valueOf_3 : decode cX9_valueOf 3 = .ok (.if_icmp .eq 9, 3) := by decide +kernel
theorem dX9_valueOf_6 : decode cX9_valueOf 6 = .ok (.aload_n 0, 1) := by decide +kernel
theorem dX9_valueOf_7 : decode cX9_valueOf 7 = .ok (.iload_n 1, 1) := by decide +kernel
theorem dX9_valueOf_8 : decode cX9_valueOf 8 = .ok (.invokevirtual 118, 3) := by decide +kernel
theorem dX9_valueOf_11 : decode cX9_valueOf 11 = .ok (.ireturn, 1) := by decide +kernel
theorem dX9_valueOf_12 : decode cX9_valueOf 12 = .ok (.aload_n 0, 1) := by decide +kernel
theorem dX9_valueOf_13 : decode cX9_valueOf 13 = .ok (.iconst 4, 1) := by decide +kernel
theorem dX9_valueOf_14 : decode cX9_valueOf 14 = .ok (.invokevirtual 46, 3) := by decide +kernel
theorem dX9_valueOf_17 : decode cX9_valueOf 17 = .ok (.iconst 1, 1) := by decide +kernel
theorem dX9_valueOf_18 : decode cX9_valueOf 18 = .ok (.if_icmp .ne 7, 3) := by decide +kernel
theorem dX9_valueOf_21 : decode cX9_valueOf 21 = .ok (.iconst 0, 1) := by decide +kernel
theorem dX9_valueOf_22 : decode cX9_valueOf 22 = .ok (.goto 9, 3) := by decide +kernel
theorem dX9_valueOf_25 : decode cX9_valueOf 25 = .ok (.aload_n 0, 1) := by decide +kernel
theorem dX9_valueOf_26 : decode cX9_valueOf 26 = .ok (.iconst 1, 1) := by decide +kernel
theorem dX9_valueOf_27 : decode cX9_valueOf 27 = .ok (.invokevirtual 115, 3) := by decide +kernel
theorem dX9_valueOf_30 : decode cX9_valueOf 30 = .ok (.ineg, 1) := by decide +kernel
theorem dX9_valueOf_31 : decode cX9_valueOf 31 = .ok (.ireturn, 1) := by decide +kernel
theorem dX9_optimalNow_0 : decode cX9_optimalNow 0 = .ok (.aload_n 0, 1) := by decide +kernel
theorem dX9_optimalNow_1 : decode cX9_optimalNow 1 = .ok (.invokevirtual 88, 3) := by decide +kernel
theorem dX9_optimalNow_4 : decode cX9_optimalNow 4 = .ok (.ifCond .eq 7, 3) := by decide +kernel
theorem dX9_optimalNow_7 : decode cX9_optimalNow 7 = .ok (.iconst 0, 1) := by decide +kernel
theorem dX9_optimalNow_8 : decode cX9_optimalNow 8 = .ok (.goto 21, 3) := by decide +kernel
theorem dX9_optimalNow_11 : decode cX9_optimalNow 11 = .ok (.aload_n 0, 1) := by decide +kernel
theorem dX9_optimalNow_12 : decode cX9_optimalNow 12 = .ok (.aload_n 0, 1) := by decide +kernel
theorem dX9_optimalNow_13 : decode cX9_optimalNow 13 = .ok (.iconst 4, 1) := by decide +kernel
theorem dX9_optimalNow_14 : decode cX9_optimalNow 14 = .ok (.invokevirtual 46, 3) := by decide +kernel
theorem dX9_optimalNow_17 : decode cX9_optimalNow 17 = .ok (.iconst 1, 1) := by decide +kernel
theorem dX9_optimalNow_18 : decode cX9_optimalNow 18 = .ok (.if_icmp .ne 7, 3) := by decide +kernel
theorem dX9_optimalNow_21 : decode cX9_optimalNow 21 = .ok (.iconst 1, 1) := by decide +kernel
theorem dX9_optimalNow_22 : decode cX9_optimalNow 22 = .ok (.goto 4, 3) := by decide +kernel
theorem dX9_optimalNow_25 : decode cX9_optimalNow 25 = .ok (.iconst 0, 1) := by decide +kernel
theorem dX9_optimalNow_26 : decode cX9_optimalNow 26 = .ok (.invokevirtual 115, 3) := by decide +kernel
theorem dX9_optimalNow_29 : decode cX9_optimalNow 29 = .ok (.ireturn, 1) := by decide +kernel
theorem dX9_firstOptimal_0 : decode cX9_firstOptimal 0 = .ok (.iconst 0, 1) := by decide +kernel
theorem dX9_firstOptimal_1 : decode cX9_firstOptimal 1 = .ok (.istore_n 1, 1) := by decide +kernel
theorem dX9_firstOptimal_2 : decode cX9_firstOptimal 2 = .ok (.aload_n 0, 1) := by decide +kernel
theorem dX9_firstOptimal_3 : decode cX9_firstOptimal 3 = .ok (.invokevirtual 129, 3) := by decide +kernel
theorem dX9_firstOptimal_6 : decode cX9_firstOptimal 6 = .ok (.istore_n 2, 1) := by decide +kernel
theorem dX9_firstOptimal_7 : decode cX9_firstOptimal 7 = .ok (.iconst 1, 1) := by decide +kernel
theorem dX9_firstOptimal_8 : decode cX9_firstOptimal 8 = .ok (.istore_n 3, 1) := by decide +kernel
theorem dX9_firstOptimal_9 : decode cX9_firstOptimal 9 = .ok (.iload_n 3, 1) := by decide +kernel
theorem dX9_firstOptimal_10 : decode cX9_firstOptimal 10 = .ok (.iload_n 2, 1) := by decide +kernel
theorem dX9_firstOptimal_11 : decode cX9_firstOptimal 11 = .ok (.if_icmp .ge 32, 3) := by decide +kernel
theorem dX9_firstOptimal_14 : decode cX9_firstOptimal 14 = .ok (.aload_n 0, 1) := by decide +kernel
theorem dX9_firstOptimal_15 : decode cX9_firstOptimal 15 = .ok (.aload_n 0, 1) := by decide +kernel
theorem dX9_firstOptimal_16 : decode cX9_firstOptimal 16 = .ok (.iload_n 3, 1) := by decide +kernel
theorem dX9_firstOptimal_17 : decode cX9_firstOptimal 17 = .ok (.invokevirtual 132, 3) := by decide +kernel
theorem dX9_firstOptimal_20 : decode cX9_firstOptimal 20 = .ok (.invokevirtual 135, 3) := by decide +kernel
theorem dX9_firstOptimal_23 : decode cX9_firstOptimal 23 = .ok (.aload_n 0, 1) := by decide +kernel
theorem dX9_firstOptimal_24 : decode cX9_firstOptimal 24 = .ok (.aload_n 0, 1) := by decide +kernel
theorem dX9_firstOptimal_25 : decode cX9_firstOptimal 25 = .ok (.iload_n 1, 1) := by decide +kernel
theorem dX9_firstOptimal_26 : decode cX9_firstOptimal 26 = .ok (.invokevirtual 132, 3) := by decide +kernel
theorem dX9_firstOptimal_29 : decode cX9_firstOptimal 29 = .ok (.invokevirtual 135, 3) := by decide +kernel
theorem dX9_firstOptimal_32 : decode cX9_firstOptimal 32 = .ok (.if_icmp .le 5, 3) := by decide +kernel
theorem dX9_firstOptimal_35 : decode cX9_firstOptimal 35 = .ok (.iload_n 3, 1) := by decide +kernel
theorem dX9_firstOptimal_36 : decode cX9_firstOptimal 36 = .ok (.istore_n 1, 1) := by decide +kernel
theorem dX9_firstOptimal_37 : decode cX9_firstOptimal 37 = .ok (.iinc 3 1, 3) := by decide +kernel
theorem dX9_firstOptimal_40 : decode cX9_firstOptimal 40 = .ok (.goto (-31), 3) := by decide +kernel
theorem dX9_firstOptimal_43 : decode cX9_firstOptimal 43 = .ok (.iload_n 1, 1) := by decide +kernel
theorem dX9_firstOptimal_44 : decode cX9_firstOptimal 44 = .ok (.ireturn, 1) := by decide +kernel
theorem dX9_tries_0 : decode cX9_tries 0 = .ok (.aload_n 0, 1) := by decide +kernel
theorem dX9_tries_1 : decode cX9_tries 1 = .ok (.iconst 0, 1) := by decide +kernel
theorem dX9_tries_2 : decode cX9_tries 2 = .ok (.bipush 11, 2) := by decide +kernel
theorem dX9_tries_4 : decode cX9_tries 4 = .ok (.invokevirtual 56, 3) := by decide +kernel
theorem dX9_tries_7 : decode cX9_tries 7 = .ok (.aload_n 0, 1) := by decide +kernel
theorem dX9_tries_8 : decode cX9_tries 8 = .ok (.sipush 2552, 3) := by decide +kernel
theorem dX9_tries_11 : decode cX9_tries 11 = .ok (.putfield 43, 3) := by decide +kernel
theorem dX9_tries_14 : decode cX9_tries 14 = .ok (.aload_n 0, 1) := by decide +kernel
theorem dX9_tries_15 : decode cX9_tries 15 = .ok (.invokevirtual 138, 3) := by decide +kernel
theorem dX9_tries_18 : decode cX9_tries 18 = .ok (.return_, 1) := by decide +kernel
theorem dX9_goesAlong_0 : decode cX9_goesAlong 0 = .ok (.iconst 0, 1) := by decide +kernel
theorem dX9_goesAlong_1 : decode cX9_goesAlong 1 = .ok (.istore_n 2, 1) := by decide +kernel
theorem dX9_goesAlong_2 : decode cX9_goesAlong 2 = .ok (.iload_n 2, 1) := by decide +kernel
theorem dX9_goesAlong_3 : decode cX9_goesAlong 3 = .ok (.iload_n 1, 1) := by decide +kernel
theorem dX9_goesAlong_4 : decode cX9_goesAlong 4 = .ok (.if_icmp .ge 28, 3) := by decide +kernel
theorem dX9_goesAlong_7 : decode cX9_goesAlong 7 = .ok (.aload_n 0, 1) := by decide +kernel
theorem dX9_goesAlong_8 : decode cX9_goesAlong 8 = .ok (.invokevirtual 88, 3) := by decide +kernel
theorem dX9_goesAlong_11 : decode cX9_goesAlong 11 = .ok (.ifCond .ne 21, 3) := by decide +kernel
theorem dX9_goesAlong_14 : decode cX9_goesAlong 14 = .ok (.aload_n 0, 1) := by decide +kernel
theorem dX9_goesAlong_15 : decode cX9_goesAlong 15 = .ok (.aload_n 0, 1) := by decide +kernel
theorem dX9_goesAlong_16 : decode cX9_goesAlong 16 = .ok (.aload_n 0, 1) := by decide +kernel
theorem dX9_goesAlong_17 : decode cX9_goesAlong 17 = .ok (.invokevirtual 141, 3) := by decide +kernel
theorem dX9_goesAlong_20 : decode cX9_goesAlong 20 = .ok (.invokevirtual 132, 3) := by decide +kernel
theorem dX9_goesAlong_23 : decode cX9_goesAlong 23 = .ok (.invokevirtual 144, 3) := by decide +kernel
theorem dX9_goesAlong_26 : decode cX9_goesAlong 26 = .ok (.iinc 2 1, 3) := by decide +kernel
theorem dX9_goesAlong_29 : decode cX9_goesAlong 29 = .ok (.goto (-27), 3) := by decide +kernel
theorem dX9_goesAlong_32 : decode cX9_goesAlong 32 = .ok (.iload_n 2, 1) := by decide +kernel
theorem dX9_goesAlong_33 : decode cX9_goesAlong 33 = .ok (.ireturn, 1) := by decide +kernel
theorem dX9_greedy_0 : decode cX9_greedy 0 = .ok (.iconst (-1), 1) := by decide +kernel
theorem dX9_greedy_1 : decode cX9_greedy 1 = .ok (.istore_n 1, 1) := by decide +kernel
theorem dX9_greedy_2 : decode cX9_greedy 2 = .ok (.iconst 0, 1) := by decide +kernel
theorem dX9_greedy_3 : decode cX9_greedy 3 = .ok (.istore_n 2, 1) := by decide +kernel
theorem dX9_greedy_4 : decode cX9_greedy 4 = .ok (.iload_n 2, 1) := by decide +kernel
theorem dX9_greedy_5 : decode cX9_greedy 5 = .ok (.iconst 2, 1) := by decide +kernel
theorem dX9_greedy_6 : decode cX9_greedy 6 = .ok (.aload_n 0, 1) := by decide +kernel
theorem dX9_greedy_7 : decode cX9_greedy 7 = .ok (.invokevirtual 59, 3) := by decide +kernel
theorem dX9_greedy_10 : decode cX9_greedy 10 = .ok (.imul, 1) := by decide +kernel
theorem dX9_greedy_11 : decode cX9_greedy 11 = .ok (.if_icmp .ge 42, 3) := by decide +kernel
theorem dX9_greedy_14 : decode cX9_greedy 14 = .ok (.aload_n 0, 1) := by decide +kernel
theorem dX9_greedy_15 : decode cX9_greedy 15 = .ok (.iload_n 2, 1) := by decide +kernel
theorem dX9_greedy_16 : decode cX9_greedy 16 = .ok (.iconst 2, 1) := by decide +kernel
theorem dX9_greedy_17 : decode cX9_greedy 17 = .ok (.idiv, 1) := by decide +kernel
theorem dX9_greedy_18 : decode cX9_greedy 18 = .ok (.invokevirtual 81, 3) := by decide +kernel
theorem dX9_greedy_21 : decode cX9_greedy 21 = .ok (.ifCond .ne 6, 3) := by decide +kernel
theorem dX9_greedy_24 : decode cX9_greedy 24 = .ok (.goto 23, 3) := by decide +kernel
theorem dX9_greedy_27 : decode cX9_greedy 27 = .ok (.iload_n 1, 1) := by decide +kernel
theorem dX9_greedy_28 : decode cX9_greedy 28 = .ok (.iconst (-1), 1) := by decide +kernel
theorem dX9_greedy_29 : decode cX9_greedy 29 = .ok (.if_icmp .eq 16, 3) := by decide +kernel
theorem dX9_greedy_32 : decode cX9_greedy 32 = .ok (.aload_n 0, 1) := by decide +kernel
theorem dX9_greedy_33 : decode cX9_greedy 33 = .ok (.iload_n 2, 1) := by decide +kernel
theorem dX9_greedy_34 : decode cX9_greedy 34 = .ok (.invokevirtual 94, 3) := by decide +kernel
theorem dX9_greedy_37 : decode cX9_greedy 37 = .ok (.aload_n 0, 1) := by decide +kernel
theorem dX9_greedy_38 : decode cX9_greedy 38 = .ok (.iload_n 1, 1) := by decide +kernel
theorem dX9_greedy_39 : decode cX9_greedy 39 = .ok (.invokevirtual 94, 3) := by decide +kernel
theorem dX9_greedy_42 : decode cX9_greedy 42 = .ok (.if_icmp .le 5, 3) := by decide +kernel
theorem dX9_greedy_45 : decode cX9_greedy 45 = .ok (.iload_n 2, 1) := by decide +kernel
theorem dX9_greedy_46 : decode cX9_greedy 46 = .ok (.istore_n 1, 1) := by decide +kernel
theorem dX9_greedy_47 : decode cX9_greedy 47 = .ok (.iinc 2 1, 3) := by decide +kernel
theorem dX9_greedy_50 : decode cX9_greedy 50 = .ok (.goto (-46), 3) := by decide +kernel
theorem dX9_greedy_53 : decode cX9_greedy 53 = .ok (.iload_n 1, 1) := by decide +kernel
theorem dX9_greedy_54 : decode cX9_greedy 54 = .ok (.ireturn, 1) := by decide +kernel
theorem dX9_againstGreedy_0 : decode cX9_againstGreedy 0 = .ok (.aload_n 0, 1) := by decide +kernel
theorem dX9_againstGreedy_1 : decode cX9_againstGreedy 1 = .ok (.invokevirtual 84, 3) := by decide +kernel
theorem dX9_againstGreedy_4 : decode cX9_againstGreedy 4 = .ok (.ifCond .eq 5, 3) := by decide +kernel
theorem dX9_againstGreedy_7 : decode cX9_againstGreedy 7 = .ok (.iconst 0, 1) := by decide +kernel
theorem dX9_againstGreedy_8 : decode cX9_againstGreedy 8 = .ok (.ireturn, 1) := by decide +kernel
theorem dX9_againstGreedy_9 : decode cX9_againstGreedy 9 = .ok (.aload_n 0, 1) := by decide +kernel
theorem dX9_againstGreedy_10 : decode cX9_againstGreedy 10 = .ok (.iload_n 1, 1) := by decide +kernel
theorem dX9_againstGreedy_11 : decode cX9_againstGreedy 11 = .ok (.invokevirtual 108, 3) := by decide +kernel
theorem dX9_againstGreedy_14 : decode cX9_againstGreedy 14 = .ok (.istore_n 2, 1) := by decide +kernel
theorem dX9_againstGreedy_15 : decode cX9_againstGreedy 15 = .ok (.aload_n 0, 1) := by decide +kernel
theorem dX9_againstGreedy_16 : decode cX9_againstGreedy 16 = .ok (.getfield 22, 3) := by decide +kernel
theorem dX9_againstGreedy_19 : decode cX9_againstGreedy 19 = .ok (.iload_n 2, 1) := by decide +kernel
theorem dX9_againstGreedy_20 : decode cX9_againstGreedy 20 = .ok (.iaload, 1) := by decide +kernel
theorem dX9_againstGreedy_21 : decode cX9_againstGreedy 21 = .ok (.ldc 103, 2) := by decide +kernel
theorem dX9_againstGreedy_23 : decode cX9_againstGreedy 23 = .ok (.if_icmp .eq 10, 3) := by decide +kernel
theorem dX9_againstGreedy_26 : decode cX9_againstGreedy 26 = .ok (.aload_n 0, 1) := by decide +kernel
theorem dX9_againstGreedy_27 : decode cX9_againstGreedy 27 = .ok (.getfield 22, 3) := by decide +kernel
theorem dX9_againstGreedy_30 : decode cX9_againstGreedy 30 = .ok (.iload_n 2, 1) := by decide +kernel
theorem dX9_againstGreedy_31 : decode cX9_againstGreedy 31 = .ok (.iaload, 1) := by decide +kernel
theorem dX9_againstGreedy_32 : decode cX9_againstGreedy 32 = .ok (.ireturn, 1) := by decide +kernel
theorem dX9_againstGreedy_33 : decode cX9_againstGreedy 33 = .ok (.iload_n 1, 1) := by decide +kernel
theorem dX9_againstGreedy_34 : decode cX9_againstGreedy 34 = .ok (.ifCond .eq 7, 3) := by decide +kernel
theorem dX9_againstGreedy_37 : decode cX9_againstGreedy 37 = .ok (.iconst 0, 1) := by decide +kernel
theorem dX9_againstGreedy_38 : decode cX9_againstGreedy 38 = .ok (.goto 7, 3) := by decide +kernel
theorem dX9_againstGreedy_41 : decode cX9_againstGreedy 41 = .ok (.aload_n 0, 1) := by decide +kernel
theorem dX9_againstGreedy_42 : decode cX9_againstGreedy 42 = .ok (.invokevirtual 147, 3) := by decide +kernel
theorem dX9_againstGreedy_45 : decode cX9_againstGreedy 45 = .ok (.istore_n 3, 1) := by decide +kernel
theorem dX9_againstGreedy_46 : decode cX9_againstGreedy 46 = .ok (.iconst 0, 1) := by decide +kernel
theorem dX9_againstGreedy_47 : decode cX9_againstGreedy 47 = .ok (.istore 4, 2) := by decide +kernel
theorem dX9_againstGreedy_49 : decode cX9_againstGreedy 49 = .ok (.iload 4, 2) := by decide +kernel
theorem dX9_againstGreedy_51 : decode cX9_againstGreedy 51 = .ok (.iconst 2, 1) := by decide +kernel
theorem dX9_againstGreedy_52 : decode cX9_againstGreedy 52 = .ok (.aload_n 0, 1) := by decide +kernel
theorem dX9_againstGreedy_53 : decode cX9_againstGreedy 53 = .ok (.invokevirtual 59, 3) := by decide +kernel
theorem dX9_againstGreedy_56 : decode cX9_againstGreedy 56 = .ok (.imul, 1) := by decide +kernel
theorem dX9_againstGreedy_57 : decode cX9_againstGreedy 57 = .ok (.if_icmp .ge 55, 3) := by decide +kernel
theorem dX9_againstGreedy_60 : decode cX9_againstGreedy 60 = .ok (.aload_n 0, 1) := by decide +kernel
theorem dX9_againstGreedy_61 : decode cX9_againstGreedy 61 = .ok (.iload 4, 2) := by decide +kernel
theorem dX9_againstGreedy_63 : decode cX9_againstGreedy 63 = .ok (.iconst 2, 1) := by decide +kernel
theorem dX9_againstGreedy_64 : decode cX9_againstGreedy 64 = .ok (.idiv, 1) := by decide +kernel
theorem dX9_againstGreedy_65 : decode cX9_againstGreedy 65 = .ok (.invokevirtual 81, 3) := by decide +kernel
theorem dX9_againstGreedy_68 : decode cX9_againstGreedy 68 = .ok (.ifCond .ne 6, 3) := by decide +kernel
theorem dX9_againstGreedy_71 : decode cX9_againstGreedy 71 = .ok (.goto 35, 3) := by decide +kernel
theorem dX9_againstGreedy_74 : decode cX9_againstGreedy 74 = .ok (.aload_n 0, 1) := by decide +kernel
theorem dX9_againstGreedy_75 : decode cX9_againstGreedy 75 = .ok (.iload 4, 2) := by decide +kernel
theorem dX9_againstGreedy_77 : decode cX9_againstGreedy 77 = .ok (.invokevirtual 94, 3) := by decide +kernel
theorem dX9_againstGreedy_80 : decode cX9_againstGreedy 80 = .ok (.istore 5, 2) := by decide +kernel
theorem dX9_againstGreedy_82 : decode cX9_againstGreedy 82 = .ok (.aload_n 0, 1) := by decide +kernel
theorem dX9_againstGreedy_83 : decode cX9_againstGreedy 83 = .ok (.iload 4, 2) := by decide +kernel
theorem dX9_againstGreedy_85 : decode cX9_againstGreedy 85 = .ok (.invokevirtual 100, 3) := by decide +kernel
theorem dX9_againstGreedy_88 : decode cX9_againstGreedy 88 = .ok (.iload_n 3, 1) := by decide +kernel
theorem dX9_againstGreedy_89 : decode cX9_againstGreedy 89 = .ok (.iload 5, 2) := by decide +kernel
theorem dX9_againstGreedy_91 : decode cX9_againstGreedy 91 = .ok (.aload_n 0, 1) := by decide +kernel
theorem dX9_againstGreedy_92 : decode cX9_againstGreedy 92 = .ok (.invokevirtual 147, 3) := by decide +kernel
theorem dX9_againstGreedy_95 : decode cX9_againstGreedy 95 = .ok (.iadd, 1) := by decide +kernel
theorem dX9_againstGreedy_96 : decode cX9_againstGreedy 96 = .ok (.invokestatic 121, 3) := by decide +kernel
theorem dX9_againstGreedy_99 : decode cX9_againstGreedy 99 = .ok (.istore_n 3, 1) := by decide +kernel
theorem dX9_againstGreedy_100 : decode cX9_againstGreedy 100 = .ok (.aload_n 0, 1) := by decide +kernel
theorem dX9_againstGreedy_101 : decode cX9_againstGreedy 101 = .ok (.iload 4, 2) := by decide +kernel
theorem dX9_againstGreedy_103 : decode cX9_againstGreedy 103 = .ok (.invokevirtual 126, 3) := by decide +kernel
theorem dX9_againstGreedy_106 : decode cX9_againstGreedy 106 = .ok (.iinc 4 1, 3) := by decide +kernel
theorem dX9_againstGreedy_109 : decode cX9_againstGreedy 109 = .ok (.goto (-60), 3) := by decide +kernel
theorem dX9_againstGreedy_112 : decode cX9_againstGreedy 112 = .ok (.aload_n 0, 1) := by decide +kernel
theorem dX9_againstGreedy_113 : decode cX9_againstGreedy 113 = .ok (.getfield 22, 3) := by decide +kernel
theorem dX9_againstGreedy_116 : decode cX9_againstGreedy 116 = .ok (.iload_n 2, 1) := by decide +kernel
theorem dX9_againstGreedy_117 : decode cX9_againstGreedy 117 = .ok (.iload_n 3, 1) := by decide +kernel
theorem dX9_againstGreedy_118 : decode cX9_againstGreedy 118 = .ok (.iastore, 1) := by decide +kernel
theorem dX9_againstGreedy_119 : decode cX9_againstGreedy 119 = .ok (.iload_n 3, 1) := by decide +kernel
theorem dX9_againstGreedy_120 : decode cX9_againstGreedy 120 = .ok (.ireturn, 1) := by decide +kernel
theorem dX9_behindGreedy_0 : decode cX9_behindGreedy 0 = .ok (.aload_n 0, 1) := by decide +kernel
theorem dX9_behindGreedy_1 : decode cX9_behindGreedy 1 = .ok (.invokevirtual 84, 3) := by decide +kernel
theorem dX9_behindGreedy_4 : decode cX9_behindGreedy 4 = .ok (.ifCond .eq 5, 3) := by decide +kernel
theorem dX9_behindGreedy_7 : decode cX9_behindGreedy 7 = .ok (.iconst 0, 1) := by decide +kernel
theorem dX9_behindGreedy_8 : decode cX9_behindGreedy 8 = .ok (.ireturn, 1) := by decide +kernel
theorem dX9_behindGreedy_9 : decode cX9_behindGreedy 9 = .ok (.aload_n 0, 1) := by decide +kernel
theorem dX9_behindGreedy_10 : decode cX9_behindGreedy 10 = .ok (.invokevirtual 150, 3) := by decide +kernel
theorem dX9_behindGreedy_13 : decode cX9_behindGreedy 13 = .ok (.istore_n 1, 1) := by decide +kernel
theorem dX9_behindGreedy_14 : decode cX9_behindGreedy 14 = .ok (.aload_n 0, 1) := by decide +kernel
theorem dX9_behindGreedy_15 : decode cX9_behindGreedy 15 = .ok (.iload_n 1, 1) := by decide +kernel
theorem dX9_behindGreedy_16 : decode cX9_behindGreedy 16 = .ok (.invokevirtual 94, 3) := by decide +kernel
theorem dX9_behindGreedy_19 : decode cX9_behindGreedy 19 = .ok (.istore_n 2, 1) := by decide +kernel
theorem dX9_behindGreedy_20 : decode cX9_behindGreedy 20 = .ok (.aload_n 0, 1) := by decide +kernel
theorem dX9_behindGreedy_21 : decode cX9_behindGreedy 21 = .ok (.iload_n 1, 1) := by decide +kernel
theorem dX9_behindGreedy_22 : decode cX9_behindGreedy 22 = .ok (.invokevirtual 100, 3) := by decide +kernel
theorem dX9_behindGreedy_25 : decode cX9_behindGreedy 25 = .ok (.aload_n 0, 1) := by decide +kernel
theorem dX9_behindGreedy_26 : decode cX9_behindGreedy 26 = .ok (.iconst 0, 1) := by decide +kernel
theorem dX9_behindGreedy_27 : decode cX9_behindGreedy 27 = .ok (.invokevirtual 153, 3) := by decide +kernel
theorem dX9_behindGreedy_30 : decode cX9_behindGreedy 30 = .ok (.iload_n 2, 1) := by decide +kernel
theorem dX9_behindGreedy_31 : decode cX9_behindGreedy 31 = .ok (.isub, 1) := by decide +kernel
theorem dX9_behindGreedy_32 : decode cX9_behindGreedy 32 = .ok (.istore_n 3, 1) := by decide +kernel
theorem dX9_behindGreedy_33 : decode cX9_behindGreedy 33 = .ok (.aload_n 0, 1) := by decide +kernel
theorem dX9_behindGreedy_34 : decode cX9_behindGreedy 34 = .ok (.iload_n 1, 1) := by decide +kernel
theorem dX9_behindGreedy_35 : decode cX9_behindGreedy 35 = .ok (.invokevirtual 126, 3) := by decide +kernel
theorem dX9_behindGreedy_38 : decode cX9_behindGreedy 38 = .ok (.iload_n 3, 1) := by decide +kernel
theorem dX9_behindGreedy_39 : decode cX9_behindGreedy 39 = .ok (.ireturn, 1) := by decide +kernel
theorem dX9_isIn_0 : decode cX9_isIn 0 = .ok (.iload_n 1, 1) := by decide +kernel
theorem dX9_isIn_1 : decode cX9_isIn 1 = .ok (.aload_n 0, 1) := by decide +kernel
theorem dX9_isIn_2 : decode cX9_isIn 2 = .ok (.getfield 156, 3) := by decide +kernel
theorem dX9_isIn_5 : decode cX9_isIn 5 = .ok (.if_icmp .ge 27, 3) := by decide +kernel
theorem dX9_isIn_8 : decode cX9_isIn 8 = .ok (.aload_n 0, 1) := by decide +kernel
theorem dX9_isIn_9 : decode cX9_isIn 9 = .ok (.getfield 13, 3) := by decide +kernel
theorem dX9_isIn_12 : decode cX9_isIn 12 = .ok (.iload_n 1, 1) := by decide +kernel
theorem dX9_isIn_13 : decode cX9_isIn 13 = .ok (.baload, 1) := by decide +kernel
theorem dX9_isIn_14 : decode cX9_isIn 14 = .ok (.iload_n 2, 1) := by decide +kernel
theorem dX9_isIn_15 : decode cX9_isIn 15 = .ok (.if_icmp .lt 17, 3) := by decide +kernel
theorem dX9_isIn_18 : decode cX9_isIn 18 = .ok (.aload_n 0, 1) := by decide +kernel
theorem dX9_isIn_19 : decode cX9_isIn 19 = .ok (.getfield 13, 3) := by decide +kernel
theorem dX9_isIn_22 : decode cX9_isIn 22 = .ok (.iload_n 1, 1) := by decide +kernel
theorem dX9_isIn_23 : decode cX9_isIn 23 = .ok (.baload, 1) := by decide +kernel
theorem dX9_isIn_24 : decode cX9_isIn 24 = .ok (.iload_n 3, 1) := by decide +kernel
theorem dX9_isIn_25 : decode cX9_isIn 25 = .ok (.if_icmp .gt 7, 3) := by decide +kernel
theorem dX9_isIn_28 : decode cX9_isIn 28 = .ok (.iconst 1, 1) := by decide +kernel
theorem dX9_isIn_29 : decode cX9_isIn 29 = .ok (.goto 4, 3) := by decide +kernel
theorem dX9_isIn_32 : decode cX9_isIn 32 = .ok (.iconst 0, 1) := by decide +kernel
theorem dX9_isIn_33 : decode cX9_isIn 33 = .ok (.ireturn, 1) := by decide +kernel
theorem dX9_faults_0 : decode cX9_faults 0 = .ok (.aload_n 0, 1) := by decide +kernel
theorem dX9_faults_1 : decode cX9_faults 1 = .ok (.iload_n 1, 1) := by decide +kernel
theorem dX9_faults_2 : decode cX9_faults 2 = .ok (.putfield 159, 3) := by decide +kernel
theorem dX9_faults_5 : decode cX9_faults 5 = .ok (.iconst 0, 1) := by decide +kernel
theorem dX9_faults_6 : decode cX9_faults 6 = .ok (.ireturn, 1) := by decide +kernel
theorem dX9_token_0 : decode cX9_token 0 = .ok (.aload_n 0, 1) := by decide +kernel
theorem dX9_token_1 : decode cX9_token 1 = .ok (.aload_n 0, 1) := by decide +kernel
theorem dX9_token_2 : decode cX9_token 2 = .ok (.getfield 162, 3) := by decide +kernel
theorem dX9_token_5 : decode cX9_token 5 = .ok (.bipush 32, 2) := by decide +kernel
theorem dX9_token_7 : decode cX9_token 7 = .ok (.bipush 32, 2) := by decide +kernel
theorem dX9_token_9 : decode cX9_token 9 = .ok (.invokevirtual 165, 3) := by decide +kernel
theorem dX9_token_12 : decode cX9_token 12 = .ok (.ifCond .ne 18, 3) := by decide +kernel
theorem dX9_token_15 : decode cX9_token 15 = .ok (.aload_n 0, 1) := by decide +kernel
theorem dX9_token_16 : decode cX9_token 16 = .ok (.aload_n 0, 1) := by decide +kernel
theorem dX9_token_17 : decode cX9_token 17 = .ok (.getfield 162, 3) := by decide +kernel
theorem dX9_token_20 : decode cX9_token 20 = .ok (.bipush 10, 2) := by decide +kernel
theorem dX9_token_22 : decode cX9_token 22 = .ok (.bipush 10, 2) := by decide +kernel
theorem dX9_token_24 : decode cX9_token 24 = .ok (.invokevirtual 165, 3) := by decide +kernel
theorem dX9_token_27 : decode cX9_token 27 = .ok (.ifCond .eq 16, 3) := by decide +kernel
theorem dX9_token_30 : decode cX9_token 30 = .ok (.aload_n 0, 1) := by decide +kernel
theorem dX9_token_31 : decode cX9_token 31 = .ok (.dup, 1) := by decide +kernel
theorem dX9_token_32 : decode cX9_token 32 = .ok (.getfield 162, 3) := by decide +kernel
theorem dX9_token_35 : decode cX9_token 35 = .ok (.iconst 1, 1) := by decide +kernel
theorem dX9_token_36 : decode cX9_token 36 = .ok (.iadd, 1) := by decide +kernel
theorem dX9_token_37 : decode cX9_token 37 = .ok (.putfield 162, 3) := by decide +kernel
theorem dX9_token_40 : decode cX9_token 40 = .ok (.goto (-40), 3) := by decide +kernel
theorem dX9_token_43 : decode cX9_token 43 = .ok (.aload_n 0, 1) := by decide +kernel
theorem dX9_token_44 : decode cX9_token 44 = .ok (.aload_n 0, 1) := by decide +kernel
theorem dX9_token_45 : decode cX9_token 45 = .ok (.getfield 162, 3) := by decide +kernel
theorem dX9_token_48 : decode cX9_token 48 = .ok (.putfield 169, 3) := by decide +kernel
theorem dX9_token_51 : decode cX9_token 51 = .ok (.aload_n 0, 1) := by decide +kernel
theorem dX9_token_52 : decode cX9_token 52 = .ok (.getfield 162, 3) := by decide +kernel
theorem dX9_token_55 : decode cX9_token 55 = .ok (.aload_n 0, 1) := by decide +kernel
theorem dX9_token_56 : decode cX9_token 56 = .ok (.getfield 156, 3) := by decide +kernel
theorem dX9_token_59 : decode cX9_token 59 = .ok (.if_icmp .ne 10, 3) := by decide +kernel
theorem dX9_token_62 : decode cX9_token 62 = .ok (.aload_n 0, 1) := by decide +kernel
theorem dX9_token_63 : decode cX9_token 63 = .ok (.iconst 0, 1) := by decide +kernel
theorem dX9_token_64 : decode cX9_token 64 = .ok (.putfield 172, 3) := by decide +kernel
theorem dX9_token_67 : decode cX9_token 67 = .ok (.iconst 1, 1) := by decide +kernel
theorem dX9_token_68 : decode cX9_token 68 = .ok (.ireturn, 1) := by decide +kernel
theorem dX9_token_69 : decode cX9_token 69 = .ok (.aload_n 0, 1) := by decide +kernel
theorem dX9_token_70 : decode cX9_token 70 = .ok (.aload_n 0, 1) := by decide +kernel
theorem dX9_token_71 : decode cX9_token 71 = .ok (.getfield 162, 3) := by decide +kernel
theorem dX9_token_74 : decode cX9_token 74 = .ok (.bipush 97, 2) := by decide +kernel
theorem dX9_token_76 : decode cX9_token 76 = .ok (.bipush 122, 2) := by decide +kernel
theorem dX9_token_78 : decode cX9_token 78 = .ok (.invokevirtual 165, 3) := by decide +kernel
theorem dX9_token_81 : decode cX9_token 81 = .ok (.ifCond .eq 64, 3) := by decide +kernel
theorem dX9_token_84 : decode cX9_token 84 = .ok (.aload_n 0, 1) := by decide +kernel
theorem dX9_token_85 : decode cX9_token 85 = .ok (.iconst 1, 1) := by decide +kernel
theorem dX9_token_86 : decode cX9_token 86 = .ok (.putfield 172, 3) := by decide +kernel
theorem dX9_token_89 : decode cX9_token 89 = .ok (.aload_n 0, 1) := by decide +kernel
theorem dX9_token_90 : decode cX9_token 90 = .ok (.aload_n 0, 1) := by decide +kernel
theorem dX9_token_91 : decode cX9_token 91 = .ok (.getfield 162, 3) := by decide +kernel
theorem dX9_token_94 : decode cX9_token 94 = .ok (.bipush 97, 2) := by decide +kernel
theorem dX9_token_96 : decode cX9_token 96 = .ok (.bipush 122, 2) := by decide +kernel
theorem dX9_token_98 : decode cX9_token 98 = .ok (.invokevirtual 165, 3) := by decide +kernel
theorem dX9_token_101 : decode cX9_token 101 = .ok (.ifCond .eq 16, 3) := by decide +kernel
theorem dX9_token_104 : decode cX9_token 104 = .ok (.aload_n 0, 1) := by decide +kernel
theorem dX9_token_105 : decode cX9_token 105 = .ok (.dup, 1) := by decide +kernel
theorem dX9_token_106 : decode cX9_token 106 = .ok (.getfield 162, 3) := by decide +kernel
theorem dX9_token_109 : decode cX9_token 109 = .ok (.iconst 1, 1) := by decide +kernel
theorem dX9_token_110 : decode cX9_token 110 = .ok (.iadd, 1) := by decide +kernel
theorem dX9_token_111 : decode cX9_token 111 = .ok (.putfield 162, 3) := by decide +kernel
theorem dX9_token_114 : decode cX9_token 114 = .ok (.goto (-25), 3) := by decide +kernel
theorem dX9_token_117 : decode cX9_token 117 = .ok (.aload_n 0, 1) := by decide +kernel
theorem dX9_token_118 : decode cX9_token 118 = .ok (.getfield 162, 3) := by decide +kernel
theorem dX9_token_121 : decode cX9_token 121 = .ok (.aload_n 0, 1) := by decide +kernel
theorem dX9_token_122 : decode cX9_token 122 = .ok (.getfield 169, 3) := by decide +kernel
theorem dX9_token_125 : decode cX9_token 125 = .ok (.isub, 1) := by decide +kernel
theorem dX9_token_126 : decode cX9_token 126 = .ok (.bipush 8, 2) := by decide +kernel
theorem dX9_token_128 : decode cX9_token 128 = .ok (.if_icmp .le 11, 3) := by decide +kernel
theorem dX9_token_131 : decode cX9_token 131 = .ok (.aload_n 0, 1) := by decide +kernel
theorem dX9_token_132 : decode cX9_token 132 = .ok (.iconst 1, 1) := by decide +kernel
theorem dX9_token_133 : decode cX9_token 133 = .ok (.invokevirtual 175, 3) := by decide +kernel
theorem dX9_token_136 : decode cX9_token 136 = .ok (.ifCond .eq 7, 3) := by decide +kernel
theorem dX9_token_139 : decode cX9_token 139 = .ok (.iconst 1, 1) := by decide +kernel
theorem dX9_token_140 : decode cX9_token 140 = .ok (.goto 4, 3) := by decide +kernel
theorem dX9_token_143 : decode cX9_token 143 = .ok (.iconst 0, 1) := by decide +kernel
theorem dX9_token_144 : decode cX9_token 144 = .ok (.ireturn, 1) := by decide +kernel
theorem dX9_token_145 : decode cX9_token 145 = .ok (.aload_n 0, 1) := by decide +kernel
theorem dX9_token_146 : decode cX9_token 146 = .ok (.aload_n 0, 1) := by decide +kernel
theorem dX9_token_147 : decode cX9_token 147 = .ok (.getfield 162, 3) := by decide +kernel
theorem dX9_token_150 : decode cX9_token 150 = .ok (.bipush 48, 2) := by decide +kernel
theorem dX9_token_152 : decode cX9_token 152 = .ok (.bipush 57, 2) := by decide +kernel
theorem dX9_token_154 : decode cX9_token 154 = .ok (.invokevirtual 165, 3) := by decide +kernel
theorem dX9_token_157 : decode cX9_token 157 = .ok (.ifCond .eq 63, 3) := by decide +kernel
theorem dX9_token_160 : decode cX9_token 160 = .ok (.aload_n 0, 1) := by decide +kernel
theorem dX9_token_161 : decode cX9_token 161 = .ok (.iconst 2, 1) := by decide +kernel
theorem dX9_token_162 : decode cX9_token 162 = .ok (.putfield 172, 3) := by decide +kernel
theorem dX9_token_165 : decode cX9_token 165 = .ok (.aload_n 0, 1) := by decide +kernel
theorem dX9_token_166 : decode cX9_token 166 = .ok (.aload_n 0, 1) := by decide +kernel
theorem dX9_token_167 : decode cX9_token 167 = .ok (.getfield 162, 3) := by decide +kernel
theorem dX9_token_170 : decode cX9_token 170 = .ok (.bipush 48, 2) := by decide +kernel
theorem dX9_token_172 : decode cX9_token 172 = .ok (.bipush 57, 2) := by decide +kernel
theorem dX9_token_174 : decode cX9_token 174 = .ok (.invokevirtual 165, 3) := by decide +kernel
theorem dX9_token_177 : decode cX9_token 177 = .ok (.ifCond .eq 16, 3) := by decide +kernel
theorem dX9_token_180 : decode cX9_token 180 = .ok (.aload_n 0, 1) := by decide +kernel
theorem dX9_token_181 : decode cX9_token 181 = .ok (.dup, 1) := by decide +kernel
theorem dX9_token_182 : decode cX9_token 182 = .ok (.getfield 162, 3) := by decide +kernel
theorem dX9_token_185 : decode cX9_token 185 = .ok (.iconst 1, 1) := by decide +kernel
theorem dX9_token_186 : decode cX9_token 186 = .ok (.iadd, 1) := by decide +kernel
theorem dX9_token_187 : decode cX9_token 187 = .ok (.putfield 162, 3) := by decide +kernel
theorem dX9_token_190 : decode cX9_token 190 = .ok (.goto (-25), 3) := by decide +kernel
theorem dX9_token_193 : decode cX9_token 193 = .ok (.aload_n 0, 1) := by decide +kernel
theorem dX9_token_194 : decode cX9_token 194 = .ok (.getfield 162, 3) := by decide +kernel
theorem dX9_token_197 : decode cX9_token 197 = .ok (.aload_n 0, 1) := by decide +kernel
theorem dX9_token_198 : decode cX9_token 198 = .ok (.getfield 169, 3) := by decide +kernel
theorem dX9_token_201 : decode cX9_token 201 = .ok (.isub, 1) := by decide +kernel
theorem dX9_token_202 : decode cX9_token 202 = .ok (.iconst 2, 1) := by decide +kernel
theorem dX9_token_203 : decode cX9_token 203 = .ok (.if_icmp .le 11, 3) := by decide +kernel
theorem dX9_token_206 : decode cX9_token 206 = .ok (.aload_n 0, 1) := by decide +kernel
theorem dX9_token_207 : decode cX9_token 207 = .ok (.iconst 1, 1) := by decide +kernel
theorem dX9_token_208 : decode cX9_token 208 = .ok (.invokevirtual 175, 3) := by decide +kernel
theorem dX9_token_211 : decode cX9_token 211 = .ok (.ifCond .eq 7, 3) := by decide +kernel
theorem dX9_token_214 : decode cX9_token 214 = .ok (.iconst 1, 1) := by decide +kernel
theorem dX9_token_215 : decode cX9_token 215 = .ok (.goto 4, 3) := by decide +kernel
theorem dX9_token_218 : decode cX9_token 218 = .ok (.iconst 0, 1) := by decide +kernel
theorem dX9_token_219 : decode cX9_token 219 = .ok (.ireturn, 1) := by decide +kernel
theorem dX9_token_220 : decode cX9_token 220 = .ok (.aload_n 0, 1) := by decide +kernel
theorem dX9_token_221 : decode cX9_token 221 = .ok (.aload_n 0, 1) := by decide +kernel
theorem dX9_token_222 : decode cX9_token 222 = .ok (.getfield 13, 3) := by decide +kernel
theorem dX9_token_225 : decode cX9_token 225 = .ok (.aload_n 0, 1) := by decide +kernel
theorem dX9_token_226 : decode cX9_token 226 = .ok (.getfield 162, 3) := by decide +kernel
theorem dX9_token_229 : decode cX9_token 229 = .ok (.baload, 1) := by decide +kernel
theorem dX9_token_230 : decode cX9_token 230 = .ok (.bipush 44, 2) := by decide +kernel
theorem dX9_token_232 : decode cX9_token 232 = .ok (.if_icmp .ne 7, 3) := by decide +kernel
theorem dX9_token_235 : decode cX9_token 235 = .ok (.iconst 4, 1) := by decide +kernel
theorem dX9_token_236 : decode cX9_token 236 = .ok (.goto 4, 3) := by decide +kernel
theorem dX9_token_239 : decode cX9_token 239 = .ok (.iconst 3, 1) := by decide +kernel
theorem dX9_token_240 : decode cX9_token 240 = .ok (.putfield 172, 3) := by decide +kernel
theorem dX9_token_243 : decode cX9_token 243 = .ok (.aload_n 0, 1) := by decide +kernel
theorem dX9_token_244 : decode cX9_token 244 = .ok (.dup, 1) := by decide +kernel
theorem dX9_token_245 : decode cX9_token 245 = .ok (.getfield 162, 3) := by decide +kernel
theorem dX9_token_248 : decode cX9_token 248 = .ok (.iconst 1, 1) := by decide +kernel
theorem dX9_token_249 : decode cX9_token 249 = .ok (.iadd, 1) := by decide +kernel
theorem dX9_token_250 : decode cX9_token 250 = .ok (.putfield 162, 3) := by decide +kernel
theorem dX9_token_253 : decode cX9_token 253 = .ok (.aload_n 0, 1) := by decide +kernel
theorem dX9_token_254 : decode cX9_token 254 = .ok (.getfield 13, 3) := by decide +kernel
theorem dX9_token_257 : decode cX9_token 257 = .ok (.aload_n 0, 1) := by decide +kernel
theorem dX9_token_258 : decode cX9_token 258 = .ok (.getfield 169, 3) := by decide +kernel
theorem dX9_token_261 : decode cX9_token 261 = .ok (.baload, 1) := by decide +kernel
theorem dX9_token_262 : decode cX9_token 262 = .ok (.bipush 44, 2) := by decide +kernel
theorem dX9_token_264 : decode cX9_token 264 = .ok (.if_icmp .eq 25, 3) := by decide +kernel
theorem dX9_token_267 : decode cX9_token 267 = .ok (.aload_n 0, 1) := by decide +kernel
theorem dX9_token_268 : decode cX9_token 268 = .ok (.getfield 13, 3) := by decide +kernel
theorem dX9_token_271 : decode cX9_token 271 = .ok (.aload_n 0, 1) := by decide +kernel
theorem dX9_token_272 : decode cX9_token 272 = .ok (.getfield 169, 3) := by decide +kernel
theorem dX9_token_275 : decode cX9_token 275 = .ok (.baload, 1) := by decide +kernel
theorem dX9_token_276 : decode cX9_token 276 = .ok (.bipush 59, 2) := by decide +kernel
theorem dX9_token_278 : decode cX9_token 278 = .ok (.if_icmp .eq 11, 3) := by decide +kernel
theorem dX9_token_281 : decode cX9_token 281 = .ok (.aload_n 0, 1) := by decide +kernel
theorem dX9_token_282 : decode cX9_token 282 = .ok (.iconst 1, 1) := by decide +kernel
theorem dX9_token_283 : decode cX9_token 283 = .ok (.invokevirtual 175, 3) := by decide +kernel
theorem dX9_token_286 : decode cX9_token 286 = .ok (.ifCond .eq 7, 3) := by decide +kernel
theorem dX9_token_289 : decode cX9_token 289 = .ok (.iconst 1, 1) := by decide +kernel
theorem dX9_token_290 : decode cX9_token 290 = .ok (.goto 4, 3) := by decide +kernel
theorem dX9_token_293 : decode cX9_token 293 = .ok (.iconst 0, 1) := by decide +kernel
theorem dX9_token_294 : decode cX9_token 294 = .ok (.ireturn, 1) := by decide +kernel
theorem dX9_is_0 : decode cX9_is 0 = .ok (.aload_n 0, 1) := by decide +kernel
theorem dX9_is_1 : decode cX9_is 1 = .ok (.invokevirtual 178, 3) := by decide +kernel
theorem dX9_is_4 : decode cX9_is 4 = .ok (.ifCond .eq 23, 3) := by decide +kernel
theorem dX9_is_7 : decode cX9_is 7 = .ok (.aload_n 0, 1) := by decide +kernel
theorem dX9_is_8 : decode cX9_is 8 = .ok (.getfield 172, 3) := by decide +kernel
theorem dX9_is_11 : decode cX9_is 11 = .ok (.iload_n 1, 1) := by decide +kernel
theorem dX9_is_12 : decode cX9_is 12 = .ok (.if_icmp .eq 11, 3) := by decide +kernel
theorem dX9_is_15 : decode cX9_is 15 = .ok (.aload_n 0, 1) := by decide +kernel
theorem dX9_is_16 : decode cX9_is 16 = .ok (.iconst 1, 1) := by decide +kernel
theorem dX9_is_17 : decode cX9_is 17 = .ok (.invokevirtual 175, 3) := by decide +kernel
theorem dX9_is_20 : decode cX9_is 20 = .ok (.ifCond .eq 7, 3) := by decide +kernel
theorem dX9_is_23 : decode cX9_is 23 = .ok (.iconst 1, 1) := by decide +kernel
theorem dX9_is_24 : decode cX9_is 24 = .ok (.goto 4, 3) := by decide +kernel
theorem dX9_is_27 : decode cX9_is 27 = .ok (.iconst 0, 1) := by decide +kernel
theorem dX9_is_28 : decode cX9_is 28 = .ok (.ireturn, 1) := by decide +kernel
theorem dX9_letterIs_0 : decode cX9_letterIs 0 = .ok (.iload_n 2, 1) := by decide +kernel
theorem dX9_letterIs_1 : decode cX9_letterIs 1 = .ok (.ifCond .ne 24, 3) := by decide +kernel
theorem dX9_letterIs_4 : decode cX9_letterIs 4 = .ok (.aload_n 0, 1) := by decide +kernel
theorem dX9_letterIs_5 : decode cX9_letterIs 5 = .ok (.getfield 169, 3) := by decide +kernel
theorem dX9_letterIs_8 : decode cX9_letterIs 8 = .ok (.iload_n 1, 1) := by decide +kernel
theorem dX9_letterIs_9 : decode cX9_letterIs 9 = .ok (.iadd, 1) := by decide +kernel
theorem dX9_letterIs_10 : decode cX9_letterIs 10 = .ok (.aload_n 0, 1) := by decide +kernel
theorem dX9_letterIs_11 : decode cX9_letterIs 11 = .ok (.getfield 162, 3) := by decide +kernel
theorem dX9_letterIs_14 : decode cX9_letterIs 14 = .ok (.if_icmp .lt 7, 3) := by decide +kernel
theorem dX9_letterIs_17 : decode cX9_letterIs 17 = .ok (.iconst 1, 1) := by decide +kernel
theorem dX9_letterIs_18 : decode cX9_letterIs 18 = .ok (.goto 40, 3) := by decide +kernel
theorem dX9_letterIs_21 : decode cX9_letterIs 21 = .ok (.iconst 0, 1) := by decide +kernel
theorem dX9_letterIs_22 : decode cX9_letterIs 22 = .ok (.goto 36, 3) := by decide +kernel
theorem dX9_letterIs_25 : decode cX9_letterIs 25 = .ok (.aload_n 0, 1) := by decide +kernel
theorem dX9_letterIs_26 : decode cX9_letterIs 26 = .ok (.getfield 169, 3) := by decide +kernel
theorem dX9_letterIs_29 : decode cX9_letterIs 29 = .ok (.iload_n 1, 1) := by decide +kernel
theorem dX9_letterIs_30 : decode cX9_letterIs 30 = .ok (.iadd, 1) := by decide +kernel
theorem dX9_letterIs_31 : decode cX9_letterIs 31 = .ok (.aload_n 0, 1) := by decide +kernel
theorem dX9_letterIs_32 : decode cX9_letterIs 32 = .ok (.getfield 162, 3) := by decide +kernel
theorem dX9_letterIs_35 : decode cX9_letterIs 35 = .ok (.if_icmp .ge 22, 3) := by decide +kernel
theorem dX9_letterIs_38 : decode cX9_letterIs 38 = .ok (.aload_n 0, 1) := by decide +kernel
theorem dX9_letterIs_39 : decode cX9_letterIs 39 = .ok (.getfield 13, 3) := by decide +kernel
theorem dX9_letterIs_42 : decode cX9_letterIs 42 = .ok (.aload_n 0, 1) := by decide +kernel
theorem dX9_letterIs_43 : decode cX9_letterIs 43 = .ok (.getfield 169, 3) := by decide +kernel
theorem dX9_letterIs_46 : decode cX9_letterIs 46 = .ok (.iload_n 1, 1) := by decide +kernel
theorem dX9_letterIs_47 : decode cX9_letterIs 47 = .ok (.iadd, 1) := by decide +kernel
theorem dX9_letterIs_48 : decode cX9_letterIs 48 = .ok (.baload, 1) := by decide +kernel
theorem dX9_letterIs_49 : decode cX9_letterIs 49 = .ok (.iload_n 2, 1) := by decide +kernel
theorem dX9_letterIs_50 : decode cX9_letterIs 50 = .ok (.if_icmp .ne 7, 3) := by decide +kernel
theorem dX9_letterIs_53 : decode cX9_letterIs 53 = .ok (.iconst 1, 1) := by decide +kernel
theorem dX9_letterIs_54 : decode cX9_letterIs 54 = .ok (.goto 4, 3) := by decide +kernel
theorem dX9_letterIs_57 : decode cX9_letterIs 57 = .ok (.iconst 0, 1) := by decide +kernel
theorem dX9_letterIs_58 : decode cX9_letterIs 58 = .ok (.ireturn, 1) := by decide +kernel
theorem dX9_isWord_0 : decode cX9_isWord 0 = .ok (.aload_n 0, 1) := by decide +kernel
theorem dX9_isWord_1 : decode cX9_isWord 1 = .ok (.getfield 172, 3) := by decide +kernel
theorem dX9_isWord_4 : decode cX9_isWord 4 = .ok (.iconst 1, 1) := by decide +kernel
theorem dX9_isWord_5 : decode cX9_isWord 5 = .ok (.if_icmp .ne 63, 3) := by decide +kernel
theorem dX9_isWord_8 : decode cX9_isWord 8 = .ok (.aload_n 0, 1) := by decide +kernel
theorem dX9_isWord_9 : decode cX9_isWord 9 = .ok (.iconst 0, 1) := by decide +kernel
theorem dX9_isWord_10 : decode cX9_isWord 10 = .ok (.iload_n 1, 1) := by decide +kernel
theorem dX9_isWord_11 : decode cX9_isWord 11 = .ok (.invokevirtual 181, 3) := by decide +kernel
theorem dX9_isWord_14 : decode cX9_isWord 14 = .ok (.ifCond .eq 54, 3) := by decide +kernel
theorem dX9_isWord_17 : decode cX9_isWord 17 = .ok (.aload_n 0, 1) := by decide +kernel
theorem dX9_isWord_18 : decode cX9_isWord 18 = .ok (.iconst 1, 1) := by decide +kernel
theorem dX9_isWord_19 : decode cX9_isWord 19 = .ok (.iload_n 2, 1) := by decide +kernel
theorem dX9_isWord_20 : decode cX9_isWord 20 = .ok (.invokevirtual 181, 3) := by decide +kernel
theorem dX9_isWord_23 : decode cX9_isWord 23 = .ok (.ifCond .eq 45, 3) := by decide +kernel
theorem dX9_isWord_26 : decode cX9_isWord 26 = .ok (.aload_n 0, 1) := by decide +kernel
theorem dX9_isWord_27 : decode cX9_isWord 27 = .ok (.iconst 2, 1) := by decide +kernel
theorem dX9_isWord_28 : decode cX9_isWord 28 = .ok (.iload_n 3, 1) := by decide +kernel
theorem dX9_isWord_29 : decode cX9_isWord 29 = .ok (.invokevirtual 181, 3) := by decide +kernel
theorem dX9_isWord_32 : decode cX9_isWord 32 = .ok (.ifCond .eq 36, 3) := by decide +kernel
theorem dX9_isWord_35 : decode cX9_isWord 35 = .ok (.aload_n 0, 1) := by decide +kernel
theorem dX9_isWord_36 : decode cX9_isWord 36 = .ok (.iconst 3, 1) := by decide +kernel
theorem dX9_isWord_37 : decode cX9_isWord 37 = .ok (.iload 4, 2) := by decide +kernel
theorem dX9_isWord_39 : decode cX9_isWord 39 = .ok (.invokevirtual 181, 3) := by decide +kernel
theorem dX9_isWord_42 : decode cX9_isWord 42 = .ok (.ifCond .eq 26, 3) := by decide +kernel
theorem dX9_isWord_45 : decode cX9_isWord 45 = .ok (.aload_n 0, 1) := by decide +kernel
theorem dX9_isWord_46 : decode cX9_isWord 46 = .ok (.iconst 4, 1) := by decide +kernel
theorem dX9_isWord_47 : decode cX9_isWord 47 = .ok (.iload 5, 2) := by decide +kernel
theorem dX9_isWord_49 : decode cX9_isWord 49 = .ok (.invokevirtual 181, 3) := by decide +kernel
theorem dX9_isWord_52 : decode cX9_isWord 52 = .ok (.ifCond .eq 16, 3) := by decide +kernel
theorem dX9_isWord_55 : decode cX9_isWord 55 = .ok (.aload_n 0, 1) := by decide +kernel
theorem dX9_isWord_56 : decode cX9_isWord 56 = .ok (.iconst 5, 1) := by decide +kernel
theorem dX9_isWord_57 : decode cX9_isWord 57 = .ok (.iconst 0, 1) := by decide +kernel
theorem dX9_isWord_58 : decode cX9_isWord 58 = .ok (.invokevirtual 181, 3) := by decide +kernel
theorem dX9_isWord_61 : decode cX9_isWord 61 = .ok (.ifCond .eq 7, 3) := by decide +kernel
theorem dX9_isWord_64 : decode cX9_isWord 64 = .ok (.iconst 1, 1) := by decide +kernel
theorem dX9_isWord_65 : decode cX9_isWord 65 = .ok (.goto 4, 3) := by decide +kernel
theorem dX9_isWord_68 : decode cX9_isWord 68 = .ok (.iconst 0, 1) := by decide +kernel
theorem dX9_isWord_69 : decode cX9_isWord 69 = .ok (.ireturn, 1) := by decide +kernel
theorem dX9_isRoundWord_0 : decode cX9_isRoundWord 0 = .ok (.aload_n 0, 1) := by decide +kernel
theorem dX9_isRoundWord_1 : decode cX9_isRoundWord 1 = .ok (.bipush 114, 2) := by decide +kernel
theorem dX9_isRoundWord_3 : decode cX9_isRoundWord 3 = .ok (.bipush 111, 2) := by decide +kernel
theorem dX9_isRoundWord_5 : decode cX9_isRoundWord 5 = .ok (.bipush 117, 2) := by decide +kernel
theorem dX9_isRoundWord_7 : decode cX9_isRoundWord 7 = .ok (.bipush 110, 2) := by decide +kernel
theorem dX9_isRoundWord_9 : decode cX9_isRoundWord 9 = .ok (.bipush 100, 2) := by decide +kernel
theorem dX9_isRoundWord_11 : decode cX9_isRoundWord 11 = .ok (.invokevirtual 185, 3) := by decide +kernel
theorem dX9_isRoundWord_14 : decode cX9_isRoundWord 14 = .ok (.ireturn, 1) := by decide +kernel
theorem dX9_reads_0 : decode cX9_reads 0 = .ok (.aload_n 0, 1) := by decide +kernel
theorem dX9_reads_1 : decode cX9_reads 1 = .ok (.invokevirtual 29, 3) := by decide +kernel
theorem dX9_reads_4 : decode cX9_reads 4 = .ok (.aload_n 0, 1) := by decide +kernel
theorem dX9_reads_5 : decode cX9_reads 5 = .ok (.iconst 0, 1) := by decide +kernel
theorem dX9_reads_6 : decode cX9_reads 6 = .ok (.putfield 162, 3) := by decide +kernel
theorem dX9_reads_9 : decode cX9_reads 9 = .ok (.aload_n 0, 1) := by decide +kernel
theorem dX9_reads_10 : decode cX9_reads 10 = .ok (.invokevirtual 178, 3) := by decide +kernel
theorem dX9_reads_13 : decode cX9_reads 13 = .ok (.ifCond .ne 5, 3) := by decide +kernel
theorem dX9_reads_16 : decode cX9_reads 16 = .ok (.iconst 0, 1) := by decide +kernel
theorem dX9_reads_17 : decode cX9_reads 17 = .ok (.ireturn, 1) := by decide +kernel
theorem dX9_reads_18 : decode cX9_reads 18 = .ok (.aload_n 0, 1) := by decide +kernel
theorem dX9_reads_19 : decode cX9_reads 19 = .ok (.invokevirtual 189, 3) := by decide +kernel
theorem dX9_reads_22 : decode cX9_reads 22 = .ok (.ifCond .ne 9, 3) := by decide +kernel
theorem dX9_reads_25 : decode cX9_reads 25 = .ok (.aload_n 0, 1) := by decide +kernel
theorem dX9_reads_26 : decode cX9_reads 26 = .ok (.iconst 1, 1) := by decide +kernel
theorem dX9_reads_27 : decode cX9_reads 27 = .ok (.invokevirtual 175, 3) := by decide +kernel
theorem dX9_reads_30 : decode cX9_reads 30 = .ok (.ireturn, 1) := by decide +kernel
theorem dX9_reads_31 : decode cX9_reads 31 = .ok (.aload_n 0, 1) := by decide +kernel
theorem dX9_reads_32 : decode cX9_reads 32 = .ok (.invokevirtual 189, 3) := by decide +kernel
theorem dX9_reads_35 : decode cX9_reads 35 = .ok (.ifCond .eq 34, 3) := by decide +kernel
theorem dX9_reads_38 : decode cX9_reads 38 = .ok (.aload_n 0, 1) := by decide +kernel
theorem dX9_reads_39 : decode cX9_reads 39 = .ok (.iconst 0, 1) := by decide +kernel
theorem dX9_reads_40 : decode cX9_reads 40 = .ok (.invokevirtual 46, 3) := by decide +kernel
theorem dX9_reads_43 : decode cX9_reads 43 = .ok (.iconst 4, 1) := by decide +kernel
theorem dX9_reads_44 : decode cX9_reads 44 = .ok (.if_icmp .ne 9, 3) := by decide +kernel
theorem dX9_reads_47 : decode cX9_reads 47 = .ok (.aload_n 0, 1) := by decide +kernel
theorem dX9_reads_48 : decode cX9_reads 48 = .ok (.iconst 5, 1) := by decide +kernel
theorem dX9_reads_49 : decode cX9_reads 49 = .ok (.invokevirtual 175, 3) := by decide +kernel
theorem dX9_reads_52 : decode cX9_reads 52 = .ok (.ireturn, 1) := by decide +kernel
theorem dX9_reads_53 : decode cX9_reads 53 = .ok (.aload_n 0, 1) := by decide +kernel
theorem dX9_reads_54 : decode cX9_reads 54 = .ok (.invokevirtual 192, 3) := by decide +kernel
theorem dX9_reads_57 : decode cX9_reads 57 = .ok (.ifCond .eq 10, 3) := by decide +kernel
theorem dX9_reads_60 : decode cX9_reads 60 = .ok (.aload_n 0, 1) := by decide +kernel
theorem dX9_reads_61 : decode cX9_reads 61 = .ok (.invokevirtual 178, 3) := by decide +kernel
theorem dX9_reads_64 : decode cX9_reads 64 = .ok (.ifCond .ne (-33), 3) := by decide +kernel
theorem dX9_reads_67 : decode cX9_reads 67 = .ok (.iconst 0, 1) := by decide +kernel
theorem dX9_reads_68 : decode cX9_reads 68 = .ok (.ireturn, 1) := by decide +kernel
theorem dX9_reads_69 : decode cX9_reads 69 = .ok (.aload_n 0, 1) := by decide +kernel
theorem dX9_reads_70 : decode cX9_reads 70 = .ok (.iconst 0, 1) := by decide +kernel
theorem dX9_reads_71 : decode cX9_reads 71 = .ok (.invokevirtual 36, 3) := by decide +kernel
theorem dX9_reads_74 : decode cX9_reads 74 = .ok (.aload_n 0, 1) := by decide +kernel
theorem dX9_reads_75 : decode cX9_reads 75 = .ok (.getfield 172, 3) := by decide +kernel
theorem dX9_reads_78 : decode cX9_reads 78 = .ok (.ifCond .eq 19, 3) := by decide +kernel
theorem dX9_reads_81 : decode cX9_reads 81 = .ok (.aload_n 0, 1) := by decide +kernel
theorem dX9_reads_82 : decode cX9_reads 82 = .ok (.invokevirtual 195, 3) := by decide +kernel
theorem dX9_reads_85 : decode cX9_reads 85 = .ok (.ifCond .eq 10, 3) := by decide +kernel
theorem dX9_reads_88 : decode cX9_reads 88 = .ok (.aload_n 0, 1) := by decide +kernel
theorem dX9_reads_89 : decode cX9_reads 89 = .ok (.invokevirtual 178, 3) := by decide +kernel
theorem dX9_reads_92 : decode cX9_reads 92 = .ok (.ifCond .ne (-18), 3) := by decide +kernel
theorem dX9_reads_95 : decode cX9_reads 95 = .ok (.iconst 0, 1) := by decide +kernel
theorem dX9_reads_96 : decode cX9_reads 96 = .ok (.ireturn, 1) := by decide +kernel
