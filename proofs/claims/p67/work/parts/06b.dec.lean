theorem dX4_step_54 : decode cX4_step 54 = .ok (.putfield 23, 3) := by decide +kernel
theorem dX4_step_57 : decode cX4_step 57 = .ok (.aload_n 0, 1) := by decide +kernel
theorem dX4_step_58 : decode cX4_step 58 = .ok (.aload_n 0, 1) := by decide +kernel
theorem dX4_step_59 : decode cX4_step 59 = .ok (.getfield 29, 3) := by decide +kernel
theorem dX4_step_62 : decode cX4_step 62 = .ok (.aload_n 0, 1) := by decide +kernel
theorem dX4_step_63 : decode cX4_step 63 = .ok (.getfield 19, 3) := by decide +kernel
theorem dX4_step_66 : decode cX4_step 66 = .ok (.if_icmp .ge 20, 3) := by decide +kernel
theorem dX4_step_69 : decode cX4_step 69 = .ok (.aload_n 0, 1) := by decide +kernel
theorem dX4_step_70 : decode cX4_step 70 = .ok (.getfield 9, 3) := by decide +kernel
theorem dX4_step_73 : decode cX4_step 73 = .ok (.aload_n 0, 1) := by decide +kernel
theorem dX4_step_74 : decode cX4_step 74 = .ok (.getfield 29, 3) := by decide +kernel
theorem dX4_step_77 : decode cX4_step 77 = .ok (.invokestatic 32, 3) := by decide +kernel
theorem dX4_step_80 : decode cX4_step 80 = .ok (.invokestatic 40, 3) := by decide +kernel
theorem dX4_step_83 : decode cX4_step 83 = .ok (.goto 4, 3) := by decide +kernel
theorem dX4_step_86 : decode cX4_step 86 = .ok (.iconst 0, 1) := by decide +kernel
theorem dX4_step_87 : decode cX4_step 87 = .ok (.putfield 44, 3) := by decide +kernel
theorem dX4_step_90 : decode cX4_step 90 = .ok (.aload_n 0, 1) := by decide +kernel
theorem dX4_step_91 : decode cX4_step 91 = .ok (.getfield 44, 3) := by decide +kernel
theorem dX4_step_94 : decode cX4_step 94 = .ok (.iconst 1, 1) := by decide +kernel
theorem dX4_step_95 : decode cX4_step 95 = .ok (.if_icmp .eq 11, 3) := by decide +kernel
theorem dX4_step_98 : decode cX4_step 98 = .ok (.aload_n 0, 1) := by decide +kernel
theorem dX4_step_99 : decode cX4_step 99 = .ok (.getfield 44, 3) := by decide +kernel
theorem dX4_step_102 : decode cX4_step 102 = .ok (.iconst 2, 1) := by decide +kernel
theorem dX4_step_103 : decode cX4_step 103 = .ok (.if_icmp .ne 48, 3) := by decide +kernel
theorem dX4_step_106 : decode cX4_step 106 = .ok (.aload_n 0, 1) := by decide +kernel
theorem dX4_step_107 : decode cX4_step 107 = .ok (.getfield 23, 3) := by decide +kernel
theorem dX4_step_110 : decode cX4_step 110 = .ok (.aload_n 0, 1) := by decide +kernel
theorem dX4_step_111 : decode cX4_step 111 = .ok (.getfield 19, 3) := by decide +kernel
theorem dX4_step_114 : decode cX4_step 114 = .ok (.if_icmp .ge 54, 3) := by decide +kernel
theorem dX4_step_117 : decode cX4_step 117 = .ok (.aload_n 0, 1) := by decide +kernel
theorem dX4_step_118 : decode cX4_step 118 = .ok (.getfield 9, 3) := by decide +kernel
theorem dX4_step_121 : decode cX4_step 121 = .ok (.aload_n 0, 1) := by decide +kernel
theorem dX4_step_122 : decode cX4_step 122 = .ok (.getfield 23, 3) := by decide +kernel
theorem dX4_step_125 : decode cX4_step 125 = .ok (.invokestatic 32, 3) := by decide +kernel
theorem dX4_step_128 : decode cX4_step 128 = .ok (.invokestatic 40, 3) := by decide +kernel
theorem dX4_step_131 : decode cX4_step 131 = .ok (.aload_n 0, 1) := by decide +kernel
theorem dX4_step_132 : decode cX4_step 132 = .ok (.getfield 44, 3) := by decide +kernel
theorem dX4_step_135 : decode cX4_step 135 = .ok (.if_icmp .ne 33, 3) := by decide +kernel
theorem dX4_step_138 : decode cX4_step 138 = .ok (.aload_n 0, 1) := by decide +kernel
theorem dX4_step_139 : decode cX4_step 139 = .ok (.dup, 1) := by decide +kernel
theorem dX4_step_140 : decode cX4_step 140 = .ok (.getfield 23, 3) := by decide +kernel
theorem dX4_step_143 : decode cX4_step 143 = .ok (.iconst 1, 1) := by decide +kernel
theorem dX4_step_144 : decode cX4_step 144 = .ok (.iadd, 1) := by decide +kernel
theorem dX4_step_145 : decode cX4_step 145 = .ok (.putfield 23, 3) := by decide +kernel
theorem dX4_step_148 : decode cX4_step 148 = .ok (.goto (-42), 3) := by decide +kernel
theorem dX4_step_151 : decode cX4_step 151 = .ok (.aload_n 0, 1) := by decide +kernel
theorem dX4_step_152 : decode cX4_step 152 = .ok (.getfield 44, 3) := by decide +kernel
theorem dX4_step_155 : decode cX4_step 155 = .ok (.ifCond .eq 13, 3) := by decide +kernel
theorem dX4_step_158 : decode cX4_step 158 = .ok (.aload_n 0, 1) := by decide +kernel
theorem dX4_step_159 : decode cX4_step 159 = .ok (.dup, 1) := by decide +kernel
theorem dX4_step_160 : decode cX4_step 160 = .ok (.getfield 23, 3) := by decide +kernel
theorem dX4_step_163 : decode cX4_step 163 = .ok (.iconst 1, 1) := by decide +kernel
theorem dX4_step_164 : decode cX4_step 164 = .ok (.iadd, 1) := by decide +kernel
theorem dX4_step_165 : decode cX4_step 165 = .ok (.putfield 23, 3) := by decide +kernel
theorem dX4_step_168 : decode cX4_step 168 = .ok (.return_, 1) := by decide +kernel
theorem dX4_isWord_0 : decode cX4_isWord 0 = .ok (.aload_n 0, 1) := by decide +kernel
theorem dX4_isWord_1 : decode cX4_isWord 1 = .ok (.getfield 44, 3) := by decide +kernel
theorem dX4_isWord_4 : decode cX4_isWord 4 = .ok (.iconst 1, 1) := by decide +kernel
theorem dX4_isWord_5 : decode cX4_isWord 5 = .ok (.if_icmp .ne 19, 3) := by decide +kernel
theorem dX4_isWord_8 : decode cX4_isWord 8 = .ok (.aload_n 0, 1) := by decide +kernel
theorem dX4_isWord_9 : decode cX4_isWord 9 = .ok (.getfield 23, 3) := by decide +kernel
theorem dX4_isWord_12 : decode cX4_isWord 12 = .ok (.aload_n 0, 1) := by decide +kernel
theorem dX4_isWord_13 : decode cX4_isWord 13 = .ok (.getfield 29, 3) := by decide +kernel
theorem dX4_isWord_16 : decode cX4_isWord 16 = .ok (.isub, 1) := by decide +kernel
theorem dX4_isWord_17 : decode cX4_isWord 17 = .ok (.aload_n 1, 1) := by decide +kernel
theorem dX4_isWord_18 : decode cX4_isWord 18 = .ok (.invokevirtual 47, 3) := by decide +kernel
theorem dX4_isWord_21 : decode cX4_isWord 21 = .ok (.if_icmp .eq 5, 3) := by decide +kernel
theorem dX4_isWord_24 : decode cX4_isWord 24 = .ok (.iconst 0, 1) := by decide +kernel
theorem dX4_isWord_25 : decode cX4_isWord 25 = .ok (.ireturn, 1) := by decide +kernel
theorem dX4_isWord_26 : decode cX4_isWord 26 = .ok (.iconst 0, 1) := by decide +kernel
theorem dX4_isWord_27 : decode cX4_isWord 27 = .ok (.istore_n 2, 1) := by decide +kernel
theorem dX4_isWord_28 : decode cX4_isWord 28 = .ok (.iload_n 2, 1) := by decide +kernel
theorem dX4_isWord_29 : decode cX4_isWord 29 = .ok (.aload_n 1, 1) := by decide +kernel
theorem dX4_isWord_30 : decode cX4_isWord 30 = .ok (.invokevirtual 47, 3) := by decide +kernel
theorem dX4_isWord_33 : decode cX4_isWord 33 = .ok (.if_icmp .ge 32, 3) := by decide +kernel
theorem dX4_isWord_36 : decode cX4_isWord 36 = .ok (.aload_n 0, 1) := by decide +kernel
theorem dX4_isWord_37 : decode cX4_isWord 37 = .ok (.getfield 9, 3) := by decide +kernel
theorem dX4_isWord_40 : decode cX4_isWord 40 = .ok (.aload_n 0, 1) := by decide +kernel
theorem dX4_isWord_41 : decode cX4_isWord 41 = .ok (.getfield 29, 3) := by decide +kernel
theorem dX4_isWord_44 : decode cX4_isWord 44 = .ok (.iload_n 2, 1) := by decide +kernel
theorem dX4_isWord_45 : decode cX4_isWord 45 = .ok (.iadd, 1) := by decide +kernel
theorem dX4_isWord_46 : decode cX4_isWord 46 = .ok (.invokestatic 32, 3) := by decide +kernel
theorem dX4_isWord_49 : decode cX4_isWord 49 = .ok (.aload_n 1, 1) := by decide +kernel
theorem dX4_isWord_50 : decode cX4_isWord 50 = .ok (.iload_n 2, 1) := by decide +kernel
theorem dX4_isWord_51 : decode cX4_isWord 51 = .ok (.invokevirtual 53, 3) := by decide +kernel
theorem dX4_isWord_54 : decode cX4_isWord 54 = .ok (.if_icmp .eq 5, 3) := by decide +kernel
theorem dX4_isWord_57 : decode cX4_isWord 57 = .ok (.iconst 0, 1) := by decide +kernel
theorem dX4_isWord_58 : decode cX4_isWord 58 = .ok (.ireturn, 1) := by decide +kernel
theorem dX4_isWord_59 : decode cX4_isWord 59 = .ok (.iinc 2 1, 3) := by decide +kernel
theorem dX4_isWord_62 : decode cX4_isWord 62 = .ok (.goto (-34), 3) := by decide +kernel
theorem dX4_isWord_65 : decode cX4_isWord 65 = .ok (.iconst 1, 1) := by decide +kernel
theorem dX4_isWord_66 : decode cX4_isWord 66 = .ok (.ireturn, 1) := by decide +kernel
theorem dX4_isRun_0 : decode cX4_isRun 0 = .ok (.aload_n 0, 1) := by decide +kernel
theorem dX4_isRun_1 : decode cX4_isRun 1 = .ok (.getfield 44, 3) := by decide +kernel
theorem dX4_isRun_4 : decode cX4_isRun 4 = .ok (.iconst 2, 1) := by decide +kernel
theorem dX4_isRun_5 : decode cX4_isRun 5 = .ok (.if_icmp .ne 20, 3) := by decide +kernel
theorem dX4_isRun_8 : decode cX4_isRun 8 = .ok (.aload_n 0, 1) := by decide +kernel
theorem dX4_isRun_9 : decode cX4_isRun 9 = .ok (.getfield 23, 3) := by decide +kernel
theorem dX4_isRun_12 : decode cX4_isRun 12 = .ok (.aload_n 0, 1) := by decide +kernel
theorem dX4_isRun_13 : decode cX4_isRun 13 = .ok (.getfield 29, 3) := by decide +kernel
theorem dX4_isRun_16 : decode cX4_isRun 16 = .ok (.isub, 1) := by decide +kernel
theorem dX4_isRun_17 : decode cX4_isRun 17 = .ok (.iload_n 1, 1) := by decide +kernel
theorem dX4_isRun_18 : decode cX4_isRun 18 = .ok (.if_icmp .ne 7, 3) := by decide +kernel
theorem dX4_isRun_21 : decode cX4_isRun 21 = .ok (.iconst 1, 1) := by decide +kernel
theorem dX4_isRun_22 : decode cX4_isRun 22 = .ok (.goto 4, 3) := by decide +kernel
theorem dX4_isRun_25 : decode cX4_isRun 25 = .ok (.iconst 0, 1) := by decide +kernel
theorem dX4_isRun_26 : decode cX4_isRun 26 = .ok (.ireturn, 1) := by decide +kernel
theorem dX4_digit_0 : decode cX4_digit 0 = .ok (.aload_n 0, 1) := by decide +kernel
theorem dX4_digit_1 : decode cX4_digit 1 = .ok (.getfield 9, 3) := by decide +kernel
theorem dX4_digit_4 : decode cX4_digit 4 = .ok (.aload_n 0, 1) := by decide +kernel
theorem dX4_digit_5 : decode cX4_digit 5 = .ok (.getfield 29, 3) := by decide +kernel
theorem dX4_digit_8 : decode cX4_digit 8 = .ok (.iload_n 1, 1) := by decide +kernel
theorem dX4_digit_9 : decode cX4_digit 9 = .ok (.iadd, 1) := by decide +kernel
theorem dX4_digit_10 : decode cX4_digit 10 = .ok (.invokestatic 32, 3) := by decide +kernel
theorem dX4_digit_13 : decode cX4_digit 13 = .ok (.bipush 48, 2) := by decide +kernel
theorem dX4_digit_15 : decode cX4_digit 15 = .ok (.isub, 1) := by decide +kernel
theorem dX4_digit_16 : decode cX4_digit 16 = .ok (.ireturn, 1) := by decide +kernel
theorem dX4_isBlank_0 : decode cX4_isBlank 0 = .ok (.iload_n 0, 1) := by decide +kernel
theorem dX4_isBlank_1 : decode cX4_isBlank 1 = .ok (.bipush 32, 2) := by decide +kernel
theorem dX4_isBlank_3 : decode cX4_isBlank 3 = .ok (.if_icmp .eq 9, 3) := by decide +kernel
theorem dX4_isBlank_6 : decode cX4_isBlank 6 = .ok (.iload_n 0, 1) := by decide +kernel
theorem dX4_isBlank_7 : decode cX4_isBlank 7 = .ok (.bipush 10, 2) := by decide +kernel
theorem dX4_isBlank_9 : decode cX4_isBlank 9 = .ok (.if_icmp .ne 7, 3) := by decide +kernel
theorem dX4_isBlank_12 : decode cX4_isBlank 12 = .ok (.iconst 1, 1) := by decide +kernel
theorem dX4_isBlank_13 : decode cX4_isBlank 13 = .ok (.goto 4, 3) := by decide +kernel
theorem dX4_isBlank_16 : decode cX4_isBlank 16 = .ok (.iconst 0, 1) := by decide +kernel
theorem dX4_isBlank_17 : decode cX4_isBlank 17 = .ok (.ireturn, 1) := by decide +kernel
theorem dX4_kindOf_0 : decode cX4_kindOf 0 = .ok (.iload_n 0, 1) := by decide +kernel
theorem dX4_kindOf_1 : decode cX4_kindOf 1 = .ok (.bipush 97, 2) := by decide +kernel
theorem dX4_kindOf_3 : decode cX4_kindOf 3 = .ok (.if_icmp .lt 11, 3) := by decide +kernel
theorem dX4_kindOf_6 : decode cX4_kindOf 6 = .ok (.iload_n 0, 1) := by decide +kernel
theorem dX4_kindOf_7 : decode cX4_kindOf 7 = .ok (.bipush 122, 2) := by decide +kernel
theorem dX4_kindOf_9 : decode cX4_kindOf 9 = .ok (.if_icmp .gt 5, 3) := by decide +kernel
theorem dX4_kindOf_12 : decode cX4_kindOf 12 = .ok (.iconst 1, 1) := by decide +kernel
theorem dX4_kindOf_13 : decode cX4_kindOf 13 = .ok (.ireturn, 1) := by decide +kernel
theorem dX4_kindOf_14 : decode cX4_kindOf 14 = .ok (.iload_n 0, 1) := by decide +kernel
theorem dX4_kindOf_15 : decode cX4_kindOf 15 = .ok (.bipush 48, 2) := by decide +kernel
theorem dX4_kindOf_17 : decode cX4_kindOf 17 = .ok (.if_icmp .lt 11, 3) := by decide +kernel
theorem dX4_kindOf_20 : decode cX4_kindOf 20 = .ok (.iload_n 0, 1) := by decide +kernel
theorem dX4_kindOf_21 : decode cX4_kindOf 21 = .ok (.bipush 57, 2) := by decide +kernel
theorem dX4_kindOf_23 : decode cX4_kindOf 23 = .ok (.if_icmp .gt 5, 3) := by decide +kernel
theorem dX4_kindOf_26 : decode cX4_kindOf 26 = .ok (.iconst 2, 1) := by decide +kernel
theorem dX4_kindOf_27 : decode cX4_kindOf 27 = .ok (.ireturn, 1) := by decide +kernel
theorem dX4_kindOf_28 : decode cX4_kindOf 28 = .ok (.iload_n 0, 1) := by decide +kernel
theorem dX4_kindOf_29 : decode cX4_kindOf 29 = .ok (.bipush 44, 2) := by decide +kernel
theorem dX4_kindOf_31 : decode cX4_kindOf 31 = .ok (.if_icmp .ne 5, 3) := by decide +kernel
theorem dX4_kindOf_34 : decode cX4_kindOf 34 = .ok (.iconst 3, 1) := by decide +kernel
theorem dX4_kindOf_35 : decode cX4_kindOf 35 = .ok (.ireturn, 1) := by decide +kernel
theorem dX4_kindOf_36 : decode cX4_kindOf 36 = .ok (.iload_n 0, 1) := by decide +kernel
theorem dX4_kindOf_37 : decode cX4_kindOf 37 = .ok (.bipush 59, 2) := by decide +kernel
theorem dX4_kindOf_39 : decode cX4_kindOf 39 = .ok (.if_icmp .ne 7, 3) := by decide +kernel
theorem dX4_kindOf_42 : decode cX4_kindOf 42 = .ok (.iconst 4, 1) := by decide +kernel
theorem dX4_kindOf_43 : decode cX4_kindOf 43 = .ok (.goto 4, 3) := by decide +kernel
theorem dX4_kindOf_46 : decode cX4_kindOf 46 = .ok (.iconst 5, 1) := by decide +kernel
theorem dX4_kindOf_47 : decode cX4_kindOf 47 = .ok (.ireturn, 1) := by decide +kernel
theorem dX5_init_0 : decode cX5_init 0 = .ok (.aload_n 0, 1) := by decide +kernel
theorem dX5_init_1 : decode cX5_init 1 = .ok (.invokespecial 3, 3) := by decide +kernel
theorem dX5_init_4 : decode cX5_init 4 = .ok (.aload_n 0, 1) := by decide +kernel
theorem dX5_init_5 : decode cX5_init 5 = .ok (.bipush 36, 2) := by decide +kernel
theorem dX5_init_7 : decode cX5_init 7 = .ok (.newarray .int, 2) := by decide +kernel
theorem dX5_init_9 : decode cX5_init 9 = .ok (.putfield 9, 3) := by decide +kernel
theorem dX5_init_12 : decode cX5_init 12 = .ok (.aload_n 0, 1) := by decide +kernel
theorem dX5_init_13 : decode cX5_init 13 = .ok (.bipush 36, 2) := by decide +kernel
theorem dX5_init_15 : decode cX5_init 15 = .ok (.newarray .int, 2) := by decide +kernel
theorem dX5_init_17 : decode cX5_init 17 = .ok (.putfield 15, 3) := by decide +kernel
theorem dX5_init_20 : decode cX5_init 20 = .ok (.aload_n 0, 1) := by decide +kernel
theorem dX5_init_21 : decode cX5_init 21 = .ok (.bipush 24, 2) := by decide +kernel
theorem dX5_init_23 : decode cX5_init 23 = .ok (.newarray .int, 2) := by decide +kernel
theorem dX5_init_25 : decode cX5_init 25 = .ok (.putfield 18, 3) := by decide +kernel
theorem dX5_init_28 : decode cX5_init 28 = .ok (.aload_n 0, 1) := by decide +kernel
theorem dX5_init_29 : decode cX5_init 29 = .ok (.iconst 3, 1) := by decide +kernel
theorem dX5_init_30 : decode cX5_init 30 = .ok (.newarray .int, 2) := by decide +kernel
theorem dX5_init_32 : decode cX5_init 32 = .ok (.putfield 21, 3) := by decide +kernel
theorem dX5_init_35 : decode cX5_init 35 = .ok (.aload_n 0, 1) := by decide +kernel
theorem dX5_init_36 : decode cX5_init 36 = .ok (.iconst 3, 1) := by decide +kernel
theorem dX5_init_37 : decode cX5_init 37 = .ok (.newarray .int, 2) := by decide +kernel
theorem dX5_init_39 : decode cX5_init 39 = .ok (.putfield 24, 3) := by decide +kernel
theorem dX5_init_42 : decode cX5_init 42 = .ok (.aload_n 0, 1) := by decide +kernel
theorem dX5_init_43 : decode cX5_init 43 = .ok (.iconst 3, 1) := by decide +kernel
theorem dX5_init_44 : decode cX5_init 44 = .ok (.newarray .int, 2) := by decide +kernel
theorem dX5_init_46 : decode cX5_init 46 = .ok (.putfield 27, 3) := by decide +kernel
theorem dX5_init_49 : decode cX5_init 49 = .ok (.aload_n 0, 1) := by decide +kernel
theorem dX5_init_50 : decode cX5_init 50 = .ok (.ldc 30, 2) := by decide +kernel
theorem dX5_init_52 : decode cX5_init 52 = .ok (.newarray .int, 2) := by decide +kernel
theorem dX5_init_54 : decode cX5_init 54 = .ok (.putfield 31, 3) := by decide +kernel
theorem dX5_init_57 : decode cX5_init 57 = .ok (.aload_n 0, 1) := by decide +kernel
theorem dX5_init_58 : decode cX5_init 58 = .ok (.ldc 30, 2) := by decide +kernel
theorem dX5_init_60 : decode cX5_init 60 = .ok (.newarray .int, 2) := by decide +kernel
theorem dX5_init_62 : decode cX5_init 62 = .ok (.putfield 34, 3) := by decide +kernel
theorem dX5_init_65 : decode cX5_init 65 = .ok (.aload_n 0, 1) := by decide +kernel
theorem dX5_init_66 : decode cX5_init 66 = .ok (.ldc 30, 2) := by decide +kernel
theorem dX5_init_68 : decode cX5_init 68 = .ok (.newarray .int, 2) := by decide +kernel
theorem dX5_init_70 : decode cX5_init 70 = .ok (.putfield 37, 3) := by decide +kernel
theorem dX5_init_73 : decode cX5_init 73 = .ok (.aload_n 0, 1) := by decide +kernel
theorem dX5_init_74 : decode cX5_init 74 = .ok (.iconst (-1), 1) := by decide +kernel
theorem dX5_init_75 : decode cX5_init 75 = .ok (.putfield 40, 3) := by decide +kernel
theorem dX5_init_78 : decode cX5_init 78 = .ok (.iconst 0, 1) := by decide +kernel
theorem dX5_init_79 : decode cX5_init 79 = .ok (.istore_n 1, 1) := by decide +kernel
theorem dX5_init_80 : decode cX5_init 80 = .ok (.iconst 0, 1) := by decide +kernel
theorem dX5_init_81 : decode cX5_init 81 = .ok (.istore_n 2, 1) := by decide +kernel
theorem dX5_init_82 : decode cX5_init 82 = .ok (.iload_n 2, 1) := by decide +kernel
theorem dX5_init_83 : decode cX5_init 83 = .ok (.bipush 8, 2) := by decide +kernel
theorem dX5_init_85 : decode cX5_init 85 = .ok (.if_icmp .ge 56, 3) := by decide +kernel
theorem dX5_init_88 : decode cX5_init 88 = .ok (.iload_n 2, 1) := by decide +kernel
theorem dX5_init_89 : decode cX5_init 89 = .ok (.istore_n 3, 1) := by decide +kernel
theorem dX5_init_90 : decode cX5_init 90 = .ok (.iload_n 3, 1) := by decide +kernel
theorem dX5_init_91 : decode cX5_init 91 = .ok (.ifCond .lt 44, 3) := by decide +kernel
theorem dX5_init_94 : decode cX5_init 94 = .ok (.iload_n 1, 1) := by decide +kernel
theorem dX5_init_95 : decode cX5_init 95 = .ok (.aload_n 0, 1) := by decide +kernel
theorem dX5_init_96 : decode cX5_init 96 = .ok (.getfield 9, 3) := by decide +kernel
theorem dX5_init_99 : decode cX5_init 99 = .ok (.arraylength, 1) := by decide +kernel
theorem dX5_init_100 : decode cX5_init 100 = .ok (.if_icmp .ge 26, 3) := by decide +kernel
theorem dX5_init_103 : decode cX5_init 103 = .ok (.iload_n 1, 1) := by decide +kernel
theorem dX5_init_104 : decode cX5_init 104 = .ok (.aload_n 0, 1) := by decide +kernel
theorem dX5_init_105 : decode cX5_init 105 = .ok (.getfield 15, 3) := by decide +kernel
theorem dX5_init_108 : decode cX5_init 108 = .ok (.arraylength, 1) := by decide +kernel
theorem dX5_init_109 : decode cX5_init 109 = .ok (.if_icmp .ge 17, 3) := by decide +kernel
theorem dX5_init_112 : decode cX5_init 112 = .ok (.aload_n 0, 1) := by decide +kernel
theorem dX5_init_113 : decode cX5_init 113 = .ok (.getfield 9, 3) := by decide +kernel
theorem dX5_init_116 : decode cX5_init 116 = .ok (.iload_n 1, 1) := by decide +kernel
theorem dX5_init_117 : decode cX5_init 117 = .ok (.iload_n 3, 1) := by decide +kernel
theorem dX5_init_118 : decode cX5_init 118 = .ok (.iastore, 1) := by decide +kernel
theorem dX5_init_119 : decode cX5_init 119 = .ok (.aload_n 0, 1) := by decide +kernel
theorem dX5_init_120 : decode cX5_init 120 = .ok (.getfield 15, 3) := by decide +kernel
theorem dX5_init_123 : decode cX5_init 123 = .ok (.iload_n 1, 1) := by decide +kernel
theorem dX5_init_124 : decode cX5_init 124 = .ok (.iload_n 2, 1) := by decide +kernel
theorem dX5_init_125 : decode cX5_init 125 = .ok (.iastore, 1) := by decide +kernel
theorem dX5_init_126 : decode cX5_init 126 = .ok (.iinc 1 1, 3) := by decide +kernel
theorem dX5_init_129 : decode cX5_init 129 = .ok (.iinc 3 (-1), 3) := by decide +kernel
theorem dX5_init_132 : decode cX5_init 132 = .ok (.goto (-42), 3) := by decide +kernel
theorem dX5_init_135 : decode cX5_init 135 = .ok (.iinc 2 1, 3) := by decide +kernel
theorem dX5_init_138 : decode cX5_init 138 = .ok (.goto (-56), 3) := by decide +kernel
theorem dX5_init_141 : decode cX5_init 141 = .ok (.return_, 1) := by decide +kernel
theorem dX5_forget_0 : decode cX5_forget 0 = .ok (.aload_n 0, 1) := by decide +kernel
theorem dX5_forget_1 : decode cX5_forget 1 = .ok (.iconst (-1), 1) := by decide +kernel
theorem dX5_forget_2 : decode cX5_forget 2 = .ok (.putfield 40, 3) := by decide +kernel
theorem dX5_forget_5 : decode cX5_forget 5 = .ok (.return_, 1) := by decide +kernel
theorem dX5_solveOptimal_0 : decode cX5_solveOptimal 0 = .ok (.aload_n 0, 1) := by decide +kernel
theorem dX5_solveOptimal_1 : decode cX5_solveOptimal 1 = .ok (.aload_n 1, 1) := by decide +kernel
theorem dX5_solveOptimal_2 : decode cX5_solveOptimal 2 = .ok (.invokevirtual 44, 3) := by decide +kernel
theorem dX5_solveOptimal_5 : decode cX5_solveOptimal 5 = .ok (.aload_n 0, 1) := by decide +kernel
theorem dX5_solveOptimal_6 : decode cX5_solveOptimal 6 = .ok (.getfield 48, 3) := by decide +kernel
theorem dX5_solveOptimal_9 : decode cX5_solveOptimal 9 = .ok (.ifCond .eq 4, 3) := by decide +kernel
theorem dX5_solveOptimal_12 : decode cX5_solveOptimal 12 = .ok (.return_, 1) := by decide +kernel
theorem dX5_solveOptimal_13 : decode cX5_solveOptimal 13 = .ok (.aload_n 0, 1) := by decide +kernel
theorem dX5_solveOptimal_14 : decode cX5_solveOptimal 14 = .ok (.invokevirtual 52, 3) := by decide +kernel
theorem dX5_solveOptimal_17 : decode cX5_solveOptimal 17 = .ok (.iconst 0, 1) := by decide +kernel
theorem dX5_solveOptimal_18 : decode cX5_solveOptimal 18 = .ok (.istore_n 2, 1) := by decide +kernel
theorem dX5_solveOptimal_19 : decode cX5_solveOptimal 19 = .ok (.iload_n 2, 1) := by decide +kernel
theorem dX5_solveOptimal_20 : decode cX5_solveOptimal 20 = .ok (.aload_n 0, 1) := by decide +kernel
theorem dX5_solveOptimal_21 : decode cX5_solveOptimal 21 = .ok (.getfield 55, 3) := by decide +kernel
theorem dX5_solveOptimal_24 : decode cX5_solveOptimal 24 = .ok (.if_icmp .ge 26, 3) := by decide +kernel
theorem dX5_solveOptimal_27 : decode cX5_solveOptimal 27 = .ok (.aload_n 0, 1) := by decide +kernel
theorem dX5_solveOptimal_28 : decode cX5_solveOptimal 28 = .ok (.getfield 31, 3) := by decide +kernel
theorem dX5_solveOptimal_31 : decode cX5_solveOptimal 31 = .ok (.iload_n 2, 1) := by decide +kernel
theorem dX5_solveOptimal_32 : decode cX5_solveOptimal 32 = .ok (.aload_n 0, 1) := by decide +kernel
theorem dX5_solveOptimal_33 : decode cX5_solveOptimal 33 = .ok (.iload_n 2, 1) := by decide +kernel
theorem dX5_solveOptimal_34 : decode cX5_solveOptimal 34 = .ok (.invokevirtual 58, 3) := by decide +kernel
theorem dX5_solveOptimal_37 : decode cX5_solveOptimal 37 = .ok (.invokestatic 62, 3) := by decide +kernel
theorem dX5_solveOptimal_40 : decode cX5_solveOptimal 40 = .ok (.aload_n 0, 1) := by decide +kernel
theorem dX5_solveOptimal_41 : decode cX5_solveOptimal 41 = .ok (.invokevirtual 66, 3) := by decide +kernel
theorem dX5_solveOptimal_44 : decode cX5_solveOptimal 44 = .ok (.iinc 2 1, 3) := by decide +kernel
theorem dX5_solveOptimal_47 : decode cX5_solveOptimal 47 = .ok (.goto (-28), 3) := by decide +kernel
theorem dX5_solveOptimal_50 : decode cX5_solveOptimal 50 = .ok (.aload_n 0, 1) := by decide +kernel
theorem dX5_solveOptimal_51 : decode cX5_solveOptimal 51 = .ok (.iconst 1, 1) := by decide +kernel
theorem dX5_solveOptimal_52 : decode cX5_solveOptimal 52 = .ok (.putfield 48, 3) := by decide +kernel
theorem dX5_solveOptimal_55 : decode cX5_solveOptimal 55 = .ok (.return_, 1) := by decide +kernel
theorem dX5_solveGreedy_0 : decode cX5_solveGreedy 0 = .ok (.aload_n 0, 1) := by decide +kernel
theorem dX5_solveGreedy_1 : decode cX5_solveGreedy 1 = .ok (.aload_n 1, 1) := by decide +kernel
theorem dX5_solveGreedy_2 : decode cX5_solveGreedy 2 = .ok (.invokevirtual 44, 3) := by decide +kernel
theorem dX5_solveGreedy_5 : decode cX5_solveGreedy 5 = .ok (.aload_n 0, 1) := by decide +kernel
theorem dX5_solveGreedy_6 : decode cX5_solveGreedy 6 = .ok (.getfield 69, 3) := by decide +kernel
theorem dX5_solveGreedy_9 : decode cX5_solveGreedy 9 = .ok (.ifCond .eq 4, 3) := by decide +kernel
theorem dX5_solveGreedy_12 : decode cX5_solveGreedy 12 = .ok (.return_, 1) := by decide +kernel
theorem dX5_solveGreedy_13 : decode cX5_solveGreedy 13 = .ok (.aload_n 0, 1) := by decide +kernel
theorem dX5_solveGreedy_14 : decode cX5_solveGreedy 14 = .ok (.invokevirtual 52, 3) := by decide +kernel
theorem dX5_solveGreedy_17 : decode cX5_solveGreedy 17 = .ok (.iconst 0, 1) := by decide +kernel
theorem dX5_solveGreedy_18 : decode cX5_solveGreedy 18 = .ok (.istore_n 2, 1) := by decide +kernel
theorem dX5_solveGreedy_19 : decode cX5_solveGreedy 19 = .ok (.iload_n 2, 1) := by decide +kernel
theorem dX5_solveGreedy_20 : decode cX5_solveGreedy 20 = .ok (.aload_n 0, 1) := by decide +kernel
theorem dX5_solveGreedy_21 : decode cX5_solveGreedy 21 = .ok (.getfield 55, 3) := by decide +kernel
theorem dX5_solveGreedy_24 : decode cX5_solveGreedy 24 = .ok (.if_icmp .ge 42, 3) := by decide +kernel
theorem dX5_solveGreedy_27 : decode cX5_solveGreedy 27 = .ok (.aload_n 0, 1) := by decide +kernel
theorem dX5_solveGreedy_28 : decode cX5_solveGreedy 28 = .ok (.iload_n 2, 1) := by decide +kernel
theorem dX5_solveGreedy_29 : decode cX5_solveGreedy 29 = .ok (.invokevirtual 72, 3) := by decide +kernel
theorem dX5_solveGreedy_32 : decode cX5_solveGreedy 32 = .ok (.istore_n 3, 1) := by decide +kernel
theorem dX5_solveGreedy_33 : decode cX5_solveGreedy 33 = .ok (.aload_n 0, 1) := by decide +kernel
theorem dX5_solveGreedy_34 : decode cX5_solveGreedy 34 = .ok (.getfield 37, 3) := by decide +kernel
theorem dX5_solveGreedy_37 : decode cX5_solveGreedy 37 = .ok (.iload_n 2, 1) := by decide +kernel
theorem dX5_solveGreedy_38 : decode cX5_solveGreedy 38 = .ok (.iload_n 3, 1) := by decide +kernel
theorem dX5_solveGreedy_39 : decode cX5_solveGreedy 39 = .ok (.invokestatic 62, 3) := by decide +kernel
theorem dX5_solveGreedy_42 : decode cX5_solveGreedy 42 = .ok (.aload_n 0, 1) := by decide +kernel
theorem dX5_solveGreedy_43 : decode cX5_solveGreedy 43 = .ok (.getfield 34, 3) := by decide +kernel
theorem dX5_solveGreedy_46 : decode cX5_solveGreedy 46 = .ok (.iload_n 2, 1) := by decide +kernel
theorem dX5_solveGreedy_47 : decode cX5_solveGreedy 47 = .ok (.aload_n 0, 1) := by decide +kernel
theorem dX5_solveGreedy_48 : decode cX5_solveGreedy 48 = .ok (.iload_n 2, 1) := by decide +kernel
theorem dX5_solveGreedy_49 : decode cX5_solveGreedy 49 = .ok (.iload_n 3, 1) := by decide +kernel
theorem dX5_solveGreedy_50 : decode cX5_solveGreedy 50 = .ok (.invokevirtual 75, 3) := by decide +kernel
theorem dX5_solveGreedy_53 : decode cX5_solveGreedy 53 = .ok (.invokestatic 62, 3) := by decide +kernel
theorem dX5_solveGreedy_56 : decode cX5_solveGreedy 56 = .ok (.aload_n 0, 1) := by decide +kernel
theorem dX5_solveGreedy_57 : decode cX5_solveGreedy 57 = .ok (.invokevirtual 66, 3) := by decide +kernel
theorem dX5_solveGreedy_60 : decode cX5_solveGreedy 60 = .ok (.iinc 2 1, 3) := by decide +kernel
theorem dX5_solveGreedy_63 : decode cX5_solveGreedy 63 = .ok (.goto (-44), 3) := by decide +kernel
theorem dX5_solveGreedy_66 : decode cX5_solveGreedy 66 = .ok (.aload_n 0, 1) := by decide +kernel
theorem dX5_solveGreedy_67 : decode cX5_solveGreedy 67 = .ok (.iconst 1, 1) := by decide +kernel
theorem dX5_solveGreedy_68 : decode cX5_solveGreedy 68 = .ok (.putfield 69, 3) := by decide +kernel
theorem dX5_solveGreedy_71 : decode cX5_solveGreedy 71 = .ok (.return_, 1) := by decide +kernel
theorem dX5_optimalOf_0 : decode cX5_optimalOf 0 = .ok (.aload_n 1, 1) := by decide +kernel
theorem dX5_optimalOf_1 : decode cX5_optimalOf 1 = .ok (.getfield 79, 3) := by decide +kernel
theorem dX5_optimalOf_4 : decode cX5_optimalOf 4 = .ok (.getfield 85, 3) := by decide +kernel
theorem dX5_optimalOf_7 : decode cX5_optimalOf 7 = .ok (.ifCond .eq 7, 3) := by decide +kernel
theorem dX5_optimalOf_10 : decode cX5_optimalOf 10 = .ok (.iconst 0, 1) := by decide +kernel
theorem dX5_optimalOf_11 : decode cX5_optimalOf 11 = .ok (.goto 15, 3) := by decide +kernel
theorem dX5_optimalOf_14 : decode cX5_optimalOf 14 = .ok (.aload_n 0, 1) := by decide +kernel
theorem dX5_optimalOf_15 : decode cX5_optimalOf 15 = .ok (.getfield 31, 3) := by decide +kernel
theorem dX5_optimalOf_18 : decode cX5_optimalOf 18 = .ok (.aload_n 0, 1) := by decide +kernel
theorem dX5_optimalOf_19 : decode cX5_optimalOf 19 = .ok (.aload_n 1, 1) := by decide +kernel
theorem dX5_optimalOf_20 : decode cX5_optimalOf 20 = .ok (.invokevirtual 90, 3) := by decide +kernel
theorem dX5_optimalOf_23 : decode cX5_optimalOf 23 = .ok (.invokestatic 94, 3) := by decide +kernel
theorem dX5_optimalOf_26 : decode cX5_optimalOf 26 = .ok (.ireturn, 1) := by decide +kernel
theorem dX5_optimalOfChain_0 : decode cX5_optimalOfChain 0 = .ok (.aload_n 0, 1) := by decide +kernel
theorem dX5_optimalOfChain_1 : decode cX5_optimalOfChain 1 = .ok (.aload_n 1, 1) := by decide +kernel
theorem dX5_optimalOfChain_2 : decode cX5_optimalOfChain 2 = .ok (.getfield 79, 3) := by decide +kernel
theorem dX5_optimalOfChain_5 : decode cX5_optimalOfChain 5 = .ok (.getfield 98, 3) := by decide +kernel
theorem dX5_optimalOfChain_8 : decode cX5_optimalOfChain 8 = .ok (.iload_n 2, 1) := by decide +kernel
theorem dX5_optimalOfChain_9 : decode cX5_optimalOfChain 9 = .ok (.invokestatic 94, 3) := by decide +kernel
theorem dX5_optimalOfChain_12 : decode cX5_optimalOfChain 12 = .ok (.aload_n 1, 1) := by decide +kernel
theorem dX5_optimalOfChain_13 : decode cX5_optimalOfChain 13 = .ok (.getfield 79, 3) := by decide +kernel
theorem dX5_optimalOfChain_16 : decode cX5_optimalOfChain 16 = .ok (.getfield 101, 3) := by decide +kernel
theorem dX5_optimalOfChain_19 : decode cX5_optimalOfChain 19 = .ok (.iload_n 2, 1) := by decide +kernel
theorem dX5_optimalOfChain_20 : decode cX5_optimalOfChain 20 = .ok (.invokestatic 94, 3) := by decide +kernel
theorem dX5_optimalOfChain_23 : decode cX5_optimalOfChain 23 = .ok (.invokevirtual 104, 3) := by decide +kernel
theorem dX5_optimalOfChain_26 : decode cX5_optimalOfChain 26 = .ok (.istore_n 3, 1) := by decide +kernel
theorem dX5_optimalOfChain_27 : decode cX5_optimalOfChain 27 = .ok (.aload_n 0, 1) := by decide +kernel
theorem dX5_optimalOfChain_28 : decode cX5_optimalOfChain 28 = .ok (.getfield 31, 3) := by decide +kernel
theorem dX5_optimalOfChain_31 : decode cX5_optimalOfChain 31 = .ok (.iload_n 3, 1) := by decide +kernel
theorem dX5_optimalOfChain_32 : decode cX5_optimalOfChain 32 = .ok (.aload_n 0, 1) := by decide +kernel
theorem dX5_optimalOfChain_33 : decode cX5_optimalOfChain 33 = .ok (.getfield 24, 3) := by decide +kernel
theorem dX5_optimalOfChain_36 : decode cX5_optimalOfChain 36 = .ok (.iload_n 2, 1) := by decide +kernel
theorem dX5_optimalOfChain_37 : decode cX5_optimalOfChain 37 = .ok (.invokestatic 94, 3) := by decide +kernel
theorem dX5_optimalOfChain_40 : decode cX5_optimalOfChain 40 = .ok (.imul, 1) := by decide +kernel
theorem dX5_optimalOfChain_41 : decode cX5_optimalOfChain 41 = .ok (.invokestatic 94, 3) := by decide +kernel
theorem dX5_optimalOfChain_44 : decode cX5_optimalOfChain 44 = .ok (.ireturn, 1) := by decide +kernel
theorem dX5_valueOf_0 : decode cX5_valueOf 0 = .ok (.aload_n 0, 1) := by decide +kernel
theorem dX5_valueOf_1 : decode cX5_valueOf 1 = .ok (.aload_n 1, 1) := by decide +kernel
theorem dX5_valueOf_2 : decode cX5_valueOf 2 = .ok (.invokevirtual 90, 3) := by decide +kernel
theorem dX5_valueOf_5 : decode cX5_valueOf 5 = .ok (.istore_n 3, 1) := by decide +kernel
theorem dX5_valueOf_6 : decode cX5_valueOf 6 = .ok (.iload_n 2, 1) := by decide +kernel
theorem dX5_valueOf_7 : decode cX5_valueOf 7 = .ok (.bipush 6, 2) := by decide +kernel
theorem dX5_valueOf_9 : decode cX5_valueOf 9 = .ok (.if_icmp .ne 27, 3) := by decide +kernel
theorem dX5_valueOf_12 : decode cX5_valueOf 12 = .ok (.aload_n 1, 1) := by decide +kernel
theorem dX5_valueOf_13 : decode cX5_valueOf 13 = .ok (.getfield 79, 3) := by decide +kernel
theorem dX5_valueOf_16 : decode cX5_valueOf 16 = .ok (.getfield 107, 3) := by decide +kernel
theorem dX5_valueOf_19 : decode cX5_valueOf 19 = .ok (.ifCond .le 7, 3) := by decide +kernel
theorem dX5_valueOf_22 : decode cX5_valueOf 22 = .ok (.iconst 0, 1) := by decide +kernel
theorem dX5_valueOf_23 : decode cX5_valueOf 23 = .ok (.goto 12, 3) := by decide +kernel
theorem dX5_valueOf_26 : decode cX5_valueOf 26 = .ok (.aload_n 0, 1) := by decide +kernel
theorem dX5_valueOf_27 : decode cX5_valueOf 27 = .ok (.getfield 31, 3) := by decide +kernel
theorem dX5_valueOf_30 : decode cX5_valueOf 30 = .ok (.iload_n 3, 1) := by decide +kernel
theorem dX5_valueOf_31 : decode cX5_valueOf 31 = .ok (.invokestatic 94, 3) := by decide +kernel
theorem dX5_valueOf_34 : decode cX5_valueOf 34 = .ok (.ineg, 1) := by decide +kernel
theorem dX5_valueOf_35 : decode cX5_valueOf 35 = .ok (.ireturn, 1) := by decide +kernel
theorem dX5_valueOf_36 : decode cX5_valueOf 36 = .ok (.iload_n 2, 1) := by decide +kernel
theorem dX5_valueOf_37 : decode cX5_valueOf 37 = .ok (.invokestatic 110, 3) := by decide +kernel
theorem dX5_valueOf_40 : decode cX5_valueOf 40 = .ok (.istore 4, 2) := by decide +kernel
theorem dX5_valueOf_42 : decode cX5_valueOf 42 = .ok (.iload_n 2, 1) := by decide +kernel
theorem dX5_valueOf_43 : decode cX5_valueOf 43 = .ok (.invokestatic 113, 3) := by decide +kernel
theorem dX5_valueOf_46 : decode cX5_valueOf 46 = .ok (.ifCond .eq 13, 3) := by decide +kernel
theorem dX5_valueOf_49 : decode cX5_valueOf 49 = .ok (.aload_n 0, 1) := by decide +kernel
theorem dX5_valueOf_50 : decode cX5_valueOf 50 = .ok (.iload_n 3, 1) := by decide +kernel
theorem dX5_valueOf_51 : decode cX5_valueOf 51 = .ok (.iload 4, 2) := by decide +kernel
theorem dX5_valueOf_53 : decode cX5_valueOf 53 = .ok (.invokevirtual 117, 3) := by decide +kernel
theorem dX5_valueOf_56 : decode cX5_valueOf 56 = .ok (.goto 10, 3) := by decide +kernel
theorem dX5_valueOf_59 : decode cX5_valueOf 59 = .ok (.aload_n 0, 1) := by decide +kernel
theorem dX5_valueOf_60 : decode cX5_valueOf 60 = .ok (.iload_n 3, 1) := by decide +kernel
theorem dX5_valueOf_61 : decode cX5_valueOf 61 = .ok (.iload 4, 2) := by decide +kernel
theorem dX5_valueOf_63 : decode cX5_valueOf 63 = .ok (.invokevirtual 120, 3) := by decide +kernel
theorem dX5_valueOf_66 : decode cX5_valueOf 66 = .ok (.ireturn, 1) := by decide +kernel
theorem dX5_againstGreedy_0 : decode cX5_againstGreedy 0 = .ok (.aload_n 0, 1) := by decide +kernel
theorem dX5_againstGreedy_1 : decode cX5_againstGreedy 1 = .ok (.aload_n 1, 1) := by decide +kernel
theorem dX5_againstGreedy_2 : decode cX5_againstGreedy 2 = .ok (.invokevirtual 90, 3) := by decide +kernel
theorem dX5_againstGreedy_5 : decode cX5_againstGreedy 5 = .ok (.istore_n 2, 1) := by decide +kernel
theorem dX5_againstGreedy_6 : decode cX5_againstGreedy 6 = .ok (.aload_n 0, 1) := by decide +kernel
theorem dX5_againstGreedy_7 : decode cX5_againstGreedy 7 = .ok (.iload_n 2, 1) := by decide +kernel
theorem dX5_againstGreedy_8 : decode cX5_againstGreedy 8 = .ok (.aload_n 1, 1) := by decide +kernel
theorem dX5_againstGreedy_9 : decode cX5_againstGreedy 9 = .ok (.getfield 79, 3) := by decide +kernel
theorem dX5_againstGreedy_12 : decode cX5_againstGreedy 12 = .ok (.getfield 107, 3) := by decide +kernel
theorem dX5_againstGreedy_15 : decode cX5_againstGreedy 15 = .ok (.ifCond .le 7, 3) := by decide +kernel
theorem dX5_againstGreedy_18 : decode cX5_againstGreedy 18 = .ok (.iconst 0, 1) := by decide +kernel
theorem dX5_againstGreedy_19 : decode cX5_againstGreedy 19 = .ok (.goto 11, 3) := by decide +kernel
theorem dX5_againstGreedy_22 : decode cX5_againstGreedy 22 = .ok (.aload_n 0, 1) := by decide +kernel
theorem dX5_againstGreedy_23 : decode cX5_againstGreedy 23 = .ok (.getfield 37, 3) := by decide +kernel
theorem dX5_againstGreedy_26 : decode cX5_againstGreedy 26 = .ok (.iload_n 2, 1) := by decide +kernel
theorem dX5_againstGreedy_27 : decode cX5_againstGreedy 27 = .ok (.invokestatic 94, 3) := by decide +kernel
theorem dX5_againstGreedy_30 : decode cX5_againstGreedy 30 = .ok (.invokevirtual 75, 3) := by decide +kernel
theorem dX5_againstGreedy_33 : decode cX5_againstGreedy 33 = .ok (.ireturn, 1) := by decide +kernel
theorem dX5_behindGreedy_0 : decode cX5_behindGreedy 0 = .ok (.aload_n 0, 1) := by decide +kernel
theorem dX5_behindGreedy_1 : decode cX5_behindGreedy 1 = .ok (.getfield 37, 3) := by decide +kernel
theorem dX5_behindGreedy_4 : decode cX5_behindGreedy 4 = .ok (.aload_n 0, 1) := by decide +kernel
theorem dX5_behindGreedy_5 : decode cX5_behindGreedy 5 = .ok (.aload_n 1, 1) := by decide +kernel
theorem dX5_behindGreedy_6 : decode cX5_behindGreedy 6 = .ok (.invokevirtual 90, 3) := by decide +kernel
theorem dX5_behindGreedy_9 : decode cX5_behindGreedy 9 = .ok (.invokestatic 94, 3) := by decide +kernel
theorem dX5_behindGreedy_12 : decode cX5_behindGreedy 12 = .ok (.ireturn, 1) := by decide +kernel
theorem dX5_shape_0 : decode cX5_shape 0 = .ok (.aload_n 1, 1) := by decide +kernel
theorem dX5_shape_1 : decode cX5_shape 1 = .ok (.getfield 79, 3) := by decide +kernel
theorem dX5_shape_4 : decode cX5_shape 4 = .ok (.getfield 123, 3) := by decide +kernel
theorem dX5_shape_7 : decode cX5_shape 7 = .ok (.istore_n 2, 1) := by decide +kernel
theorem dX5_shape_8 : decode cX5_shape 8 = .ok (.aload_n 0, 1) := by decide +kernel
theorem dX5_shape_9 : decode cX5_shape 9 = .ok (.getfield 40, 3) := by decide +kernel
theorem dX5_shape_12 : decode cX5_shape 12 = .ok (.iload_n 2, 1) := by decide +kernel
theorem dX5_shape_13 : decode cX5_shape 13 = .ok (.if_icmp .ne 4, 3) := by decide +kernel
theorem dX5_shape_16 : decode cX5_shape 16 = .ok (.return_, 1) := by decide +kernel
theorem dX5_shape_17 : decode cX5_shape 17 = .ok (.aload_n 0, 1) := by decide +kernel
theorem dX5_shape_18 : decode cX5_shape 18 = .ok (.iconst 1, 1) := by decide +kernel
theorem dX5_shape_19 : decode cX5_shape 19 = .ok (.putfield 55, 3) := by decide +kernel
theorem dX5_shape_22 : decode cX5_shape 22 = .ok (.iconst 2, 1) := by decide +kernel
theorem dX5_shape_23 : decode cX5_shape 23 = .ok (.istore_n 3, 1) := by decide +kernel
theorem dX5_shape_24 : decode cX5_shape 24 = .ok (.iload_n 3, 1) := by decide +kernel
theorem dX5_shape_25 : decode cX5_shape 25 = .ok (.ifCond .lt 125, 3) := by decide +kernel
theorem dX5_shape_28 : decode cX5_shape 28 = .ok (.iconst 1, 1) := by decide +kernel
theorem dX5_shape_29 : decode cX5_shape 29 = .ok (.aload_n 1, 1) := by decide +kernel
theorem dX5_shape_30 : decode cX5_shape 30 = .ok (.getfield 126, 3) := by decide +kernel
theorem dX5_shape_33 : decode cX5_shape 33 = .ok (.iload_n 2, 1) := by decide +kernel
theorem dX5_shape_34 : decode cX5_shape 34 = .ok (.iload_n 3, 1) := by decide +kernel
theorem dX5_shape_35 : decode cX5_shape 35 = .ok (.invokevirtual 130, 3) := by decide +kernel
theorem dX5_shape_38 : decode cX5_shape 38 = .ok (.invokestatic 135, 3) := by decide +kernel
theorem dX5_shape_41 : decode cX5_shape 41 = .ok (.istore 4, 2) := by decide +kernel
theorem dX5_shape_43 : decode cX5_shape 43 = .ok (.aload_n 0, 1) := by decide +kernel
theorem dX5_shape_44 : decode cX5_shape 44 = .ok (.getfield 21, 3) := by decide +kernel
theorem dX5_shape_47 : decode cX5_shape 47 = .ok (.iload_n 3, 1) := by decide +kernel
theorem dX5_shape_48 : decode cX5_shape 48 = .ok (.iload 4, 2) := by decide +kernel
theorem dX5_shape_50 : decode cX5_shape 50 = .ok (.iload 4, 2) := by decide +kernel
theorem dX5_shape_52 : decode cX5_shape 52 = .ok (.iconst 1, 1) := by decide +kernel
theorem dX5_shape_53 : decode cX5_shape 53 = .ok (.iadd, 1) := by decide +kernel
theorem dX5_shape_54 : decode cX5_shape 54 = .ok (.imul, 1) := by decide +kernel
theorem dX5_shape_55 : decode cX5_shape 55 = .ok (.iconst 2, 1) := by decide +kernel
theorem dX5_shape_56 : decode cX5_shape 56 = .ok (.idiv, 1) := by decide +kernel
theorem dX5_shape_57 : decode cX5_shape 57 = .ok (.invokestatic 62, 3) := by decide +kernel
theorem dX5_shape_60 : decode cX5_shape 60 = .ok (.aload_n 0, 1) := by decide +kernel
theorem dX5_shape_61 : decode cX5_shape 61 = .ok (.getfield 24, 3) := by decide +kernel
theorem dX5_shape_64 : decode cX5_shape 64 = .ok (.iload_n 3, 1) := by decide +kernel
theorem dX5_shape_65 : decode cX5_shape 65 = .ok (.aload_n 0, 1) := by decide +kernel
theorem dX5_shape_66 : decode cX5_shape 66 = .ok (.getfield 55, 3) := by decide +kernel
theorem dX5_shape_69 : decode cX5_shape 69 = .ok (.invokestatic 62, 3) := by decide +kernel
theorem dX5_shape_72 : decode cX5_shape 72 = .ok (.aload_n 0, 1) := by decide +kernel
theorem dX5_shape_73 : decode cX5_shape 73 = .ok (.dup, 1) := by decide +kernel
theorem dX5_shape_74 : decode cX5_shape 74 = .ok (.getfield 55, 3) := by decide +kernel
theorem dX5_shape_77 : decode cX5_shape 77 = .ok (.aload_n 0, 1) := by decide +kernel
theorem dX5_shape_78 : decode cX5_shape 78 = .ok (.getfield 21, 3) := by decide +kernel
theorem dX5_shape_81 : decode cX5_shape 81 = .ok (.iload_n 3, 1) := by decide +kernel
theorem dX5_shape_82 : decode cX5_shape 82 = .ok (.invokestatic 94, 3) := by decide +kernel
theorem dX5_shape_85 : decode cX5_shape 85 = .ok (.imul, 1) := by decide +kernel
theorem dX5_shape_86 : decode cX5_shape 86 = .ok (.putfield 55, 3) := by decide +kernel
theorem dX5_shape_89 : decode cX5_shape 89 = .ok (.iconst 0, 1) := by decide +kernel
theorem dX5_shape_90 : decode cX5_shape 90 = .ok (.istore 5, 2) := by decide +kernel
theorem dX5_shape_92 : decode cX5_shape 92 = .ok (.iload 5, 2) := by decide +kernel
theorem dX5_shape_94 : decode cX5_shape 94 = .ok (.iload 4, 2) := by decide +kernel
theorem dX5_shape_96 : decode cX5_shape 96 = .ok (.if_icmp .ge 48, 3) := by decide +kernel
theorem dX5_shape_99 : decode cX5_shape 99 = .ok (.aload_n 1, 1) := by decide +kernel
theorem dX5_shape_100 : decode cX5_shape 100 = .ok (.getfield 126, 3) := by decide +kernel
theorem dX5_shape_103 : decode cX5_shape 103 = .ok (.iload_n 2, 1) := by decide +kernel
theorem dX5_shape_104 : decode cX5_shape 104 = .ok (.iload_n 3, 1) := by decide +kernel
theorem dX5_shape_105 : decode cX5_shape 105 = .ok (.iload 5, 2) := by decide +kernel
theorem dX5_shape_107 : decode cX5_shape 107 = .ok (.invokevirtual 140, 3) := by decide +kernel
theorem dX5_shape_110 : decode cX5_shape 110 = .ok (.istore 6, 2) := by decide +kernel
theorem dX5_shape_112 : decode cX5_shape 112 = .ok (.aload_n 0, 1) := by decide +kernel
theorem dX5_shape_113 : decode cX5_shape 113 = .ok (.getfield 18, 3) := by decide +kernel
theorem dX5_shape_116 : decode cX5_shape 116 = .ok (.iload_n 3, 1) := by decide +kernel
theorem dX5_shape_117 : decode cX5_shape 117 = .ok (.bipush 8, 2) := by decide +kernel
theorem dX5_shape_119 : decode cX5_shape 119 = .ok (.imul, 1) := by decide +kernel
theorem dX5_shape_120 : decode cX5_shape 120 = .ok (.iload 5, 2) := by decide +kernel
theorem dX5_shape_122 : decode cX5_shape 122 = .ok (.iadd, 1) := by decide +kernel
theorem dX5_shape_123 : decode cX5_shape 123 = .ok (.aload_n 1, 1) := by decide +kernel
theorem dX5_shape_124 : decode cX5_shape 124 = .ok (.getfield 126, 3) := by decide +kernel
theorem dX5_shape_127 : decode cX5_shape 127 = .ok (.getfield 144, 3) := by decide +kernel
theorem dX5_shape_130 : decode cX5_shape 130 = .ok (.iload 6, 2) := by decide +kernel
theorem dX5_shape_132 : decode cX5_shape 132 = .ok (.invokestatic 94, 3) := by decide +kernel
theorem dX5_shape_135 : decode cX5_shape 135 = .ok (.invokestatic 62, 3) := by decide +kernel
theorem dX5_shape_138 : decode cX5_shape 138 = .ok (.iinc 5 1, 3) := by decide +kernel
theorem dX5_shape_141 : decode cX5_shape 141 = .ok (.goto (-49), 3) := by decide +kernel
theorem dX5_shape_144 : decode cX5_shape 144 = .ok (.iinc 3 (-1), 3) := by decide +kernel
theorem dX5_shape_147 : decode cX5_shape 147 = .ok (.goto (-123), 3) := by decide +kernel
theorem dX5_shape_150 : decode cX5_shape 150 = .ok (.aload_n 0, 1) := by decide +kernel
theorem dX5_shape_151 : decode cX5_shape 151 = .ok (.iload_n 2, 1) := by decide +kernel
theorem dX5_shape_152 : decode cX5_shape 152 = .ok (.putfield 40, 3) := by decide +kernel
theorem dX5_shape_155 : decode cX5_shape 155 = .ok (.aload_n 0, 1) := by decide +kernel
theorem dX5_shape_156 : decode cX5_shape 156 = .ok (.iconst 0, 1) := by decide +kernel
theorem dX5_shape_157 : decode cX5_shape 157 = .ok (.putfield 48, 3) := by decide +kernel
theorem dX5_shape_160 : decode cX5_shape 160 = .ok (.aload_n 0, 1) := by decide +kernel
theorem dX5_shape_161 : decode cX5_shape 161 = .ok (.iconst 0, 1) := by decide +kernel
theorem dX5_shape_162 : decode cX5_shape 162 = .ok (.putfield 69, 3) := by decide +kernel
theorem dX5_shape_165 : decode cX5_shape 165 = .ok (.return_, 1) := by decide +kernel
theorem dX5_spanOf_0 : decode cX5_spanOf 0 = .ok (.iload_n 2, 1) := by decide +kernel
theorem dX5_spanOf_1 : decode cX5_spanOf 1 = .ok (.iload_n 2, 1) := by decide +kernel
theorem dX5_spanOf_2 : decode cX5_spanOf 2 = .ok (.iconst 1, 1) := by decide +kernel
theorem dX5_spanOf_3 : decode cX5_spanOf 3 = .ok (.iadd, 1) := by decide +kernel
theorem dX5_spanOf_4 : decode cX5_spanOf 4 = .ok (.imul, 1) := by decide +kernel
theorem dX5_spanOf_5 : decode cX5_spanOf 5 = .ok (.iconst 2, 1) := by decide +kernel
theorem dX5_spanOf_6 : decode cX5_spanOf 6 = .ok (.idiv, 1) := by decide +kernel
theorem dX5_spanOf_7 : decode cX5_spanOf 7 = .ok (.iload_n 2, 1) := by decide +kernel
theorem dX5_spanOf_8 : decode cX5_spanOf 8 = .ok (.iadd, 1) := by decide +kernel
theorem dX5_spanOf_9 : decode cX5_spanOf 9 = .ok (.iload_n 1, 1) := by decide +kernel
theorem dX5_spanOf_10 : decode cX5_spanOf 10 = .ok (.isub, 1) := by decide +kernel
theorem dX5_spanOf_11 : decode cX5_spanOf 11 = .ok (.ireturn, 1) := by decide +kernel
theorem dX5_placeAt_0 : decode cX5_placeAt 0 = .ok (.iconst 0, 1) := by decide +kernel
theorem dX5_placeAt_1 : decode cX5_placeAt 1 = .ok (.istore_n 2, 1) := by decide +kernel
theorem dX5_placeAt_2 : decode cX5_placeAt 2 = .ok (.iconst 0, 1) := by decide +kernel
theorem dX5_placeAt_3 : decode cX5_placeAt 3 = .ok (.istore_n 3, 1) := by decide +kernel
theorem dX5_placeAt_4 : decode cX5_placeAt 4 = .ok (.iload_n 3, 1) := by decide +kernel
theorem dX5_placeAt_5 : decode cX5_placeAt 5 = .ok (.iconst 3, 1) := by decide +kernel
theorem dX5_placeAt_6 : decode cX5_placeAt 6 = .ok (.if_icmp .ge 61, 3) := by decide +kernel
theorem dX5_placeAt_9 : decode cX5_placeAt 9 = .ok (.aload_n 0, 1) := by decide +kernel
theorem dX5_placeAt_10 : decode cX5_placeAt 10 = .ok (.aload_n 1, 1) := by decide +kernel
theorem dX5_placeAt_11 : decode cX5_placeAt 11 = .ok (.getfield 79, 3) := by decide +kernel
theorem dX5_placeAt_14 : decode cX5_placeAt 14 = .ok (.getfield 98, 3) := by decide +kernel
theorem dX5_placeAt_17 : decode cX5_placeAt 17 = .ok (.iload_n 3, 1) := by decide +kernel
theorem dX5_placeAt_18 : decode cX5_placeAt 18 = .ok (.invokestatic 94, 3) := by decide +kernel
theorem dX5_placeAt_21 : decode cX5_placeAt 21 = .ok (.aload_n 1, 1) := by decide +kernel
theorem dX5_placeAt_22 : decode cX5_placeAt 22 = .ok (.getfield 79, 3) := by decide +kernel
theorem dX5_placeAt_25 : decode cX5_placeAt 25 = .ok (.getfield 101, 3) := by decide +kernel
theorem dX5_placeAt_28 : decode cX5_placeAt 28 = .ok (.iload_n 3, 1) := by decide +kernel
theorem dX5_placeAt_29 : decode cX5_placeAt 29 = .ok (.invokestatic 94, 3) := by decide +kernel
theorem dX5_placeAt_32 : decode cX5_placeAt 32 = .ok (.invokevirtual 104, 3) := by decide +kernel
theorem dX5_placeAt_35 : decode cX5_placeAt 35 = .ok (.istore 4, 2) := by decide +kernel
theorem dX5_placeAt_37 : decode cX5_placeAt 37 = .ok (.aload_n 0, 1) := by decide +kernel
theorem dX5_placeAt_38 : decode cX5_placeAt 38 = .ok (.getfield 27, 3) := by decide +kernel
theorem dX5_placeAt_41 : decode cX5_placeAt 41 = .ok (.iload_n 3, 1) := by decide +kernel
theorem dX5_placeAt_42 : decode cX5_placeAt 42 = .ok (.iload 4, 2) := by decide +kernel
theorem dX5_placeAt_44 : decode cX5_placeAt 44 = .ok (.invokestatic 62, 3) := by decide +kernel
theorem dX5_placeAt_47 : decode cX5_placeAt 47 = .ok (.iload_n 2, 1) := by decide +kernel
theorem dX5_placeAt_48 : decode cX5_placeAt 48 = .ok (.iload 4, 2) := by decide +kernel
theorem dX5_placeAt_50 : decode cX5_placeAt 50 = .ok (.aload_n 0, 1) := by decide +kernel
theorem dX5_placeAt_51 : decode cX5_placeAt 51 = .ok (.getfield 24, 3) := by decide +kernel
theorem dX5_placeAt_54 : decode cX5_placeAt 54 = .ok (.iload_n 3, 1) := by decide +kernel
theorem dX5_placeAt_55 : decode cX5_placeAt 55 = .ok (.invokestatic 94, 3) := by decide +kernel
theorem dX5_placeAt_58 : decode cX5_placeAt 58 = .ok (.imul, 1) := by decide +kernel
theorem dX5_placeAt_59 : decode cX5_placeAt 59 = .ok (.iadd, 1) := by decide +kernel
theorem dX5_placeAt_60 : decode cX5_placeAt 60 = .ok (.istore_n 2, 1) := by decide +kernel
theorem dX5_placeAt_61 : decode cX5_placeAt 61 = .ok (.iinc 3 1, 3) := by decide +kernel
theorem dX5_placeAt_64 : decode cX5_placeAt 64 = .ok (.goto (-60), 3) := by decide +kernel
theorem dX5_placeAt_67 : decode cX5_placeAt 67 = .ok (.iload_n 2, 1) := by decide +kernel
theorem dX5_placeAt_68 : decode cX5_placeAt 68 = .ok (.ireturn, 1) := by decide +kernel
theorem dX5_startWalk_0 : decode cX5_startWalk 0 = .ok (.iconst 0, 1) := by decide +kernel
theorem dX5_startWalk_1 : decode cX5_startWalk 1 = .ok (.istore_n 1, 1) := by decide +kernel
theorem dX5_startWalk_2 : decode cX5_startWalk 2 = .ok (.iload_n 1, 1) := by decide +kernel
theorem dX5_startWalk_3 : decode cX5_startWalk 3 = .ok (.iconst 3, 1) := by decide +kernel
theorem dX5_startWalk_4 : decode cX5_startWalk 4 = .ok (.if_icmp .ge 18, 3) := by decide +kernel
theorem dX5_startWalk_7 : decode cX5_startWalk 7 = .ok (.aload_n 0, 1) := by decide +kernel
theorem dX5_startWalk_8 : decode cX5_startWalk 8 = .ok (.getfield 27, 3) := by decide +kernel
theorem dX5_startWalk_11 : decode cX5_startWalk 11 = .ok (.iload_n 1, 1) := by decide +kernel
theorem dX5_startWalk_12 : decode cX5_startWalk 12 = .ok (.iconst 0, 1) := by decide +kernel
theorem dX5_startWalk_13 : decode cX5_startWalk 13 = .ok (.invokestatic 62, 3) := by decide +kernel
theorem dX5_startWalk_16 : decode cX5_startWalk 16 = .ok (.iinc 1 1, 3) := by decide +kernel
theorem dX5_startWalk_19 : decode cX5_startWalk 19 = .ok (.goto (-17), 3) := by decide +kernel
theorem dX5_startWalk_22 : decode cX5_startWalk 22 = .ok (.return_, 1) := by decide +kernel
theorem dX5_stepWalk_0 : decode cX5_stepWalk 0 = .ok (.iconst 2, 1) := by decide +kernel
theorem dX5_stepWalk_1 : decode cX5_stepWalk 1 = .ok (.istore_n 1, 1) := by decide +kernel
theorem dX5_stepWalk_2 : decode cX5_stepWalk 2 = .ok (.iload_n 1, 1) := by decide +kernel
theorem dX5_stepWalk_3 : decode cX5_stepWalk 3 = .ok (.ifCond .lt 51, 3) := by decide +kernel
theorem dX5_stepWalk_6 : decode cX5_stepWalk 6 = .ok (.aload_n 0, 1) := by decide +kernel
theorem dX5_stepWalk_7 : decode cX5_stepWalk 7 = .ok (.getfield 27, 3) := by decide +kernel
theorem dX5_stepWalk_10 : decode cX5_stepWalk 10 = .ok (.iload_n 1, 1) := by decide +kernel
theorem dX5_stepWalk_11 : decode cX5_stepWalk 11 = .ok (.invokestatic 94, 3) := by decide +kernel
theorem dX5_stepWalk_14 : decode cX5_stepWalk 14 = .ok (.iconst 1, 1) := by decide +kernel
theorem dX5_stepWalk_15 : decode cX5_stepWalk 15 = .ok (.iadd, 1) := by decide +kernel
theorem dX5_stepWalk_16 : decode cX5_stepWalk 16 = .ok (.istore_n 2, 1) := by decide +kernel
theorem dX5_stepWalk_17 : decode cX5_stepWalk 17 = .ok (.iload_n 2, 1) := by decide +kernel
theorem dX5_stepWalk_18 : decode cX5_stepWalk 18 = .ok (.aload_n 0, 1) := by decide +kernel
theorem dX5_stepWalk_19 : decode cX5_stepWalk 19 = .ok (.getfield 21, 3) := by decide +kernel
theorem dX5_stepWalk_22 : decode cX5_stepWalk 22 = .ok (.iload_n 1, 1) := by decide +kernel
theorem dX5_stepWalk_23 : decode cX5_stepWalk 23 = .ok (.invokestatic 94, 3) := by decide +kernel
theorem dX5_stepWalk_26 : decode cX5_stepWalk 26 = .ok (.if_icmp .ge 13, 3) := by decide +kernel
theorem dX5_stepWalk_29 : decode cX5_stepWalk 29 = .ok (.aload_n 0, 1) := by decide +kernel
theorem dX5_stepWalk_30 : decode cX5_stepWalk 30 = .ok (.getfield 27, 3) := by decide +kernel
theorem dX5_stepWalk_33 : decode cX5_stepWalk 33 = .ok (.iload_n 1, 1) := by decide +kernel
theorem dX5_stepWalk_34 : decode cX5_stepWalk 34 = .ok (.iload_n 2, 1) := by decide +kernel
theorem dX5_stepWalk_35 : decode cX5_stepWalk 35 = .ok (.invokestatic 62, 3) := by decide +kernel
theorem dX5_stepWalk_38 : decode cX5_stepWalk 38 = .ok (.return_, 1) := by decide +kernel
theorem dX5_stepWalk_39 : decode cX5_stepWalk 39 = .ok (.aload_n 0, 1) := by decide +kernel
theorem dX5_stepWalk_40 : decode cX5_stepWalk 40 = .ok (.getfield 27, 3) := by decide +kernel
theorem dX5_stepWalk_43 : decode cX5_stepWalk 43 = .ok (.iload_n 1, 1) := by decide +kernel
theorem dX5_stepWalk_44 : decode cX5_stepWalk 44 = .ok (.iconst 0, 1) := by decide +kernel
theorem dX5_stepWalk_45 : decode cX5_stepWalk 45 = .ok (.invokestatic 62, 3) := by decide +kernel
theorem dX5_stepWalk_48 : decode cX5_stepWalk 48 = .ok (.iinc 1 (-1), 3) := by decide +kernel
theorem dX5_stepWalk_51 : decode cX5_stepWalk 51 = .ok (.goto (-49), 3) := by decide +kernel
theorem dX5_stepWalk_54 : decode cX5_stepWalk 54 = .ok (.return_, 1) := by decide +kernel
theorem dX5_isBurnable_0 : decode cX5_isBurnable 0 = .ok (.aload_n 0, 1) := by decide +kernel
theorem dX5_isBurnable_1 : decode cX5_isBurnable 1 = .ok (.getfield 27, 3) := by decide +kernel
theorem dX5_isBurnable_4 : decode cX5_isBurnable 4 = .ok (.iload_n 1, 1) := by decide +kernel
theorem dX5_isBurnable_5 : decode cX5_isBurnable 5 = .ok (.invokestatic 94, 3) := by decide +kernel
theorem dX5_isBurnable_8 : decode cX5_isBurnable 8 = .ok (.istore_n 2, 1) := by decide +kernel
theorem dX5_isBurnable_9 : decode cX5_isBurnable 9 = .ok (.aload_n 0, 1) := by decide +kernel
theorem dX5_isBurnable_10 : decode cX5_isBurnable 10 = .ok (.getfield 9, 3) := by decide +kernel
theorem dX5_isBurnable_13 : decode cX5_isBurnable 13 = .ok (.iload_n 2, 1) := by decide +kernel
theorem dX5_isBurnable_14 : decode cX5_isBurnable 14 = .ok (.invokestatic 94, 3) := by decide +kernel
theorem dX5_isBurnable_17 : decode cX5_isBurnable 17 = .ok (.aload_n 0, 1) := by decide +kernel
theorem dX5_isBurnable_18 : decode cX5_isBurnable 18 = .ok (.getfield 15, 3) := by decide +kernel
theorem dX5_isBurnable_21 : decode cX5_isBurnable 21 = .ok (.iload_n 2, 1) := by decide +kernel
theorem dX5_isBurnable_22 : decode cX5_isBurnable 22 = .ok (.invokestatic 94, 3) := by decide +kernel
theorem dX5_isBurnable_25 : decode cX5_isBurnable 25 = .ok (.if_icmp .ge 7, 3) := by decide +kernel
theorem dX5_isBurnable_28 : decode cX5_isBurnable 28 = .ok (.iconst 1, 1) := by decide +kernel
theorem dX5_isBurnable_29 : decode cX5_isBurnable 29 = .ok (.goto 4, 3) := by decide +kernel
theorem dX5_isBurnable_32 : decode cX5_isBurnable 32 = .ok (.iconst 0, 1) := by decide +kernel
theorem dX5_isBurnable_33 : decode cX5_isBurnable 33 = .ok (.ireturn, 1) := by decide +kernel
theorem dX5_leftPoints_0 : decode cX5_leftPoints 0 = .ok (.aload_n 0, 1) := by decide +kernel
theorem dX5_leftPoints_1 : decode cX5_leftPoints 1 = .ok (.getfield 18, 3) := by decide +kernel
theorem dX5_leftPoints_4 : decode cX5_leftPoints 4 = .ok (.iload_n 1, 1) := by decide +kernel
theorem dX5_leftPoints_5 : decode cX5_leftPoints 5 = .ok (.bipush 8, 2) := by decide +kernel
theorem dX5_leftPoints_7 : decode cX5_leftPoints 7 = .ok (.imul, 1) := by decide +kernel
theorem dX5_leftPoints_8 : decode cX5_leftPoints 8 = .ok (.aload_n 0, 1) := by decide +kernel
theorem dX5_leftPoints_9 : decode cX5_leftPoints 9 = .ok (.getfield 9, 3) := by decide +kernel
theorem dX5_leftPoints_12 : decode cX5_leftPoints 12 = .ok (.aload_n 0, 1) := by decide +kernel
theorem dX5_leftPoints_13 : decode cX5_leftPoints 13 = .ok (.getfield 27, 3) := by decide +kernel
theorem dX5_leftPoints_16 : decode cX5_leftPoints 16 = .ok (.iload_n 1, 1) := by decide +kernel
theorem dX5_leftPoints_17 : decode cX5_leftPoints 17 = .ok (.invokestatic 94, 3) := by decide +kernel
theorem dX5_leftPoints_20 : decode cX5_leftPoints 20 = .ok (.invokestatic 94, 3) := by decide +kernel
theorem dX5_leftPoints_23 : decode cX5_leftPoints 23 = .ok (.iadd, 1) := by decide +kernel
theorem dX5_leftPoints_24 : decode cX5_leftPoints 24 = .ok (.invokestatic 94, 3) := by decide +kernel
theorem dX5_leftPoints_27 : decode cX5_leftPoints 27 = .ok (.ireturn, 1) := by decide +kernel
theorem dX5_rightPoints_0 : decode cX5_rightPoints 0 = .ok (.aload_n 0, 1) := by decide +kernel
theorem dX5_rightPoints_1 : decode cX5_rightPoints 1 = .ok (.getfield 18, 3) := by decide +kernel
theorem dX5_rightPoints_4 : decode cX5_rightPoints 4 = .ok (.iload_n 1, 1) := by decide +kernel
theorem dX5_rightPoints_5 : decode cX5_rightPoints 5 = .ok (.bipush 8, 2) := by decide +kernel
theorem dX5_rightPoints_7 : decode cX5_rightPoints 7 = .ok (.imul, 1) := by decide +kernel
theorem dX5_rightPoints_8 : decode cX5_rightPoints 8 = .ok (.aload_n 0, 1) := by decide +kernel
theorem dX5_rightPoints_9 : decode cX5_rightPoints 9 = .ok (.getfield 15, 3) := by decide +kernel
theorem dX5_rightPoints_12 : decode cX5_rightPoints 12 = .ok (.aload_n 0, 1) := by decide +kernel
theorem dX5_rightPoints_13 : decode cX5_rightPoints 13 = .ok (.getfield 27, 3) := by decide +kernel
theorem dX5_rightPoints_16 : decode cX5_rightPoints 16 = .ok (.iload_n 1, 1) := by decide +kernel
theorem dX5_rightPoints_17 : decode cX5_rightPoints 17 = .ok (.invokestatic 94, 3) := by decide +kernel
theorem dX5_rightPoints_20 : decode cX5_rightPoints 20 = .ok (.invokestatic 94, 3) := by decide +kernel
theorem dX5_rightPoints_23 : decode cX5_rightPoints 23 = .ok (.iadd, 1) := by decide +kernel
theorem dX5_rightPoints_24 : decode cX5_rightPoints 24 = .ok (.invokestatic 94, 3) := by decide +kernel
theorem dX5_rightPoints_27 : decode cX5_rightPoints 27 = .ok (.ireturn, 1) := by decide +kernel
theorem dX5_afterLeft_0 : decode cX5_afterLeft 0 = .ok (.iload_n 1, 1) := by decide +kernel
theorem dX5_afterLeft_1 : decode cX5_afterLeft 1 = .ok (.aload_n 0, 1) := by decide +kernel
theorem dX5_afterLeft_2 : decode cX5_afterLeft 2 = .ok (.getfield 24, 3) := by decide +kernel
theorem dX5_afterLeft_5 : decode cX5_afterLeft 5 = .ok (.iload_n 2, 1) := by decide +kernel
theorem dX5_afterLeft_6 : decode cX5_afterLeft 6 = .ok (.invokestatic 94, 3) := by decide +kernel
theorem dX5_afterLeft_9 : decode cX5_afterLeft 9 = .ok (.isub, 1) := by decide +kernel
theorem dX5_afterLeft_10 : decode cX5_afterLeft 10 = .ok (.ireturn, 1) := by decide +kernel
theorem dX5_afterRight_0 : decode cX5_afterRight 0 = .ok (.iload_n 1, 1) := by decide +kernel
theorem dX5_afterRight_1 : decode cX5_afterRight 1 = .ok (.aload_n 0, 1) := by decide +kernel
theorem dX5_afterRight_2 : decode cX5_afterRight 2 = .ok (.getfield 24, 3) := by decide +kernel
theorem dX5_afterRight_5 : decode cX5_afterRight 5 = .ok (.iload_n 2, 1) := by decide +kernel
theorem dX5_afterRight_6 : decode cX5_afterRight 6 = .ok (.invokestatic 94, 3) := by decide +kernel
theorem dX5_afterRight_9 : decode cX5_afterRight 9 = .ok (.aload_n 0, 1) := by decide +kernel
theorem dX5_afterRight_10 : decode cX5_afterRight 10 = .ok (.getfield 15, 3) := by decide +kernel
theorem dX5_afterRight_13 : decode cX5_afterRight 13 = .ok (.aload_n 0, 1) := by decide +kernel
theorem dX5_afterRight_14 : decode cX5_afterRight 14 = .ok (.getfield 27, 3) := by decide +kernel
theorem dX5_afterRight_17 : decode cX5_afterRight 17 = .ok (.iload_n 2, 1) := by decide +kernel
theorem dX5_afterRight_18 : decode cX5_afterRight 18 = .ok (.invokestatic 94, 3) := by decide +kernel
theorem dX5_afterRight_21 : decode cX5_afterRight 21 = .ok (.invokestatic 94, 3) := by decide +kernel
theorem dX5_afterRight_24 : decode cX5_afterRight 24 = .ok (.iconst 1, 1) := by decide +kernel
theorem dX5_afterRight_25 : decode cX5_afterRight 25 = .ok (.iadd, 1) := by decide +kernel
theorem dX5_afterRight_26 : decode cX5_afterRight 26 = .ok (.imul, 1) := by decide +kernel
theorem dX5_afterRight_27 : decode cX5_afterRight 27 = .ok (.isub, 1) := by decide +kernel
theorem dX5_afterRight_28 : decode cX5_afterRight 28 = .ok (.ireturn, 1) := by decide +kernel
theorem dX5_optimalHere_0 : decode cX5_optimalHere 0 = .ok (.iconst 0, 1) := by decide +kernel
theorem dX5_optimalHere_1 : decode cX5_optimalHere 1 = .ok (.istore_n 2, 1) := by decide +kernel
theorem dX5_optimalHere_2 : decode cX5_optimalHere 2 = .ok (.iconst 0, 1) := by decide +kernel
theorem dX5_optimalHere_3 : decode cX5_optimalHere 3 = .ok (.istore_n 3, 1) := by decide +kernel
theorem dX5_optimalHere_4 : decode cX5_optimalHere 4 = .ok (.iload_n 3, 1) := by decide +kernel
theorem dX5_optimalHere_5 : decode cX5_optimalHere 5 = .ok (.iconst 3, 1) := by decide +kernel
theorem dX5_optimalHere_6 : decode cX5_optimalHere 6 = .ok (.if_icmp .ge 39, 3) := by decide +kernel
theorem dX5_optimalHere_9 : decode cX5_optimalHere 9 = .ok (.aload_n 0, 1) := by decide +kernel
theorem dX5_optimalHere_10 : decode cX5_optimalHere 10 = .ok (.iload_n 3, 1) := by decide +kernel
theorem dX5_optimalHere_11 : decode cX5_optimalHere 11 = .ok (.invokevirtual 145, 3) := by decide +kernel
theorem dX5_optimalHere_14 : decode cX5_optimalHere 14 = .ok (.ifCond .eq 25, 3) := by decide +kernel
theorem dX5_optimalHere_17 : decode cX5_optimalHere 17 = .ok (.iload_n 2, 1) := by decide +kernel
theorem dX5_optimalHere_18 : decode cX5_optimalHere 18 = .ok (.aload_n 0, 1) := by decide +kernel
theorem dX5_optimalHere_19 : decode cX5_optimalHere 19 = .ok (.iload_n 1, 1) := by decide +kernel
theorem dX5_optimalHere_20 : decode cX5_optimalHere 20 = .ok (.iload_n 3, 1) := by decide +kernel
theorem dX5_optimalHere_21 : decode cX5_optimalHere 21 = .ok (.invokevirtual 117, 3) := by decide +kernel
theorem dX5_optimalHere_24 : decode cX5_optimalHere 24 = .ok (.invokestatic 135, 3) := by decide +kernel
theorem dX5_optimalHere_27 : decode cX5_optimalHere 27 = .ok (.istore_n 2, 1) := by decide +kernel
theorem dX5_optimalHere_28 : decode cX5_optimalHere 28 = .ok (.iload_n 2, 1) := by decide +kernel
theorem dX5_optimalHere_29 : decode cX5_optimalHere 29 = .ok (.aload_n 0, 1) := by decide +kernel
theorem dX5_optimalHere_30 : decode cX5_optimalHere 30 = .ok (.iload_n 1, 1) := by decide +kernel
theorem dX5_optimalHere_31 : decode cX5_optimalHere 31 = .ok (.iload_n 3, 1) := by decide +kernel
theorem dX5_optimalHere_32 : decode cX5_optimalHere 32 = .ok (.invokevirtual 120, 3) := by decide +kernel
theorem dX5_optimalHere_35 : decode cX5_optimalHere 35 = .ok (.invokestatic 135, 3) := by decide +kernel
theorem dX5_optimalHere_38 : decode cX5_optimalHere 38 = .ok (.istore_n 2, 1) := by decide +kernel
theorem dX5_optimalHere_39 : decode cX5_optimalHere 39 = .ok (.iinc 3 1, 3) := by decide +kernel
theorem dX5_optimalHere_42 : decode cX5_optimalHere 42 = .ok (.goto (-38), 3) := by decide +kernel
theorem dX5_optimalHere_45 : decode cX5_optimalHere 45 = .ok (.iload_n 2, 1) := by decide +kernel
theorem dX5_optimalHere_46 : decode cX5_optimalHere 46 = .ok (.ireturn, 1) := by decide +kernel
theorem dX5_leftValue_0 : decode cX5_leftValue 0 = .ok (.aload_n 0, 1) := by decide +kernel
theorem dX5_leftValue_1 : decode cX5_leftValue 1 = .ok (.iload_n 2, 1) := by decide +kernel
theorem dX5_leftValue_2 : decode cX5_leftValue 2 = .ok (.invokevirtual 148, 3) := by decide +kernel
theorem dX5_leftValue_5 : decode cX5_leftValue 5 = .ok (.aload_n 0, 1) := by decide +kernel
theorem dX5_leftValue_6 : decode cX5_leftValue 6 = .ok (.getfield 31, 3) := by decide +kernel
theorem dX5_leftValue_9 : decode cX5_leftValue 9 = .ok (.aload_n 0, 1) := by decide +kernel
theorem dX5_leftValue_10 : decode cX5_leftValue 10 = .ok (.iload_n 1, 1) := by decide +kernel
theorem dX5_leftValue_11 : decode cX5_leftValue 11 = .ok (.iload_n 2, 1) := by decide +kernel
theorem dX5_leftValue_12 : decode cX5_leftValue 12 = .ok (.invokevirtual 151, 3) := by decide +kernel
theorem dX5_leftValue_15 : decode cX5_leftValue 15 = .ok (.invokestatic 94, 3) := by decide +kernel
theorem dX5_leftValue_18 : decode cX5_leftValue 18 = .ok (.isub, 1) := by decide +kernel
theorem dX5_leftValue_19 : decode cX5_leftValue 19 = .ok (.ireturn, 1) := by decide +kernel
theorem dX5_rightValue_0 : decode cX5_rightValue 0 = .ok (.aload_n 0, 1) := by decide +kernel
theorem dX5_rightValue_1 : decode cX5_rightValue 1 = .ok (.iload_n 2, 1) := by decide +kernel
theorem dX5_rightValue_2 : decode cX5_rightValue 2 = .ok (.invokevirtual 154, 3) := by decide +kernel
theorem dX5_rightValue_5 : decode cX5_rightValue 5 = .ok (.aload_n 0, 1) := by decide +kernel
theorem dX5_rightValue_6 : decode cX5_rightValue 6 = .ok (.getfield 31, 3) := by decide +kernel
theorem dX5_rightValue_9 : decode cX5_rightValue 9 = .ok (.aload_n 0, 1) := by decide +kernel
theorem dX5_rightValue_10 : decode cX5_rightValue 10 = .ok (.iload_n 1, 1) := by decide +kernel
theorem dX5_rightValue_11 : decode cX5_rightValue 11 = .ok (.iload_n 2, 1) := by decide +kernel
theorem dX5_rightValue_12 : decode cX5_rightValue 12 = .ok (.invokevirtual 157, 3) := by decide +kernel
theorem dX5_rightValue_15 : decode cX5_rightValue 15 = .ok (.invokestatic 94, 3) := by decide +kernel
theorem dX5_rightValue_18 : decode cX5_rightValue 18 = .ok (.isub, 1) := by decide +kernel
theorem dX5_rightValue_19 : decode cX5_rightValue 19 = .ok (.ireturn, 1) := by decide +kernel
theorem dX5_aheadHere_0 : decode cX5_aheadHere 0 = .ok (.iload_n 2, 1) := by decide +kernel
theorem dX5_aheadHere_1 : decode cX5_aheadHere 1 = .ok (.istore_n 3, 1) := by decide +kernel
theorem dX5_aheadHere_2 : decode cX5_aheadHere 2 = .ok (.iconst 0, 1) := by decide +kernel
theorem dX5_aheadHere_3 : decode cX5_aheadHere 3 = .ok (.istore 4, 2) := by decide +kernel
theorem dX5_aheadHere_5 : decode cX5_aheadHere 5 = .ok (.iload 4, 2) := by decide +kernel
theorem dX5_aheadHere_7 : decode cX5_aheadHere 7 = .ok (.iconst 3, 1) := by decide +kernel
theorem dX5_aheadHere_8 : decode cX5_aheadHere 8 = .ok (.if_icmp .ge 70, 3) := by decide +kernel
theorem dX5_aheadHere_11 : decode cX5_aheadHere 11 = .ok (.aload_n 0, 1) := by decide +kernel
theorem dX5_aheadHere_12 : decode cX5_aheadHere 12 = .ok (.iload 4, 2) := by decide +kernel
theorem dX5_aheadHere_14 : decode cX5_aheadHere 14 = .ok (.invokevirtual 145, 3) := by decide +kernel
theorem dX5_aheadHere_17 : decode cX5_aheadHere 17 = .ok (.ifCond .eq 55, 3) := by decide +kernel
theorem dX5_aheadHere_20 : decode cX5_aheadHere 20 = .ok (.iload_n 3, 1) := by decide +kernel
theorem dX5_aheadHere_21 : decode cX5_aheadHere 21 = .ok (.aload_n 0, 1) := by decide +kernel
theorem dX5_aheadHere_22 : decode cX5_aheadHere 22 = .ok (.iload 4, 2) := by decide +kernel
theorem dX5_aheadHere_24 : decode cX5_aheadHere 24 = .ok (.invokevirtual 148, 3) := by decide +kernel
theorem dX5_aheadHere_27 : decode cX5_aheadHere 27 = .ok (.aload_n 0, 1) := by decide +kernel
theorem dX5_aheadHere_28 : decode cX5_aheadHere 28 = .ok (.getfield 37, 3) := by decide +kernel
theorem dX5_aheadHere_31 : decode cX5_aheadHere 31 = .ok (.aload_n 0, 1) := by decide +kernel
theorem dX5_aheadHere_32 : decode cX5_aheadHere 32 = .ok (.iload_n 1, 1) := by decide +kernel
theorem dX5_aheadHere_33 : decode cX5_aheadHere 33 = .ok (.iload 4, 2) := by decide +kernel
theorem dX5_aheadHere_35 : decode cX5_aheadHere 35 = .ok (.invokevirtual 151, 3) := by decide +kernel
theorem dX5_aheadHere_38 : decode cX5_aheadHere 38 = .ok (.invokestatic 94, 3) := by decide +kernel
theorem dX5_aheadHere_41 : decode cX5_aheadHere 41 = .ok (.iadd, 1) := by decide +kernel
theorem dX5_aheadHere_42 : decode cX5_aheadHere 42 = .ok (.invokestatic 135, 3) := by decide +kernel
theorem dX5_aheadHere_45 : decode cX5_aheadHere 45 = .ok (.istore_n 3, 1) := by decide +kernel
theorem dX5_aheadHere_46 : decode cX5_aheadHere 46 = .ok (.iload_n 3, 1) := by decide +kernel
theorem dX5_aheadHere_47 : decode cX5_aheadHere 47 = .ok (.aload_n 0, 1) := by decide +kernel
theorem dX5_aheadHere_48 : decode cX5_aheadHere 48 = .ok (.iload 4, 2) := by decide +kernel
theorem dX5_aheadHere_50 : decode cX5_aheadHere 50 = .ok (.invokevirtual 154, 3) := by decide +kernel
theorem dX5_aheadHere_53 : decode cX5_aheadHere 53 = .ok (.aload_n 0, 1) := by decide +kernel
theorem dX5_aheadHere_54 : decode cX5_aheadHere 54 = .ok (.getfield 37, 3) := by decide +kernel
theorem dX5_aheadHere_57 : decode cX5_aheadHere 57 = .ok (.aload_n 0, 1) := by decide +kernel
theorem dX5_aheadHere_58 : decode cX5_aheadHere 58 = .ok (.iload_n 1, 1) := by decide +kernel
theorem dX5_aheadHere_59 : decode cX5_aheadHere 59 = .ok (.iload 4, 2) := by decide +kernel
theorem dX5_aheadHere_61 : decode cX5_aheadHere 61 = .ok (.invokevirtual 157, 3) := by decide +kernel
theorem dX5_aheadHere_64 : decode cX5_aheadHere 64 = .ok (.invokestatic 94, 3) := by decide +kernel
theorem dX5_aheadHere_67 : decode cX5_aheadHere 67 = .ok (.iadd, 1) := by decide +kernel
theorem dX5_aheadHere_68 : decode cX5_aheadHere 68 = .ok (.invokestatic 135, 3) := by decide +kernel
theorem dX5_aheadHere_71 : decode cX5_aheadHere 71 = .ok (.istore_n 3, 1) := by decide +kernel
theorem dX5_aheadHere_72 : decode cX5_aheadHere 72 = .ok (.iinc 4 1, 3) := by decide +kernel
theorem dX5_aheadHere_75 : decode cX5_aheadHere 75 = .ok (.goto (-70), 3) := by decide +kernel
theorem dX5_aheadHere_78 : decode cX5_aheadHere 78 = .ok (.iload_n 3, 1) := by decide +kernel
theorem dX5_aheadHere_79 : decode cX5_aheadHere 79 = .ok (.ireturn, 1) := by decide +kernel
theorem dX5_behindHere_0 : decode cX5_behindHere 0 = .ok (.iconst (-1), 1) := by decide +kernel
theorem dX5_behindHere_1 : decode cX5_behindHere 1 = .ok (.istore_n 2, 1) := by decide +kernel
theorem dX5_behindHere_2 : decode cX5_behindHere 2 = .ok (.iload_n 1, 1) := by decide +kernel
theorem dX5_behindHere_3 : decode cX5_behindHere 3 = .ok (.istore_n 3, 1) := by decide +kernel
theorem dX5_behindHere_4 : decode cX5_behindHere 4 = .ok (.iconst 0, 1) := by decide +kernel
theorem dX5_behindHere_5 : decode cX5_behindHere 5 = .ok (.istore 4, 2) := by decide +kernel
theorem dX5_behindHere_7 : decode cX5_behindHere 7 = .ok (.iload 4, 2) := by decide +kernel
theorem dX5_behindHere_9 : decode cX5_behindHere 9 = .ok (.iconst 3, 1) := by decide +kernel
theorem dX5_behindHere_10 : decode cX5_behindHere 10 = .ok (.if_icmp .ge 77, 3) := by decide +kernel
theorem dX5_behindHere_13 : decode cX5_behindHere 13 = .ok (.aload_n 0, 1) := by decide +kernel
theorem dX5_behindHere_14 : decode cX5_behindHere 14 = .ok (.iload 4, 2) := by decide +kernel
theorem dX5_behindHere_16 : decode cX5_behindHere 16 = .ok (.invokevirtual 145, 3) := by decide +kernel
theorem dX5_behindHere_19 : decode cX5_behindHere 19 = .ok (.ifCond .eq 28, 3) := by decide +kernel
theorem dX5_behindHere_22 : decode cX5_behindHere 22 = .ok (.aload_n 0, 1) := by decide +kernel
theorem dX5_behindHere_23 : decode cX5_behindHere 23 = .ok (.iload 4, 2) := by decide +kernel
theorem dX5_behindHere_25 : decode cX5_behindHere 25 = .ok (.invokevirtual 148, 3) := by decide +kernel
theorem dX5_behindHere_28 : decode cX5_behindHere 28 = .ok (.iload_n 2, 1) := by decide +kernel
theorem dX5_behindHere_29 : decode cX5_behindHere 29 = .ok (.if_icmp .le 18, 3) := by decide +kernel
theorem dX5_behindHere_32 : decode cX5_behindHere 32 = .ok (.aload_n 0, 1) := by decide +kernel
theorem dX5_behindHere_33 : decode cX5_behindHere 33 = .ok (.iload 4, 2) := by decide +kernel
theorem dX5_behindHere_35 : decode cX5_behindHere 35 = .ok (.invokevirtual 148, 3) := by decide +kernel
theorem dX5_behindHere_38 : decode cX5_behindHere 38 = .ok (.istore_n 2, 1) := by decide +kernel
theorem dX5_behindHere_39 : decode cX5_behindHere 39 = .ok (.aload_n 0, 1) := by decide +kernel
theorem dX5_behindHere_40 : decode cX5_behindHere 40 = .ok (.iload_n 1, 1) := by decide +kernel
theorem dX5_behindHere_41 : decode cX5_behindHere 41 = .ok (.iload 4, 2) := by decide +kernel
theorem dX5_behindHere_43 : decode cX5_behindHere 43 = .ok (.invokevirtual 151, 3) := by decide +kernel
theorem dX5_behindHere_46 : decode cX5_behindHere 46 = .ok (.istore_n 3, 1) := by decide +kernel
theorem dX5_behindHere_47 : decode cX5_behindHere 47 = .ok (.aload_n 0, 1) := by decide +kernel
theorem dX5_behindHere_48 : decode cX5_behindHere 48 = .ok (.iload 4, 2) := by decide +kernel
theorem dX5_behindHere_50 : decode cX5_behindHere 50 = .ok (.invokevirtual 145, 3) := by decide +kernel
theorem dX5_behindHere_53 : decode cX5_behindHere 53 = .ok (.ifCond .eq 28, 3) := by decide +kernel
theorem dX5_behindHere_56 : decode cX5_behindHere 56 = .ok (.aload_n 0, 1) := by decide +kernel
theorem dX5_behindHere_57 : decode cX5_behindHere 57 = .ok (.iload 4, 2) := by decide +kernel
theorem dX5_behindHere_59 : decode cX5_behindHere 59 = .ok (.invokevirtual 154, 3) := by decide +kernel
theorem dX5_behindHere_62 : decode cX5_behindHere 62 = .ok (.iload_n 2, 1) := by decide +kernel
theorem dX5_behindHere_63 : decode cX5_behindHere 63 = .ok (.if_icmp .le 18, 3) := by decide +kernel
theorem dX5_behindHere_66 : decode cX5_behindHere 66 = .ok (.aload_n 0, 1) := by decide +kernel
theorem dX5_behindHere_67 : decode cX5_behindHere 67 = .ok (.iload 4, 2) := by decide +kernel
theorem dX5_behindHere_69 : decode cX5_behindHere 69 = .ok (.invokevirtual 154, 3) := by decide +kernel
theorem dX5_behindHere_72 : decode cX5_behindHere 72 = .ok (.istore_n 2, 1) := by decide +kernel
theorem dX5_behindHere_73 : decode cX5_behindHere 73 = .ok (.aload_n 0, 1) := by decide +kernel
theorem dX5_behindHere_74 : decode cX5_behindHere 74 = .ok (.iload_n 1, 1) := by decide +kernel
theorem dX5_behindHere_75 : decode cX5_behindHere 75 = .ok (.iload 4, 2) := by decide +kernel
theorem dX5_behindHere_77 : decode cX5_behindHere 77 = .ok (.invokevirtual 157, 3) := by decide +kernel
theorem dX5_behindHere_80 : decode cX5_behindHere 80 = .ok (.istore_n 3, 1) := by decide +kernel
theorem dX5_behindHere_81 : decode cX5_behindHere 81 = .ok (.iinc 4 1, 3) := by decide +kernel
theorem dX5_behindHere_84 : decode cX5_behindHere 84 = .ok (.goto (-77), 3) := by decide +kernel
theorem dX5_behindHere_87 : decode cX5_behindHere 87 = .ok (.iload_n 2, 1) := by decide +kernel
theorem dX5_behindHere_88 : decode cX5_behindHere 88 = .ok (.iconst (-1), 1) := by decide +kernel
theorem dX5_behindHere_89 : decode cX5_behindHere 89 = .ok (.if_icmp .ne 7, 3) := by decide +kernel
theorem dX5_behindHere_92 : decode cX5_behindHere 92 = .ok (.iconst 0, 1) := by decide +kernel
theorem dX5_behindHere_93 : decode cX5_behindHere 93 = .ok (.goto 13, 3) := by decide +kernel
theorem dX5_behindHere_96 : decode cX5_behindHere 96 = .ok (.aload_n 0, 1) := by decide +kernel
theorem dX5_behindHere_97 : decode cX5_behindHere 97 = .ok (.getfield 34, 3) := by decide +kernel
theorem dX5_behindHere_100 : decode cX5_behindHere 100 = .ok (.iload_n 3, 1) := by decide +kernel
theorem dX5_behindHere_101 : decode cX5_behindHere 101 = .ok (.invokestatic 94, 3) := by decide +kernel
theorem dX5_behindHere_104 : decode cX5_behindHere 104 = .ok (.iload_n 2, 1) := by decide +kernel
theorem dX5_behindHere_105 : decode cX5_behindHere 105 = .ok (.isub, 1) := by decide +kernel
theorem dX5_behindHere_106 : decode cX5_behindHere 106 = .ok (.ireturn, 1) := by decide +kernel
theorem dX6_init_0 : decode cX6_init 0 = .ok (.aload_n 0, 1) := by decide +kernel
theorem dX6_init_1 : decode cX6_init 1 = .ok (.invokespecial 3, 3) := by decide +kernel
theorem dX6_init_4 : decode cX6_init 4 = .ok (.aload_n 0, 1) := by decide +kernel
theorem dX6_init_5 : decode cX6_init 5 = .ok (.iconst 3, 1) := by decide +kernel
theorem dX6_init_6 : decode cX6_init 6 = .ok (.newarray .int, 2) := by decide +kernel
theorem dX6_init_8 : decode cX6_init 8 = .ok (.putfield 9, 3) := by decide +kernel
theorem dX6_init_11 : decode cX6_init 11 = .ok (.aload_n 0, 1) := by decide +kernel
theorem dX6_init_12 : decode cX6_init 12 = .ok (.iconst 3, 1) := by decide +kernel
theorem dX6_init_13 : decode cX6_init 13 = .ok (.newarray .int, 2) := by decide +kernel
theorem dX6_init_15 : decode cX6_init 15 = .ok (.putfield 15, 3) := by decide +kernel
theorem dX6_init_18 : decode cX6_init 18 = .ok (.aload_n 0, 1) := by decide +kernel
theorem dX6_init_19 : decode cX6_init 19 = .ok (.bipush 8, 2) := by decide +kernel
theorem dX6_init_21 : decode cX6_init 21 = .ok (.newarray .int, 2) := by decide +kernel
theorem dX6_init_23 : decode cX6_init 23 = .ok (.putfield 18, 3) := by decide +kernel
theorem dX6_init_26 : decode cX6_init 26 = .ok (.aload_n 0, 1) := by decide +kernel
theorem dX6_init_27 : decode cX6_init 27 = .ok (.iconst 2, 1) := by decide +kernel
theorem dX6_init_28 : decode cX6_init 28 = .ok (.newarray .int, 2) := by decide +kernel
theorem dX6_init_30 : decode cX6_init 30 = .ok (.putfield 21, 3) := by decide +kernel
theorem dX6_init_33 : decode cX6_init 33 = .ok (.aload_n 0, 1) := by decide +kernel
theorem dX6_init_34 : decode cX6_init 34 = .ok (.iconst 2, 1) := by decide +kernel
theorem dX6_init_35 : decode cX6_init 35 = .ok (.newarray .int, 2) := by decide +kernel
theorem dX6_init_37 : decode cX6_init 37 = .ok (.putfield 24, 3) := by decide +kernel
theorem dX6_init_40 : decode cX6_init 40 = .ok (.aload_n 0, 1) := by decide +kernel
theorem dX6_init_41 : decode cX6_init 41 = .ok (.bipush 42, 2) := by decide +kernel
theorem dX6_init_43 : decode cX6_init 43 = .ok (.newarray .int, 2) := by decide +kernel
theorem dX6_init_45 : decode cX6_init 45 = .ok (.putfield 27, 3) := by decide +kernel
theorem dX6_init_48 : decode cX6_init 48 = .ok (.aload_n 0, 1) := by decide +kernel
theorem dX6_init_49 : decode cX6_init 49 = .ok (.bipush 42, 2) := by decide +kernel
theorem dX6_init_51 : decode cX6_init 51 = .ok (.newarray .int, 2) := by decide +kernel
theorem dX6_init_53 : decode cX6_init 53 = .ok (.putfield 30, 3) := by decide +kernel
theorem dX6_init_56 : decode cX6_init 56 = .ok (.return_, 1) := by decide +kernel
theorem dX6_copyFrom_0 : decode cX6_copyFrom 0 = .ok (.aload_n 0, 1) := by decide +kernel
theorem dX6_copyFrom_1 : decode cX6_copyFrom 1 = .ok (.aload_n 1, 1) := by decide +kernel
theorem dX6_copyFrom_2 : decode cX6_copyFrom 2 = .ok (.getfield 33, 3) := by decide +kernel
theorem dX6_copyFrom_5 : decode cX6_copyFrom 5 = .ok (.putfield 33, 3) := by decide +kernel
theorem dX6_copyFrom_8 : decode cX6_copyFrom 8 = .ok (.aload_n 0, 1) := by decide +kernel
theorem dX6_copyFrom_9 : decode cX6_copyFrom 9 = .ok (.aload_n 1, 1) := by decide +kernel
theorem dX6_copyFrom_10 : decode cX6_copyFrom 10 = .ok (.getfield 37, 3) := by decide +kernel
theorem dX6_copyFrom_13 : decode cX6_copyFrom 13 = .ok (.putfield 37, 3) := by decide +kernel
theorem dX6_copyFrom_16 : decode cX6_copyFrom 16 = .ok (.aload_n 0, 1) := by decide +kernel
theorem dX6_copyFrom_17 : decode cX6_copyFrom 17 = .ok (.aload_n 1, 1) := by decide +kernel
theorem dX6_copyFrom_18 : decode cX6_copyFrom 18 = .ok (.getfield 40, 3) := by decide +kernel
theorem dX6_copyFrom_21 : decode cX6_copyFrom 21 = .ok (.putfield 40, 3) := by decide +kernel
theorem dX6_copyFrom_24 : decode cX6_copyFrom 24 = .ok (.aload_n 0, 1) := by decide +kernel
theorem dX6_copyFrom_25 : decode cX6_copyFrom 25 = .ok (.aload_n 1, 1) := by decide +kernel
theorem dX6_copyFrom_26 : decode cX6_copyFrom 26 = .ok (.getfield 43, 3) := by decide +kernel
theorem dX6_copyFrom_29 : decode cX6_copyFrom 29 = .ok (.putfield 43, 3) := by decide +kernel
theorem dX6_copyFrom_32 : decode cX6_copyFrom 32 = .ok (.aload_n 0, 1) := by decide +kernel
theorem dX6_copyFrom_33 : decode cX6_copyFrom 33 = .ok (.aload_n 1, 1) := by decide +kernel
theorem dX6_copyFrom_34 : decode cX6_copyFrom 34 = .ok (.getfield 46, 3) := by decide +kernel
theorem dX6_copyFrom_37 : decode cX6_copyFrom 37 = .ok (.putfield 46, 3) := by decide +kernel
theorem dX6_copyFrom_40 : decode cX6_copyFrom 40 = .ok (.aload_n 0, 1) := by decide +kernel
theorem dX6_copyFrom_41 : decode cX6_copyFrom 41 = .ok (.aload_n 1, 1) := by decide +kernel
theorem dX6_copyFrom_42 : decode cX6_copyFrom 42 = .ok (.getfield 50, 3) := by decide +kernel
theorem dX6_copyFrom_45 : decode cX6_copyFrom 45 = .ok (.putfield 50, 3) := by decide +kernel
theorem dX6_copyFrom_48 : decode cX6_copyFrom 48 = .ok (.aload_n 1, 1) := by decide +kernel
theorem dX6_copyFrom_49 : decode cX6_copyFrom 49 = .ok (.getfield 9, 3) := by decide +kernel
theorem dX6_copyFrom_52 : decode cX6_copyFrom 52 = .ok (.aload_n 0, 1) := by decide +kernel
theorem dX6_copyFrom_53 : decode cX6_copyFrom 53 = .ok (.getfield 9, 3) := by decide +kernel
theorem dX6_copyFrom_56 : decode cX6_copyFrom 56 = .ok (.invokestatic 53, 3) := by decide +kernel
theorem dX6_copyFrom_59 : decode cX6_copyFrom 59 = .ok (.aload_n 1, 1) := by decide +kernel
theorem dX6_copyFrom_60 : decode cX6_copyFrom 60 = .ok (.getfield 15, 3) := by decide +kernel
theorem dX6_copyFrom_63 : decode cX6_copyFrom 63 = .ok (.aload_n 0, 1) := by decide +kernel
theorem dX6_copyFrom_64 : decode cX6_copyFrom 64 = .ok (.getfield 15, 3) := by decide +kernel
theorem dX6_copyFrom_67 : decode cX6_copyFrom 67 = .ok (.invokestatic 53, 3) := by decide +kernel
theorem dX6_copyFrom_70 : decode cX6_copyFrom 70 = .ok (.aload_n 1, 1) := by decide +kernel
theorem dX6_copyFrom_71 : decode cX6_copyFrom 71 = .ok (.getfield 18, 3) := by decide +kernel
theorem dX6_copyFrom_74 : decode cX6_copyFrom 74 = .ok (.aload_n 0, 1) := by decide +kernel
theorem dX6_copyFrom_75 : decode cX6_copyFrom 75 = .ok (.getfield 18, 3) := by decide +kernel
theorem dX6_copyFrom_78 : decode cX6_copyFrom 78 = .ok (.invokestatic 53, 3) := by decide +kernel
theorem dX6_copyFrom_81 : decode cX6_copyFrom 81 = .ok (.aload_n 1, 1) := by decide +kernel
theorem dX6_copyFrom_82 : decode cX6_copyFrom 82 = .ok (.getfield 21, 3) := by decide +kernel
theorem dX6_copyFrom_85 : decode cX6_copyFrom 85 = .ok (.aload_n 0, 1) := by decide +kernel
theorem dX6_copyFrom_86 : decode cX6_copyFrom 86 = .ok (.getfield 21, 3) := by decide +kernel
theorem dX6_copyFrom_89 : decode cX6_copyFrom 89 = .ok (.invokestatic 53, 3) := by decide +kernel
theorem dX6_copyFrom_92 : decode cX6_copyFrom 92 = .ok (.aload_n 1, 1) := by decide +kernel
theorem dX6_copyFrom_93 : decode cX6_copyFrom 93 = .ok (.getfield 24, 3) := by decide +kernel
theorem dX6_copyFrom_96 : decode cX6_copyFrom 96 = .ok (.aload_n 0, 1) := by decide +kernel
theorem dX6_copyFrom_97 : decode cX6_copyFrom 97 = .ok (.getfield 24, 3) := by decide +kernel
theorem dX6_copyFrom_100 : decode cX6_copyFrom 100 = .ok (.invokestatic 53, 3) := by decide +kernel
theorem dX6_copyFrom_103 : decode cX6_copyFrom 103 = .ok (.aload_n 1, 1) := by decide +kernel
theorem dX6_copyFrom_104 : decode cX6_copyFrom 104 = .ok (.getfield 27, 3) := by decide +kernel
theorem dX6_copyFrom_107 : decode cX6_copyFrom 107 = .ok (.aload_n 0, 1) := by decide +kernel
theorem dX6_copyFrom_108 : decode cX6_copyFrom 108 = .ok (.getfield 27, 3) := by decide +kernel
theorem dX6_copyFrom_111 : decode cX6_copyFrom 111 = .ok (.invokestatic 53, 3) := by decide +kernel
theorem dX6_copyFrom_114 : decode cX6_copyFrom 114 = .ok (.aload_n 1, 1) := by decide +kernel
theorem dX6_copyFrom_115 : decode cX6_copyFrom 115 = .ok (.getfield 30, 3) := by decide +kernel
theorem dX6_copyFrom_118 : decode cX6_copyFrom 118 = .ok (.aload_n 0, 1) := by decide +kernel
theorem dX6_copyFrom_119 : decode cX6_copyFrom 119 = .ok (.getfield 30, 3) := by decide +kernel
theorem dX6_copyFrom_122 : decode cX6_copyFrom 122 = .ok (.invokestatic 53, 3) := by decide +kernel
theorem dX6_copyFrom_125 : decode cX6_copyFrom 125 = .ok (.return_, 1) := by decide +kernel
theorem dX6_clearCounts_0 : decode cX6_clearCounts 0 = .ok (.iconst 0, 1) := by decide +kernel
theorem dX6_clearCounts_1 : decode cX6_clearCounts 1 = .ok (.istore_n 1, 1) := by decide +kernel
theorem dX6_clearCounts_2 : decode cX6_clearCounts 2 = .ok (.iload_n 1, 1) := by decide +kernel
theorem dX6_clearCounts_3 : decode cX6_clearCounts 3 = .ok (.aload_n 0, 1) := by decide +kernel
theorem dX6_clearCounts_4 : decode cX6_clearCounts 4 = .ok (.getfield 18, 3) := by decide +kernel
theorem dX6_clearCounts_7 : decode cX6_clearCounts 7 = .ok (.arraylength, 1) := by decide +kernel
theorem dX6_clearCounts_8 : decode cX6_clearCounts 8 = .ok (.if_icmp .ge 16, 3) := by decide +kernel
theorem dX6_clearCounts_11 : decode cX6_clearCounts 11 = .ok (.aload_n 0, 1) := by decide +kernel
theorem dX6_clearCounts_12 : decode cX6_clearCounts 12 = .ok (.getfield 18, 3) := by decide +kernel
theorem dX6_clearCounts_15 : decode cX6_clearCounts 15 = .ok (.iload_n 1, 1) := by decide +kernel
theorem dX6_clearCounts_16 : decode cX6_clearCounts 16 = .ok (.iconst 0, 1) := by decide +kernel
theorem dX6_clearCounts_17 : decode cX6_clearCounts 17 = .ok (.iastore, 1) := by decide +kernel
theorem dX6_clearCounts_18 : decode cX6_clearCounts 18 = .ok (.iinc 1 1, 3) := by decide +kernel
theorem dX6_clearCounts_21 : decode cX6_clearCounts 21 = .ok (.goto (-19), 3) := by decide +kernel
theorem dX6_clearCounts_24 : decode cX6_clearCounts 24 = .ok (.iconst 0, 1) := by decide +kernel
theorem dX6_clearCounts_25 : decode cX6_clearCounts 25 = .ok (.istore_n 1, 1) := by decide +kernel
theorem dX6_clearCounts_26 : decode cX6_clearCounts 26 = .ok (.iload_n 1, 1) := by decide +kernel
theorem dX6_clearCounts_27 : decode cX6_clearCounts 27 = .ok (.iconst 2, 1) := by decide +kernel
theorem dX6_clearCounts_28 : decode cX6_clearCounts 28 = .ok (.if_icmp .ge 27, 3) := by decide +kernel
theorem dX6_clearCounts_31 : decode cX6_clearCounts 31 = .ok (.aload_n 0, 1) := by decide +kernel
theorem dX6_clearCounts_32 : decode cX6_clearCounts 32 = .ok (.getfield 21, 3) := by decide +kernel
theorem dX6_clearCounts_35 : decode cX6_clearCounts 35 = .ok (.iload_n 1, 1) := by decide +kernel
theorem dX6_clearCounts_36 : decode cX6_clearCounts 36 = .ok (.iconst 0, 1) := by decide +kernel
theorem dX6_clearCounts_37 : decode cX6_clearCounts 37 = .ok (.invokestatic 57, 3) := by decide +kernel
theorem dX6_clearCounts_40 : decode cX6_clearCounts 40 = .ok (.aload_n 0, 1) := by decide +kernel
theorem dX6_clearCounts_41 : decode cX6_clearCounts 41 = .ok (.getfield 24, 3) := by decide +kernel
theorem dX6_clearCounts_44 : decode cX6_clearCounts 44 = .ok (.iload_n 1, 1) := by decide +kernel
theorem dX6_clearCounts_45 : decode cX6_clearCounts 45 = .ok (.iconst 0, 1) := by decide +kernel
theorem dX6_clearCounts_46 : decode cX6_clearCounts 46 = .ok (.invokestatic 57, 3) := by decide +kernel
theorem dX6_clearCounts_49 : decode cX6_clearCounts 49 = .ok (.iinc 1 1, 3) := by decide +kernel
theorem dX6_clearCounts_52 : decode cX6_clearCounts 52 = .ok (.goto (-26), 3) := by decide +kernel
theorem dX6_clearCounts_55 : decode cX6_clearCounts 55 = .ok (.return_, 1) := by decide +kernel
theorem dX6_log_0 : decode cX6_log 0 = .ok (.aload_n 0, 1) := by decide +kernel
theorem dX6_log_1 : decode cX6_log 1 = .ok (.getfield 50, 3) := by decide +kernel
theorem dX6_log_4 : decode cX6_log 4 = .ok (.bipush 42, 2) := by decide +kernel
theorem dX6_log_6 : decode cX6_log 6 = .ok (.if_icmp .ge 37, 3) := by decide +kernel
theorem dX6_log_9 : decode cX6_log 9 = .ok (.aload_n 0, 1) := by decide +kernel
theorem dX6_log_10 : decode cX6_log 10 = .ok (.getfield 27, 3) := by decide +kernel
theorem dX6_log_13 : decode cX6_log 13 = .ok (.aload_n 0, 1) := by decide +kernel
theorem dX6_log_14 : decode cX6_log 14 = .ok (.getfield 50, 3) := by decide +kernel
theorem dX6_log_17 : decode cX6_log 17 = .ok (.iload_n 1, 1) := by decide +kernel
theorem dX6_log_18 : decode cX6_log 18 = .ok (.invokestatic 57, 3) := by decide +kernel
theorem dX6_log_21 : decode cX6_log 21 = .ok (.aload_n 0, 1) := by decide +kernel
theorem dX6_log_22 : decode cX6_log 22 = .ok (.getfield 30, 3) := by decide +kernel
theorem dX6_log_25 : decode cX6_log 25 = .ok (.aload_n 0, 1) := by decide +kernel
theorem dX6_log_26 : decode cX6_log 26 = .ok (.getfield 50, 3) := by decide +kernel
theorem dX6_log_29 : decode cX6_log 29 = .ok (.iload_n 2, 1) := by decide +kernel
theorem dX6_log_30 : decode cX6_log 30 = .ok (.invokestatic 57, 3) := by decide +kernel
theorem dX6_log_33 : decode cX6_log 33 = .ok (.aload_n 0, 1) := by decide +kernel
theorem dX6_log_34 : decode cX6_log 34 = .ok (.dup, 1) := by decide +kernel
theorem dX6_log_35 : decode cX6_log 35 = .ok (.getfield 50, 3) := by decide +kernel
theorem dX6_log_38 : decode cX6_log 38 = .ok (.iconst 1, 1) := by decide +kernel
theorem dX6_log_39 : decode cX6_log 39 = .ok (.iadd, 1) := by decide +kernel
theorem dX6_log_40 : decode cX6_log 40 = .ok (.putfield 50, 3) := by decide +kernel
theorem dX6_log_43 : decode cX6_log 43 = .ok (.return_, 1) := by decide +kernel
theorem dX7_init_0 : decode cX7_init 0 = .ok (.aload_n 0, 1) := by decide +kernel
theorem dX7_init_1 : decode cX7_init 1 = .ok (.invokespecial 3, 3) := by decide +kernel
theorem dX7_init_4 : decode cX7_init 4 = .ok (.aload_n 0, 1) := by decide +kernel
theorem dX7_init_5 : decode cX7_init 5 = .ok (.bipush 126, 2) := by decide +kernel
theorem dX7_init_7 : decode cX7_init 7 = .ok (.newarray .int, 2) := by decide +kernel
theorem dX7_init_9 : decode cX7_init 9 = .ok (.putfield 9, 3) := by decide +kernel
theorem dX7_init_12 : decode cX7_init 12 = .ok (.return_, 1) := by decide +kernel
theorem dX8_init_0 : decode cX8_init 0 = .ok (.aload_n 0, 1) := by decide +kernel
theorem dX8_init_1 : decode cX8_init 1 = .ok (.invokespecial 3, 3) := by decide +kernel
theorem dX8_init_4 : decode cX8_init 4 = .ok (.aload_n 0, 1) := by decide +kernel
theorem dX8_init_5 : decode cX8_init 5 = .ok (.sipush 500, 3) := by decide +kernel
theorem dX8_init_8 : decode cX8_init 8 = .ok (.newarray .int, 2) := by decide +kernel
theorem dX8_init_10 : decode cX8_init 10 = .ok (.putfield 9, 3) := by decide +kernel
theorem dX8_init_13 : decode cX8_init 13 = .ok (.aload_n 0, 1) := by decide +kernel
theorem dX8_init_14 : decode cX8_init 14 = .ok (.iconst 0, 1) := by decide +kernel
theorem dX8_init_15 : decode cX8_init 15 = .ok (.putfield 13, 3) := by decide +kernel
theorem dX8_init_18 : decode cX8_init 18 = .ok (.aload_n 0, 1) := by decide +kernel
theorem dX8_init_19 : decode cX8_init 19 = .ok (.iconst (-1), 1) := by decide +kernel
theorem dX8_init_20 : decode cX8_init 20 = .ok (.putfield 17, 3) := by decide +kernel
theorem dX8_init_23 : decode cX8_init 23 = .ok (.aload_n 0, 1) := by decide +kernel
theorem dX8_init_24 : decode cX8_init 24 = .ok (.new 20, 3) := by decide +kernel
theorem dX8_init_27 : decode cX8_init 27 = .ok (.dup, 1) := by decide +kernel
theorem dX8_init_28 : decode cX8_init 28 = .ok (.invokespecial 22, 3) := by decide +kernel
theorem dX8_init_31 : decode cX8_init 31 = .ok (.putfield 23, 3) := by decide +kernel
theorem dX8_init_34 : decode cX8_init 34 = .ok (.aload_n 0, 1) := by decide +kernel
theorem dX8_init_35 : decode cX8_init 35 = .ok (.new 27, 3) := by decide +kernel
theorem dX8_init_38 : decode cX8_init 38 = .ok (.dup, 1) := by decide +kernel
theorem dX8_init_39 : decode cX8_init 39 = .ok (.invokespecial 29, 3) := by decide +kernel
theorem dX8_init_42 : decode cX8_init 42 = .ok (.putfield 30, 3) := by decide +kernel
theorem dX8_init_45 : decode cX8_init 45 = .ok (.aload_n 0, 1) := by decide +kernel
theorem dX8_init_46 : decode cX8_init 46 = .ok (.new 27, 3) := by decide +kernel
theorem dX8_init_49 : decode cX8_init 49 = .ok (.dup, 1) := by decide +kernel
theorem dX8_init_50 : decode cX8_init 50 = .ok (.invokespecial 29, 3) := by decide +kernel
theorem dX8_init_53 : decode cX8_init 53 = .ok (.putfield 34, 3) := by decide +kernel
theorem dX8_init_56 : decode cX8_init 56 = .ok (.aload_n 0, 1) := by decide +kernel
theorem dX8_init_57 : decode cX8_init 57 = .ok (.new 37, 3) := by decide +kernel
theorem dX8_init_60 : decode cX8_init 60 = .ok (.dup, 1) := by decide +kernel
theorem dX8_init_61 : decode cX8_init 61 = .ok (.invokespecial 39, 3) := by decide +kernel
theorem dX8_init_64 : decode cX8_init 64 = .ok (.putfield 40, 3) := by decide +kernel
theorem dX8_init_67 : decode cX8_init 67 = .ok (.aload_n 0, 1) := by decide +kernel
theorem dX8_init_68 : decode cX8_init 68 = .ok (.new 44, 3) := by decide +kernel
theorem dX8_init_71 : decode cX8_init 71 = .ok (.dup, 1) := by decide +kernel
theorem dX8_init_72 : decode cX8_init 72 = .ok (.invokespecial 46, 3) := by decide +kernel
theorem dX8_init_75 : decode cX8_init 75 = .ok (.putfield 47, 3) := by decide +kernel
theorem dX8_init_78 : decode cX8_init 78 = .ok (.aload_n 0, 1) := by decide +kernel
theorem dX8_init_79 : decode cX8_init 79 = .ok (.new 51, 3) := by decide +kernel
theorem dX8_init_82 : decode cX8_init 82 = .ok (.dup, 1) := by decide +kernel
theorem dX8_init_83 : decode cX8_init 83 = .ok (.invokespecial 53, 3) := by decide +kernel
theorem dX8_init_86 : decode cX8_init 86 = .ok (.putfield 54, 3) := by decide +kernel
theorem dX8_init_89 : decode cX8_init 89 = .ok (.aload_n 0, 1) := by decide +kernel
theorem dX8_init_90 : decode cX8_init 90 = .ok (.new 58, 3) := by decide +kernel
theorem dX8_init_93 : decode cX8_init 93 = .ok (.dup, 1) := by decide +kernel
theorem dX8_init_94 : decode cX8_init 94 = .ok (.invokespecial 60, 3) := by decide +kernel
theorem dX8_init_97 : decode cX8_init 97 = .ok (.putfield 61, 3) := by decide +kernel
theorem dX8_init_100 : decode cX8_init 100 = .ok (.aload_n 0, 1) := by decide +kernel
theorem dX8_init_101 : decode cX8_init 101 = .ok (.getfield 30, 3) := by decide +kernel
theorem dX8_init_104 : decode cX8_init 104 = .ok (.invokevirtual 65, 3) := by decide +kernel
theorem dX8_init_107 : decode cX8_init 107 = .ok (.return_, 1) := by decide +kernel
theorem dX8_append_0 : decode cX8_append 0 = .ok (.aload_n 0, 1) := by decide +kernel
theorem dX8_append_1 : decode cX8_append 1 = .ok (.getfield 68, 3) := by decide +kernel
theorem dX8_append_4 : decode cX8_append 4 = .ok (.bipush 20, 2) := by decide +kernel
theorem dX8_append_6 : decode cX8_append 6 = .ok (.iadd, 1) := by decide +kernel
theorem dX8_append_7 : decode cX8_append 7 = .ok (.sipush 500, 3) := by decide +kernel
theorem dX8_append_10 : decode cX8_append 10 = .ok (.if_icmp .le 13, 3) := by decide +kernel
theorem dX8_append_13 : decode cX8_append 13 = .ok (.new 71, 3) := by decide +kernel
theorem dX8_append_16 : decode cX8_append 16 = .ok (.dup, 1) := by decide +kernel
theorem dX8_append_17 : decode cX8_append 17 = .ok (.ldc 73, 2) := by decide +kernel
theorem dX8_append_19 : decode cX8_append 19 = .ok (.invokespecial 75, 3) := by decide +kernel
theorem dX8_append_22 : decode cX8_append 22 = .ok (.athrow, 1) := by decide +kernel
theorem dX8_append_23 : decode cX8_append 23 = .ok (.aload_n 0, 1) := by decide +kernel
theorem dX8_append_24 : decode cX8_append 24 = .ok (.iload_n 1, 1) := by decide +kernel
theorem dX8_append_25 : decode cX8_append 25 = .ok (.invokevirtual 78, 3) := by decide +kernel
theorem dX8_append_28 : decode cX8_append 28 = .ok (.aload_n 0, 1) := by decide +kernel
theorem dX8_append_29 : decode cX8_append 29 = .ok (.iload_n 2, 1) := by decide +kernel
theorem dX8_append_30 : decode cX8_append 30 = .ok (.invokevirtual 78, 3) := by decide +kernel
theorem dX8_append_33 : decode cX8_append 33 = .ok (.aload_n 0, 1) := by decide +kernel
theorem dX8_append_34 : decode cX8_append 34 = .ok (.iload_n 3, 1) := by decide +kernel
theorem dX8_append_35 : decode cX8_append 35 = .ok (.invokevirtual 78, 3) := by decide +kernel
theorem dX8_append_38 : decode cX8_append 38 = .ok (.aload_n 0, 1) := by decide +kernel
theorem dX8_append_39 : decode cX8_append 39 = .ok (.iload 4, 2) := by decide +kernel
theorem dX8_append_41 : decode cX8_append 41 = .ok (.invokevirtual 78, 3) := by decide +kernel
theorem dX8_append_44 : decode cX8_append 44 = .ok (.aload_n 0, 1) := by decide +kernel
theorem dX8_append_45 : decode cX8_append 45 = .ok (.iload 5, 2) := by decide +kernel
theorem dX8_append_47 : decode cX8_append 47 = .ok (.invokevirtual 78, 3) := by decide +kernel
theorem dX8_append_50 : decode cX8_append 50 = .ok (.aload_n 0, 1) := by decide +kernel
theorem dX8_append_51 : decode cX8_append 51 = .ok (.getfield 68, 3) := by decide +kernel
theorem dX8_append_54 : decode cX8_append 54 = .ok (.ireturn, 1) := by decide +kernel
theorem dX8_addWord_0 : decode cX8_addWord 0 = .ok (.bipush 24, 2) := by decide +kernel
theorem dX8_addWord_2 : decode cX8_addWord 2 = .ok (.istore_n 2, 1) := by decide +kernel
theorem dX8_addWord_3 : decode cX8_addWord 3 = .ok (.iload_n 2, 1) := by decide +kernel
theorem dX8_addWord_4 : decode cX8_addWord 4 = .ok (.ifCond .lt 37, 3) := by decide +kernel
theorem dX8_addWord_7 : decode cX8_addWord 7 = .ok (.aload_n 0, 1) := by decide +kernel
theorem dX8_addWord_8 : decode cX8_addWord 8 = .ok (.getfield 9, 3) := by decide +kernel
theorem dX8_addWord_11 : decode cX8_addWord 11 = .ok (.aload_n 0, 1) := by decide +kernel
theorem dX8_addWord_12 : decode cX8_addWord 12 = .ok (.getfield 68, 3) := by decide +kernel
theorem dX8_addWord_15 : decode cX8_addWord 15 = .ok (.iload_n 1, 1) := by decide +kernel
theorem dX8_addWord_16 : decode cX8_addWord 16 = .ok (.iload_n 2, 1) := by decide +kernel
theorem dX8_addWord_17 : decode cX8_addWord 17 = .ok (.iushr, 1) := by decide +kernel
theorem dX8_addWord_18 : decode cX8_addWord 18 = .ok (.sipush 255, 3) := by decide +kernel
theorem dX8_addWord_21 : decode cX8_addWord 21 = .ok (.iand, 1) := by decide +kernel
theorem dX8_addWord_22 : decode cX8_addWord 22 = .ok (.invokestatic 82, 3) := by decide +kernel
theorem dX8_addWord_25 : decode cX8_addWord 25 = .ok (.aload_n 0, 1) := by decide +kernel
theorem dX8_addWord_26 : decode cX8_addWord 26 = .ok (.dup, 1) := by decide +kernel
theorem dX8_addWord_27 : decode cX8_addWord 27 = .ok (.getfield 68, 3) := by decide +kernel
theorem dX8_addWord_30 : decode cX8_addWord 30 = .ok (.iconst 1, 1) := by decide +kernel
theorem dX8_addWord_31 : decode cX8_addWord 31 = .ok (.iadd, 1) := by decide +kernel
theorem dX8_addWord_32 : decode cX8_addWord 32 = .ok (.putfield 68, 3) := by decide +kernel
theorem dX8_addWord_35 : decode cX8_addWord 35 = .ok (.iinc 2 (-8), 3) := by decide +kernel
theorem dX8_addWord_38 : decode cX8_addWord 38 = .ok (.goto (-35), 3) := by decide +kernel
theorem dX8_addWord_41 : decode cX8_addWord 41 = .ok (.return_, 1) := by decide +kernel
theorem dX8_truncate_0 : decode cX8_truncate 0 = .ok (.iload_n 1, 1) := by decide +kernel
theorem dX8_truncate_1 : decode cX8_truncate 1 = .ok (.ifCond .lt 11, 3) := by decide +kernel
theorem dX8_truncate_4 : decode cX8_truncate 4 = .ok (.iload_n 1, 1) := by decide +kernel
theorem dX8_truncate_5 : decode cX8_truncate 5 = .ok (.aload_n 0, 1) := by decide +kernel
theorem dX8_truncate_6 : decode cX8_truncate 6 = .ok (.getfield 68, 3) := by decide +kernel
theorem dX8_truncate_9 : decode cX8_truncate 9 = .ok (.if_icmp .le 13, 3) := by decide +kernel
theorem dX8_truncate_12 : decode cX8_truncate 12 = .ok (.new 86, 3) := by decide +kernel
theorem dX8_truncate_15 : decode cX8_truncate 15 = .ok (.dup, 1) := by decide +kernel
theorem dX8_truncate_16 : decode cX8_truncate 16 = .ok (.ldc 88, 2) := by decide +kernel
theorem dX8_truncate_18 : decode cX8_truncate 18 = .ok (.invokespecial 90, 3) := by decide +kernel
theorem dX8_truncate_21 : decode cX8_truncate 21 = .ok (.athrow, 1) := by decide +kernel
theorem dX8_truncate_22 : decode cX8_truncate 22 = .ok (.aload_n 0, 1) := by decide +kernel
theorem dX8_truncate_23 : decode cX8_truncate 23 = .ok (.iload_n 1, 1) := by decide +kernel
theorem dX8_truncate_24 : decode cX8_truncate 24 = .ok (.putfield 68, 3) := by decide +kernel
theorem dX8_truncate_27 : decode cX8_truncate 27 = .ok (.return_, 1) := by decide +kernel
theorem dX8_load_0 : decode cX8_load 0 = .ok (.aload_n 0, 1) := by decide +kernel
theorem dX8_load_1 : decode cX8_load 1 = .ok (.getfield 23, 3) := by decide +kernel
theorem dX8_load_4 : decode cX8_load 4 = .ok (.aload_n 0, 1) := by decide +kernel
theorem dX8_load_5 : decode cX8_load 5 = .ok (.getfield 9, 3) := by decide +kernel
theorem dX8_load_8 : decode cX8_load 8 = .ok (.aload_n 0, 1) := by decide +kernel
theorem dX8_load_9 : decode cX8_load 9 = .ok (.getfield 68, 3) := by decide +kernel
theorem dX8_load_12 : decode cX8_load 12 = .ok (.invokevirtual 91, 3) := by decide +kernel
theorem dX8_load_15 : decode cX8_load 15 = .ok (.ifCond .eq 17, 3) := by decide +kernel
theorem dX8_load_18 : decode cX8_load 18 = .ok (.aload_n 0, 1) := by decide +kernel
theorem dX8_load_19 : decode cX8_load 19 = .ok (.getfield 23, 3) := by decide +kernel
theorem dX8_load_22 : decode cX8_load 22 = .ok (.invokevirtual 95, 3) := by decide +kernel
theorem dX8_load_25 : decode cX8_load 25 = .ok (.ifCond .eq 7, 3) := by decide +kernel
theorem dX8_load_28 : decode cX8_load 28 = .ok (.iconst 1, 1) := by decide +kernel
theorem dX8_load_29 : decode cX8_load 29 = .ok (.goto 4, 3) := by decide +kernel
theorem dX8_load_32 : decode cX8_load 32 = .ok (.iconst 0, 1) := by decide +kernel
theorem dX8_load_33 : decode cX8_load 33 = .ok (.istore_n 1, 1) := by decide +kernel
theorem dX8_load_34 : decode cX8_load 34 = .ok (.aload_n 0, 1) := by decide +kernel
theorem dX8_load_35 : decode cX8_load 35 = .ok (.iconst 0, 1) := by decide +kernel
theorem dX8_load_36 : decode cX8_load 36 = .ok (.putfield 68, 3) := by decide +kernel
theorem dX8_load_39 : decode cX8_load 39 = .ok (.aload_n 0, 1) := by decide +kernel
theorem dX8_load_40 : decode cX8_load 40 = .ok (.aload_n 0, 1) := by decide +kernel
theorem dX8_load_41 : decode cX8_load 41 = .ok (.getfield 23, 3) := by decide +kernel
theorem dX8_load_44 : decode cX8_load 44 = .ok (.getfield 99, 3) := by decide +kernel
theorem dX8_load_47 : decode cX8_load 47 = .ok (.putfield 13, 3) := by decide +kernel
theorem dX8_load_50 : decode cX8_load 50 = .ok (.aload_n 0, 1) := by decide +kernel
theorem dX8_load_51 : decode cX8_load 51 = .ok (.aload_n 0, 1) := by decide +kernel
theorem dX8_load_52 : decode cX8_load 52 = .ok (.getfield 23, 3) := by decide +kernel
theorem dX8_load_55 : decode cX8_load 55 = .ok (.getfield 100, 3) := by decide +kernel
theorem dX8_load_58 : decode cX8_load 58 = .ok (.putfield 17, 3) := by decide +kernel
theorem dX8_load_61 : decode cX8_load 61 = .ok (.iload_n 1, 1) := by decide +kernel
theorem dX8_load_62 : decode cX8_load 62 = .ok (.ifCond .ne 13, 3) := by decide +kernel
theorem dX8_load_65 : decode cX8_load 65 = .ok (.new 86, 3) := by decide +kernel
theorem dX8_load_68 : decode cX8_load 68 = .ok (.dup, 1) := by decide +kernel
theorem dX8_load_69 : decode cX8_load 69 = .ok (.ldc 101, 2) := by decide +kernel
theorem dX8_load_71 : decode cX8_load 71 = .ok (.invokespecial 90, 3) := by decide +kernel
theorem dX8_load_74 : decode cX8_load 74 = .ok (.athrow, 1) := by decide +kernel
theorem dX8_load_75 : decode cX8_load 75 = .ok (.aload_n 0, 1) := by decide +kernel
theorem dX8_load_76 : decode cX8_load 76 = .ok (.getfield 30, 3) := by decide +kernel
theorem dX8_load_79 : decode cX8_load 79 = .ok (.aload_n 0, 1) := by decide +kernel
theorem dX8_load_80 : decode cX8_load 80 = .ok (.getfield 23, 3) := by decide +kernel
theorem dX8_load_83 : decode cX8_load 83 = .ok (.getfield 103, 3) := by decide +kernel
theorem dX8_load_86 : decode cX8_load 86 = .ok (.invokevirtual 106, 3) := by decide +kernel
theorem dX8_load_89 : decode cX8_load 89 = .ok (.aload_n 0, 1) := by decide +kernel
theorem dX8_load_90 : decode cX8_load 90 = .ok (.getfield 47, 3) := by decide +kernel
theorem dX8_load_93 : decode cX8_load 93 = .ok (.invokevirtual 110, 3) := by decide +kernel
theorem dX8_load_96 : decode cX8_load 96 = .ok (.aload_n 0, 1) := by decide +kernel
theorem dX8_load_97 : decode cX8_load 97 = .ok (.iconst 0, 1) := by decide +kernel
theorem dX8_load_98 : decode cX8_load 98 = .ok (.putfield 113, 3) := by decide +kernel
theorem dX8_load_101 : decode cX8_load 101 = .ok (.aload_n 0, 1) := by decide +kernel
theorem dX8_load_102 : decode cX8_load 102 = .ok (.getfield 40, 3) := by decide +kernel
theorem dX8_load_105 : decode cX8_load 105 = .ok (.invokevirtual 117, 3) := by decide +kernel
theorem dX8_load_108 : decode cX8_load 108 = .ok (.aload_n 0, 1) := by decide +kernel
theorem dX8_load_109 : decode cX8_load 109 = .ok (.getfield 30, 3) := by decide +kernel
theorem dX8_load_112 : decode cX8_load 112 = .ok (.getfield 120, 3) := by decide +kernel
theorem dX8_load_115 : decode cX8_load 115 = .ok (.getfield 124, 3) := by decide +kernel
theorem dX8_load_118 : decode cX8_load 118 = .ok (.ireturn, 1) := by decide +kernel
theorem dX8_roundCount_0 : decode cX8_roundCount 0 = .ok (.aload_n 0, 1) := by decide +kernel
theorem dX8_roundCount_1 : decode cX8_roundCount 1 = .ok (.getfield 30, 3) := by decide +kernel
theorem dX8_roundCount_4 : decode cX8_roundCount 4 = .ok (.getfield 120, 3) := by decide +kernel
theorem dX8_roundCount_7 : decode cX8_roundCount 7 = .ok (.getfield 124, 3) := by decide +kernel
theorem dX8_roundCount_10 : decode cX8_roundCount 10 = .ok (.ireturn, 1) := by decide +kernel
theorem dX8_currentRound_0 : decode cX8_currentRound 0 = .ok (.aload_n 0, 1) := by decide +kernel
theorem dX8_currentRound_1 : decode cX8_currentRound 1 = .ok (.getfield 30, 3) := by decide +kernel
theorem dX8_currentRound_4 : decode cX8_currentRound 4 = .ok (.getfield 129, 3) := by decide +kernel
theorem dX8_currentRound_7 : decode cX8_currentRound 7 = .ok (.getfield 132, 3) := by decide +kernel
theorem dX8_currentRound_10 : decode cX8_currentRound 10 = .ok (.ireturn, 1) := by decide +kernel
theorem dX8_isRoundOver_0 : decode cX8_isRoundOver 0 = .ok (.aload_n 0, 1) := by decide +kernel
theorem dX8_isRoundOver_1 : decode cX8_isRoundOver 1 = .ok (.getfield 30, 3) := by decide +kernel
theorem dX8_isRoundOver_4 : decode cX8_isRoundOver 4 = .ok (.getfield 129, 3) := by decide +kernel
theorem dX8_isRoundOver_7 : decode cX8_isRoundOver 7 = .ok (.getfield 135, 3) := by decide +kernel
theorem dX8_isRoundOver_10 : decode cX8_isRoundOver 10 = .ok (.ireturn, 1) := by decide +kernel
theorem dX8_playerToMove_0 : decode cX8_playerToMove 0 = .ok (.aload_n 0, 1) := by decide +kernel
theorem dX8_playerToMove_1 : decode cX8_playerToMove 1 = .ok (.getfield 30, 3) := by decide +kernel
theorem dX8_playerToMove_4 : decode cX8_playerToMove 4 = .ok (.getfield 129, 3) := by decide +kernel
theorem dX8_playerToMove_7 : decode cX8_playerToMove 7 = .ok (.getfield 160, 3) := by decide +kernel
theorem dX8_playerToMove_10 : decode cX8_playerToMove 10 = .ok (.ireturn, 1) := by decide +kernel
theorem dX8_roundScore_0 : decode cX8_roundScore 0 = .ok (.aload_n 0, 1) := by decide +kernel
theorem dX8_roundScore_1 : decode cX8_roundScore 1 = .ok (.iload_n 1, 1) := by decide +kernel
theorem dX8_roundScore_2 : decode cX8_roundScore 2 = .ok (.invokevirtual 141, 3) := by decide +kernel
theorem dX8_roundScore_5 : decode cX8_roundScore 5 = .ok (.aload_n 0, 1) := by decide +kernel
theorem dX8_roundScore_6 : decode cX8_roundScore 6 = .ok (.iload_n 2, 1) := by decide +kernel
theorem dX8_roundScore_7 : decode cX8_roundScore 7 = .ok (.invokevirtual 148, 3) := by decide +kernel
theorem dX8_roundScore_10 : decode cX8_roundScore 10 = .ok (.aload_n 0, 1) := by decide +kernel
theorem dX8_roundScore_11 : decode cX8_roundScore 11 = .ok (.getfield 30, 3) := by decide +kernel
theorem dX8_roundScore_14 : decode cX8_roundScore 14 = .ok (.iload_n 1, 1) := by decide +kernel
theorem dX8_roundScore_15 : decode cX8_roundScore 15 = .ok (.iload_n 2, 1) := by decide +kernel
theorem dX8_roundScore_16 : decode cX8_roundScore 16 = .ok (.invokevirtual 163, 3) := by decide +kernel
theorem dX8_roundScore_19 : decode cX8_roundScore 19 = .ok (.ireturn, 1) := by decide +kernel
theorem dX8_chainCount_0 : decode cX8_chainCount 0 = .ok (.aload_n 0, 1) := by decide +kernel
theorem dX8_chainCount_1 : decode cX8_chainCount 1 = .ok (.getfield 30, 3) := by decide +kernel
theorem dX8_chainCount_4 : decode cX8_chainCount 4 = .ok (.invokevirtual 177, 3) := by decide +kernel
theorem dX8_chainCount_7 : decode cX8_chainCount 7 = .ok (.ireturn, 1) := by decide +kernel
theorem dX8_chainLength_0 : decode cX8_chainLength 0 = .ok (.aload_n 0, 1) := by decide +kernel
theorem dX8_chainLength_1 : decode cX8_chainLength 1 = .ok (.iload_n 1, 1) := by decide +kernel
theorem dX8_chainLength_2 : decode cX8_chainLength 2 = .ok (.invokevirtual 181, 3) := by decide +kernel
theorem dX8_chainLength_5 : decode cX8_chainLength 5 = .ok (.aload_n 0, 1) := by decide +kernel
theorem dX8_chainLength_6 : decode cX8_chainLength 6 = .ok (.getfield 30, 3) := by decide +kernel
theorem dX8_chainLength_9 : decode cX8_chainLength 9 = .ok (.iload_n 1, 1) := by decide +kernel
theorem dX8_chainLength_10 : decode cX8_chainLength 10 = .ok (.invokevirtual 184, 3) := by decide +kernel
theorem dX8_chainLength_13 : decode cX8_chainLength 13 = .ok (.ireturn, 1) := by decide +kernel
theorem dX8_leftPips_0 : decode cX8_leftPips 0 = .ok (.aload_n 0, 1) := by decide +kernel
theorem dX8_leftPips_1 : decode cX8_leftPips 1 = .ok (.iload_n 1, 1) := by decide +kernel
theorem dX8_leftPips_2 : decode cX8_leftPips 2 = .ok (.iload_n 2, 1) := by decide +kernel
theorem dX8_leftPips_3 : decode cX8_leftPips 3 = .ok (.invokevirtual 187, 3) := by decide +kernel
theorem dX8_leftPips_6 : decode cX8_leftPips 6 = .ok (.aload_n 0, 1) := by decide +kernel
theorem dX8_leftPips_7 : decode cX8_leftPips 7 = .ok (.getfield 30, 3) := by decide +kernel
theorem dX8_leftPips_10 : decode cX8_leftPips 10 = .ok (.iload_n 1, 1) := by decide +kernel
theorem dX8_leftPips_11 : decode cX8_leftPips 11 = .ok (.iload_n 2, 1) := by decide +kernel
theorem dX8_leftPips_12 : decode cX8_leftPips 12 = .ok (.invokevirtual 191, 3) := by decide +kernel
theorem dX8_leftPips_15 : decode cX8_leftPips 15 = .ok (.ireturn, 1) := by decide +kernel
theorem dX8_rightPips_0 : decode cX8_rightPips 0 = .ok (.aload_n 0, 1) := by decide +kernel
theorem dX8_rightPips_1 : decode cX8_rightPips 1 = .ok (.iload_n 1, 1) := by decide +kernel
theorem dX8_rightPips_2 : decode cX8_rightPips 2 = .ok (.iload_n 2, 1) := by decide +kernel
theorem dX8_rightPips_3 : decode cX8_rightPips 3 = .ok (.invokevirtual 187, 3) := by decide +kernel
theorem dX8_rightPips_6 : decode cX8_rightPips 6 = .ok (.aload_n 0, 1) := by decide +kernel
theorem dX8_rightPips_7 : decode cX8_rightPips 7 = .ok (.getfield 30, 3) := by decide +kernel
theorem dX8_rightPips_10 : decode cX8_rightPips 10 = .ok (.iload_n 1, 1) := by decide +kernel
theorem dX8_rightPips_11 : decode cX8_rightPips 11 = .ok (.iload_n 2, 1) := by decide +kernel
theorem dX8_rightPips_12 : decode cX8_rightPips 12 = .ok (.invokevirtual 194, 3) := by decide +kernel
theorem dX8_rightPips_15 : decode cX8_rightPips 15 = .ok (.ireturn, 1) := by decide +kernel
theorem dX8_tileScore_0 : decode cX8_tileScore 0 = .ok (.aload_n 0, 1) := by decide +kernel
theorem dX8_tileScore_1 : decode cX8_tileScore 1 = .ok (.iload_n 1, 1) := by decide +kernel
theorem dX8_tileScore_2 : decode cX8_tileScore 2 = .ok (.iload_n 2, 1) := by decide +kernel
theorem dX8_tileScore_3 : decode cX8_tileScore 3 = .ok (.invokevirtual 187, 3) := by decide +kernel
theorem dX8_tileScore_6 : decode cX8_tileScore 6 = .ok (.aload_n 0, 1) := by decide +kernel
theorem dX8_tileScore_7 : decode cX8_tileScore 7 = .ok (.getfield 30, 3) := by decide +kernel
theorem dX8_tileScore_10 : decode cX8_tileScore 10 = .ok (.iload_n 1, 1) := by decide +kernel
theorem dX8_tileScore_11 : decode cX8_tileScore 11 = .ok (.iload_n 2, 1) := by decide +kernel
theorem dX8_tileScore_12 : decode cX8_tileScore 12 = .ok (.invokevirtual 197, 3) := by decide +kernel
theorem dX8_tileScore_15 : decode cX8_tileScore 15 = .ok (.ireturn, 1) := by decide +kernel
theorem dX8_chainScore_0 : decode cX8_chainScore 0 = .ok (.aload_n 0, 1) := by decide +kernel
theorem dX8_chainScore_1 : decode cX8_chainScore 1 = .ok (.iload_n 1, 1) := by decide +kernel
theorem dX8_chainScore_2 : decode cX8_chainScore 2 = .ok (.invokevirtual 181, 3) := by decide +kernel
theorem dX8_chainScore_5 : decode cX8_chainScore 5 = .ok (.aload_n 0, 1) := by decide +kernel
theorem dX8_chainScore_6 : decode cX8_chainScore 6 = .ok (.getfield 30, 3) := by decide +kernel
theorem dX8_chainScore_9 : decode cX8_chainScore 9 = .ok (.iload_n 1, 1) := by decide +kernel
theorem dX8_chainScore_10 : decode cX8_chainScore 10 = .ok (.invokevirtual 200, 3) := by decide +kernel
theorem dX8_chainScore_13 : decode cX8_chainScore 13 = .ok (.ireturn, 1) := by decide +kernel
theorem dX8_remainingScore_0 : decode cX8_remainingScore 0 = .ok (.iconst 0, 1) := by decide +kernel
theorem dX8_remainingScore_1 : decode cX8_remainingScore 1 = .ok (.istore_n 1, 1) := by decide +kernel
theorem dX8_remainingScore_2 : decode cX8_remainingScore 2 = .ok (.iconst 0, 1) := by decide +kernel
theorem dX8_remainingScore_3 : decode cX8_remainingScore 3 = .ok (.istore_n 2, 1) := by decide +kernel
theorem dX8_remainingScore_4 : decode cX8_remainingScore 4 = .ok (.iload_n 2, 1) := by decide +kernel
theorem dX8_remainingScore_5 : decode cX8_remainingScore 5 = .ok (.aload_n 0, 1) := by decide +kernel
theorem dX8_remainingScore_6 : decode cX8_remainingScore 6 = .ok (.getfield 30, 3) := by decide +kernel
theorem dX8_remainingScore_9 : decode cX8_remainingScore 9 = .ok (.invokevirtual 177, 3) := by decide +kernel
theorem dX8_remainingScore_12 : decode cX8_remainingScore 12 = .ok (.if_icmp .ge 20, 3) := by decide +kernel
theorem dX8_remainingScore_15 : decode cX8_remainingScore 15 = .ok (.iload_n 1, 1) := by decide +kernel
theorem dX8_remainingScore_16 : decode cX8_remainingScore 16 = .ok (.aload_n 0, 1) := by decide +kernel
theorem dX8_remainingScore_17 : decode cX8_remainingScore 17 = .ok (.getfield 30, 3) := by decide +kernel
theorem dX8_remainingScore_20 : decode cX8_remainingScore 20 = .ok (.iload_n 2, 1) := by decide +kernel
theorem dX8_remainingScore_21 : decode cX8_remainingScore 21 = .ok (.invokevirtual 200, 3) := by decide +kernel
theorem dX8_remainingScore_24 : decode cX8_remainingScore 24 = .ok (.iadd, 1) := by decide +kernel
theorem dX8_remainingScore_25 : decode cX8_remainingScore 25 = .ok (.istore_n 1, 1) := by decide +kernel
theorem dX8_remainingScore_26 : decode cX8_remainingScore 26 = .ok (.iinc 2 1, 3) := by decide +kernel
theorem dX8_remainingScore_29 : decode cX8_remainingScore 29 = .ok (.goto (-25), 3) := by decide +kernel
theorem dX8_remainingScore_32 : decode cX8_remainingScore 32 = .ok (.iload_n 1, 1) := by decide +kernel
theorem dX8_remainingScore_33 : decode cX8_remainingScore 33 = .ok (.ireturn, 1) := by decide +kernel
theorem dX8_moveCount_0 : decode cX8_moveCount 0 = .ok (.aload_n 0, 1) := by decide +kernel
theorem dX8_moveCount_1 : decode cX8_moveCount 1 = .ok (.getfield 30, 3) := by decide +kernel
theorem dX8_moveCount_4 : decode cX8_moveCount 4 = .ok (.invokevirtual 205, 3) := by decide +kernel
theorem dX8_moveCount_7 : decode cX8_moveCount 7 = .ok (.ireturn, 1) := by decide +kernel
theorem dX8_isPass_0 : decode cX8_isPass 0 = .ok (.aload_n 0, 1) := by decide +kernel
theorem dX8_isPass_1 : decode cX8_isPass 1 = .ok (.iload_n 1, 1) := by decide +kernel
theorem dX8_isPass_2 : decode cX8_isPass 2 = .ok (.invokevirtual 208, 3) := by decide +kernel
theorem dX8_isPass_5 : decode cX8_isPass 5 = .ok (.bipush 6, 2) := by decide +kernel
theorem dX8_isPass_7 : decode cX8_isPass 7 = .ok (.if_icmp .ne 7, 3) := by decide +kernel
theorem dX8_isPass_10 : decode cX8_isPass 10 = .ok (.iconst 1, 1) := by decide +kernel
theorem dX8_isPass_11 : decode cX8_isPass 11 = .ok (.goto 4, 3) := by decide +kernel
theorem dX8_isPass_14 : decode cX8_isPass 14 = .ok (.iconst 0, 1) := by decide +kernel
theorem dX8_isPass_15 : decode cX8_isPass 15 = .ok (.ireturn, 1) := by decide +kernel
theorem dX8_moveChain_0 : decode cX8_moveChain 0 = .ok (.aload_n 0, 1) := by decide +kernel
theorem dX8_moveChain_1 : decode cX8_moveChain 1 = .ok (.iload_n 1, 1) := by decide +kernel
theorem dX8_moveChain_2 : decode cX8_moveChain 2 = .ok (.invokevirtual 208, 3) := by decide +kernel
theorem dX8_moveChain_5 : decode cX8_moveChain 5 = .ok (.invokestatic 211, 3) := by decide +kernel
theorem dX8_moveChain_8 : decode cX8_moveChain 8 = .ok (.ireturn, 1) := by decide +kernel
theorem dX8_isLeftBurn_0 : decode cX8_isLeftBurn 0 = .ok (.aload_n 0, 1) := by decide +kernel
theorem dX8_isLeftBurn_1 : decode cX8_isLeftBurn 1 = .ok (.iload_n 1, 1) := by decide +kernel
theorem dX8_isLeftBurn_2 : decode cX8_isLeftBurn 2 = .ok (.invokevirtual 208, 3) := by decide +kernel
theorem dX8_isLeftBurn_5 : decode cX8_isLeftBurn 5 = .ok (.istore_n 2, 1) := by decide +kernel
theorem dX8_isLeftBurn_6 : decode cX8_isLeftBurn 6 = .ok (.iload_n 2, 1) := by decide +kernel
theorem dX8_isLeftBurn_7 : decode cX8_isLeftBurn 7 = .ok (.bipush 6, 2) := by decide +kernel
theorem dX8_isLeftBurn_9 : decode cX8_isLeftBurn 9 = .ok (.if_icmp .eq 14, 3) := by decide +kernel
theorem dX8_isLeftBurn_12 : decode cX8_isLeftBurn 12 = .ok (.iload_n 2, 1) := by decide +kernel
theorem dX8_isLeftBurn_13 : decode cX8_isLeftBurn 13 = .ok (.invokestatic 214, 3) := by decide +kernel
theorem dX8_isLeftBurn_16 : decode cX8_isLeftBurn 16 = .ok (.ifCond .eq 7, 3) := by decide +kernel
theorem dX8_isLeftBurn_19 : decode cX8_isLeftBurn 19 = .ok (.iconst 1, 1) := by decide +kernel
theorem dX8_isLeftBurn_20 : decode cX8_isLeftBurn 20 = .ok (.goto 4, 3) := by decide +kernel
theorem dX8_isLeftBurn_23 : decode cX8_isLeftBurn 23 = .ok (.iconst 0, 1) := by decide +kernel
theorem dX8_isLeftBurn_24 : decode cX8_isLeftBurn 24 = .ok (.ireturn, 1) := by decide +kernel
theorem dX8_moveScore_0 : decode cX8_moveScore 0 = .ok (.aload_n 0, 1) := by decide +kernel
theorem dX8_moveScore_1 : decode cX8_moveScore 1 = .ok (.getfield 30, 3) := by decide +kernel
theorem dX8_moveScore_4 : decode cX8_moveScore 4 = .ok (.aload_n 0, 1) := by decide +kernel
theorem dX8_moveScore_5 : decode cX8_moveScore 5 = .ok (.iload_n 1, 1) := by decide +kernel
theorem dX8_moveScore_6 : decode cX8_moveScore 6 = .ok (.invokevirtual 208, 3) := by decide +kernel
theorem dX8_moveScore_9 : decode cX8_moveScore 9 = .ok (.invokevirtual 218, 3) := by decide +kernel
theorem dX8_moveScore_12 : decode cX8_moveScore 12 = .ok (.ireturn, 1) := by decide +kernel
theorem dX8_highestEndScore_0 : decode cX8_highestEndScore 0 = .ok (.aload_n 0, 1) := by decide +kernel
theorem dX8_highestEndScore_1 : decode cX8_highestEndScore 1 = .ok (.getfield 30, 3) := by decide +kernel
theorem dX8_highestEndScore_4 : decode cX8_highestEndScore 4 = .ok (.invokevirtual 233, 3) := by decide +kernel
theorem dX8_highestEndScore_7 : decode cX8_highestEndScore 7 = .ok (.istore_n 1, 1) := by decide +kernel
theorem dX8_highestEndScore_8 : decode cX8_highestEndScore 8 = .ok (.iload_n 1, 1) := by decide +kernel
theorem dX8_highestEndScore_9 : decode cX8_highestEndScore 9 = .ok (.iconst (-1), 1) := by decide +kernel
theorem dX8_highestEndScore_10 : decode cX8_highestEndScore 10 = .ok (.if_icmp .ne 7, 3) := by decide +kernel
theorem dX8_highestEndScore_13 : decode cX8_highestEndScore 13 = .ok (.iconst 0, 1) := by decide +kernel
theorem dX8_highestEndScore_14 : decode cX8_highestEndScore 14 = .ok (.goto 18, 3) := by decide +kernel
theorem dX8_highestEndScore_17 : decode cX8_highestEndScore 17 = .ok (.aload_n 0, 1) := by decide +kernel
theorem dX8_highestEndScore_18 : decode cX8_highestEndScore 18 = .ok (.getfield 30, 3) := by decide +kernel
theorem dX8_highestEndScore_21 : decode cX8_highestEndScore 21 = .ok (.aload_n 0, 1) := by decide +kernel
theorem dX8_highestEndScore_22 : decode cX8_highestEndScore 22 = .ok (.getfield 30, 3) := by decide +kernel
theorem dX8_highestEndScore_25 : decode cX8_highestEndScore 25 = .ok (.iload_n 1, 1) := by decide +kernel
theorem dX8_highestEndScore_26 : decode cX8_highestEndScore 26 = .ok (.invokevirtual 236, 3) := by decide +kernel
theorem dX8_highestEndScore_29 : decode cX8_highestEndScore 29 = .ok (.invokevirtual 218, 3) := by decide +kernel
theorem dX8_highestEndScore_32 : decode cX8_highestEndScore 32 = .ok (.ireturn, 1) := by decide +kernel
theorem dX8_optimalDifference_0 : decode cX8_optimalDifference 0 = .ok (.aload_n 0, 1) := by decide +kernel
theorem dX8_optimalDifference_1 : decode cX8_optimalDifference 1 = .ok (.getfield 40, 3) := by decide +kernel
