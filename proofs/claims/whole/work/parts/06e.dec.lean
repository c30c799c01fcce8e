theorem dX9_reads_97 : decode cX9_reads 97 = .ok (.iconst 1, 1) := by decide +kernel
theorem dX9_reads_98 : decode cX9_reads 98 = .ok (.ireturn, 1) := by decide +kernel
theorem dX9_readsRound_0 : decode cX9_readsRound 0 = .ok (.aload_n 0, 1) := by decide +kernel
theorem dX9_readsRound_1 : decode cX9_readsRound 1 = .ok (.iconst 0, 1) := by decide +kernel
theorem dX9_readsRound_2 : decode cX9_readsRound 2 = .ok (.invokevirtual 46, 3) := by decide +kernel
theorem dX9_readsRound_5 : decode cX9_readsRound 5 = .ok (.istore_n 1, 1) := by decide +kernel
theorem dX9_readsRound_6 : decode cX9_readsRound 6 = .ok (.aload_n 0, 1) := by decide +kernel
theorem dX9_readsRound_7 : decode cX9_readsRound 7 = .ok (.iconst 0, 1) := by decide +kernel
theorem dX9_readsRound_8 : decode cX9_readsRound 8 = .ok (.iload_n 1, 1) := by decide +kernel
theorem dX9_readsRound_9 : decode cX9_readsRound 9 = .ok (.iconst 1, 1) := by decide +kernel
theorem dX9_readsRound_10 : decode cX9_readsRound 10 = .ok (.iadd, 1) := by decide +kernel
theorem dX9_readsRound_11 : decode cX9_readsRound 11 = .ok (.invokevirtual 32, 3) := by decide +kernel
theorem dX9_readsRound_14 : decode cX9_readsRound 14 = .ok (.aload_n 0, 1) := by decide +kernel
theorem dX9_readsRound_15 : decode cX9_readsRound 15 = .ok (.invokevirtual 178, 3) := by decide +kernel
theorem dX9_readsRound_18 : decode cX9_readsRound 18 = .ok (.ifCond .ne 5, 3) := by decide +kernel
theorem dX9_readsRound_21 : decode cX9_readsRound 21 = .ok (.iconst 0, 1) := by decide +kernel
theorem dX9_readsRound_22 : decode cX9_readsRound 22 = .ok (.ireturn, 1) := by decide +kernel
theorem dX9_readsRound_23 : decode cX9_readsRound 23 = .ok (.aload_n 0, 1) := by decide +kernel
theorem dX9_readsRound_24 : decode cX9_readsRound 24 = .ok (.iload_n 1, 1) := by decide +kernel
theorem dX9_readsRound_25 : decode cX9_readsRound 25 = .ok (.invokevirtual 198, 3) := by decide +kernel
theorem dX9_readsRound_28 : decode cX9_readsRound 28 = .ok (.ifCond .ne 5, 3) := by decide +kernel
theorem dX9_readsRound_31 : decode cX9_readsRound 31 = .ok (.iconst 0, 1) := by decide +kernel
theorem dX9_readsRound_32 : decode cX9_readsRound 32 = .ok (.ireturn, 1) := by decide +kernel
theorem dX9_readsRound_33 : decode cX9_readsRound 33 = .ok (.aload_n 0, 1) := by decide +kernel
theorem dX9_readsRound_34 : decode cX9_readsRound 34 = .ok (.getfield 172, 3) := by decide +kernel
theorem dX9_readsRound_37 : decode cX9_readsRound 37 = .ok (.iconst 3, 1) := by decide +kernel
theorem dX9_readsRound_38 : decode cX9_readsRound 38 = .ok (.if_icmp .ne 5, 3) := by decide +kernel
theorem dX9_readsRound_41 : decode cX9_readsRound 41 = .ok (.iconst 1, 1) := by decide +kernel
theorem dX9_readsRound_42 : decode cX9_readsRound 42 = .ok (.ireturn, 1) := by decide +kernel
theorem dX9_readsRound_43 : decode cX9_readsRound 43 = .ok (.aload_n 0, 1) := by decide +kernel
theorem dX9_readsRound_44 : decode cX9_readsRound 44 = .ok (.getfield 172, 3) := by decide +kernel
theorem dX9_readsRound_47 : decode cX9_readsRound 47 = .ok (.iconst 4, 1) := by decide +kernel
theorem dX9_readsRound_48 : decode cX9_readsRound 48 = .ok (.if_icmp .eq 9, 3) := by decide +kernel
theorem dX9_readsRound_51 : decode cX9_readsRound 51 = .ok (.aload_n 0, 1) := by decide +kernel
theorem dX9_readsRound_52 : decode cX9_readsRound 52 = .ok (.iconst 1, 1) := by decide +kernel
theorem dX9_readsRound_53 : decode cX9_readsRound 53 = .ok (.invokevirtual 175, 3) := by decide +kernel
theorem dX9_readsRound_56 : decode cX9_readsRound 56 = .ok (.ireturn, 1) := by decide +kernel
theorem dX9_readsRound_57 : decode cX9_readsRound 57 = .ok (.aload_n 0, 1) := by decide +kernel
theorem dX9_readsRound_58 : decode cX9_readsRound 58 = .ok (.bipush 18, 2) := by decide +kernel
theorem dX9_readsRound_60 : decode cX9_readsRound 60 = .ok (.iload_n 1, 1) := by decide +kernel
theorem dX9_readsRound_61 : decode cX9_readsRound 61 = .ok (.iadd, 1) := by decide +kernel
theorem dX9_readsRound_62 : decode cX9_readsRound 62 = .ok (.invokevirtual 46, 3) := by decide +kernel
theorem dX9_readsRound_65 : decode cX9_readsRound 65 = .ok (.iconst 3, 1) := by decide +kernel
theorem dX9_readsRound_66 : decode cX9_readsRound 66 = .ok (.if_icmp .ne 9, 3) := by decide +kernel
theorem dX9_readsRound_69 : decode cX9_readsRound 69 = .ok (.aload_n 0, 1) := by decide +kernel
theorem dX9_readsRound_70 : decode cX9_readsRound 70 = .ok (.iconst 5, 1) := by decide +kernel
theorem dX9_readsRound_71 : decode cX9_readsRound 71 = .ok (.invokevirtual 175, 3) := by decide +kernel
theorem dX9_readsRound_74 : decode cX9_readsRound 74 = .ok (.ireturn, 1) := by decide +kernel
theorem dX9_readsRound_75 : decode cX9_readsRound 75 = .ok (.aload_n 0, 1) := by decide +kernel
theorem dX9_readsRound_76 : decode cX9_readsRound 76 = .ok (.invokevirtual 178, 3) := by decide +kernel
theorem dX9_readsRound_79 : decode cX9_readsRound 79 = .ok (.ifCond .ne (-56), 3) := by decide +kernel
theorem dX9_readsRound_82 : decode cX9_readsRound 82 = .ok (.iconst 0, 1) := by decide +kernel
theorem dX9_readsRound_83 : decode cX9_readsRound 83 = .ok (.ireturn, 1) := by decide +kernel
theorem dX9_readsChain_0 : decode cX9_readsChain 0 = .ok (.aload_n 0, 1) := by decide +kernel
theorem dX9_readsChain_1 : decode cX9_readsChain 1 = .ok (.bipush 18, 2) := by decide +kernel
theorem dX9_readsChain_3 : decode cX9_readsChain 3 = .ok (.iload_n 1, 1) := by decide +kernel
theorem dX9_readsChain_4 : decode cX9_readsChain 4 = .ok (.iadd, 1) := by decide +kernel
theorem dX9_readsChain_5 : decode cX9_readsChain 5 = .ok (.invokevirtual 46, 3) := by decide +kernel
theorem dX9_readsChain_8 : decode cX9_readsChain 8 = .ok (.istore_n 2, 1) := by decide +kernel
theorem dX9_readsChain_9 : decode cX9_readsChain 9 = .ok (.aload_n 0, 1) := by decide +kernel
theorem dX9_readsChain_10 : decode cX9_readsChain 10 = .ok (.bipush 18, 2) := by decide +kernel
theorem dX9_readsChain_12 : decode cX9_readsChain 12 = .ok (.iload_n 1, 1) := by decide +kernel
theorem dX9_readsChain_13 : decode cX9_readsChain 13 = .ok (.iadd, 1) := by decide +kernel
theorem dX9_readsChain_14 : decode cX9_readsChain 14 = .ok (.iload_n 2, 1) := by decide +kernel
theorem dX9_readsChain_15 : decode cX9_readsChain 15 = .ok (.iconst 1, 1) := by decide +kernel
theorem dX9_readsChain_16 : decode cX9_readsChain 16 = .ok (.iadd, 1) := by decide +kernel
theorem dX9_readsChain_17 : decode cX9_readsChain 17 = .ok (.invokevirtual 32, 3) := by decide +kernel
theorem dX9_readsChain_20 : decode cX9_readsChain 20 = .ok (.iconst 0, 1) := by decide +kernel
theorem dX9_readsChain_21 : decode cX9_readsChain 21 = .ok (.istore_n 3, 1) := by decide +kernel
theorem dX9_readsChain_22 : decode cX9_readsChain 22 = .ok (.aload_n 0, 1) := by decide +kernel
theorem dX9_readsChain_23 : decode cX9_readsChain 23 = .ok (.getfield 172, 3) := by decide +kernel
theorem dX9_readsChain_26 : decode cX9_readsChain 26 = .ok (.iconst 2, 1) := by decide +kernel
theorem dX9_readsChain_27 : decode cX9_readsChain 27 = .ok (.if_icmp .ne 16, 3) := by decide +kernel
theorem dX9_readsChain_30 : decode cX9_readsChain 30 = .ok (.aload_n 0, 1) := by decide +kernel
theorem dX9_readsChain_31 : decode cX9_readsChain 31 = .ok (.getfield 162, 3) := by decide +kernel
theorem dX9_readsChain_34 : decode cX9_readsChain 34 = .ok (.aload_n 0, 1) := by decide +kernel
theorem dX9_readsChain_35 : decode cX9_readsChain 35 = .ok (.getfield 169, 3) := by decide +kernel
theorem dX9_readsChain_38 : decode cX9_readsChain 38 = .ok (.isub, 1) := by decide +kernel
theorem dX9_readsChain_39 : decode cX9_readsChain 39 = .ok (.iconst 2, 1) := by decide +kernel
theorem dX9_readsChain_40 : decode cX9_readsChain 40 = .ok (.if_icmp .eq 9, 3) := by decide +kernel
theorem dX9_readsChain_43 : decode cX9_readsChain 43 = .ok (.aload_n 0, 1) := by decide +kernel
theorem dX9_readsChain_44 : decode cX9_readsChain 44 = .ok (.iconst 1, 1) := by decide +kernel
theorem dX9_readsChain_45 : decode cX9_readsChain 45 = .ok (.invokevirtual 175, 3) := by decide +kernel
theorem dX9_readsChain_48 : decode cX9_readsChain 48 = .ok (.ireturn, 1) := by decide +kernel
theorem dX9_readsChain_49 : decode cX9_readsChain 49 = .ok (.bipush 10, 2) := by decide +kernel
theorem dX9_readsChain_51 : decode cX9_readsChain 51 = .ok (.aload_n 0, 1) := by decide +kernel
theorem dX9_readsChain_52 : decode cX9_readsChain 52 = .ok (.getfield 13, 3) := by decide +kernel
theorem dX9_readsChain_55 : decode cX9_readsChain 55 = .ok (.aload_n 0, 1) := by decide +kernel
theorem dX9_readsChain_56 : decode cX9_readsChain 56 = .ok (.getfield 169, 3) := by decide +kernel
theorem dX9_readsChain_59 : decode cX9_readsChain 59 = .ok (.baload, 1) := by decide +kernel
theorem dX9_readsChain_60 : decode cX9_readsChain 60 = .ok (.bipush 48, 2) := by decide +kernel
theorem dX9_readsChain_62 : decode cX9_readsChain 62 = .ok (.isub, 1) := by decide +kernel
theorem dX9_readsChain_63 : decode cX9_readsChain 63 = .ok (.imul, 1) := by decide +kernel
theorem dX9_readsChain_64 : decode cX9_readsChain 64 = .ok (.aload_n 0, 1) := by decide +kernel
theorem dX9_readsChain_65 : decode cX9_readsChain 65 = .ok (.getfield 13, 3) := by decide +kernel
theorem dX9_readsChain_68 : decode cX9_readsChain 68 = .ok (.aload_n 0, 1) := by decide +kernel
theorem dX9_readsChain_69 : decode cX9_readsChain 69 = .ok (.getfield 169, 3) := by decide +kernel
theorem dX9_readsChain_72 : decode cX9_readsChain 72 = .ok (.iconst 1, 1) := by decide +kernel
theorem dX9_readsChain_73 : decode cX9_readsChain 73 = .ok (.iadd, 1) := by decide +kernel
theorem dX9_readsChain_74 : decode cX9_readsChain 74 = .ok (.baload, 1) := by decide +kernel
theorem dX9_readsChain_75 : decode cX9_readsChain 75 = .ok (.iadd, 1) := by decide +kernel
theorem dX9_readsChain_76 : decode cX9_readsChain 76 = .ok (.bipush 48, 2) := by decide +kernel
theorem dX9_readsChain_78 : decode cX9_readsChain 78 = .ok (.isub, 1) := by decide +kernel
theorem dX9_readsChain_79 : decode cX9_readsChain 79 = .ok (.istore 4, 2) := by decide +kernel
theorem dX9_readsChain_81 : decode cX9_readsChain 81 = .ok (.iload 4, 2) := by decide +kernel
theorem dX9_readsChain_83 : decode cX9_readsChain 83 = .ok (.bipush 10, 2) := by decide +kernel
theorem dX9_readsChain_85 : decode cX9_readsChain 85 = .ok (.idiv, 1) := by decide +kernel
theorem dX9_readsChain_86 : decode cX9_readsChain 86 = .ok (.bipush 6, 2) := by decide +kernel
theorem dX9_readsChain_88 : decode cX9_readsChain 88 = .ok (.if_icmp .gt 13, 3) := by decide +kernel
theorem dX9_readsChain_91 : decode cX9_readsChain 91 = .ok (.iload 4, 2) := by decide +kernel
theorem dX9_readsChain_93 : decode cX9_readsChain 93 = .ok (.bipush 10, 2) := by decide +kernel
theorem dX9_readsChain_95 : decode cX9_readsChain 95 = .ok (.irem, 1) := by decide +kernel
theorem dX9_readsChain_96 : decode cX9_readsChain 96 = .ok (.bipush 6, 2) := by decide +kernel
theorem dX9_readsChain_98 : decode cX9_readsChain 98 = .ok (.if_icmp .le 9, 3) := by decide +kernel
theorem dX9_readsChain_101 : decode cX9_readsChain 101 = .ok (.aload_n 0, 1) := by decide +kernel
theorem dX9_readsChain_102 : decode cX9_readsChain 102 = .ok (.iconst 2, 1) := by decide +kernel
theorem dX9_readsChain_103 : decode cX9_readsChain 103 = .ok (.invokevirtual 175, 3) := by decide +kernel
theorem dX9_readsChain_106 : decode cX9_readsChain 106 = .ok (.ireturn, 1) := by decide +kernel
theorem dX9_readsChain_107 : decode cX9_readsChain 107 = .ok (.iload_n 3, 1) := by decide +kernel
theorem dX9_readsChain_108 : decode cX9_readsChain 108 = .ok (.ifCond .le 32, 3) := by decide +kernel
theorem dX9_readsChain_111 : decode cX9_readsChain 111 = .ok (.aload_n 0, 1) := by decide +kernel
theorem dX9_readsChain_112 : decode cX9_readsChain 112 = .ok (.iload_n 1, 1) := by decide +kernel
theorem dX9_readsChain_113 : decode cX9_readsChain 113 = .ok (.iload_n 2, 1) := by decide +kernel
theorem dX9_readsChain_114 : decode cX9_readsChain 114 = .ok (.iload_n 3, 1) := by decide +kernel
theorem dX9_readsChain_115 : decode cX9_readsChain 115 = .ok (.iconst 1, 1) := by decide +kernel
theorem dX9_readsChain_116 : decode cX9_readsChain 116 = .ok (.isub, 1) := by decide +kernel
theorem dX9_readsChain_117 : decode cX9_readsChain 117 = .ok (.invokestatic 63, 3) := by decide +kernel
theorem dX9_readsChain_120 : decode cX9_readsChain 120 = .ok (.invokevirtual 46, 3) := by decide +kernel
theorem dX9_readsChain_123 : decode cX9_readsChain 123 = .ok (.bipush 10, 2) := by decide +kernel
theorem dX9_readsChain_125 : decode cX9_readsChain 125 = .ok (.irem, 1) := by decide +kernel
theorem dX9_readsChain_126 : decode cX9_readsChain 126 = .ok (.iload 4, 2) := by decide +kernel
theorem dX9_readsChain_128 : decode cX9_readsChain 128 = .ok (.bipush 10, 2) := by decide +kernel
theorem dX9_readsChain_130 : decode cX9_readsChain 130 = .ok (.idiv, 1) := by decide +kernel
theorem dX9_readsChain_131 : decode cX9_readsChain 131 = .ok (.if_icmp .eq 9, 3) := by decide +kernel
theorem dX9_readsChain_134 : decode cX9_readsChain 134 = .ok (.aload_n 0, 1) := by decide +kernel
theorem dX9_readsChain_135 : decode cX9_readsChain 135 = .ok (.iconst 3, 1) := by decide +kernel
theorem dX9_readsChain_136 : decode cX9_readsChain 136 = .ok (.invokevirtual 175, 3) := by decide +kernel
theorem dX9_readsChain_139 : decode cX9_readsChain 139 = .ok (.ireturn, 1) := by decide +kernel
theorem dX9_readsChain_140 : decode cX9_readsChain 140 = .ok (.aload_n 0, 1) := by decide +kernel
theorem dX9_readsChain_141 : decode cX9_readsChain 141 = .ok (.iload_n 1, 1) := by decide +kernel
theorem dX9_readsChain_142 : decode cX9_readsChain 142 = .ok (.iload 4, 2) := by decide +kernel
theorem dX9_readsChain_144 : decode cX9_readsChain 144 = .ok (.invokevirtual 201, 3) := by decide +kernel
theorem dX9_readsChain_147 : decode cX9_readsChain 147 = .ok (.ifCond .eq 9, 3) := by decide +kernel
theorem dX9_readsChain_150 : decode cX9_readsChain 150 = .ok (.aload_n 0, 1) := by decide +kernel
theorem dX9_readsChain_151 : decode cX9_readsChain 151 = .ok (.iconst 4, 1) := by decide +kernel
theorem dX9_readsChain_152 : decode cX9_readsChain 152 = .ok (.invokevirtual 175, 3) := by decide +kernel
theorem dX9_readsChain_155 : decode cX9_readsChain 155 = .ok (.ireturn, 1) := by decide +kernel
theorem dX9_readsChain_156 : decode cX9_readsChain 156 = .ok (.iload_n 3, 1) := by decide +kernel
theorem dX9_readsChain_157 : decode cX9_readsChain 157 = .ok (.bipush 8, 2) := by decide +kernel
theorem dX9_readsChain_159 : decode cX9_readsChain 159 = .ok (.if_icmp .ne 9, 3) := by decide +kernel
theorem dX9_readsChain_162 : decode cX9_readsChain 162 = .ok (.aload_n 0, 1) := by decide +kernel
theorem dX9_readsChain_163 : decode cX9_readsChain 163 = .ok (.iconst 5, 1) := by decide +kernel
theorem dX9_readsChain_164 : decode cX9_readsChain 164 = .ok (.invokevirtual 175, 3) := by decide +kernel
theorem dX9_readsChain_167 : decode cX9_readsChain 167 = .ok (.ireturn, 1) := by decide +kernel
theorem dX9_readsChain_168 : decode cX9_readsChain 168 = .ok (.aload_n 0, 1) := by decide +kernel
theorem dX9_readsChain_169 : decode cX9_readsChain 169 = .ok (.iload_n 1, 1) := by decide +kernel
theorem dX9_readsChain_170 : decode cX9_readsChain 170 = .ok (.iload_n 2, 1) := by decide +kernel
theorem dX9_readsChain_171 : decode cX9_readsChain 171 = .ok (.iload_n 3, 1) := by decide +kernel
theorem dX9_readsChain_172 : decode cX9_readsChain 172 = .ok (.invokestatic 63, 3) := by decide +kernel
theorem dX9_readsChain_175 : decode cX9_readsChain 175 = .ok (.iload 4, 2) := by decide +kernel
theorem dX9_readsChain_177 : decode cX9_readsChain 177 = .ok (.invokevirtual 32, 3) := by decide +kernel
theorem dX9_readsChain_180 : decode cX9_readsChain 180 = .ok (.iinc 3 1, 3) := by decide +kernel
theorem dX9_readsChain_183 : decode cX9_readsChain 183 = .ok (.aload_n 0, 1) := by decide +kernel
theorem dX9_readsChain_184 : decode cX9_readsChain 184 = .ok (.bipush 22, 2) := by decide +kernel
theorem dX9_readsChain_186 : decode cX9_readsChain 186 = .ok (.iconst 3, 1) := by decide +kernel
theorem dX9_readsChain_187 : decode cX9_readsChain 187 = .ok (.iload_n 1, 1) := by decide +kernel
theorem dX9_readsChain_188 : decode cX9_readsChain 188 = .ok (.imul, 1) := by decide +kernel
theorem dX9_readsChain_189 : decode cX9_readsChain 189 = .ok (.iadd, 1) := by decide +kernel
theorem dX9_readsChain_190 : decode cX9_readsChain 190 = .ok (.iload_n 2, 1) := by decide +kernel
theorem dX9_readsChain_191 : decode cX9_readsChain 191 = .ok (.iadd, 1) := by decide +kernel
theorem dX9_readsChain_192 : decode cX9_readsChain 192 = .ok (.iload_n 3, 1) := by decide +kernel
theorem dX9_readsChain_193 : decode cX9_readsChain 193 = .ok (.invokevirtual 32, 3) := by decide +kernel
theorem dX9_readsChain_196 : decode cX9_readsChain 196 = .ok (.aload_n 0, 1) := by decide +kernel
theorem dX9_readsChain_197 : decode cX9_readsChain 197 = .ok (.invokevirtual 178, 3) := by decide +kernel
theorem dX9_readsChain_200 : decode cX9_readsChain 200 = .ok (.ifCond .ne 5, 3) := by decide +kernel
theorem dX9_readsChain_203 : decode cX9_readsChain 203 = .ok (.iconst 0, 1) := by decide +kernel
theorem dX9_readsChain_204 : decode cX9_readsChain 204 = .ok (.ireturn, 1) := by decide +kernel
theorem dX9_readsChain_205 : decode cX9_readsChain 205 = .ok (.aload_n 0, 1) := by decide +kernel
theorem dX9_readsChain_206 : decode cX9_readsChain 206 = .ok (.getfield 172, 3) := by decide +kernel
theorem dX9_readsChain_209 : decode cX9_readsChain 209 = .ok (.iconst 2, 1) := by decide +kernel
theorem dX9_readsChain_210 : decode cX9_readsChain 210 = .ok (.if_icmp .eq (-188), 3) := by decide +kernel
theorem dX9_readsChain_213 : decode cX9_readsChain 213 = .ok (.iconst 1, 1) := by decide +kernel
theorem dX9_readsChain_214 : decode cX9_readsChain 214 = .ok (.ireturn, 1) := by decide +kernel
theorem dX9_isThere_0 : decode cX9_isThere 0 = .ok (.iconst 0, 1) := by decide +kernel
theorem dX9_isThere_1 : decode cX9_isThere 1 = .ok (.istore_n 3, 1) := by decide +kernel
theorem dX9_isThere_2 : decode cX9_isThere 2 = .ok (.iload_n 3, 1) := by decide +kernel
theorem dX9_isThere_3 : decode cX9_isThere 3 = .ok (.aload_n 0, 1) := by decide +kernel
theorem dX9_isThere_4 : decode cX9_isThere 4 = .ok (.bipush 18, 2) := by decide +kernel
theorem dX9_isThere_6 : decode cX9_isThere 6 = .ok (.iload_n 1, 1) := by decide +kernel
theorem dX9_isThere_7 : decode cX9_isThere 7 = .ok (.iadd, 1) := by decide +kernel
theorem dX9_isThere_8 : decode cX9_isThere 8 = .ok (.invokevirtual 46, 3) := by decide +kernel
theorem dX9_isThere_11 : decode cX9_isThere 11 = .ok (.if_icmp .ge 80, 3) := by decide +kernel
theorem dX9_isThere_14 : decode cX9_isThere 14 = .ok (.iconst 0, 1) := by decide +kernel
theorem dX9_isThere_15 : decode cX9_isThere 15 = .ok (.istore 4, 2) := by decide +kernel
theorem dX9_isThere_17 : decode cX9_isThere 17 = .ok (.iload 4, 2) := by decide +kernel
theorem dX9_isThere_19 : decode cX9_isThere 19 = .ok (.aload_n 0, 1) := by decide +kernel
theorem dX9_isThere_20 : decode cX9_isThere 20 = .ok (.bipush 22, 2) := by decide +kernel
theorem dX9_isThere_22 : decode cX9_isThere 22 = .ok (.iconst 3, 1) := by decide +kernel
theorem dX9_isThere_23 : decode cX9_isThere 23 = .ok (.iload_n 1, 1) := by decide +kernel
theorem dX9_isThere_24 : decode cX9_isThere 24 = .ok (.imul, 1) := by decide +kernel
theorem dX9_isThere_25 : decode cX9_isThere 25 = .ok (.iadd, 1) := by decide +kernel
theorem dX9_isThere_26 : decode cX9_isThere 26 = .ok (.iload_n 3, 1) := by decide +kernel
theorem dX9_isThere_27 : decode cX9_isThere 27 = .ok (.iadd, 1) := by decide +kernel
theorem dX9_isThere_28 : decode cX9_isThere 28 = .ok (.invokevirtual 46, 3) := by decide +kernel
theorem dX9_isThere_31 : decode cX9_isThere 31 = .ok (.if_icmp .ge 54, 3) := by decide +kernel
theorem dX9_isThere_34 : decode cX9_isThere 34 = .ok (.aload_n 0, 1) := by decide +kernel
theorem dX9_isThere_35 : decode cX9_isThere 35 = .ok (.iload_n 1, 1) := by decide +kernel
theorem dX9_isThere_36 : decode cX9_isThere 36 = .ok (.iload_n 3, 1) := by decide +kernel
theorem dX9_isThere_37 : decode cX9_isThere 37 = .ok (.iload 4, 2) := by decide +kernel
theorem dX9_isThere_39 : decode cX9_isThere 39 = .ok (.invokestatic 63, 3) := by decide +kernel
theorem dX9_isThere_42 : decode cX9_isThere 42 = .ok (.invokevirtual 46, 3) := by decide +kernel
theorem dX9_isThere_45 : decode cX9_isThere 45 = .ok (.istore 5, 2) := by decide +kernel
theorem dX9_isThere_47 : decode cX9_isThere 47 = .ok (.iload 5, 2) := by decide +kernel
theorem dX9_isThere_49 : decode cX9_isThere 49 = .ok (.iload_n 2, 1) := by decide +kernel
theorem dX9_isThere_50 : decode cX9_isThere 50 = .ok (.if_icmp .eq 27, 3) := by decide +kernel
theorem dX9_isThere_53 : decode cX9_isThere 53 = .ok (.iload 5, 2) := by decide +kernel
theorem dX9_isThere_55 : decode cX9_isThere 55 = .ok (.bipush 10, 2) := by decide +kernel
theorem dX9_isThere_57 : decode cX9_isThere 57 = .ok (.irem, 1) := by decide +kernel
theorem dX9_isThere_58 : decode cX9_isThere 58 = .ok (.iload_n 2, 1) := by decide +kernel
theorem dX9_isThere_59 : decode cX9_isThere 59 = .ok (.bipush 10, 2) := by decide +kernel
theorem dX9_isThere_61 : decode cX9_isThere 61 = .ok (.idiv, 1) := by decide +kernel
theorem dX9_isThere_62 : decode cX9_isThere 62 = .ok (.if_icmp .ne 17, 3) := by decide +kernel
theorem dX9_isThere_65 : decode cX9_isThere 65 = .ok (.iload 5, 2) := by decide +kernel
theorem dX9_isThere_67 : decode cX9_isThere 67 = .ok (.bipush 10, 2) := by decide +kernel
theorem dX9_isThere_69 : decode cX9_isThere 69 = .ok (.idiv, 1) := by decide +kernel
theorem dX9_isThere_70 : decode cX9_isThere 70 = .ok (.iload_n 2, 1) := by decide +kernel
theorem dX9_isThere_71 : decode cX9_isThere 71 = .ok (.bipush 10, 2) := by decide +kernel
theorem dX9_isThere_73 : decode cX9_isThere 73 = .ok (.irem, 1) := by decide +kernel
theorem dX9_isThere_74 : decode cX9_isThere 74 = .ok (.if_icmp .ne 5, 3) := by decide +kernel
theorem dX9_isThere_77 : decode cX9_isThere 77 = .ok (.iconst 1, 1) := by decide +kernel
theorem dX9_isThere_78 : decode cX9_isThere 78 = .ok (.ireturn, 1) := by decide +kernel
theorem dX9_isThere_79 : decode cX9_isThere 79 = .ok (.iinc 4 1, 3) := by decide +kernel
theorem dX9_isThere_82 : decode cX9_isThere 82 = .ok (.goto (-65), 3) := by decide +kernel
theorem dX9_isThere_85 : decode cX9_isThere 85 = .ok (.iinc 3 1, 3) := by decide +kernel
theorem dX9_isThere_88 : decode cX9_isThere 88 = .ok (.goto (-86), 3) := by decide +kernel
theorem dX9_isThere_91 : decode cX9_isThere 91 = .ok (.iconst 0, 1) := by decide +kernel
theorem dX9_isThere_92 : decode cX9_isThere 92 = .ok (.ireturn, 1) := by decide +kernel
theorem dX9_readsMove_0 : decode cX9_readsMove 0 = .ok (.aload_n 0, 1) := by decide +kernel
theorem dX9_readsMove_1 : decode cX9_readsMove 1 = .ok (.bipush 108, 2) := by decide +kernel
theorem dX9_readsMove_3 : decode cX9_readsMove 3 = .ok (.bipush 101, 2) := by decide +kernel
theorem dX9_readsMove_5 : decode cX9_readsMove 5 = .ok (.bipush 102, 2) := by decide +kernel
theorem dX9_readsMove_7 : decode cX9_readsMove 7 = .ok (.bipush 116, 2) := by decide +kernel
theorem dX9_readsMove_9 : decode cX9_readsMove 9 = .ok (.iconst 0, 1) := by decide +kernel
theorem dX9_readsMove_10 : decode cX9_readsMove 10 = .ok (.invokevirtual 185, 3) := by decide +kernel
theorem dX9_readsMove_13 : decode cX9_readsMove 13 = .ok (.istore_n 1, 1) := by decide +kernel
theorem dX9_readsMove_14 : decode cX9_readsMove 14 = .ok (.iload_n 1, 1) := by decide +kernel
theorem dX9_readsMove_15 : decode cX9_readsMove 15 = .ok (.ifCond .ne 20, 3) := by decide +kernel
theorem dX9_readsMove_18 : decode cX9_readsMove 18 = .ok (.aload_n 0, 1) := by decide +kernel
theorem dX9_readsMove_19 : decode cX9_readsMove 19 = .ok (.bipush 114, 2) := by decide +kernel
theorem dX9_readsMove_21 : decode cX9_readsMove 21 = .ok (.bipush 105, 2) := by decide +kernel
theorem dX9_readsMove_23 : decode cX9_readsMove 23 = .ok (.bipush 103, 2) := by decide +kernel
theorem dX9_readsMove_25 : decode cX9_readsMove 25 = .ok (.bipush 104, 2) := by decide +kernel
theorem dX9_readsMove_27 : decode cX9_readsMove 27 = .ok (.bipush 116, 2) := by decide +kernel
theorem dX9_readsMove_29 : decode cX9_readsMove 29 = .ok (.invokevirtual 185, 3) := by decide +kernel
theorem dX9_readsMove_32 : decode cX9_readsMove 32 = .ok (.ifCond .eq 17, 3) := by decide +kernel
theorem dX9_readsMove_35 : decode cX9_readsMove 35 = .ok (.aload_n 0, 1) := by decide +kernel
theorem dX9_readsMove_36 : decode cX9_readsMove 36 = .ok (.iload_n 1, 1) := by decide +kernel
theorem dX9_readsMove_37 : decode cX9_readsMove 37 = .ok (.ifCond .eq 7, 3) := by decide +kernel
theorem dX9_readsMove_40 : decode cX9_readsMove 40 = .ok (.iconst 0, 1) := by decide +kernel
theorem dX9_readsMove_41 : decode cX9_readsMove 41 = .ok (.goto 4, 3) := by decide +kernel
theorem dX9_readsMove_44 : decode cX9_readsMove 44 = .ok (.iconst 1, 1) := by decide +kernel
theorem dX9_readsMove_45 : decode cX9_readsMove 45 = .ok (.invokevirtual 204, 3) := by decide +kernel
theorem dX9_readsMove_48 : decode cX9_readsMove 48 = .ok (.ireturn, 1) := by decide +kernel
theorem dX9_readsMove_49 : decode cX9_readsMove 49 = .ok (.aload_n 0, 1) := by decide +kernel
theorem dX9_readsMove_50 : decode cX9_readsMove 50 = .ok (.bipush 112, 2) := by decide +kernel
theorem dX9_readsMove_52 : decode cX9_readsMove 52 = .ok (.bipush 97, 2) := by decide +kernel
theorem dX9_readsMove_54 : decode cX9_readsMove 54 = .ok (.bipush 115, 2) := by decide +kernel
theorem dX9_readsMove_56 : decode cX9_readsMove 56 = .ok (.bipush 115, 2) := by decide +kernel
theorem dX9_readsMove_58 : decode cX9_readsMove 58 = .ok (.iconst 0, 1) := by decide +kernel
theorem dX9_readsMove_59 : decode cX9_readsMove 59 = .ok (.invokevirtual 185, 3) := by decide +kernel
theorem dX9_readsMove_62 : decode cX9_readsMove 62 = .ok (.ifCond .eq 35, 3) := by decide +kernel
theorem dX9_readsMove_65 : decode cX9_readsMove 65 = .ok (.aload_n 0, 1) := by decide +kernel
theorem dX9_readsMove_66 : decode cX9_readsMove 66 = .ok (.invokevirtual 88, 3) := by decide +kernel
theorem dX9_readsMove_69 : decode cX9_readsMove 69 = .ok (.ifCond .eq 10, 3) := by decide +kernel
theorem dX9_readsMove_72 : decode cX9_readsMove 72 = .ok (.aload_n 0, 1) := by decide +kernel
theorem dX9_readsMove_73 : decode cX9_readsMove 73 = .ok (.bipush 6, 2) := by decide +kernel
theorem dX9_readsMove_75 : decode cX9_readsMove 75 = .ok (.invokevirtual 175, 3) := by decide +kernel
theorem dX9_readsMove_78 : decode cX9_readsMove 78 = .ok (.ireturn, 1) := by decide +kernel
theorem dX9_readsMove_79 : decode cX9_readsMove 79 = .ok (.aload_n 0, 1) := by decide +kernel
theorem dX9_readsMove_80 : decode cX9_readsMove 80 = .ok (.iconst 3, 1) := by decide +kernel
theorem dX9_readsMove_81 : decode cX9_readsMove 81 = .ok (.invokevirtual 207, 3) := by decide +kernel
theorem dX9_readsMove_84 : decode cX9_readsMove 84 = .ok (.ifCond .ne 5, 3) := by decide +kernel
theorem dX9_readsMove_87 : decode cX9_readsMove 87 = .ok (.iconst 0, 1) := by decide +kernel
theorem dX9_readsMove_88 : decode cX9_readsMove 88 = .ok (.ireturn, 1) := by decide +kernel
theorem dX9_readsMove_89 : decode cX9_readsMove 89 = .ok (.aload_n 0, 1) := by decide +kernel
theorem dX9_readsMove_90 : decode cX9_readsMove 90 = .ok (.bipush 6, 2) := by decide +kernel
theorem dX9_readsMove_92 : decode cX9_readsMove 92 = .ok (.invokevirtual 144, 3) := by decide +kernel
theorem dX9_readsMove_95 : decode cX9_readsMove 95 = .ok (.iconst 1, 1) := by decide +kernel
theorem dX9_readsMove_96 : decode cX9_readsMove 96 = .ok (.ireturn, 1) := by decide +kernel
theorem dX9_readsMove_97 : decode cX9_readsMove 97 = .ok (.aload_n 0, 1) := by decide +kernel
theorem dX9_readsMove_98 : decode cX9_readsMove 98 = .ok (.bipush 110, 2) := by decide +kernel
theorem dX9_readsMove_100 : decode cX9_readsMove 100 = .ok (.bipush 101, 2) := by decide +kernel
theorem dX9_readsMove_102 : decode cX9_readsMove 102 = .ok (.bipush 120, 2) := by decide +kernel
theorem dX9_readsMove_104 : decode cX9_readsMove 104 = .ok (.bipush 116, 2) := by decide +kernel
theorem dX9_readsMove_106 : decode cX9_readsMove 106 = .ok (.iconst 0, 1) := by decide +kernel
theorem dX9_readsMove_107 : decode cX9_readsMove 107 = .ok (.invokevirtual 185, 3) := by decide +kernel
theorem dX9_readsMove_110 : decode cX9_readsMove 110 = .ok (.ifCond .ne 9, 3) := by decide +kernel
theorem dX9_readsMove_113 : decode cX9_readsMove 113 = .ok (.aload_n 0, 1) := by decide +kernel
theorem dX9_readsMove_114 : decode cX9_readsMove 114 = .ok (.iconst 1, 1) := by decide +kernel
theorem dX9_readsMove_115 : decode cX9_readsMove 115 = .ok (.invokevirtual 175, 3) := by decide +kernel
theorem dX9_readsMove_118 : decode cX9_readsMove 118 = .ok (.ireturn, 1) := by decide +kernel
theorem dX9_readsMove_119 : decode cX9_readsMove 119 = .ok (.aload_n 0, 1) := by decide +kernel
theorem dX9_readsMove_120 : decode cX9_readsMove 120 = .ok (.invokevirtual 88, 3) := by decide +kernel
theorem dX9_readsMove_123 : decode cX9_readsMove 123 = .ok (.ifCond .eq 10, 3) := by decide +kernel
theorem dX9_readsMove_126 : decode cX9_readsMove 126 = .ok (.aload_n 0, 1) := by decide +kernel
theorem dX9_readsMove_127 : decode cX9_readsMove 127 = .ok (.invokevirtual 210, 3) := by decide +kernel
theorem dX9_readsMove_130 : decode cX9_readsMove 130 = .ok (.ifCond .eq 10, 3) := by decide +kernel
theorem dX9_readsMove_133 : decode cX9_readsMove 133 = .ok (.aload_n 0, 1) := by decide +kernel
theorem dX9_readsMove_134 : decode cX9_readsMove 134 = .ok (.bipush 6, 2) := by decide +kernel
theorem dX9_readsMove_136 : decode cX9_readsMove 136 = .ok (.invokevirtual 175, 3) := by decide +kernel
theorem dX9_readsMove_139 : decode cX9_readsMove 139 = .ok (.ireturn, 1) := by decide +kernel
theorem dX9_readsMove_140 : decode cX9_readsMove 140 = .ok (.aload_n 0, 1) := by decide +kernel
theorem dX9_readsMove_141 : decode cX9_readsMove 141 = .ok (.iconst 3, 1) := by decide +kernel
theorem dX9_readsMove_142 : decode cX9_readsMove 142 = .ok (.invokevirtual 207, 3) := by decide +kernel
theorem dX9_readsMove_145 : decode cX9_readsMove 145 = .ok (.ifCond .ne 5, 3) := by decide +kernel
theorem dX9_readsMove_148 : decode cX9_readsMove 148 = .ok (.iconst 0, 1) := by decide +kernel
theorem dX9_readsMove_149 : decode cX9_readsMove 149 = .ok (.ireturn, 1) := by decide +kernel
theorem dX9_readsMove_150 : decode cX9_readsMove 150 = .ok (.aload_n 0, 1) := by decide +kernel
theorem dX9_readsMove_151 : decode cX9_readsMove 151 = .ok (.invokevirtual 213, 3) := by decide +kernel
theorem dX9_readsMove_154 : decode cX9_readsMove 154 = .ok (.iconst 1, 1) := by decide +kernel
theorem dX9_readsMove_155 : decode cX9_readsMove 155 = .ok (.ireturn, 1) := by decide +kernel
theorem dX9_readsBurn_0 : decode cX9_readsBurn 0 = .ok (.aload_n 0, 1) := by decide +kernel
theorem dX9_readsBurn_1 : decode cX9_readsBurn 1 = .ok (.iconst 2, 1) := by decide +kernel
theorem dX9_readsBurn_2 : decode cX9_readsBurn 2 = .ok (.invokevirtual 207, 3) := by decide +kernel
theorem dX9_readsBurn_5 : decode cX9_readsBurn 5 = .ok (.ifCond .ne 5, 3) := by decide +kernel
theorem dX9_readsBurn_8 : decode cX9_readsBurn 8 = .ok (.iconst 0, 1) := by decide +kernel
theorem dX9_readsBurn_9 : decode cX9_readsBurn 9 = .ok (.ireturn, 1) := by decide +kernel
theorem dX9_readsBurn_10 : decode cX9_readsBurn 10 = .ok (.aload_n 0, 1) := by decide +kernel
theorem dX9_readsBurn_11 : decode cX9_readsBurn 11 = .ok (.getfield 162, 3) := by decide +kernel
theorem dX9_readsBurn_14 : decode cX9_readsBurn 14 = .ok (.aload_n 0, 1) := by decide +kernel
theorem dX9_readsBurn_15 : decode cX9_readsBurn 15 = .ok (.getfield 169, 3) := by decide +kernel
theorem dX9_readsBurn_18 : decode cX9_readsBurn 18 = .ok (.isub, 1) := by decide +kernel
theorem dX9_readsBurn_19 : decode cX9_readsBurn 19 = .ok (.iconst 1, 1) := by decide +kernel
theorem dX9_readsBurn_20 : decode cX9_readsBurn 20 = .ok (.if_icmp .eq 9, 3) := by decide +kernel
theorem dX9_readsBurn_23 : decode cX9_readsBurn 23 = .ok (.aload_n 0, 1) := by decide +kernel
theorem dX9_readsBurn_24 : decode cX9_readsBurn 24 = .ok (.iconst 1, 1) := by decide +kernel
theorem dX9_readsBurn_25 : decode cX9_readsBurn 25 = .ok (.invokevirtual 175, 3) := by decide +kernel
theorem dX9_readsBurn_28 : decode cX9_readsBurn 28 = .ok (.ireturn, 1) := by decide +kernel
theorem dX9_readsBurn_29 : decode cX9_readsBurn 29 = .ok (.aload_n 0, 1) := by decide +kernel
theorem dX9_readsBurn_30 : decode cX9_readsBurn 30 = .ok (.getfield 13, 3) := by decide +kernel
theorem dX9_readsBurn_33 : decode cX9_readsBurn 33 = .ok (.aload_n 0, 1) := by decide +kernel
theorem dX9_readsBurn_34 : decode cX9_readsBurn 34 = .ok (.getfield 169, 3) := by decide +kernel
theorem dX9_readsBurn_37 : decode cX9_readsBurn 37 = .ok (.baload, 1) := by decide +kernel
theorem dX9_readsBurn_38 : decode cX9_readsBurn 38 = .ok (.bipush 48, 2) := by decide +kernel
theorem dX9_readsBurn_40 : decode cX9_readsBurn 40 = .ok (.isub, 1) := by decide +kernel
theorem dX9_readsBurn_41 : decode cX9_readsBurn 41 = .ok (.istore_n 2, 1) := by decide +kernel
theorem dX9_readsBurn_42 : decode cX9_readsBurn 42 = .ok (.aload_n 0, 1) := by decide +kernel
theorem dX9_readsBurn_43 : decode cX9_readsBurn 43 = .ok (.iload_n 2, 1) := by decide +kernel
theorem dX9_readsBurn_44 : decode cX9_readsBurn 44 = .ok (.invokevirtual 216, 3) := by decide +kernel
theorem dX9_readsBurn_47 : decode cX9_readsBurn 47 = .ok (.ifCond .eq 18, 3) := by decide +kernel
theorem dX9_readsBurn_50 : decode cX9_readsBurn 50 = .ok (.aload_n 0, 1) := by decide +kernel
theorem dX9_readsBurn_51 : decode cX9_readsBurn 51 = .ok (.invokevirtual 88, 3) := by decide +kernel
theorem dX9_readsBurn_54 : decode cX9_readsBurn 54 = .ok (.ifCond .ne 11, 3) := by decide +kernel
theorem dX9_readsBurn_57 : decode cX9_readsBurn 57 = .ok (.aload_n 0, 1) := by decide +kernel
theorem dX9_readsBurn_58 : decode cX9_readsBurn 58 = .ok (.iload_n 2, 1) := by decide +kernel
theorem dX9_readsBurn_59 : decode cX9_readsBurn 59 = .ok (.invokevirtual 81, 3) := by decide +kernel
theorem dX9_readsBurn_62 : decode cX9_readsBurn 62 = .ok (.ifCond .ne 10, 3) := by decide +kernel
theorem dX9_readsBurn_65 : decode cX9_readsBurn 65 = .ok (.aload_n 0, 1) := by decide +kernel
theorem dX9_readsBurn_66 : decode cX9_readsBurn 66 = .ok (.bipush 6, 2) := by decide +kernel
theorem dX9_readsBurn_68 : decode cX9_readsBurn 68 = .ok (.invokevirtual 175, 3) := by decide +kernel
theorem dX9_readsBurn_71 : decode cX9_readsBurn 71 = .ok (.ireturn, 1) := by decide +kernel
theorem dX9_readsBurn_72 : decode cX9_readsBurn 72 = .ok (.aload_n 0, 1) := by decide +kernel
theorem dX9_readsBurn_73 : decode cX9_readsBurn 73 = .ok (.iconst 3, 1) := by decide +kernel
theorem dX9_readsBurn_74 : decode cX9_readsBurn 74 = .ok (.invokevirtual 207, 3) := by decide +kernel
theorem dX9_readsBurn_77 : decode cX9_readsBurn 77 = .ok (.ifCond .ne 5, 3) := by decide +kernel
theorem dX9_readsBurn_80 : decode cX9_readsBurn 80 = .ok (.iconst 0, 1) := by decide +kernel
theorem dX9_readsBurn_81 : decode cX9_readsBurn 81 = .ok (.ireturn, 1) := by decide +kernel
theorem dX9_readsBurn_82 : decode cX9_readsBurn 82 = .ok (.aload_n 0, 1) := by decide +kernel
theorem dX9_readsBurn_83 : decode cX9_readsBurn 83 = .ok (.iconst 2, 1) := by decide +kernel
theorem dX9_readsBurn_84 : decode cX9_readsBurn 84 = .ok (.iload_n 2, 1) := by decide +kernel
theorem dX9_readsBurn_85 : decode cX9_readsBurn 85 = .ok (.imul, 1) := by decide +kernel
theorem dX9_readsBurn_86 : decode cX9_readsBurn 86 = .ok (.iload_n 1, 1) := by decide +kernel
theorem dX9_readsBurn_87 : decode cX9_readsBurn 87 = .ok (.iadd, 1) := by decide +kernel
theorem dX9_readsBurn_88 : decode cX9_readsBurn 88 = .ok (.invokevirtual 144, 3) := by decide +kernel
theorem dX9_readsBurn_91 : decode cX9_readsBurn 91 = .ok (.iconst 1, 1) := by decide +kernel
theorem dX9_readsBurn_92 : decode cX9_readsBurn 92 = .ok (.ireturn, 1) := by decide +kernel
theorem dX9_feeds_0 : decode cX9_feeds 0 = .ok (.bipush 24, 2) := by decide +kernel
theorem dX9_feeds_2 : decode cX9_feeds 2 = .ok (.istore_n 2, 1) := by decide +kernel
theorem dX9_feeds_3 : decode cX9_feeds 3 = .ok (.iload_n 2, 1) := by decide +kernel
theorem dX9_feeds_4 : decode cX9_feeds 4 = .ok (.ifCond .lt 32, 3) := by decide +kernel
theorem dX9_feeds_7 : decode cX9_feeds 7 = .ok (.aload_n 0, 1) := by decide +kernel
theorem dX9_feeds_8 : decode cX9_feeds 8 = .ok (.getfield 13, 3) := by decide +kernel
theorem dX9_feeds_11 : decode cX9_feeds 11 = .ok (.aload_n 0, 1) := by decide +kernel
theorem dX9_feeds_12 : decode cX9_feeds 12 = .ok (.getfield 156, 3) := by decide +kernel
theorem dX9_feeds_15 : decode cX9_feeds 15 = .ok (.iload_n 1, 1) := by decide +kernel
theorem dX9_feeds_16 : decode cX9_feeds 16 = .ok (.iload_n 2, 1) := by decide +kernel
theorem dX9_feeds_17 : decode cX9_feeds 17 = .ok (.ishr, 1) := by decide +kernel
theorem dX9_feeds_18 : decode cX9_feeds 18 = .ok (.i2b, 1) := by decide +kernel
theorem dX9_feeds_19 : decode cX9_feeds 19 = .ok (.bastore, 1) := by decide +kernel
theorem dX9_feeds_20 : decode cX9_feeds 20 = .ok (.aload_n 0, 1) := by decide +kernel
theorem dX9_feeds_21 : decode cX9_feeds 21 = .ok (.dup, 1) := by decide +kernel
theorem dX9_feeds_22 : decode cX9_feeds 22 = .ok (.getfield 156, 3) := by decide +kernel
theorem dX9_feeds_25 : decode cX9_feeds 25 = .ok (.iconst 1, 1) := by decide +kernel
theorem dX9_feeds_26 : decode cX9_feeds 26 = .ok (.iadd, 1) := by decide +kernel
theorem dX9_feeds_27 : decode cX9_feeds 27 = .ok (.putfield 156, 3) := by decide +kernel
theorem dX9_feeds_30 : decode cX9_feeds 30 = .ok (.iinc 2 (-8), 3) := by decide +kernel
theorem dX9_feeds_33 : decode cX9_feeds 33 = .ok (.goto (-30), 3) := by decide +kernel
theorem dX9_feeds_36 : decode cX9_feeds 36 = .ok (.return_, 1) := by decide +kernel
theorem dX9_append_0 : decode cX9_append 0 = .ok (.aload_n 0, 1) := by decide +kernel
theorem dX9_append_1 : decode cX9_append 1 = .ok (.iconst 0, 1) := by decide +kernel
theorem dX9_append_2 : decode cX9_append 2 = .ok (.putfield 40, 3) := by decide +kernel
theorem dX9_append_5 : decode cX9_append 5 = .ok (.aload_n 0, 1) := by decide +kernel
theorem dX9_append_6 : decode cX9_append 6 = .ok (.getfield 156, 3) := by decide +kernel
theorem dX9_append_9 : decode cX9_append 9 = .ok (.bipush 20, 2) := by decide +kernel
theorem dX9_append_11 : decode cX9_append 11 = .ok (.iadd, 1) := by decide +kernel
theorem dX9_append_12 : decode cX9_append 12 = .ok (.sipush 500, 3) := by decide +kernel
theorem dX9_append_15 : decode cX9_append 15 = .ok (.if_icmp .le 9, 3) := by decide +kernel
theorem dX9_append_18 : decode cX9_append 18 = .ok (.aload_n 0, 1) := by decide +kernel
theorem dX9_append_19 : decode cX9_append 19 = .ok (.iconst 1, 1) := by decide +kernel
theorem dX9_append_20 : decode cX9_append 20 = .ok (.invokevirtual 219, 3) := by decide +kernel
theorem dX9_append_23 : decode cX9_append 23 = .ok (.ireturn, 1) := by decide +kernel
theorem dX9_append_24 : decode cX9_append 24 = .ok (.aload_n 0, 1) := by decide +kernel
theorem dX9_append_25 : decode cX9_append 25 = .ok (.iload_n 1, 1) := by decide +kernel
theorem dX9_append_26 : decode cX9_append 26 = .ok (.invokevirtual 222, 3) := by decide +kernel
theorem dX9_append_29 : decode cX9_append 29 = .ok (.aload_n 0, 1) := by decide +kernel
theorem dX9_append_30 : decode cX9_append 30 = .ok (.iload_n 2, 1) := by decide +kernel
theorem dX9_append_31 : decode cX9_append 31 = .ok (.invokevirtual 222, 3) := by decide +kernel
theorem dX9_append_34 : decode cX9_append 34 = .ok (.aload_n 0, 1) := by decide +kernel
theorem dX9_append_35 : decode cX9_append 35 = .ok (.iload_n 3, 1) := by decide +kernel
theorem dX9_append_36 : decode cX9_append 36 = .ok (.invokevirtual 222, 3) := by decide +kernel
theorem dX9_append_39 : decode cX9_append 39 = .ok (.aload_n 0, 1) := by decide +kernel
theorem dX9_append_40 : decode cX9_append 40 = .ok (.iload 4, 2) := by decide +kernel
theorem dX9_append_42 : decode cX9_append 42 = .ok (.invokevirtual 222, 3) := by decide +kernel
theorem dX9_append_45 : decode cX9_append 45 = .ok (.aload_n 0, 1) := by decide +kernel
theorem dX9_append_46 : decode cX9_append 46 = .ok (.iload 5, 2) := by decide +kernel
theorem dX9_append_48 : decode cX9_append 48 = .ok (.invokevirtual 222, 3) := by decide +kernel
theorem dX9_append_51 : decode cX9_append 51 = .ok (.aload_n 0, 1) := by decide +kernel
theorem dX9_append_52 : decode cX9_append 52 = .ok (.getfield 156, 3) := by decide +kernel
theorem dX9_append_55 : decode cX9_append 55 = .ok (.ireturn, 1) := by decide +kernel
theorem dX9_truncate_0 : decode cX9_truncate 0 = .ok (.aload_n 0, 1) := by decide +kernel
theorem dX9_truncate_1 : decode cX9_truncate 1 = .ok (.iconst 0, 1) := by decide +kernel
theorem dX9_truncate_2 : decode cX9_truncate 2 = .ok (.putfield 40, 3) := by decide +kernel
theorem dX9_truncate_5 : decode cX9_truncate 5 = .ok (.iload_n 1, 1) := by decide +kernel
theorem dX9_truncate_6 : decode cX9_truncate 6 = .ok (.ifCond .lt 11, 3) := by decide +kernel
theorem dX9_truncate_9 : decode cX9_truncate 9 = .ok (.iload_n 1, 1) := by decide +kernel
theorem dX9_truncate_10 : decode cX9_truncate 10 = .ok (.aload_n 0, 1) := by decide +kernel
theorem dX9_truncate_11 : decode cX9_truncate 11 = .ok (.getfield 156, 3) := by decide +kernel
theorem dX9_truncate_14 : decode cX9_truncate 14 = .ok (.if_icmp .le 11, 3) := by decide +kernel
theorem dX9_truncate_17 : decode cX9_truncate 17 = .ok (.aload_n 0, 1) := by decide +kernel
theorem dX9_truncate_18 : decode cX9_truncate 18 = .ok (.iconst 1, 1) := by decide +kernel
theorem dX9_truncate_19 : decode cX9_truncate 19 = .ok (.putfield 40, 3) := by decide +kernel
theorem dX9_truncate_22 : decode cX9_truncate 22 = .ok (.goto 8, 3) := by decide +kernel
theorem dX9_truncate_25 : decode cX9_truncate 25 = .ok (.aload_n 0, 1) := by decide +kernel
theorem dX9_truncate_26 : decode cX9_truncate 26 = .ok (.iload_n 1, 1) := by decide +kernel
theorem dX9_truncate_27 : decode cX9_truncate 27 = .ok (.putfield 156, 3) := by decide +kernel
theorem dX9_truncate_30 : decode cX9_truncate 30 = .ok (.return_, 1) := by decide +kernel
theorem dX9_load_0 : decode cX9_load 0 = .ok (.aload_n 0, 1) := by decide +kernel
theorem dX9_load_1 : decode cX9_load 1 = .ok (.iconst 0, 1) := by decide +kernel
theorem dX9_load_2 : decode cX9_load 2 = .ok (.putfield 40, 3) := by decide +kernel
theorem dX9_load_5 : decode cX9_load 5 = .ok (.aload_n 0, 1) := by decide +kernel
theorem dX9_load_6 : decode cX9_load 6 = .ok (.sipush 2320, 3) := by decide +kernel
theorem dX9_load_9 : decode cX9_load 9 = .ok (.putfield 43, 3) := by decide +kernel
theorem dX9_load_12 : decode cX9_load 12 = .ok (.aload_n 0, 1) := by decide +kernel
theorem dX9_load_13 : decode cX9_load 13 = .ok (.invokevirtual 225, 3) := by decide +kernel
theorem dX9_load_16 : decode cX9_load 16 = .ok (.istore_n 1, 1) := by decide +kernel
theorem dX9_load_17 : decode cX9_load 17 = .ok (.aload_n 0, 1) := by decide +kernel
theorem dX9_load_18 : decode cX9_load 18 = .ok (.iconst 0, 1) := by decide +kernel
theorem dX9_load_19 : decode cX9_load 19 = .ok (.putfield 43, 3) := by decide +kernel
theorem dX9_load_22 : decode cX9_load 22 = .ok (.aload_n 0, 1) := by decide +kernel
theorem dX9_load_23 : decode cX9_load 23 = .ok (.iconst 0, 1) := by decide +kernel
theorem dX9_load_24 : decode cX9_load 24 = .ok (.putfield 156, 3) := by decide +kernel
theorem dX9_load_27 : decode cX9_load 27 = .ok (.aload_n 0, 1) := by decide +kernel
theorem dX9_load_28 : decode cX9_load 28 = .ok (.iload_n 1, 1) := by decide +kernel
theorem dX9_load_29 : decode cX9_load 29 = .ok (.ifCond .eq 7, 3) := by decide +kernel
theorem dX9_load_32 : decode cX9_load 32 = .ok (.iconst 0, 1) := by decide +kernel
theorem dX9_load_33 : decode cX9_load 33 = .ok (.goto 7, 3) := by decide +kernel
theorem dX9_load_36 : decode cX9_load 36 = .ok (.aload_n 0, 1) := by decide +kernel
theorem dX9_load_37 : decode cX9_load 37 = .ok (.getfield 159, 3) := by decide +kernel
theorem dX9_load_40 : decode cX9_load 40 = .ok (.putfield 228, 3) := by decide +kernel
theorem dX9_load_43 : decode cX9_load 43 = .ok (.aload_n 0, 1) := by decide +kernel
theorem dX9_load_44 : decode cX9_load 44 = .ok (.iload_n 1, 1) := by decide +kernel
theorem dX9_load_45 : decode cX9_load 45 = .ok (.ifCond .eq 7, 3) := by decide +kernel
theorem dX9_load_48 : decode cX9_load 48 = .ok (.iconst (-1), 1) := by decide +kernel
theorem dX9_load_49 : decode cX9_load 49 = .ok (.goto 7, 3) := by decide +kernel
theorem dX9_load_52 : decode cX9_load 52 = .ok (.aload_n 0, 1) := by decide +kernel
theorem dX9_load_53 : decode cX9_load 53 = .ok (.getfield 169, 3) := by decide +kernel
theorem dX9_load_56 : decode cX9_load 56 = .ok (.putfield 25, 3) := by decide +kernel
theorem dX9_load_59 : decode cX9_load 59 = .ok (.iload_n 1, 1) := by decide +kernel
theorem dX9_load_60 : decode cX9_load 60 = .ok (.ifCond .ne 9, 3) := by decide +kernel
theorem dX9_load_63 : decode cX9_load 63 = .ok (.aload_n 0, 1) := by decide +kernel
theorem dX9_load_64 : decode cX9_load 64 = .ok (.iconst 1, 1) := by decide +kernel
theorem dX9_load_65 : decode cX9_load 65 = .ok (.invokevirtual 219, 3) := by decide +kernel
theorem dX9_load_68 : decode cX9_load 68 = .ok (.ireturn, 1) := by decide +kernel
theorem dX9_load_69 : decode cX9_load 69 = .ok (.aload_n 0, 1) := by decide +kernel
theorem dX9_load_70 : decode cX9_load 70 = .ok (.bipush 10, 2) := by decide +kernel
theorem dX9_load_72 : decode cX9_load 72 = .ok (.iconst 0, 1) := by decide +kernel
theorem dX9_load_73 : decode cX9_load 73 = .ok (.invokevirtual 56, 3) := by decide +kernel
theorem dX9_load_76 : decode cX9_load 76 = .ok (.aload_n 0, 1) := by decide +kernel
theorem dX9_load_77 : decode cX9_load 77 = .ok (.iconst 0, 1) := by decide +kernel
theorem dX9_load_78 : decode cX9_load 78 = .ok (.putfield 53, 3) := by decide +kernel
theorem dX9_load_81 : decode cX9_load 81 = .ok (.aload_n 0, 1) := by decide +kernel
theorem dX9_load_82 : decode cX9_load 82 = .ok (.iconst 0, 1) := by decide +kernel
theorem dX9_load_83 : decode cX9_load 83 = .ok (.putfield 50, 3) := by decide +kernel
theorem dX9_load_86 : decode cX9_load 86 = .ok (.aload_n 0, 1) := by decide +kernel
theorem dX9_load_87 : decode cX9_load 87 = .ok (.iconst 0, 1) := by decide +kernel
theorem dX9_load_88 : decode cX9_load 88 = .ok (.putfield 231, 3) := by decide +kernel
theorem dX9_load_91 : decode cX9_load 91 = .ok (.aload_n 0, 1) := by decide +kernel
theorem dX9_load_92 : decode cX9_load 92 = .ok (.iconst 0, 1) := by decide +kernel
theorem dX9_load_93 : decode cX9_load 93 = .ok (.invokevirtual 46, 3) := by decide +kernel
theorem dX9_load_96 : decode cX9_load 96 = .ok (.ireturn, 1) := by decide +kernel
theorem dX9_errorKind_0 : decode cX9_errorKind 0 = .ok (.aload_n 0, 1) := by decide +kernel
theorem dX9_errorKind_1 : decode cX9_errorKind 1 = .ok (.iconst 0, 1) := by decide +kernel
theorem dX9_errorKind_2 : decode cX9_errorKind 2 = .ok (.putfield 40, 3) := by decide +kernel
theorem dX9_errorKind_5 : decode cX9_errorKind 5 = .ok (.aload_n 0, 1) := by decide +kernel
theorem dX9_errorKind_6 : decode cX9_errorKind 6 = .ok (.getfield 228, 3) := by decide +kernel
theorem dX9_errorKind_9 : decode cX9_errorKind 9 = .ok (.ireturn, 1) := by decide +kernel
theorem dX9_errorPosition_0 : decode cX9_errorPosition 0 = .ok (.aload_n 0, 1) := by decide +kernel
theorem dX9_errorPosition_1 : decode cX9_errorPosition 1 = .ok (.iconst 0, 1) := by decide +kernel
theorem dX9_errorPosition_2 : decode cX9_errorPosition 2 = .ok (.putfield 40, 3) := by decide +kernel
theorem dX9_errorPosition_5 : decode cX9_errorPosition 5 = .ok (.aload_n 0, 1) := by decide +kernel
theorem dX9_errorPosition_6 : decode cX9_errorPosition 6 = .ok (.getfield 25, 3) := by decide +kernel
theorem dX9_errorPosition_9 : decode cX9_errorPosition 9 = .ok (.ireturn, 1) := by decide +kernel
theorem dX9_roundCount_0 : decode cX9_roundCount 0 = .ok (.aload_n 0, 1) := by decide +kernel
theorem dX9_roundCount_1 : decode cX9_roundCount 1 = .ok (.iconst 0, 1) := by decide +kernel
theorem dX9_roundCount_2 : decode cX9_roundCount 2 = .ok (.putfield 40, 3) := by decide +kernel
theorem dX9_roundCount_5 : decode cX9_roundCount 5 = .ok (.aload_n 0, 1) := by decide +kernel
theorem dX9_roundCount_6 : decode cX9_roundCount 6 = .ok (.iconst 0, 1) := by decide +kernel
theorem dX9_roundCount_7 : decode cX9_roundCount 7 = .ok (.invokevirtual 46, 3) := by decide +kernel
theorem dX9_roundCount_10 : decode cX9_roundCount 10 = .ok (.ireturn, 1) := by decide +kernel
theorem dX9_currentRound_0 : decode cX9_currentRound 0 = .ok (.aload_n 0, 1) := by decide +kernel
theorem dX9_currentRound_1 : decode cX9_currentRound 1 = .ok (.iconst 0, 1) := by decide +kernel
theorem dX9_currentRound_2 : decode cX9_currentRound 2 = .ok (.putfield 40, 3) := by decide +kernel
theorem dX9_currentRound_5 : decode cX9_currentRound 5 = .ok (.aload_n 0, 1) := by decide +kernel
theorem dX9_currentRound_6 : decode cX9_currentRound 6 = .ok (.iconst 1, 1) := by decide +kernel
theorem dX9_currentRound_7 : decode cX9_currentRound 7 = .ok (.invokevirtual 46, 3) := by decide +kernel
theorem dX9_currentRound_10 : decode cX9_currentRound 10 = .ok (.ireturn, 1) := by decide +kernel
theorem dX9_isRoundOver_0 : decode cX9_isRoundOver 0 = .ok (.aload_n 0, 1) := by decide +kernel
theorem dX9_isRoundOver_1 : decode cX9_isRoundOver 1 = .ok (.iconst 0, 1) := by decide +kernel
theorem dX9_isRoundOver_2 : decode cX9_isRoundOver 2 = .ok (.putfield 40, 3) := by decide +kernel
theorem dX9_isRoundOver_5 : decode cX9_isRoundOver 5 = .ok (.aload_n 0, 1) := by decide +kernel
theorem dX9_isRoundOver_6 : decode cX9_isRoundOver 6 = .ok (.invokevirtual 88, 3) := by decide +kernel
theorem dX9_isRoundOver_9 : decode cX9_isRoundOver 9 = .ok (.ireturn, 1) := by decide +kernel
theorem dX9_isLast_0 : decode cX9_isLast 0 = .ok (.aload_n 0, 1) := by decide +kernel
theorem dX9_isLast_1 : decode cX9_isLast 1 = .ok (.iconst 1, 1) := by decide +kernel
theorem dX9_isLast_2 : decode cX9_isLast 2 = .ok (.invokevirtual 46, 3) := by decide +kernel
theorem dX9_isLast_5 : decode cX9_isLast 5 = .ok (.aload_n 0, 1) := by decide +kernel
theorem dX9_isLast_6 : decode cX9_isLast 6 = .ok (.iconst 0, 1) := by decide +kernel
theorem dX9_isLast_7 : decode cX9_isLast 7 = .ok (.invokevirtual 46, 3) := by decide +kernel
theorem dX9_isLast_10 : decode cX9_isLast 10 = .ok (.iconst 1, 1) := by decide +kernel
theorem dX9_isLast_11 : decode cX9_isLast 11 = .ok (.isub, 1) := by decide +kernel
theorem dX9_isLast_12 : decode cX9_isLast 12 = .ok (.if_icmp .ne 7, 3) := by decide +kernel
theorem dX9_isLast_15 : decode cX9_isLast 15 = .ok (.iconst 1, 1) := by decide +kernel
theorem dX9_isLast_16 : decode cX9_isLast 16 = .ok (.goto 4, 3) := by decide +kernel
theorem dX9_isLast_19 : decode cX9_isLast 19 = .ok (.iconst 0, 1) := by decide +kernel
theorem dX9_isLast_20 : decode cX9_isLast 20 = .ok (.ireturn, 1) := by decide +kernel
theorem dX9_isMatchOver_0 : decode cX9_isMatchOver 0 = .ok (.aload_n 0, 1) := by decide +kernel
theorem dX9_isMatchOver_1 : decode cX9_isMatchOver 1 = .ok (.iconst 0, 1) := by decide +kernel
theorem dX9_isMatchOver_2 : decode cX9_isMatchOver 2 = .ok (.putfield 40, 3) := by decide +kernel
theorem dX9_isMatchOver_5 : decode cX9_isMatchOver 5 = .ok (.aload_n 0, 1) := by decide +kernel
theorem dX9_isMatchOver_6 : decode cX9_isMatchOver 6 = .ok (.invokevirtual 210, 3) := by decide +kernel
theorem dX9_isMatchOver_9 : decode cX9_isMatchOver 9 = .ok (.ifCond .eq 14, 3) := by decide +kernel
theorem dX9_isMatchOver_12 : decode cX9_isMatchOver 12 = .ok (.aload_n 0, 1) := by decide +kernel
theorem dX9_isMatchOver_13 : decode cX9_isMatchOver 13 = .ok (.invokevirtual 88, 3) := by decide +kernel
theorem dX9_isMatchOver_16 : decode cX9_isMatchOver 16 = .ok (.ifCond .eq 7, 3) := by decide +kernel
theorem dX9_isMatchOver_19 : decode cX9_isMatchOver 19 = .ok (.iconst 1, 1) := by decide +kernel
theorem dX9_isMatchOver_20 : decode cX9_isMatchOver 20 = .ok (.goto 4, 3) := by decide +kernel
theorem dX9_isMatchOver_23 : decode cX9_isMatchOver 23 = .ok (.iconst 0, 1) := by decide +kernel
theorem dX9_isMatchOver_24 : decode cX9_isMatchOver 24 = .ok (.ireturn, 1) := by decide +kernel
theorem dX9_scoreIn_0 : decode cX9_scoreIn 0 = .ok (.aload_n 0, 1) := by decide +kernel
theorem dX9_scoreIn_1 : decode cX9_scoreIn 1 = .ok (.bipush 6, 2) := by decide +kernel
theorem dX9_scoreIn_3 : decode cX9_scoreIn 3 = .ok (.iconst 2, 1) := by decide +kernel
theorem dX9_scoreIn_4 : decode cX9_scoreIn 4 = .ok (.iload_n 1, 1) := by decide +kernel
theorem dX9_scoreIn_5 : decode cX9_scoreIn 5 = .ok (.imul, 1) := by decide +kernel
theorem dX9_scoreIn_6 : decode cX9_scoreIn 6 = .ok (.iadd, 1) := by decide +kernel
theorem dX9_scoreIn_7 : decode cX9_scoreIn 7 = .ok (.iload_n 2, 1) := by decide +kernel
theorem dX9_scoreIn_8 : decode cX9_scoreIn 8 = .ok (.iadd, 1) := by decide +kernel
theorem dX9_scoreIn_9 : decode cX9_scoreIn 9 = .ok (.invokevirtual 46, 3) := by decide +kernel
theorem dX9_scoreIn_12 : decode cX9_scoreIn 12 = .ok (.ireturn, 1) := by decide +kernel
theorem dX9_winnerOf_0 : decode cX9_winnerOf 0 = .ok (.iload_n 1, 1) := by decide +kernel
theorem dX9_winnerOf_1 : decode cX9_winnerOf 1 = .ok (.aload_n 0, 1) := by decide +kernel
theorem dX9_winnerOf_2 : decode cX9_winnerOf 2 = .ok (.iconst 1, 1) := by decide +kernel
theorem dX9_winnerOf_3 : decode cX9_winnerOf 3 = .ok (.invokevirtual 46, 3) := by decide +kernel
theorem dX9_winnerOf_6 : decode cX9_winnerOf 6 = .ok (.if_icmp .lt 19, 3) := by decide +kernel
theorem dX9_winnerOf_9 : decode cX9_winnerOf 9 = .ok (.iload_n 1, 1) := by decide +kernel
theorem dX9_winnerOf_10 : decode cX9_winnerOf 10 = .ok (.aload_n 0, 1) := by decide +kernel
theorem dX9_winnerOf_11 : decode cX9_winnerOf 11 = .ok (.iconst 1, 1) := by decide +kernel
theorem dX9_winnerOf_12 : decode cX9_winnerOf 12 = .ok (.invokevirtual 46, 3) := by decide +kernel
theorem dX9_winnerOf_15 : decode cX9_winnerOf 15 = .ok (.if_icmp .ne 14, 3) := by decide +kernel
theorem dX9_winnerOf_18 : decode cX9_winnerOf 18 = .ok (.aload_n 0, 1) := by decide +kernel
theorem dX9_winnerOf_19 : decode cX9_winnerOf 19 = .ok (.invokevirtual 88, 3) := by decide +kernel
theorem dX9_winnerOf_22 : decode cX9_winnerOf 22 = .ok (.ifCond .eq 7, 3) := by decide +kernel
theorem dX9_winnerOf_25 : decode cX9_winnerOf 25 = .ok (.iconst 1, 1) := by decide +kernel
theorem dX9_winnerOf_26 : decode cX9_winnerOf 26 = .ok (.goto 4, 3) := by decide +kernel
theorem dX9_winnerOf_29 : decode cX9_winnerOf 29 = .ok (.iconst 0, 1) := by decide +kernel
theorem dX9_winnerOf_30 : decode cX9_winnerOf 30 = .ok (.istore_n 2, 1) := by decide +kernel
theorem dX9_winnerOf_31 : decode cX9_winnerOf 31 = .ok (.iload_n 2, 1) := by decide +kernel
theorem dX9_winnerOf_32 : decode cX9_winnerOf 32 = .ok (.ifCond .eq 18, 3) := by decide +kernel
theorem dX9_winnerOf_35 : decode cX9_winnerOf 35 = .ok (.aload_n 0, 1) := by decide +kernel
theorem dX9_winnerOf_36 : decode cX9_winnerOf 36 = .ok (.iload_n 1, 1) := by decide +kernel
theorem dX9_winnerOf_37 : decode cX9_winnerOf 37 = .ok (.iconst 0, 1) := by decide +kernel
theorem dX9_winnerOf_38 : decode cX9_winnerOf 38 = .ok (.invokevirtual 235, 3) := by decide +kernel
theorem dX9_winnerOf_41 : decode cX9_winnerOf 41 = .ok (.aload_n 0, 1) := by decide +kernel
theorem dX9_winnerOf_42 : decode cX9_winnerOf 42 = .ok (.iload_n 1, 1) := by decide +kernel
theorem dX9_winnerOf_43 : decode cX9_winnerOf 43 = .ok (.iconst 1, 1) := by decide +kernel
theorem dX9_winnerOf_44 : decode cX9_winnerOf 44 = .ok (.invokevirtual 235, 3) := by decide +kernel
theorem dX9_winnerOf_47 : decode cX9_winnerOf 47 = .ok (.if_icmp .ne 5, 3) := by decide +kernel
theorem dX9_winnerOf_50 : decode cX9_winnerOf 50 = .ok (.iconst (-1), 1) := by decide +kernel
theorem dX9_winnerOf_51 : decode cX9_winnerOf 51 = .ok (.ireturn, 1) := by decide +kernel
theorem dX9_winnerOf_52 : decode cX9_winnerOf 52 = .ok (.aload_n 0, 1) := by decide +kernel
theorem dX9_winnerOf_53 : decode cX9_winnerOf 53 = .ok (.iload_n 1, 1) := by decide +kernel
theorem dX9_winnerOf_54 : decode cX9_winnerOf 54 = .ok (.iconst 0, 1) := by decide +kernel
theorem dX9_winnerOf_55 : decode cX9_winnerOf 55 = .ok (.invokevirtual 235, 3) := by decide +kernel
theorem dX9_winnerOf_58 : decode cX9_winnerOf 58 = .ok (.aload_n 0, 1) := by decide +kernel
theorem dX9_winnerOf_59 : decode cX9_winnerOf 59 = .ok (.iload_n 1, 1) := by decide +kernel
theorem dX9_winnerOf_60 : decode cX9_winnerOf 60 = .ok (.iconst 1, 1) := by decide +kernel
theorem dX9_winnerOf_61 : decode cX9_winnerOf 61 = .ok (.invokevirtual 235, 3) := by decide +kernel
theorem dX9_winnerOf_64 : decode cX9_winnerOf 64 = .ok (.if_icmp .le 7, 3) := by decide +kernel
theorem dX9_winnerOf_67 : decode cX9_winnerOf 67 = .ok (.iconst 0, 1) := by decide +kernel
theorem dX9_winnerOf_68 : decode cX9_winnerOf 68 = .ok (.goto 4, 3) := by decide +kernel
theorem dX9_winnerOf_71 : decode cX9_winnerOf 71 = .ok (.iconst 1, 1) := by decide +kernel
theorem dX9_winnerOf_72 : decode cX9_winnerOf 72 = .ok (.ireturn, 1) := by decide +kernel
theorem dX9_roundWinner_0 : decode cX9_roundWinner 0 = .ok (.aload_n 0, 1) := by decide +kernel
theorem dX9_roundWinner_1 : decode cX9_roundWinner 1 = .ok (.iconst 0, 1) := by decide +kernel
theorem dX9_roundWinner_2 : decode cX9_roundWinner 2 = .ok (.putfield 40, 3) := by decide +kernel
theorem dX9_roundWinner_5 : decode cX9_roundWinner 5 = .ok (.aload_n 0, 1) := by decide +kernel
theorem dX9_roundWinner_6 : decode cX9_roundWinner 6 = .ok (.iload_n 1, 1) := by decide +kernel
theorem dX9_roundWinner_7 : decode cX9_roundWinner 7 = .ok (.invokevirtual 238, 3) := by decide +kernel
theorem dX9_roundWinner_10 : decode cX9_roundWinner 10 = .ok (.ifCond .eq 11, 3) := by decide +kernel
theorem dX9_roundWinner_13 : decode cX9_roundWinner 13 = .ok (.aload_n 0, 1) := by decide +kernel
theorem dX9_roundWinner_14 : decode cX9_roundWinner 14 = .ok (.iload_n 1, 1) := by decide +kernel
theorem dX9_roundWinner_15 : decode cX9_roundWinner 15 = .ok (.invokevirtual 241, 3) := by decide +kernel
theorem dX9_roundWinner_18 : decode cX9_roundWinner 18 = .ok (.goto 8, 3) := by decide +kernel
theorem dX9_roundWinner_21 : decode cX9_roundWinner 21 = .ok (.aload_n 0, 1) := by decide +kernel
theorem dX9_roundWinner_22 : decode cX9_roundWinner 22 = .ok (.iconst 1, 1) := by decide +kernel
theorem dX9_roundWinner_23 : decode cX9_roundWinner 23 = .ok (.invokevirtual 219, 3) := by decide +kernel
theorem dX9_roundWinner_26 : decode cX9_roundWinner 26 = .ok (.ireturn, 1) := by decide +kernel
theorem dX9_wonBy_0 : decode cX9_wonBy 0 = .ok (.iconst 0, 1) := by decide +kernel
theorem dX9_wonBy_1 : decode cX9_wonBy 1 = .ok (.istore_n 2, 1) := by decide +kernel
theorem dX9_wonBy_2 : decode cX9_wonBy 2 = .ok (.iconst 0, 1) := by decide +kernel
theorem dX9_wonBy_3 : decode cX9_wonBy 3 = .ok (.istore_n 3, 1) := by decide +kernel
theorem dX9_wonBy_4 : decode cX9_wonBy 4 = .ok (.iload_n 3, 1) := by decide +kernel
theorem dX9_wonBy_5 : decode cX9_wonBy 5 = .ok (.aload_n 0, 1) := by decide +kernel
theorem dX9_wonBy_6 : decode cX9_wonBy 6 = .ok (.iconst 0, 1) := by decide +kernel
theorem dX9_wonBy_7 : decode cX9_wonBy 7 = .ok (.invokevirtual 46, 3) := by decide +kernel
theorem dX9_wonBy_10 : decode cX9_wonBy 10 = .ok (.if_icmp .ge 21, 3) := by decide +kernel
theorem dX9_wonBy_13 : decode cX9_wonBy 13 = .ok (.aload_n 0, 1) := by decide +kernel
theorem dX9_wonBy_14 : decode cX9_wonBy 14 = .ok (.iload_n 3, 1) := by decide +kernel
theorem dX9_wonBy_15 : decode cX9_wonBy 15 = .ok (.invokevirtual 241, 3) := by decide +kernel
theorem dX9_wonBy_18 : decode cX9_wonBy 18 = .ok (.iload_n 1, 1) := by decide +kernel
theorem dX9_wonBy_19 : decode cX9_wonBy 19 = .ok (.if_icmp .ne 6, 3) := by decide +kernel
theorem dX9_wonBy_22 : decode cX9_wonBy 22 = .ok (.iinc 2 1, 3) := by decide +kernel
theorem dX9_wonBy_25 : decode cX9_wonBy 25 = .ok (.iinc 3 1, 3) := by decide +kernel
theorem dX9_wonBy_28 : decode cX9_wonBy 28 = .ok (.goto (-24), 3) := by decide +kernel
theorem dX9_wonBy_31 : decode cX9_wonBy 31 = .ok (.iload_n 2, 1) := by decide +kernel
theorem dX9_wonBy_32 : decode cX9_wonBy 32 = .ok (.ireturn, 1) := by decide +kernel
theorem dX9_roundsWon_0 : decode cX9_roundsWon 0 = .ok (.aload_n 0, 1) := by decide +kernel
theorem dX9_roundsWon_1 : decode cX9_roundsWon 1 = .ok (.iconst 0, 1) := by decide +kernel
theorem dX9_roundsWon_2 : decode cX9_roundsWon 2 = .ok (.putfield 40, 3) := by decide +kernel
theorem dX9_roundsWon_5 : decode cX9_roundsWon 5 = .ok (.iload_n 1, 1) := by decide +kernel
theorem dX9_roundsWon_6 : decode cX9_roundsWon 6 = .ok (.invokestatic 244, 3) := by decide +kernel
theorem dX9_roundsWon_9 : decode cX9_roundsWon 9 = .ok (.ifCond .eq 11, 3) := by decide +kernel
theorem dX9_roundsWon_12 : decode cX9_roundsWon 12 = .ok (.aload_n 0, 1) := by decide +kernel
theorem dX9_roundsWon_13 : decode cX9_roundsWon 13 = .ok (.iload_n 1, 1) := by decide +kernel
theorem dX9_roundsWon_14 : decode cX9_roundsWon 14 = .ok (.invokevirtual 247, 3) := by decide +kernel
theorem dX9_roundsWon_17 : decode cX9_roundsWon 17 = .ok (.goto 8, 3) := by decide +kernel
theorem dX9_roundsWon_20 : decode cX9_roundsWon 20 = .ok (.aload_n 0, 1) := by decide +kernel
theorem dX9_roundsWon_21 : decode cX9_roundsWon 21 = .ok (.iconst 1, 1) := by decide +kernel
theorem dX9_roundsWon_22 : decode cX9_roundsWon 22 = .ok (.invokevirtual 219, 3) := by decide +kernel
theorem dX9_roundsWon_25 : decode cX9_roundsWon 25 = .ok (.ireturn, 1) := by decide +kernel
theorem dX9_scoreNow_0 : decode cX9_scoreNow 0 = .ok (.aload_n 0, 1) := by decide +kernel
theorem dX9_scoreNow_1 : decode cX9_scoreNow 1 = .ok (.aload_n 0, 1) := by decide +kernel
theorem dX9_scoreNow_2 : decode cX9_scoreNow 2 = .ok (.iconst 1, 1) := by decide +kernel
theorem dX9_scoreNow_3 : decode cX9_scoreNow 3 = .ok (.invokevirtual 46, 3) := by decide +kernel
theorem dX9_scoreNow_6 : decode cX9_scoreNow 6 = .ok (.iload_n 1, 1) := by decide +kernel
theorem dX9_scoreNow_7 : decode cX9_scoreNow 7 = .ok (.invokevirtual 235, 3) := by decide +kernel
theorem dX9_scoreNow_10 : decode cX9_scoreNow 10 = .ok (.ireturn, 1) := by decide +kernel
theorem dX9_totalOf_0 : decode cX9_totalOf 0 = .ok (.iconst 0, 1) := by decide +kernel
theorem dX9_totalOf_1 : decode cX9_totalOf 1 = .ok (.istore_n 2, 1) := by decide +kernel
theorem dX9_totalOf_2 : decode cX9_totalOf 2 = .ok (.iconst 0, 1) := by decide +kernel
theorem dX9_totalOf_3 : decode cX9_totalOf 3 = .ok (.istore_n 3, 1) := by decide +kernel
theorem dX9_totalOf_4 : decode cX9_totalOf 4 = .ok (.iload_n 3, 1) := by decide +kernel
theorem dX9_totalOf_5 : decode cX9_totalOf 5 = .ok (.aload_n 0, 1) := by decide +kernel
theorem dX9_totalOf_6 : decode cX9_totalOf 6 = .ok (.iconst 0, 1) := by decide +kernel
theorem dX9_totalOf_7 : decode cX9_totalOf 7 = .ok (.invokevirtual 46, 3) := by decide +kernel
theorem dX9_totalOf_10 : decode cX9_totalOf 10 = .ok (.if_icmp .ge 18, 3) := by decide +kernel
theorem dX9_totalOf_13 : decode cX9_totalOf 13 = .ok (.iload_n 2, 1) := by decide +kernel
theorem dX9_totalOf_14 : decode cX9_totalOf 14 = .ok (.aload_n 0, 1) := by decide +kernel
theorem dX9_totalOf_15 : decode cX9_totalOf 15 = .ok (.iload_n 3, 1) := by decide +kernel
theorem dX9_totalOf_16 : decode cX9_totalOf 16 = .ok (.iload_n 1, 1) := by decide +kernel
theorem dX9_totalOf_17 : decode cX9_totalOf 17 = .ok (.invokevirtual 235, 3) := by decide +kernel
theorem dX9_totalOf_20 : decode cX9_totalOf 20 = .ok (.iadd, 1) := by decide +kernel
theorem dX9_totalOf_21 : decode cX9_totalOf 21 = .ok (.istore_n 2, 1) := by decide +kernel
theorem dX9_totalOf_22 : decode cX9_totalOf 22 = .ok (.iinc 3 1, 3) := by decide +kernel
theorem dX9_totalOf_25 : decode cX9_totalOf 25 = .ok (.goto (-21), 3) := by decide +kernel
theorem dX9_totalOf_28 : decode cX9_totalOf 28 = .ok (.iload_n 2, 1) := by decide +kernel
theorem dX9_totalOf_29 : decode cX9_totalOf 29 = .ok (.ireturn, 1) := by decide +kernel
theorem dX9_matchWinner_0 : decode cX9_matchWinner 0 = .ok (.aload_n 0, 1) := by decide +kernel
theorem dX9_matchWinner_1 : decode cX9_matchWinner 1 = .ok (.iconst 0, 1) := by decide +kernel
theorem dX9_matchWinner_2 : decode cX9_matchWinner 2 = .ok (.putfield 40, 3) := by decide +kernel
theorem dX9_matchWinner_5 : decode cX9_matchWinner 5 = .ok (.aload_n 0, 1) := by decide +kernel
theorem dX9_matchWinner_6 : decode cX9_matchWinner 6 = .ok (.invokevirtual 210, 3) := by decide +kernel
theorem dX9_matchWinner_9 : decode cX9_matchWinner 9 = .ok (.ifCond .eq 10, 3) := by decide +kernel
theorem dX9_matchWinner_12 : decode cX9_matchWinner 12 = .ok (.aload_n 0, 1) := by decide +kernel
theorem dX9_matchWinner_13 : decode cX9_matchWinner 13 = .ok (.invokevirtual 88, 3) := by decide +kernel
theorem dX9_matchWinner_16 : decode cX9_matchWinner 16 = .ok (.ifCond .ne 5, 3) := by decide +kernel
theorem dX9_matchWinner_19 : decode cX9_matchWinner 19 = .ok (.iconst (-1), 1) := by decide +kernel
theorem dX9_matchWinner_20 : decode cX9_matchWinner 20 = .ok (.ireturn, 1) := by decide +kernel
theorem dX9_matchWinner_21 : decode cX9_matchWinner 21 = .ok (.aload_n 0, 1) := by decide +kernel
theorem dX9_matchWinner_22 : decode cX9_matchWinner 22 = .ok (.iconst 0, 1) := by decide +kernel
theorem dX9_matchWinner_23 : decode cX9_matchWinner 23 = .ok (.invokevirtual 247, 3) := by decide +kernel
theorem dX9_matchWinner_26 : decode cX9_matchWinner 26 = .ok (.aload_n 0, 1) := by decide +kernel
theorem dX9_matchWinner_27 : decode cX9_matchWinner 27 = .ok (.iconst 1, 1) := by decide +kernel
theorem dX9_matchWinner_28 : decode cX9_matchWinner 28 = .ok (.invokevirtual 247, 3) := by decide +kernel
theorem dX9_matchWinner_31 : decode cX9_matchWinner 31 = .ok (.isub, 1) := by decide +kernel
theorem dX9_matchWinner_32 : decode cX9_matchWinner 32 = .ok (.istore_n 1, 1) := by decide +kernel
theorem dX9_matchWinner_33 : decode cX9_matchWinner 33 = .ok (.iload_n 1, 1) := by decide +kernel
theorem dX9_matchWinner_34 : decode cX9_matchWinner 34 = .ok (.ifCond .ne 15, 3) := by decide +kernel
theorem dX9_matchWinner_37 : decode cX9_matchWinner 37 = .ok (.aload_n 0, 1) := by decide +kernel
theorem dX9_matchWinner_38 : decode cX9_matchWinner 38 = .ok (.iconst 0, 1) := by decide +kernel
theorem dX9_matchWinner_39 : decode cX9_matchWinner 39 = .ok (.invokevirtual 250, 3) := by decide +kernel
theorem dX9_matchWinner_42 : decode cX9_matchWinner 42 = .ok (.aload_n 0, 1) := by decide +kernel
theorem dX9_matchWinner_43 : decode cX9_matchWinner 43 = .ok (.iconst 1, 1) := by decide +kernel
theorem dX9_matchWinner_44 : decode cX9_matchWinner 44 = .ok (.invokevirtual 250, 3) := by decide +kernel
theorem dX9_matchWinner_47 : decode cX9_matchWinner 47 = .ok (.isub, 1) := by decide +kernel
theorem dX9_matchWinner_48 : decode cX9_matchWinner 48 = .ok (.istore_n 1, 1) := by decide +kernel
theorem dX9_matchWinner_49 : decode cX9_matchWinner 49 = .ok (.iload_n 1, 1) := by decide +kernel
theorem dX9_matchWinner_50 : decode cX9_matchWinner 50 = .ok (.ifCond .ne 7, 3) := by decide +kernel
theorem dX9_matchWinner_53 : decode cX9_matchWinner 53 = .ok (.iconst (-1), 1) := by decide +kernel
theorem dX9_matchWinner_54 : decode cX9_matchWinner 54 = .ok (.goto 12, 3) := by decide +kernel
theorem dX9_matchWinner_57 : decode cX9_matchWinner 57 = .ok (.iload_n 1, 1) := by decide +kernel
theorem dX9_matchWinner_58 : decode cX9_matchWinner 58 = .ok (.ifCond .le 7, 3) := by decide +kernel
theorem dX9_matchWinner_61 : decode cX9_matchWinner 61 = .ok (.iconst 0, 1) := by decide +kernel
theorem dX9_matchWinner_62 : decode cX9_matchWinner 62 = .ok (.goto 4, 3) := by decide +kernel
theorem dX9_matchWinner_65 : decode cX9_matchWinner 65 = .ok (.iconst 1, 1) := by decide +kernel
theorem dX9_matchWinner_66 : decode cX9_matchWinner 66 = .ok (.ireturn, 1) := by decide +kernel
theorem dX9_playerToMove_0 : decode cX9_playerToMove 0 = .ok (.aload_n 0, 1) := by decide +kernel
theorem dX9_playerToMove_1 : decode cX9_playerToMove 1 = .ok (.iconst 0, 1) := by decide +kernel
theorem dX9_playerToMove_2 : decode cX9_playerToMove 2 = .ok (.putfield 40, 3) := by decide +kernel
theorem dX9_playerToMove_5 : decode cX9_playerToMove 5 = .ok (.aload_n 0, 1) := by decide +kernel
theorem dX9_playerToMove_6 : decode cX9_playerToMove 6 = .ok (.iconst 2, 1) := by decide +kernel
theorem dX9_playerToMove_7 : decode cX9_playerToMove 7 = .ok (.invokevirtual 46, 3) := by decide +kernel
theorem dX9_playerToMove_10 : decode cX9_playerToMove 10 = .ok (.ireturn, 1) := by decide +kernel
theorem dX9_roundScore_0 : decode cX9_roundScore 0 = .ok (.aload_n 0, 1) := by decide +kernel
theorem dX9_roundScore_1 : decode cX9_roundScore 1 = .ok (.iconst 0, 1) := by decide +kernel
theorem dX9_roundScore_2 : decode cX9_roundScore 2 = .ok (.putfield 40, 3) := by decide +kernel
theorem dX9_roundScore_5 : decode cX9_roundScore 5 = .ok (.aload_n 0, 1) := by decide +kernel
theorem dX9_roundScore_6 : decode cX9_roundScore 6 = .ok (.iload_n 1, 1) := by decide +kernel
theorem dX9_roundScore_7 : decode cX9_roundScore 7 = .ok (.invokevirtual 238, 3) := by decide +kernel
theorem dX9_roundScore_10 : decode cX9_roundScore 10 = .ok (.ifCond .eq 19, 3) := by decide +kernel
theorem dX9_roundScore_13 : decode cX9_roundScore 13 = .ok (.iload_n 2, 1) := by decide +kernel
theorem dX9_roundScore_14 : decode cX9_roundScore 14 = .ok (.invokestatic 244, 3) := by decide +kernel
theorem dX9_roundScore_17 : decode cX9_roundScore 17 = .ok (.ifCond .eq 12, 3) := by decide +kernel
theorem dX9_roundScore_20 : decode cX9_roundScore 20 = .ok (.aload_n 0, 1) := by decide +kernel
theorem dX9_roundScore_21 : decode cX9_roundScore 21 = .ok (.iload_n 1, 1) := by decide +kernel
theorem dX9_roundScore_22 : decode cX9_roundScore 22 = .ok (.iload_n 2, 1) := by decide +kernel
theorem dX9_roundScore_23 : decode cX9_roundScore 23 = .ok (.invokevirtual 235, 3) := by decide +kernel
theorem dX9_roundScore_26 : decode cX9_roundScore 26 = .ok (.goto 8, 3) := by decide +kernel
theorem dX9_roundScore_29 : decode cX9_roundScore 29 = .ok (.aload_n 0, 1) := by decide +kernel
theorem dX9_roundScore_30 : decode cX9_roundScore 30 = .ok (.iconst 1, 1) := by decide +kernel
theorem dX9_roundScore_31 : decode cX9_roundScore 31 = .ok (.invokevirtual 219, 3) := by decide +kernel
theorem dX9_roundScore_34 : decode cX9_roundScore 34 = .ok (.ireturn, 1) := by decide +kernel
theorem dX9_totalScore_0 : decode cX9_totalScore 0 = .ok (.aload_n 0, 1) := by decide +kernel
theorem dX9_totalScore_1 : decode cX9_totalScore 1 = .ok (.iconst 0, 1) := by decide +kernel
theorem dX9_totalScore_2 : decode cX9_totalScore 2 = .ok (.putfield 40, 3) := by decide +kernel
theorem dX9_totalScore_5 : decode cX9_totalScore 5 = .ok (.iload_n 1, 1) := by decide +kernel
theorem dX9_totalScore_6 : decode cX9_totalScore 6 = .ok (.invokestatic 244, 3) := by decide +kernel
theorem dX9_totalScore_9 : decode cX9_totalScore 9 = .ok (.ifCond .eq 11, 3) := by decide +kernel
theorem dX9_totalScore_12 : decode cX9_totalScore 12 = .ok (.aload_n 0, 1) := by decide +kernel
theorem dX9_totalScore_13 : decode cX9_totalScore 13 = .ok (.iload_n 1, 1) := by decide +kernel
theorem dX9_totalScore_14 : decode cX9_totalScore 14 = .ok (.invokevirtual 250, 3) := by decide +kernel
theorem dX9_totalScore_17 : decode cX9_totalScore 17 = .ok (.goto 8, 3) := by decide +kernel
theorem dX9_totalScore_20 : decode cX9_totalScore 20 = .ok (.aload_n 0, 1) := by decide +kernel
theorem dX9_totalScore_21 : decode cX9_totalScore 21 = .ok (.iconst 1, 1) := by decide +kernel
theorem dX9_totalScore_22 : decode cX9_totalScore 22 = .ok (.invokevirtual 219, 3) := by decide +kernel
theorem dX9_totalScore_25 : decode cX9_totalScore 25 = .ok (.ireturn, 1) := by decide +kernel
theorem dX9_tilesBurnt_0 : decode cX9_tilesBurnt 0 = .ok (.aload_n 0, 1) := by decide +kernel
theorem dX9_tilesBurnt_1 : decode cX9_tilesBurnt 1 = .ok (.iconst 0, 1) := by decide +kernel
theorem dX9_tilesBurnt_2 : decode cX9_tilesBurnt 2 = .ok (.putfield 40, 3) := by decide +kernel
theorem dX9_tilesBurnt_5 : decode cX9_tilesBurnt 5 = .ok (.iload_n 1, 1) := by decide +kernel
theorem dX9_tilesBurnt_6 : decode cX9_tilesBurnt 6 = .ok (.invokestatic 244, 3) := by decide +kernel
theorem dX9_tilesBurnt_9 : decode cX9_tilesBurnt 9 = .ok (.ifCond .eq 14, 3) := by decide +kernel
theorem dX9_tilesBurnt_12 : decode cX9_tilesBurnt 12 = .ok (.aload_n 0, 1) := by decide +kernel
theorem dX9_tilesBurnt_13 : decode cX9_tilesBurnt 13 = .ok (.bipush 14, 2) := by decide +kernel
theorem dX9_tilesBurnt_15 : decode cX9_tilesBurnt 15 = .ok (.iload_n 1, 1) := by decide +kernel
theorem dX9_tilesBurnt_16 : decode cX9_tilesBurnt 16 = .ok (.iadd, 1) := by decide +kernel
theorem dX9_tilesBurnt_17 : decode cX9_tilesBurnt 17 = .ok (.invokevirtual 46, 3) := by decide +kernel
theorem dX9_tilesBurnt_20 : decode cX9_tilesBurnt 20 = .ok (.goto 8, 3) := by decide +kernel
theorem dX9_tilesBurnt_23 : decode cX9_tilesBurnt 23 = .ok (.aload_n 0, 1) := by decide +kernel
theorem dX9_tilesBurnt_24 : decode cX9_tilesBurnt 24 = .ok (.iconst 1, 1) := by decide +kernel
theorem dX9_tilesBurnt_25 : decode cX9_tilesBurnt 25 = .ok (.invokevirtual 219, 3) := by decide +kernel
theorem dX9_tilesBurnt_28 : decode cX9_tilesBurnt 28 = .ok (.ireturn, 1) := by decide +kernel
theorem dX9_passes_0 : decode cX9_passes 0 = .ok (.aload_n 0, 1) := by decide +kernel
theorem dX9_passes_1 : decode cX9_passes 1 = .ok (.iconst 0, 1) := by decide +kernel
theorem dX9_passes_2 : decode cX9_passes 2 = .ok (.putfield 40, 3) := by decide +kernel
theorem dX9_passes_5 : decode cX9_passes 5 = .ok (.iload_n 1, 1) := by decide +kernel
theorem dX9_passes_6 : decode cX9_passes 6 = .ok (.invokestatic 244, 3) := by decide +kernel
theorem dX9_passes_9 : decode cX9_passes 9 = .ok (.ifCond .eq 14, 3) := by decide +kernel
theorem dX9_passes_12 : decode cX9_passes 12 = .ok (.aload_n 0, 1) := by decide +kernel
theorem dX9_passes_13 : decode cX9_passes 13 = .ok (.bipush 16, 2) := by decide +kernel
theorem dX9_passes_15 : decode cX9_passes 15 = .ok (.iload_n 1, 1) := by decide +kernel
theorem dX9_passes_16 : decode cX9_passes 16 = .ok (.iadd, 1) := by decide +kernel
theorem dX9_passes_17 : decode cX9_passes 17 = .ok (.invokevirtual 46, 3) := by decide +kernel
theorem dX9_passes_20 : decode cX9_passes 20 = .ok (.goto 8, 3) := by decide +kernel
theorem dX9_passes_23 : decode cX9_passes 23 = .ok (.aload_n 0, 1) := by decide +kernel
theorem dX9_passes_24 : decode cX9_passes 24 = .ok (.iconst 1, 1) := by decide +kernel
theorem dX9_passes_25 : decode cX9_passes 25 = .ok (.invokevirtual 219, 3) := by decide +kernel
theorem dX9_passes_28 : decode cX9_passes 28 = .ok (.ireturn, 1) := by decide +kernel
theorem dX9_meanTileScore_0 : decode cX9_meanTileScore 0 = .ok (.aload_n 0, 1) := by decide +kernel
theorem dX9_meanTileScore_1 : decode cX9_meanTileScore 1 = .ok (.iconst 0, 1) := by decide +kernel
theorem dX9_meanTileScore_2 : decode cX9_meanTileScore 2 = .ok (.putfield 40, 3) := by decide +kernel
theorem dX9_meanTileScore_5 : decode cX9_meanTileScore 5 = .ok (.iload_n 1, 1) := by decide +kernel
theorem dX9_meanTileScore_6 : decode cX9_meanTileScore 6 = .ok (.invokestatic 244, 3) := by decide +kernel
theorem dX9_meanTileScore_9 : decode cX9_meanTileScore 9 = .ok (.ifCond .ne 10, 3) := by decide +kernel
theorem dX9_meanTileScore_12 : decode cX9_meanTileScore 12 = .ok (.aload_n 0, 1) := by decide +kernel
theorem dX9_meanTileScore_13 : decode cX9_meanTileScore 13 = .ok (.iconst 1, 1) := by decide +kernel
theorem dX9_meanTileScore_14 : decode cX9_meanTileScore 14 = .ok (.invokevirtual 219, 3) := by decide +kernel
theorem dX9_meanTileScore_17 : decode cX9_meanTileScore 17 = .ok (.i2d, 1) := by decide +kernel
theorem dX9_meanTileScore_18 : decode cX9_meanTileScore 18 = .ok (.dreturn, 1) := by decide +kernel
theorem dX9_meanTileScore_19 : decode cX9_meanTileScore 19 = .ok (.aload_n 0, 1) := by decide +kernel
theorem dX9_meanTileScore_20 : decode cX9_meanTileScore 20 = .ok (.bipush 14, 2) := by decide +kernel
theorem dX9_meanTileScore_22 : decode cX9_meanTileScore 22 = .ok (.iload_n 1, 1) := by decide +kernel
theorem dX9_meanTileScore_23 : decode cX9_meanTileScore 23 = .ok (.iadd, 1) := by decide +kernel
theorem dX9_meanTileScore_24 : decode cX9_meanTileScore 24 = .ok (.invokevirtual 46, 3) := by decide +kernel
theorem dX9_meanTileScore_27 : decode cX9_meanTileScore 27 = .ok (.ifCond .ne 7, 3) := by decide +kernel
theorem dX9_meanTileScore_30 : decode cX9_meanTileScore 30 = .ok (.dconst 0, 1) := by decide +kernel
theorem dX9_meanTileScore_31 : decode cX9_meanTileScore 31 = .ok (.goto 19, 3) := by decide +kernel
theorem dX9_meanTileScore_34 : decode cX9_meanTileScore 34 = .ok (.aload_n 0, 1) := by decide +kernel
theorem dX9_meanTileScore_35 : decode cX9_meanTileScore 35 = .ok (.iload_n 1, 1) := by decide +kernel
theorem dX9_meanTileScore_36 : decode cX9_meanTileScore 36 = .ok (.invokevirtual 250, 3) := by decide +kernel
theorem dX9_meanTileScore_39 : decode cX9_meanTileScore 39 = .ok (.i2d, 1) := by decide +kernel
theorem dX9_meanTileScore_40 : decode cX9_meanTileScore 40 = .ok (.aload_n 0, 1) := by decide +kernel
theorem dX9_meanTileScore_41 : decode cX9_meanTileScore 41 = .ok (.bipush 14, 2) := by decide +kernel
theorem dX9_meanTileScore_43 : decode cX9_meanTileScore 43 = .ok (.iload_n 1, 1) := by decide +kernel
theorem dX9_meanTileScore_44 : decode cX9_meanTileScore 44 = .ok (.iadd, 1) := by decide +kernel
theorem dX9_meanTileScore_45 : decode cX9_meanTileScore 45 = .ok (.invokevirtual 46, 3) := by decide +kernel
theorem dX9_meanTileScore_48 : decode cX9_meanTileScore 48 = .ok (.i2d, 1) := by decide +kernel
theorem dX9_meanTileScore_49 : decode cX9_meanTileScore 49 = .ok (.ddiv, 1) := by decide +kernel
theorem dX9_meanTileScore_50 : decode cX9_meanTileScore 50 = .ok (.dreturn, 1) := by decide +kernel
theorem dX9_chainCount_0 : decode cX9_chainCount 0 = .ok (.aload_n 0, 1) := by decide +kernel
theorem dX9_chainCount_1 : decode cX9_chainCount 1 = .ok (.iconst 0, 1) := by decide +kernel
theorem dX9_chainCount_2 : decode cX9_chainCount 2 = .ok (.putfield 40, 3) := by decide +kernel
theorem dX9_chainCount_5 : decode cX9_chainCount 5 = .ok (.aload_n 0, 1) := by decide +kernel
theorem dX9_chainCount_6 : decode cX9_chainCount 6 = .ok (.invokevirtual 59, 3) := by decide +kernel
theorem dX9_chainCount_9 : decode cX9_chainCount 9 = .ok (.ireturn, 1) := by decide +kernel
theorem dX9_chainLength_0 : decode cX9_chainLength 0 = .ok (.aload_n 0, 1) := by decide +kernel
theorem dX9_chainLength_1 : decode cX9_chainLength 1 = .ok (.iconst 0, 1) := by decide +kernel
theorem dX9_chainLength_2 : decode cX9_chainLength 2 = .ok (.putfield 40, 3) := by decide +kernel
theorem dX9_chainLength_5 : decode cX9_chainLength 5 = .ok (.aload_n 0, 1) := by decide +kernel
theorem dX9_chainLength_6 : decode cX9_chainLength 6 = .ok (.iload_n 1, 1) := by decide +kernel
theorem dX9_chainLength_7 : decode cX9_chainLength 7 = .ok (.invokevirtual 216, 3) := by decide +kernel
theorem dX9_chainLength_10 : decode cX9_chainLength 10 = .ok (.ifCond .eq 11, 3) := by decide +kernel
theorem dX9_chainLength_13 : decode cX9_chainLength 13 = .ok (.aload_n 0, 1) := by decide +kernel
theorem dX9_chainLength_14 : decode cX9_chainLength 14 = .ok (.iload_n 1, 1) := by decide +kernel
theorem dX9_chainLength_15 : decode cX9_chainLength 15 = .ok (.invokevirtual 71, 3) := by decide +kernel
theorem dX9_chainLength_18 : decode cX9_chainLength 18 = .ok (.goto 8, 3) := by decide +kernel
theorem dX9_chainLength_21 : decode cX9_chainLength 21 = .ok (.aload_n 0, 1) := by decide +kernel
theorem dX9_chainLength_22 : decode cX9_chainLength 22 = .ok (.iconst 1, 1) := by decide +kernel
theorem dX9_chainLength_23 : decode cX9_chainLength 23 = .ok (.invokevirtual 219, 3) := by decide +kernel
theorem dX9_chainLength_26 : decode cX9_chainLength 26 = .ok (.ireturn, 1) := by decide +kernel
theorem dX9_isTile_0 : decode cX9_isTile 0 = .ok (.aload_n 0, 1) := by decide +kernel
theorem dX9_isTile_1 : decode cX9_isTile 1 = .ok (.iload_n 1, 1) := by decide +kernel
theorem dX9_isTile_2 : decode cX9_isTile 2 = .ok (.invokevirtual 216, 3) := by decide +kernel
theorem dX9_isTile_5 : decode cX9_isTile 5 = .ok (.ifCond .eq 20, 3) := by decide +kernel
theorem dX9_isTile_8 : decode cX9_isTile 8 = .ok (.iload_n 2, 1) := by decide +kernel
theorem dX9_isTile_9 : decode cX9_isTile 9 = .ok (.ifCond .lt 16, 3) := by decide +kernel
theorem dX9_isTile_12 : decode cX9_isTile 12 = .ok (.iload_n 2, 1) := by decide +kernel
theorem dX9_isTile_13 : decode cX9_isTile 13 = .ok (.aload_n 0, 1) := by decide +kernel
theorem dX9_isTile_14 : decode cX9_isTile 14 = .ok (.iload_n 1, 1) := by decide +kernel
theorem dX9_isTile_15 : decode cX9_isTile 15 = .ok (.invokevirtual 71, 3) := by decide +kernel
theorem dX9_isTile_18 : decode cX9_isTile 18 = .ok (.if_icmp .ge 7, 3) := by decide +kernel
theorem dX9_isTile_21 : decode cX9_isTile 21 = .ok (.iconst 1, 1) := by decide +kernel
theorem dX9_isTile_22 : decode cX9_isTile 22 = .ok (.goto 4, 3) := by decide +kernel
theorem dX9_isTile_25 : decode cX9_isTile 25 = .ok (.iconst 0, 1) := by decide +kernel
theorem dX9_isTile_26 : decode cX9_isTile 26 = .ok (.ireturn, 1) := by decide +kernel
theorem dX9_tileOf_0 : decode cX9_tileOf 0 = .ok (.aload_n 0, 1) := by decide +kernel
theorem dX9_tileOf_1 : decode cX9_tileOf 1 = .ok (.iload_n 1, 1) := by decide +kernel
theorem dX9_tileOf_2 : decode cX9_tileOf 2 = .ok (.aload_n 0, 1) := by decide +kernel
theorem dX9_tileOf_3 : decode cX9_tileOf 3 = .ok (.bipush 34, 2) := by decide +kernel
theorem dX9_tileOf_5 : decode cX9_tileOf 5 = .ok (.iload_n 1, 1) := by decide +kernel
theorem dX9_tileOf_6 : decode cX9_tileOf 6 = .ok (.iadd, 1) := by decide +kernel
theorem dX9_tileOf_7 : decode cX9_tileOf 7 = .ok (.invokevirtual 46, 3) := by decide +kernel
theorem dX9_tileOf_10 : decode cX9_tileOf 10 = .ok (.iload_n 2, 1) := by decide +kernel
theorem dX9_tileOf_11 : decode cX9_tileOf 11 = .ok (.iadd, 1) := by decide +kernel
theorem dX9_tileOf_12 : decode cX9_tileOf 12 = .ok (.invokevirtual 74, 3) := by decide +kernel
theorem dX9_tileOf_15 : decode cX9_tileOf 15 = .ok (.ireturn, 1) := by decide +kernel
theorem dX9_leftPips_0 : decode cX9_leftPips 0 = .ok (.aload_n 0, 1) := by decide +kernel
theorem dX9_leftPips_1 : decode cX9_leftPips 1 = .ok (.iconst 0, 1) := by decide +kernel
theorem dX9_leftPips_2 : decode cX9_leftPips 2 = .ok (.putfield 40, 3) := by decide +kernel
theorem dX9_leftPips_5 : decode cX9_leftPips 5 = .ok (.aload_n 0, 1) := by decide +kernel
theorem dX9_leftPips_6 : decode cX9_leftPips 6 = .ok (.iload_n 1, 1) := by decide +kernel
theorem dX9_leftPips_7 : decode cX9_leftPips 7 = .ok (.iload_n 2, 1) := by decide +kernel
theorem dX9_leftPips_8 : decode cX9_leftPips 8 = .ok (.invokevirtual 253, 3) := by decide +kernel
theorem dX9_leftPips_11 : decode cX9_leftPips 11 = .ok (.ifCond .eq 15, 3) := by decide +kernel
theorem dX9_leftPips_14 : decode cX9_leftPips 14 = .ok (.aload_n 0, 1) := by decide +kernel
theorem dX9_leftPips_15 : decode cX9_leftPips 15 = .ok (.iload_n 1, 1) := by decide +kernel
theorem dX9_leftPips_16 : decode cX9_leftPips 16 = .ok (.iload_n 2, 1) := by decide +kernel
theorem dX9_leftPips_17 : decode cX9_leftPips 17 = .ok (.invokevirtual 256, 3) := by decide +kernel
theorem dX9_leftPips_20 : decode cX9_leftPips 20 = .ok (.bipush 10, 2) := by decide +kernel
theorem dX9_leftPips_22 : decode cX9_leftPips 22 = .ok (.idiv, 1) := by decide +kernel
theorem dX9_leftPips_23 : decode cX9_leftPips 23 = .ok (.goto 8, 3) := by decide +kernel
theorem dX9_leftPips_26 : decode cX9_leftPips 26 = .ok (.aload_n 0, 1) := by decide +kernel
theorem dX9_leftPips_27 : decode cX9_leftPips 27 = .ok (.iconst 1, 1) := by decide +kernel
theorem dX9_leftPips_28 : decode cX9_leftPips 28 = .ok (.invokevirtual 219, 3) := by decide +kernel
theorem dX9_leftPips_31 : decode cX9_leftPips 31 = .ok (.ireturn, 1) := by decide +kernel
theorem dX9_rightPips_0 : decode cX9_rightPips 0 = .ok (.aload_n 0, 1) := by decide +kernel
theorem dX9_rightPips_1 : decode cX9_rightPips 1 = .ok (.iconst 0, 1) := by decide +kernel
theorem dX9_rightPips_2 : decode cX9_rightPips 2 = .ok (.putfield 40, 3) := by decide +kernel
theorem dX9_rightPips_5 : decode cX9_rightPips 5 = .ok (.aload_n 0, 1) := by decide +kernel
theorem dX9_rightPips_6 : decode cX9_rightPips 6 = .ok (.iload_n 1, 1) := by decide +kernel
theorem dX9_rightPips_7 : decode cX9_rightPips 7 = .ok (.iload_n 2, 1) := by decide +kernel
theorem dX9_rightPips_8 : decode cX9_rightPips 8 = .ok (.invokevirtual 253, 3) := by decide +kernel
theorem dX9_rightPips_11 : decode cX9_rightPips 11 = .ok (.ifCond .eq 15, 3) := by decide +kernel
theorem dX9_rightPips_14 : decode cX9_rightPips 14 = .ok (.aload_n 0, 1) := by decide +kernel
theorem dX9_rightPips_15 : decode cX9_rightPips 15 = .ok (.iload_n 1, 1) := by decide +kernel
theorem dX9_rightPips_16 : decode cX9_rightPips 16 = .ok (.iload_n 2, 1) := by decide +kernel
theorem dX9_rightPips_17 : decode cX9_rightPips 17 = .ok (.invokevirtual 256, 3) := by decide +kernel
theorem dX9_rightPips_20 : decode cX9_rightPips 20 = .ok (.bipush 10, 2) := by decide +kernel
theorem dX9_rightPips_22 : decode cX9_rightPips 22 = .ok (.irem, 1) := by decide +kernel
theorem dX9_rightPips_23 : decode cX9_rightPips 23 = .ok (.goto 8, 3) := by decide +kernel
theorem dX9_rightPips_26 : decode cX9_rightPips 26 = .ok (.aload_n 0, 1) := by decide +kernel
theorem dX9_rightPips_27 : decode cX9_rightPips 27 = .ok (.iconst 1, 1) := by decide +kernel
theorem dX9_rightPips_28 : decode cX9_rightPips 28 = .ok (.invokevirtual 219, 3) := by decide +kernel
theorem dX9_rightPips_31 : decode cX9_rightPips 31 = .ok (.ireturn, 1) := by decide +kernel
theorem dX9_tileScore_0 : decode cX9_tileScore 0 = .ok (.aload_n 0, 1) := by decide +kernel
theorem dX9_tileScore_1 : decode cX9_tileScore 1 = .ok (.iconst 0, 1) := by decide +kernel
theorem dX9_tileScore_2 : decode cX9_tileScore 2 = .ok (.putfield 40, 3) := by decide +kernel
theorem dX9_tileScore_5 : decode cX9_tileScore 5 = .ok (.aload_n 0, 1) := by decide +kernel
theorem dX9_tileScore_6 : decode cX9_tileScore 6 = .ok (.iload_n 1, 1) := by decide +kernel
theorem dX9_tileScore_7 : decode cX9_tileScore 7 = .ok (.iload_n 2, 1) := by decide +kernel
theorem dX9_tileScore_8 : decode cX9_tileScore 8 = .ok (.invokevirtual 253, 3) := by decide +kernel
theorem dX9_tileScore_11 : decode cX9_tileScore 11 = .ok (.ifCond .eq 15, 3) := by decide +kernel
theorem dX9_tileScore_14 : decode cX9_tileScore 14 = .ok (.aload_n 0, 1) := by decide +kernel
theorem dX9_tileScore_15 : decode cX9_tileScore 15 = .ok (.iload_n 1, 1) := by decide +kernel
theorem dX9_tileScore_16 : decode cX9_tileScore 16 = .ok (.iload_n 2, 1) := by decide +kernel
theorem dX9_tileScore_17 : decode cX9_tileScore 17 = .ok (.invokevirtual 256, 3) := by decide +kernel
theorem dX9_tileScore_20 : decode cX9_tileScore 20 = .ok (.invokestatic 78, 3) := by decide +kernel
theorem dX9_tileScore_23 : decode cX9_tileScore 23 = .ok (.goto 8, 3) := by decide +kernel
theorem dX9_tileScore_26 : decode cX9_tileScore 26 = .ok (.aload_n 0, 1) := by decide +kernel
theorem dX9_tileScore_27 : decode cX9_tileScore 27 = .ok (.iconst 1, 1) := by decide +kernel
theorem dX9_tileScore_28 : decode cX9_tileScore 28 = .ok (.invokevirtual 219, 3) := by decide +kernel
theorem dX9_tileScore_31 : decode cX9_tileScore 31 = .ok (.ireturn, 1) := by decide +kernel
theorem dX9_sumOf_0 : decode cX9_sumOf 0 = .ok (.iconst 0, 1) := by decide +kernel
theorem dX9_sumOf_1 : decode cX9_sumOf 1 = .ok (.istore_n 2, 1) := by decide +kernel
theorem dX9_sumOf_2 : decode cX9_sumOf 2 = .ok (.iconst 0, 1) := by decide +kernel
theorem dX9_sumOf_3 : decode cX9_sumOf 3 = .ok (.istore_n 3, 1) := by decide +kernel
theorem dX9_sumOf_4 : decode cX9_sumOf 4 = .ok (.iload_n 3, 1) := by decide +kernel
theorem dX9_sumOf_5 : decode cX9_sumOf 5 = .ok (.aload_n 0, 1) := by decide +kernel
theorem dX9_sumOf_6 : decode cX9_sumOf 6 = .ok (.iload_n 1, 1) := by decide +kernel
theorem dX9_sumOf_7 : decode cX9_sumOf 7 = .ok (.invokevirtual 71, 3) := by decide +kernel
theorem dX9_sumOf_10 : decode cX9_sumOf 10 = .ok (.if_icmp .ge 21, 3) := by decide +kernel
theorem dX9_sumOf_13 : decode cX9_sumOf 13 = .ok (.iload_n 2, 1) := by decide +kernel
theorem dX9_sumOf_14 : decode cX9_sumOf 14 = .ok (.aload_n 0, 1) := by decide +kernel
theorem dX9_sumOf_15 : decode cX9_sumOf 15 = .ok (.iload_n 1, 1) := by decide +kernel
theorem dX9_sumOf_16 : decode cX9_sumOf 16 = .ok (.iload_n 3, 1) := by decide +kernel
theorem dX9_sumOf_17 : decode cX9_sumOf 17 = .ok (.invokevirtual 256, 3) := by decide +kernel
theorem dX9_sumOf_20 : decode cX9_sumOf 20 = .ok (.invokestatic 78, 3) := by decide +kernel
theorem dX9_sumOf_23 : decode cX9_sumOf 23 = .ok (.iadd, 1) := by decide +kernel
theorem dX9_sumOf_24 : decode cX9_sumOf 24 = .ok (.istore_n 2, 1) := by decide +kernel
theorem dX9_sumOf_25 : decode cX9_sumOf 25 = .ok (.iinc 3 1, 3) := by decide +kernel
theorem dX9_sumOf_28 : decode cX9_sumOf 28 = .ok (.goto (-24), 3) := by decide +kernel
theorem dX9_sumOf_31 : decode cX9_sumOf 31 = .ok (.iload_n 2, 1) := by decide +kernel
theorem dX9_sumOf_32 : decode cX9_sumOf 32 = .ok (.ireturn, 1) := by decide +kernel
theorem dX9_chainScore_0 : decode cX9_chainScore 0 = .ok (.aload_n 0, 1) := by decide +kernel
theorem dX9_chainScore_1 : decode cX9_chainScore 1 = .ok (.iconst 0, 1) := by decide +kernel
theorem dX9_chainScore_2 : decode cX9_chainScore 2 = .ok (.putfield 40, 3) := by decide +kernel
theorem dX9_chainScore_5 : decode cX9_chainScore 5 = .ok (.aload_n 0, 1) := by decide +kernel
theorem dX9_chainScore_6 : decode cX9_chainScore 6 = .ok (.iload_n 1, 1) := by decide +kernel
theorem dX9_chainScore_7 : decode cX9_chainScore 7 = .ok (.invokevirtual 216, 3) := by decide +kernel
theorem dX9_chainScore_10 : decode cX9_chainScore 10 = .ok (.ifCond .eq 11, 3) := by decide +kernel
theorem dX9_chainScore_13 : decode cX9_chainScore 13 = .ok (.aload_n 0, 1) := by decide +kernel
theorem dX9_chainScore_14 : decode cX9_chainScore 14 = .ok (.iload_n 1, 1) := by decide +kernel
theorem dX9_chainScore_15 : decode cX9_chainScore 15 = .ok (.invokevirtual 259, 3) := by decide +kernel
theorem dX9_chainScore_18 : decode cX9_chainScore 18 = .ok (.goto 8, 3) := by decide +kernel
theorem dX9_chainScore_21 : decode cX9_chainScore 21 = .ok (.aload_n 0, 1) := by decide +kernel
theorem dX9_chainScore_22 : decode cX9_chainScore 22 = .ok (.iconst 1, 1) := by decide +kernel
theorem dX9_chainScore_23 : decode cX9_chainScore 23 = .ok (.invokevirtual 219, 3) := by decide +kernel
theorem dX9_chainScore_26 : decode cX9_chainScore 26 = .ok (.ireturn, 1) := by decide +kernel
theorem dX9_remainingScore_0 : decode cX9_remainingScore 0 = .ok (.aload_n 0, 1) := by decide +kernel
theorem dX9_remainingScore_1 : decode cX9_remainingScore 1 = .ok (.iconst 0, 1) := by decide +kernel
theorem dX9_remainingScore_2 : decode cX9_remainingScore 2 = .ok (.putfield 40, 3) := by decide +kernel
theorem dX9_remainingScore_5 : decode cX9_remainingScore 5 = .ok (.iconst 0, 1) := by decide +kernel
theorem dX9_remainingScore_6 : decode cX9_remainingScore 6 = .ok (.istore_n 1, 1) := by decide +kernel
theorem dX9_remainingScore_7 : decode cX9_remainingScore 7 = .ok (.iconst 0, 1) := by decide +kernel
theorem dX9_remainingScore_8 : decode cX9_remainingScore 8 = .ok (.istore_n 2, 1) := by decide +kernel
theorem dX9_remainingScore_9 : decode cX9_remainingScore 9 = .ok (.iload_n 2, 1) := by decide +kernel
theorem dX9_remainingScore_10 : decode cX9_remainingScore 10 = .ok (.aload_n 0, 1) := by decide +kernel
theorem dX9_remainingScore_11 : decode cX9_remainingScore 11 = .ok (.invokevirtual 59, 3) := by decide +kernel
theorem dX9_remainingScore_14 : decode cX9_remainingScore 14 = .ok (.if_icmp .ge 17, 3) := by decide +kernel
theorem dX9_remainingScore_17 : decode cX9_remainingScore 17 = .ok (.iload_n 1, 1) := by decide +kernel
theorem dX9_remainingScore_18 : decode cX9_remainingScore 18 = .ok (.aload_n 0, 1) := by decide +kernel
theorem dX9_remainingScore_19 : decode cX9_remainingScore 19 = .ok (.iload_n 2, 1) := by decide +kernel
theorem dX9_remainingScore_20 : decode cX9_remainingScore 20 = .ok (.invokevirtual 259, 3) := by decide +kernel
theorem dX9_remainingScore_23 : decode cX9_remainingScore 23 = .ok (.iadd, 1) := by decide +kernel
theorem dX9_remainingScore_24 : decode cX9_remainingScore 24 = .ok (.istore_n 1, 1) := by decide +kernel
theorem dX9_remainingScore_25 : decode cX9_remainingScore 25 = .ok (.iinc 2 1, 3) := by decide +kernel
theorem dX9_remainingScore_28 : decode cX9_remainingScore 28 = .ok (.goto (-19), 3) := by decide +kernel
theorem dX9_remainingScore_31 : decode cX9_remainingScore 31 = .ok (.iload_n 1, 1) := by decide +kernel
theorem dX9_remainingScore_32 : decode cX9_remainingScore 32 = .ok (.ireturn, 1) := by decide +kernel
theorem dX9_tilesWith_0 : decode cX9_tilesWith 0 = .ok (.aload_n 0, 1) := by decide +kernel
theorem dX9_tilesWith_1 : decode cX9_tilesWith 1 = .ok (.iconst 0, 1) := by decide +kernel
theorem dX9_tilesWith_2 : decode cX9_tilesWith 2 = .ok (.putfield 40, 3) := by decide +kernel
theorem dX9_tilesWith_5 : decode cX9_tilesWith 5 = .ok (.iload_n 1, 1) := by decide +kernel
theorem dX9_tilesWith_6 : decode cX9_tilesWith 6 = .ok (.ifCond .lt 9, 3) := by decide +kernel
theorem dX9_tilesWith_9 : decode cX9_tilesWith 9 = .ok (.iload_n 1, 1) := by decide +kernel
theorem dX9_tilesWith_10 : decode cX9_tilesWith 10 = .ok (.bipush 6, 2) := by decide +kernel
theorem dX9_tilesWith_12 : decode cX9_tilesWith 12 = .ok (.if_icmp .le 9, 3) := by decide +kernel
theorem dX9_tilesWith_15 : decode cX9_tilesWith 15 = .ok (.aload_n 0, 1) := by decide +kernel
theorem dX9_tilesWith_16 : decode cX9_tilesWith 16 = .ok (.iconst 1, 1) := by decide +kernel
theorem dX9_tilesWith_17 : decode cX9_tilesWith 17 = .ok (.invokevirtual 219, 3) := by decide +kernel
theorem dX9_tilesWith_20 : decode cX9_tilesWith 20 = .ok (.ireturn, 1) := by decide +kernel
theorem dX9_tilesWith_21 : decode cX9_tilesWith 21 = .ok (.iconst 0, 1) := by decide +kernel
theorem dX9_tilesWith_22 : decode cX9_tilesWith 22 = .ok (.istore_n 2, 1) := by decide +kernel
theorem dX9_tilesWith_23 : decode cX9_tilesWith 23 = .ok (.iconst 0, 1) := by decide +kernel
theorem dX9_tilesWith_24 : decode cX9_tilesWith 24 = .ok (.istore_n 3, 1) := by decide +kernel
theorem dX9_tilesWith_25 : decode cX9_tilesWith 25 = .ok (.iload_n 3, 1) := by decide +kernel
theorem dX9_tilesWith_26 : decode cX9_tilesWith 26 = .ok (.aload_n 0, 1) := by decide +kernel
theorem dX9_tilesWith_27 : decode cX9_tilesWith 27 = .ok (.invokevirtual 59, 3) := by decide +kernel
theorem dX9_tilesWith_30 : decode cX9_tilesWith 30 = .ok (.if_icmp .ge 45, 3) := by decide +kernel
theorem dX9_tilesWith_33 : decode cX9_tilesWith 33 = .ok (.iconst 0, 1) := by decide +kernel
theorem dX9_tilesWith_34 : decode cX9_tilesWith 34 = .ok (.istore 4, 2) := by decide +kernel
theorem dX9_tilesWith_36 : decode cX9_tilesWith 36 = .ok (.iload 4, 2) := by decide +kernel
theorem dX9_tilesWith_38 : decode cX9_tilesWith 38 = .ok (.aload_n 0, 1) := by decide +kernel
theorem dX9_tilesWith_39 : decode cX9_tilesWith 39 = .ok (.iload_n 3, 1) := by decide +kernel
theorem dX9_tilesWith_40 : decode cX9_tilesWith 40 = .ok (.invokevirtual 71, 3) := by decide +kernel
theorem dX9_tilesWith_43 : decode cX9_tilesWith 43 = .ok (.if_icmp .ge 26, 3) := by decide +kernel
theorem dX9_tilesWith_46 : decode cX9_tilesWith 46 = .ok (.aload_n 0, 1) := by decide +kernel
theorem dX9_tilesWith_47 : decode cX9_tilesWith 47 = .ok (.iload_n 3, 1) := by decide +kernel
theorem dX9_tilesWith_48 : decode cX9_tilesWith 48 = .ok (.iload 4, 2) := by decide +kernel
theorem dX9_tilesWith_50 : decode cX9_tilesWith 50 = .ok (.invokevirtual 256, 3) := by decide +kernel
theorem dX9_tilesWith_53 : decode cX9_tilesWith 53 = .ok (.iload_n 1, 1) := by decide +kernel
theorem dX9_tilesWith_54 : decode cX9_tilesWith 54 = .ok (.invokestatic 262, 3) := by decide +kernel
theorem dX9_tilesWith_57 : decode cX9_tilesWith 57 = .ok (.ifCond .eq 6, 3) := by decide +kernel
theorem dX9_tilesWith_60 : decode cX9_tilesWith 60 = .ok (.iinc 2 1, 3) := by decide +kernel
theorem dX9_tilesWith_63 : decode cX9_tilesWith 63 = .ok (.iinc 4 1, 3) := by decide +kernel
theorem dX9_tilesWith_66 : decode cX9_tilesWith 66 = .ok (.goto (-30), 3) := by decide +kernel
theorem dX9_tilesWith_69 : decode cX9_tilesWith 69 = .ok (.iinc 3 1, 3) := by decide +kernel
theorem dX9_tilesWith_72 : decode cX9_tilesWith 72 = .ok (.goto (-47), 3) := by decide +kernel
theorem dX9_tilesWith_75 : decode cX9_tilesWith 75 = .ok (.iload_n 2, 1) := by decide +kernel
theorem dX9_tilesWith_76 : decode cX9_tilesWith 76 = .ok (.ireturn, 1) := by decide +kernel
theorem dX9_doubleCount_0 : decode cX9_doubleCount 0 = .ok (.aload_n 0, 1) := by decide +kernel
theorem dX9_doubleCount_1 : decode cX9_doubleCount 1 = .ok (.iconst 0, 1) := by decide +kernel
theorem dX9_doubleCount_2 : decode cX9_doubleCount 2 = .ok (.putfield 40, 3) := by decide +kernel
theorem dX9_doubleCount_5 : decode cX9_doubleCount 5 = .ok (.iconst 0, 1) := by decide +kernel
theorem dX9_doubleCount_6 : decode cX9_doubleCount 6 = .ok (.istore_n 1, 1) := by decide +kernel
theorem dX9_doubleCount_7 : decode cX9_doubleCount 7 = .ok (.iconst 0, 1) := by decide +kernel
theorem dX9_doubleCount_8 : decode cX9_doubleCount 8 = .ok (.istore_n 2, 1) := by decide +kernel
theorem dX9_doubleCount_9 : decode cX9_doubleCount 9 = .ok (.iload_n 2, 1) := by decide +kernel
theorem dX9_doubleCount_10 : decode cX9_doubleCount 10 = .ok (.aload_n 0, 1) := by decide +kernel
theorem dX9_doubleCount_11 : decode cX9_doubleCount 11 = .ok (.invokevirtual 59, 3) := by decide +kernel
theorem dX9_doubleCount_14 : decode cX9_doubleCount 14 = .ok (.if_icmp .ge 41, 3) := by decide +kernel
theorem dX9_doubleCount_17 : decode cX9_doubleCount 17 = .ok (.iconst 0, 1) := by decide +kernel
theorem dX9_doubleCount_18 : decode cX9_doubleCount 18 = .ok (.istore_n 3, 1) := by decide +kernel
theorem dX9_doubleCount_19 : decode cX9_doubleCount 19 = .ok (.iload_n 3, 1) := by decide +kernel
theorem dX9_doubleCount_20 : decode cX9_doubleCount 20 = .ok (.aload_n 0, 1) := by decide +kernel
theorem dX9_doubleCount_21 : decode cX9_doubleCount 21 = .ok (.iload_n 2, 1) := by decide +kernel
theorem dX9_doubleCount_22 : decode cX9_doubleCount 22 = .ok (.invokevirtual 71, 3) := by decide +kernel
theorem dX9_doubleCount_25 : decode cX9_doubleCount 25 = .ok (.if_icmp .ge 24, 3) := by decide +kernel
theorem dX9_doubleCount_28 : decode cX9_doubleCount 28 = .ok (.aload_n 0, 1) := by decide +kernel
theorem dX9_doubleCount_29 : decode cX9_doubleCount 29 = .ok (.iload_n 2, 1) := by decide +kernel
theorem dX9_doubleCount_30 : decode cX9_doubleCount 30 = .ok (.iload_n 3, 1) := by decide +kernel
theorem dX9_doubleCount_31 : decode cX9_doubleCount 31 = .ok (.invokevirtual 256, 3) := by decide +kernel
theorem dX9_doubleCount_34 : decode cX9_doubleCount 34 = .ok (.invokestatic 67, 3) := by decide +kernel
theorem dX9_doubleCount_37 : decode cX9_doubleCount 37 = .ok (.ifCond .eq 6, 3) := by decide +kernel
theorem dX9_doubleCount_40 : decode cX9_doubleCount 40 = .ok (.iinc 1 1, 3) := by decide +kernel
theorem dX9_doubleCount_43 : decode cX9_doubleCount 43 = .ok (.iinc 3 1, 3) := by decide +kernel
theorem dX9_doubleCount_46 : decode cX9_doubleCount 46 = .ok (.goto (-27), 3) := by decide +kernel
theorem dX9_doubleCount_49 : decode cX9_doubleCount 49 = .ok (.iinc 2 1, 3) := by decide +kernel
theorem dX9_doubleCount_52 : decode cX9_doubleCount 52 = .ok (.goto (-43), 3) := by decide +kernel
theorem dX9_doubleCount_55 : decode cX9_doubleCount 55 = .ok (.iload_n 1, 1) := by decide +kernel
theorem dX9_doubleCount_56 : decode cX9_doubleCount 56 = .ok (.ireturn, 1) := by decide +kernel
theorem dX9_moveCount_0 : decode cX9_moveCount 0 = .ok (.aload_n 0, 1) := by decide +kernel
theorem dX9_moveCount_1 : decode cX9_moveCount 1 = .ok (.iconst 0, 1) := by decide +kernel
theorem dX9_moveCount_2 : decode cX9_moveCount 2 = .ok (.putfield 40, 3) := by decide +kernel
theorem dX9_moveCount_5 : decode cX9_moveCount 5 = .ok (.aload_n 0, 1) := by decide +kernel
theorem dX9_moveCount_6 : decode cX9_moveCount 6 = .ok (.invokevirtual 129, 3) := by decide +kernel
theorem dX9_moveCount_9 : decode cX9_moveCount 9 = .ok (.ireturn, 1) := by decide +kernel
theorem dX9_isMove_0 : decode cX9_isMove 0 = .ok (.iload_n 1, 1) := by decide +kernel
theorem dX9_isMove_1 : decode cX9_isMove 1 = .ok (.ifCond .lt 15, 3) := by decide +kernel
theorem dX9_isMove_4 : decode cX9_isMove 4 = .ok (.iload_n 1, 1) := by decide +kernel
theorem dX9_isMove_5 : decode cX9_isMove 5 = .ok (.aload_n 0, 1) := by decide +kernel
theorem dX9_isMove_6 : decode cX9_isMove 6 = .ok (.invokevirtual 129, 3) := by decide +kernel
theorem dX9_isMove_9 : decode cX9_isMove 9 = .ok (.if_icmp .ge 7, 3) := by decide +kernel
theorem dX9_isMove_12 : decode cX9_isMove 12 = .ok (.iconst 1, 1) := by decide +kernel
theorem dX9_isMove_13 : decode cX9_isMove 13 = .ok (.goto 4, 3) := by decide +kernel
theorem dX9_isMove_16 : decode cX9_isMove 16 = .ok (.iconst 0, 1) := by decide +kernel
theorem dX9_isMove_17 : decode cX9_isMove 17 = .ok (.ireturn, 1) := by decide +kernel
theorem dX9_isPass_0 : decode cX9_isPass 0 = .ok (.aload_n 0, 1) := by decide +kernel
theorem dX9_isPass_1 : decode cX9_isPass 1 = .ok (.iconst 0, 1) := by decide +kernel
theorem dX9_isPass_2 : decode cX9_isPass 2 = .ok (.putfield 40, 3) := by decide +kernel
theorem dX9_isPass_5 : decode cX9_isPass 5 = .ok (.aload_n 0, 1) := by decide +kernel
theorem dX9_isPass_6 : decode cX9_isPass 6 = .ok (.iload_n 1, 1) := by decide +kernel
theorem dX9_isPass_7 : decode cX9_isPass 7 = .ok (.invokevirtual 265, 3) := by decide +kernel
theorem dX9_isPass_10 : decode cX9_isPass 10 = .ok (.ifCond .eq 21, 3) := by decide +kernel
theorem dX9_isPass_13 : decode cX9_isPass 13 = .ok (.aload_n 0, 1) := by decide +kernel
theorem dX9_isPass_14 : decode cX9_isPass 14 = .ok (.iload_n 1, 1) := by decide +kernel
theorem dX9_isPass_15 : decode cX9_isPass 15 = .ok (.invokevirtual 132, 3) := by decide +kernel
theorem dX9_isPass_18 : decode cX9_isPass 18 = .ok (.bipush 6, 2) := by decide +kernel
theorem dX9_isPass_20 : decode cX9_isPass 20 = .ok (.if_icmp .ne 7, 3) := by decide +kernel
theorem dX9_isPass_23 : decode cX9_isPass 23 = .ok (.iconst 1, 1) := by decide +kernel
theorem dX9_isPass_24 : decode cX9_isPass 24 = .ok (.goto 21, 3) := by decide +kernel
theorem dX9_isPass_27 : decode cX9_isPass 27 = .ok (.iconst 0, 1) := by decide +kernel
theorem dX9_isPass_28 : decode cX9_isPass 28 = .ok (.goto 17, 3) := by decide +kernel
theorem dX9_isPass_31 : decode cX9_isPass 31 = .ok (.aload_n 0, 1) := by decide +kernel
theorem dX9_isPass_32 : decode cX9_isPass 32 = .ok (.iconst 1, 1) := by decide +kernel
theorem dX9_isPass_33 : decode cX9_isPass 33 = .ok (.invokevirtual 219, 3) := by decide +kernel
theorem dX9_isPass_36 : decode cX9_isPass 36 = .ok (.iconst 1, 1) := by decide +kernel
theorem dX9_isPass_37 : decode cX9_isPass 37 = .ok (.if_icmp .ne 7, 3) := by decide +kernel
theorem dX9_isPass_40 : decode cX9_isPass 40 = .ok (.iconst 1, 1) := by decide +kernel
theorem dX9_isPass_41 : decode cX9_isPass 41 = .ok (.goto 4, 3) := by decide +kernel
theorem dX9_isPass_44 : decode cX9_isPass 44 = .ok (.iconst 0, 1) := by decide +kernel
theorem dX9_isPass_45 : decode cX9_isPass 45 = .ok (.ireturn, 1) := by decide +kernel
theorem dX9_moveChain_0 : decode cX9_moveChain 0 = .ok (.aload_n 0, 1) := by decide +kernel
theorem dX9_moveChain_1 : decode cX9_moveChain 1 = .ok (.iconst 0, 1) := by decide +kernel
theorem dX9_moveChain_2 : decode cX9_moveChain 2 = .ok (.putfield 40, 3) := by decide +kernel
theorem dX9_moveChain_5 : decode cX9_moveChain 5 = .ok (.aload_n 0, 1) := by decide +kernel
theorem dX9_moveChain_6 : decode cX9_moveChain 6 = .ok (.iload_n 1, 1) := by decide +kernel
theorem dX9_moveChain_7 : decode cX9_moveChain 7 = .ok (.invokevirtual 265, 3) := by decide +kernel
theorem dX9_moveChain_10 : decode cX9_moveChain 10 = .ok (.ifCond .ne 9, 3) := by decide +kernel
theorem dX9_moveChain_13 : decode cX9_moveChain 13 = .ok (.aload_n 0, 1) := by decide +kernel
theorem dX9_moveChain_14 : decode cX9_moveChain 14 = .ok (.iconst 1, 1) := by decide +kernel
theorem dX9_moveChain_15 : decode cX9_moveChain 15 = .ok (.invokevirtual 219, 3) := by decide +kernel
theorem dX9_moveChain_18 : decode cX9_moveChain 18 = .ok (.ireturn, 1) := by decide +kernel
theorem dX9_moveChain_19 : decode cX9_moveChain 19 = .ok (.aload_n 0, 1) := by decide +kernel
theorem dX9_moveChain_20 : decode cX9_moveChain 20 = .ok (.iload_n 1, 1) := by decide +kernel
theorem dX9_moveChain_21 : decode cX9_moveChain 21 = .ok (.invokevirtual 132, 3) := by decide +kernel
theorem dX9_moveChain_24 : decode cX9_moveChain 24 = .ok (.bipush 6, 2) := by decide +kernel
theorem dX9_moveChain_26 : decode cX9_moveChain 26 = .ok (.if_icmp .ne 7, 3) := by decide +kernel
theorem dX9_moveChain_29 : decode cX9_moveChain 29 = .ok (.iconst (-1), 1) := by decide +kernel
theorem dX9_moveChain_30 : decode cX9_moveChain 30 = .ok (.goto 10, 3) := by decide +kernel
theorem dX9_moveChain_33 : decode cX9_moveChain 33 = .ok (.aload_n 0, 1) := by decide +kernel
theorem dX9_moveChain_34 : decode cX9_moveChain 34 = .ok (.iload_n 1, 1) := by decide +kernel
theorem dX9_moveChain_35 : decode cX9_moveChain 35 = .ok (.invokevirtual 132, 3) := by decide +kernel
theorem dX9_moveChain_38 : decode cX9_moveChain 38 = .ok (.iconst 2, 1) := by decide +kernel
theorem dX9_moveChain_39 : decode cX9_moveChain 39 = .ok (.idiv, 1) := by decide +kernel
theorem dX9_moveChain_40 : decode cX9_moveChain 40 = .ok (.ireturn, 1) := by decide +kernel
theorem dX9_isLeftBurn_0 : decode cX9_isLeftBurn 0 = .ok (.aload_n 0, 1) := by decide +kernel
theorem dX9_isLeftBurn_1 : decode cX9_isLeftBurn 1 = .ok (.iconst 0, 1) := by decide +kernel
theorem dX9_isLeftBurn_2 : decode cX9_isLeftBurn 2 = .ok (.putfield 40, 3) := by decide +kernel
theorem dX9_isLeftBurn_5 : decode cX9_isLeftBurn 5 = .ok (.aload_n 0, 1) := by decide +kernel
theorem dX9_isLeftBurn_6 : decode cX9_isLeftBurn 6 = .ok (.iload_n 1, 1) := by decide +kernel
theorem dX9_isLeftBurn_7 : decode cX9_isLeftBurn 7 = .ok (.invokevirtual 265, 3) := by decide +kernel
theorem dX9_isLeftBurn_10 : decode cX9_isLeftBurn 10 = .ok (.ifCond .eq 31, 3) := by decide +kernel
theorem dX9_isLeftBurn_13 : decode cX9_isLeftBurn 13 = .ok (.aload_n 0, 1) := by decide +kernel
theorem dX9_isLeftBurn_14 : decode cX9_isLeftBurn 14 = .ok (.iload_n 1, 1) := by decide +kernel
theorem dX9_isLeftBurn_15 : decode cX9_isLeftBurn 15 = .ok (.invokevirtual 132, 3) := by decide +kernel
theorem dX9_isLeftBurn_18 : decode cX9_isLeftBurn 18 = .ok (.bipush 6, 2) := by decide +kernel
theorem dX9_isLeftBurn_20 : decode cX9_isLeftBurn 20 = .ok (.if_icmp .eq 17, 3) := by decide +kernel
theorem dX9_isLeftBurn_23 : decode cX9_isLeftBurn 23 = .ok (.aload_n 0, 1) := by decide +kernel
theorem dX9_isLeftBurn_24 : decode cX9_isLeftBurn 24 = .ok (.iload_n 1, 1) := by decide +kernel
theorem dX9_isLeftBurn_25 : decode cX9_isLeftBurn 25 = .ok (.invokevirtual 132, 3) := by decide +kernel
theorem dX9_isLeftBurn_28 : decode cX9_isLeftBurn 28 = .ok (.iconst 2, 1) := by decide +kernel
theorem dX9_isLeftBurn_29 : decode cX9_isLeftBurn 29 = .ok (.irem, 1) := by decide +kernel
theorem dX9_isLeftBurn_30 : decode cX9_isLeftBurn 30 = .ok (.ifCond .ne 7, 3) := by decide +kernel
theorem dX9_isLeftBurn_33 : decode cX9_isLeftBurn 33 = .ok (.iconst 1, 1) := by decide +kernel
theorem dX9_isLeftBurn_34 : decode cX9_isLeftBurn 34 = .ok (.goto 21, 3) := by decide +kernel
theorem dX9_isLeftBurn_37 : decode cX9_isLeftBurn 37 = .ok (.iconst 0, 1) := by decide +kernel
theorem dX9_isLeftBurn_38 : decode cX9_isLeftBurn 38 = .ok (.goto 17, 3) := by decide +kernel
theorem dX9_isLeftBurn_41 : decode cX9_isLeftBurn 41 = .ok (.aload_n 0, 1) := by decide +kernel
theorem dX9_isLeftBurn_42 : decode cX9_isLeftBurn 42 = .ok (.iconst 1, 1) := by decide +kernel
theorem dX9_isLeftBurn_43 : decode cX9_isLeftBurn 43 = .ok (.invokevirtual 219, 3) := by decide +kernel
theorem dX9_isLeftBurn_46 : decode cX9_isLeftBurn 46 = .ok (.iconst 1, 1) := by decide +kernel
theorem dX9_isLeftBurn_47 : decode cX9_isLeftBurn 47 = .ok (.if_icmp .ne 7, 3) := by decide +kernel
theorem dX9_isLeftBurn_50 : decode cX9_isLeftBurn 50 = .ok (.iconst 1, 1) := by decide +kernel
theorem dX9_isLeftBurn_51 : decode cX9_isLeftBurn 51 = .ok (.goto 4, 3) := by decide +kernel
theorem dX9_isLeftBurn_54 : decode cX9_isLeftBurn 54 = .ok (.iconst 0, 1) := by decide +kernel
theorem dX9_isLeftBurn_55 : decode cX9_isLeftBurn 55 = .ok (.ireturn, 1) := by decide +kernel
theorem dX9_moveScore_0 : decode cX9_moveScore 0 = .ok (.aload_n 0, 1) := by decide +kernel
theorem dX9_moveScore_1 : decode cX9_moveScore 1 = .ok (.iconst 0, 1) := by decide +kernel
theorem dX9_moveScore_2 : decode cX9_moveScore 2 = .ok (.putfield 40, 3) := by decide +kernel
theorem dX9_moveScore_5 : decode cX9_moveScore 5 = .ok (.aload_n 0, 1) := by decide +kernel
theorem dX9_moveScore_6 : decode cX9_moveScore 6 = .ok (.iload_n 1, 1) := by decide +kernel
theorem dX9_moveScore_7 : decode cX9_moveScore 7 = .ok (.invokevirtual 265, 3) := by decide +kernel
theorem dX9_moveScore_10 : decode cX9_moveScore 10 = .ok (.ifCond .eq 15, 3) := by decide +kernel
theorem dX9_moveScore_13 : decode cX9_moveScore 13 = .ok (.aload_n 0, 1) := by decide +kernel
theorem dX9_moveScore_14 : decode cX9_moveScore 14 = .ok (.aload_n 0, 1) := by decide +kernel
theorem dX9_moveScore_15 : decode cX9_moveScore 15 = .ok (.iload_n 1, 1) := by decide +kernel
theorem dX9_moveScore_16 : decode cX9_moveScore 16 = .ok (.invokevirtual 132, 3) := by decide +kernel
theorem dX9_moveScore_19 : decode cX9_moveScore 19 = .ok (.invokevirtual 94, 3) := by decide +kernel
theorem dX9_moveScore_22 : decode cX9_moveScore 22 = .ok (.goto 8, 3) := by decide +kernel
theorem dX9_moveScore_25 : decode cX9_moveScore 25 = .ok (.aload_n 0, 1) := by decide +kernel
theorem dX9_moveScore_26 : decode cX9_moveScore 26 = .ok (.iconst 1, 1) := by decide +kernel
theorem dX9_moveScore_27 : decode cX9_moveScore 27 = .ok (.invokevirtual 219, 3) := by decide +kernel
theorem dX9_moveScore_30 : decode cX9_moveScore 30 = .ok (.ireturn, 1) := by decide +kernel
theorem dX9_loggedMoveCount_0 : decode cX9_loggedMoveCount 0 = .ok (.aload_n 0, 1) := by decide +kernel
theorem dX9_loggedMoveCount_1 : decode cX9_loggedMoveCount 1 = .ok (.iconst 0, 1) := by decide +kernel
theorem dX9_loggedMoveCount_2 : decode cX9_loggedMoveCount 2 = .ok (.putfield 40, 3) := by decide +kernel
theorem dX9_loggedMoveCount_5 : decode cX9_loggedMoveCount 5 = .ok (.aload_n 0, 1) := by decide +kernel
theorem dX9_loggedMoveCount_6 : decode cX9_loggedMoveCount 6 = .ok (.iconst 5, 1) := by decide +kernel
theorem dX9_loggedMoveCount_7 : decode cX9_loggedMoveCount 7 = .ok (.invokevirtual 46, 3) := by decide +kernel
theorem dX9_loggedMoveCount_10 : decode cX9_loggedMoveCount 10 = .ok (.ireturn, 1) := by decide +kernel
theorem dX9_loggedScore_0 : decode cX9_loggedScore 0 = .ok (.aload_n 0, 1) := by decide +kernel
theorem dX9_loggedScore_1 : decode cX9_loggedScore 1 = .ok (.iconst 0, 1) := by decide +kernel
theorem dX9_loggedScore_2 : decode cX9_loggedScore 2 = .ok (.putfield 40, 3) := by decide +kernel
theorem dX9_loggedScore_5 : decode cX9_loggedScore 5 = .ok (.iload_n 1, 1) := by decide +kernel
theorem dX9_loggedScore_6 : decode cX9_loggedScore 6 = .ok (.ifCond .lt 24, 3) := by decide +kernel
theorem dX9_loggedScore_9 : decode cX9_loggedScore 9 = .ok (.iload_n 1, 1) := by decide +kernel
theorem dX9_loggedScore_10 : decode cX9_loggedScore 10 = .ok (.aload_n 0, 1) := by decide +kernel
theorem dX9_loggedScore_11 : decode cX9_loggedScore 11 = .ok (.iconst 5, 1) := by decide +kernel
theorem dX9_loggedScore_12 : decode cX9_loggedScore 12 = .ok (.invokevirtual 46, 3) := by decide +kernel
theorem dX9_loggedScore_15 : decode cX9_loggedScore 15 = .ok (.if_icmp .ge 15, 3) := by decide +kernel
theorem dX9_loggedScore_18 : decode cX9_loggedScore 18 = .ok (.aload_n 0, 1) := by decide +kernel
theorem dX9_loggedScore_19 : decode cX9_loggedScore 19 = .ok (.sipush 184, 3) := by decide +kernel
theorem dX9_loggedScore_22 : decode cX9_loggedScore 22 = .ok (.iload_n 1, 1) := by decide +kernel
theorem dX9_loggedScore_23 : decode cX9_loggedScore 23 = .ok (.iadd, 1) := by decide +kernel
theorem dX9_loggedScore_24 : decode cX9_loggedScore 24 = .ok (.invokevirtual 46, 3) := by decide +kernel
theorem dX9_loggedScore_27 : decode cX9_loggedScore 27 = .ok (.goto 8, 3) := by decide +kernel
theorem dX9_loggedScore_30 : decode cX9_loggedScore 30 = .ok (.aload_n 0, 1) := by decide +kernel
theorem dX9_loggedScore_31 : decode cX9_loggedScore 31 = .ok (.iconst 1, 1) := by decide +kernel
theorem dX9_loggedScore_32 : decode cX9_loggedScore 32 = .ok (.invokevirtual 219, 3) := by decide +kernel
theorem dX9_loggedScore_35 : decode cX9_loggedScore 35 = .ok (.ireturn, 1) := by decide +kernel
theorem dX9_loggedChain_0 : decode cX9_loggedChain 0 = .ok (.aload_n 0, 1) := by decide +kernel
theorem dX9_loggedChain_1 : decode cX9_loggedChain 1 = .ok (.iconst 0, 1) := by decide +kernel
theorem dX9_loggedChain_2 : decode cX9_loggedChain 2 = .ok (.putfield 40, 3) := by decide +kernel
theorem dX9_loggedChain_5 : decode cX9_loggedChain 5 = .ok (.iload_n 1, 1) := by decide +kernel
theorem dX9_loggedChain_6 : decode cX9_loggedChain 6 = .ok (.ifCond .lt 12, 3) := by decide +kernel
theorem dX9_loggedChain_9 : decode cX9_loggedChain 9 = .ok (.iload_n 1, 1) := by decide +kernel
theorem dX9_loggedChain_10 : decode cX9_loggedChain 10 = .ok (.aload_n 0, 1) := by decide +kernel
theorem dX9_loggedChain_11 : decode cX9_loggedChain 11 = .ok (.iconst 5, 1) := by decide +kernel
theorem dX9_loggedChain_12 : decode cX9_loggedChain 12 = .ok (.invokevirtual 46, 3) := by decide +kernel
theorem dX9_loggedChain_15 : decode cX9_loggedChain 15 = .ok (.if_icmp .lt 9, 3) := by decide +kernel
theorem dX9_loggedChain_18 : decode cX9_loggedChain 18 = .ok (.aload_n 0, 1) := by decide +kernel
theorem dX9_loggedChain_19 : decode cX9_loggedChain 19 = .ok (.iconst 1, 1) := by decide +kernel
theorem dX9_loggedChain_20 : decode cX9_loggedChain 20 = .ok (.invokevirtual 219, 3) := by decide +kernel
theorem dX9_loggedChain_23 : decode cX9_loggedChain 23 = .ok (.ireturn, 1) := by decide +kernel
theorem dX9_loggedChain_24 : decode cX9_loggedChain 24 = .ok (.aload_n 0, 1) := by decide +kernel
theorem dX9_loggedChain_25 : decode cX9_loggedChain 25 = .ok (.sipush 136, 3) := by decide +kernel
theorem dX9_loggedChain_28 : decode cX9_loggedChain 28 = .ok (.iload_n 1, 1) := by decide +kernel
theorem dX9_loggedChain_29 : decode cX9_loggedChain 29 = .ok (.iadd, 1) := by decide +kernel
theorem dX9_loggedChain_30 : decode cX9_loggedChain 30 = .ok (.invokevirtual 46, 3) := by decide +kernel
theorem dX9_loggedChain_33 : decode cX9_loggedChain 33 = .ok (.bipush 6, 2) := by decide +kernel
theorem dX9_loggedChain_35 : decode cX9_loggedChain 35 = .ok (.if_icmp .ne 7, 3) := by decide +kernel
theorem dX9_loggedChain_38 : decode cX9_loggedChain 38 = .ok (.iconst (-1), 1) := by decide +kernel
theorem dX9_loggedChain_39 : decode cX9_loggedChain 39 = .ok (.goto 14, 3) := by decide +kernel
theorem dX9_loggedChain_42 : decode cX9_loggedChain 42 = .ok (.aload_n 0, 1) := by decide +kernel
theorem dX9_loggedChain_43 : decode cX9_loggedChain 43 = .ok (.sipush 136, 3) := by decide +kernel
theorem dX9_loggedChain_46 : decode cX9_loggedChain 46 = .ok (.iload_n 1, 1) := by decide +kernel
theorem dX9_loggedChain_47 : decode cX9_loggedChain 47 = .ok (.iadd, 1) := by decide +kernel
theorem dX9_loggedChain_48 : decode cX9_loggedChain 48 = .ok (.invokevirtual 46, 3) := by decide +kernel
theorem dX9_loggedChain_51 : decode cX9_loggedChain 51 = .ok (.iconst 2, 1) := by decide +kernel
theorem dX9_loggedChain_52 : decode cX9_loggedChain 52 = .ok (.idiv, 1) := by decide +kernel
theorem dX9_loggedChain_53 : decode cX9_loggedChain 53 = .ok (.ireturn, 1) := by decide +kernel
theorem dX9_highestEndScore_0 : decode cX9_highestEndScore 0 = .ok (.aload_n 0, 1) := by decide +kernel
theorem dX9_highestEndScore_1 : decode cX9_highestEndScore 1 = .ok (.iconst 0, 1) := by decide +kernel
theorem dX9_highestEndScore_2 : decode cX9_highestEndScore 2 = .ok (.putfield 40, 3) := by decide +kernel
theorem dX9_highestEndScore_5 : decode cX9_highestEndScore 5 = .ok (.aload_n 0, 1) := by decide +kernel
theorem dX9_highestEndScore_6 : decode cX9_highestEndScore 6 = .ok (.invokevirtual 88, 3) := by decide +kernel
theorem dX9_highestEndScore_9 : decode cX9_highestEndScore 9 = .ok (.ifCond .eq 7, 3) := by decide +kernel
theorem dX9_highestEndScore_12 : decode cX9_highestEndScore 12 = .ok (.iconst 0, 1) := by decide +kernel
theorem dX9_highestEndScore_13 : decode cX9_highestEndScore 13 = .ok (.goto 11, 3) := by decide +kernel
theorem dX9_highestEndScore_16 : decode cX9_highestEndScore 16 = .ok (.aload_n 0, 1) := by decide +kernel
theorem dX9_highestEndScore_17 : decode cX9_highestEndScore 17 = .ok (.aload_n 0, 1) := by decide +kernel
theorem dX9_highestEndScore_18 : decode cX9_highestEndScore 18 = .ok (.invokevirtual 150, 3) := by decide +kernel
theorem dX9_highestEndScore_21 : decode cX9_highestEndScore 21 = .ok (.invokevirtual 94, 3) := by decide +kernel
theorem dX9_highestEndScore_24 : decode cX9_highestEndScore 24 = .ok (.ireturn, 1) := by decide +kernel
theorem dX9_burnsLeft_0 : decode cX9_burnsLeft 0 = .ok (.aload_n 0, 1) := by decide +kernel
theorem dX9_burnsLeft_1 : decode cX9_burnsLeft 1 = .ok (.iconst 0, 1) := by decide +kernel
theorem dX9_burnsLeft_2 : decode cX9_burnsLeft 2 = .ok (.putfield 40, 3) := by decide +kernel
theorem dX9_burnsLeft_5 : decode cX9_burnsLeft 5 = .ok (.iconst 0, 1) := by decide +kernel
theorem dX9_burnsLeft_6 : decode cX9_burnsLeft 6 = .ok (.istore_n 1, 1) := by decide +kernel
theorem dX9_burnsLeft_7 : decode cX9_burnsLeft 7 = .ok (.iconst 0, 1) := by decide +kernel
theorem dX9_burnsLeft_8 : decode cX9_burnsLeft 8 = .ok (.istore_n 2, 1) := by decide +kernel
theorem dX9_burnsLeft_9 : decode cX9_burnsLeft 9 = .ok (.iload_n 2, 1) := by decide +kernel
theorem dX9_burnsLeft_10 : decode cX9_burnsLeft 10 = .ok (.aload_n 0, 1) := by decide +kernel
theorem dX9_burnsLeft_11 : decode cX9_burnsLeft 11 = .ok (.invokevirtual 59, 3) := by decide +kernel
theorem dX9_burnsLeft_14 : decode cX9_burnsLeft 14 = .ok (.if_icmp .ge 19, 3) := by decide +kernel
theorem dX9_burnsLeft_17 : decode cX9_burnsLeft 17 = .ok (.iload_n 1, 1) := by decide +kernel
theorem dX9_burnsLeft_18 : decode cX9_burnsLeft 18 = .ok (.aload_n 0, 1) := by decide +kernel
theorem dX9_burnsLeft_19 : decode cX9_burnsLeft 19 = .ok (.iload_n 2, 1) := by decide +kernel
theorem dX9_burnsLeft_20 : decode cX9_burnsLeft 20 = .ok (.invokevirtual 71, 3) := by decide +kernel
theorem dX9_burnsLeft_23 : decode cX9_burnsLeft 23 = .ok (.iconst 1, 1) := by decide +kernel
theorem dX9_burnsLeft_24 : decode cX9_burnsLeft 24 = .ok (.isub, 1) := by decide +kernel
theorem dX9_burnsLeft_25 : decode cX9_burnsLeft 25 = .ok (.iadd, 1) := by decide +kernel
theorem dX9_burnsLeft_26 : decode cX9_burnsLeft 26 = .ok (.istore_n 1, 1) := by decide +kernel
theorem dX9_burnsLeft_27 : decode cX9_burnsLeft 27 = .ok (.iinc 2 1, 3) := by decide +kernel
theorem dX9_burnsLeft_30 : decode cX9_burnsLeft 30 = .ok (.goto (-21), 3) := by decide +kernel
theorem dX9_burnsLeft_33 : decode cX9_burnsLeft 33 = .ok (.iload_n 1, 1) := by decide +kernel
theorem dX9_burnsLeft_34 : decode cX9_burnsLeft 34 = .ok (.ireturn, 1) := by decide +kernel
theorem dX9_lowestOf_0 : decode cX9_lowestOf 0 = .ok (.aload_n 0, 1) := by decide +kernel
theorem dX9_lowestOf_1 : decode cX9_lowestOf 1 = .ok (.iload_n 1, 1) := by decide +kernel
theorem dX9_lowestOf_2 : decode cX9_lowestOf 2 = .ok (.iconst 0, 1) := by decide +kernel
theorem dX9_lowestOf_3 : decode cX9_lowestOf 3 = .ok (.invokevirtual 256, 3) := by decide +kernel
theorem dX9_lowestOf_6 : decode cX9_lowestOf 6 = .ok (.invokestatic 78, 3) := by decide +kernel
theorem dX9_lowestOf_9 : decode cX9_lowestOf 9 = .ok (.istore_n 2, 1) := by decide +kernel
theorem dX9_lowestOf_10 : decode cX9_lowestOf 10 = .ok (.iconst 1, 1) := by decide +kernel
theorem dX9_lowestOf_11 : decode cX9_lowestOf 11 = .ok (.istore_n 3, 1) := by decide +kernel
theorem dX9_lowestOf_12 : decode cX9_lowestOf 12 = .ok (.iload_n 3, 1) := by decide +kernel
theorem dX9_lowestOf_13 : decode cX9_lowestOf 13 = .ok (.aload_n 0, 1) := by decide +kernel
theorem dX9_lowestOf_14 : decode cX9_lowestOf 14 = .ok (.iload_n 1, 1) := by decide +kernel
theorem dX9_lowestOf_15 : decode cX9_lowestOf 15 = .ok (.invokevirtual 71, 3) := by decide +kernel
theorem dX9_lowestOf_18 : decode cX9_lowestOf 18 = .ok (.if_icmp .ge 23, 3) := by decide +kernel
theorem dX9_lowestOf_21 : decode cX9_lowestOf 21 = .ok (.iload_n 2, 1) := by decide +kernel
theorem dX9_lowestOf_22 : decode cX9_lowestOf 22 = .ok (.aload_n 0, 1) := by decide +kernel
theorem dX9_lowestOf_23 : decode cX9_lowestOf 23 = .ok (.iload_n 1, 1) := by decide +kernel
theorem dX9_lowestOf_24 : decode cX9_lowestOf 24 = .ok (.iload_n 3, 1) := by decide +kernel
theorem dX9_lowestOf_25 : decode cX9_lowestOf 25 = .ok (.invokevirtual 256, 3) := by decide +kernel
theorem dX9_lowestOf_28 : decode cX9_lowestOf 28 = .ok (.invokestatic 78, 3) := by decide +kernel
theorem dX9_lowestOf_31 : decode cX9_lowestOf 31 = .ok (.invokestatic 268, 3) := by decide +kernel
theorem dX9_lowestOf_34 : decode cX9_lowestOf 34 = .ok (.istore_n 2, 1) := by decide +kernel
theorem dX9_lowestOf_35 : decode cX9_lowestOf 35 = .ok (.iinc 3 1, 3) := by decide +kernel
theorem dX9_lowestOf_38 : decode cX9_lowestOf 38 = .ok (.goto (-26), 3) := by decide +kernel
theorem dX9_lowestOf_41 : decode cX9_lowestOf 41 = .ok (.iload_n 2, 1) := by decide +kernel
theorem dX9_lowestOf_42 : decode cX9_lowestOf 42 = .ok (.ireturn, 1) := by decide +kernel
theorem dX9_greatestOf_0 : decode cX9_greatestOf 0 = .ok (.aload_n 0, 1) := by decide +kernel
theorem dX9_greatestOf_1 : decode cX9_greatestOf 1 = .ok (.iload_n 1, 1) := by decide +kernel
theorem dX9_greatestOf_2 : decode cX9_greatestOf 2 = .ok (.invokevirtual 271, 3) := by decide +kernel
theorem dX9_greatestOf_5 : decode cX9_greatestOf 5 = .ok (.istore_n 2, 1) := by decide +kernel
theorem dX9_greatestOf_6 : decode cX9_greatestOf 6 = .ok (.iconst 0, 1) := by decide +kernel
theorem dX9_greatestOf_7 : decode cX9_greatestOf 7 = .ok (.istore_n 3, 1) := by decide +kernel
theorem dX9_greatestOf_8 : decode cX9_greatestOf 8 = .ok (.iload_n 3, 1) := by decide +kernel
theorem dX9_greatestOf_9 : decode cX9_greatestOf 9 = .ok (.aload_n 0, 1) := by decide +kernel
