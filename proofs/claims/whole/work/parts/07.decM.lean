theorem dX10_init_0 : decode cX10_init 0 = .ok (.aload_n 0, 1) := by decide +kernel
theorem dX10_init_1 : decode cX10_init 1 = .ok (.invokespecial 3, 3) := by decide +kernel
theorem dX10_init_4 : decode cX10_init 4 = .ok (.aload_n 0, 1) := by decide +kernel
theorem dX10_init_5 : decode cX10_init 5 = .ok (.sipush 170, 3) := by decide +kernel
theorem dX10_init_8 : decode cX10_init 8 = .ok (.newarray .int, 2) := by decide +kernel
theorem dX10_init_10 : decode cX10_init 10 = .ok (.putfield 9, 3) := by decide +kernel
theorem dX10_init_13 : decode cX10_init 13 = .ok (.aload_n 0, 1) := by decide +kernel
theorem dX10_init_14 : decode cX10_init 14 = .ok (.sipush 340, 3) := by decide +kernel
theorem dX10_init_17 : decode cX10_init 17 = .ok (.newarray .int, 2) := by decide +kernel
theorem dX10_init_19 : decode cX10_init 19 = .ok (.putfield 13, 3) := by decide +kernel
theorem dX10_init_22 : decode cX10_init 22 = .ok (.aload_n 0, 1) := by decide +kernel
theorem dX10_init_23 : decode cX10_init 23 = .ok (.iconst 2, 1) := by decide +kernel
theorem dX10_init_24 : decode cX10_init 24 = .ok (.newarray .boolean, 2) := by decide +kernel
theorem dX10_init_26 : decode cX10_init 26 = .ok (.putfield 16, 3) := by decide +kernel
theorem dX10_init_29 : decode cX10_init 29 = .ok (.aload_n 0, 1) := by decide +kernel
theorem dX10_init_30 : decode cX10_init 30 = .ok (.bipush 120, 2) := by decide +kernel
theorem dX10_init_32 : decode cX10_init 32 = .ok (.newarray .int, 2) := by decide +kernel
theorem dX10_init_34 : decode cX10_init 34 = .ok (.putfield 20, 3) := by decide +kernel
theorem dX10_init_37 : decode cX10_init 37 = .ok (.aload_n 0, 1) := by decide +kernel
theorem dX10_init_38 : decode cX10_init 38 = .ok (.bipush 6, 2) := by decide +kernel
theorem dX10_init_40 : decode cX10_init 40 = .ok (.newarray .int, 2) := by decide +kernel
theorem dX10_init_42 : decode cX10_init 42 = .ok (.putfield 23, 3) := by decide +kernel
theorem dX10_init_45 : decode cX10_init 45 = .ok (.aload_n 0, 1) := by decide +kernel
theorem dX10_init_46 : decode cX10_init 46 = .ok (.bipush 26, 2) := by decide +kernel
theorem dX10_init_48 : decode cX10_init 48 = .ok (.newarray .int, 2) := by decide +kernel
theorem dX10_init_50 : decode cX10_init 50 = .ok (.putfield 26, 3) := by decide +kernel
theorem dX10_init_53 : decode cX10_init 53 = .ok (.aload_n 0, 1) := by decide +kernel
theorem dX10_init_54 : decode cX10_init 54 = .ok (.sipush 676, 3) := by decide +kernel
theorem dX10_init_57 : decode cX10_init 57 = .ok (.newarray .int, 2) := by decide +kernel
theorem dX10_init_59 : decode cX10_init 59 = .ok (.putfield 29, 3) := by decide +kernel
theorem dX10_init_62 : decode cX10_init 62 = .ok (.aload_n 0, 1) := by decide +kernel
theorem dX10_init_63 : decode cX10_init 63 = .ok (.bipush 24, 2) := by decide +kernel
theorem dX10_init_65 : decode cX10_init 65 = .ok (.newarray .int, 2) := by decide +kernel
theorem dX10_init_67 : decode cX10_init 67 = .ok (.putfield 32, 3) := by decide +kernel
theorem dX10_init_70 : decode cX10_init 70 = .ok (.aload_n 0, 1) := by decide +kernel
theorem dX10_init_71 : decode cX10_init 71 = .ok (.sipush 168, 3) := by decide +kernel
theorem dX10_init_74 : decode cX10_init 74 = .ok (.newarray .int, 2) := by decide +kernel
theorem dX10_init_76 : decode cX10_init 76 = .ok (.putfield 35, 3) := by decide +kernel
theorem dX10_init_79 : decode cX10_init 79 = .ok (.aload_n 0, 1) := by decide +kernel
theorem dX10_init_80 : decode cX10_init 80 = .ok (.sipush 170, 3) := by decide +kernel
theorem dX10_init_83 : decode cX10_init 83 = .ok (.newarray .int, 2) := by decide +kernel
theorem dX10_init_85 : decode cX10_init 85 = .ok (.putfield 38, 3) := by decide +kernel
theorem dX10_init_88 : decode cX10_init 88 = .ok (.aload_n 0, 1) := by decide +kernel
theorem dX10_init_89 : decode cX10_init 89 = .ok (.sipush 840, 3) := by decide +kernel
theorem dX10_init_92 : decode cX10_init 92 = .ok (.newarray .int, 2) := by decide +kernel
theorem dX10_init_94 : decode cX10_init 94 = .ok (.putfield 41, 3) := by decide +kernel
theorem dX10_init_97 : decode cX10_init 97 = .ok (.aload_n 0, 1) := by decide +kernel
theorem dX10_init_98 : decode cX10_init 98 = .ok (.sipush 1200, 3) := by decide +kernel
theorem dX10_init_101 : decode cX10_init 101 = .ok (.newarray .int, 2) := by decide +kernel
theorem dX10_init_103 : decode cX10_init 103 = .ok (.putfield 44, 3) := by decide +kernel
theorem dX10_init_106 : decode cX10_init 106 = .ok (.aload_n 0, 1) := by decide +kernel
theorem dX10_init_107 : decode cX10_init 107 = .ok (.sipush 1700, 3) := by decide +kernel
theorem dX10_init_110 : decode cX10_init 110 = .ok (.newarray .int, 2) := by decide +kernel
theorem dX10_init_112 : decode cX10_init 112 = .ok (.putfield 47, 3) := by decide +kernel
theorem dX10_init_115 : decode cX10_init 115 = .ok (.aload_n 0, 1) := by decide +kernel
theorem dX10_init_116 : decode cX10_init 116 = .ok (.sipush 1700, 3) := by decide +kernel
theorem dX10_init_119 : decode cX10_init 119 = .ok (.newarray .int, 2) := by decide +kernel
theorem dX10_init_121 : decode cX10_init 121 = .ok (.putfield 50, 3) := by decide +kernel
theorem dX10_init_124 : decode cX10_init 124 = .ok (.aload_n 0, 1) := by decide +kernel
theorem dX10_init_125 : decode cX10_init 125 = .ok (.sipush 1700, 3) := by decide +kernel
theorem dX10_init_128 : decode cX10_init 128 = .ok (.newarray .int, 2) := by decide +kernel
theorem dX10_init_130 : decode cX10_init 130 = .ok (.putfield 53, 3) := by decide +kernel
theorem dX10_init_133 : decode cX10_init 133 = .ok (.aload_n 0, 1) := by decide +kernel
theorem dX10_init_134 : decode cX10_init 134 = .ok (.bipush 26, 2) := by decide +kernel
theorem dX10_init_136 : decode cX10_init 136 = .ok (.newarray .int, 2) := by decide +kernel
theorem dX10_init_138 : decode cX10_init 138 = .ok (.putfield 56, 3) := by decide +kernel
theorem dX10_init_141 : decode cX10_init 141 = .ok (.aload_n 0, 1) := by decide +kernel
theorem dX10_init_142 : decode cX10_init 142 = .ok (.bipush 24, 2) := by decide +kernel
theorem dX10_init_144 : decode cX10_init 144 = .ok (.newarray .int, 2) := by decide +kernel
theorem dX10_init_146 : decode cX10_init 146 = .ok (.putfield 59, 3) := by decide +kernel
theorem dX10_init_149 : decode cX10_init 149 = .ok (.aload_n 0, 1) := by decide +kernel
theorem dX10_init_150 : decode cX10_init 150 = .ok (.bipush 80, 2) := by decide +kernel
theorem dX10_init_152 : decode cX10_init 152 = .ok (.newarray .int, 2) := by decide +kernel
theorem dX10_init_154 : decode cX10_init 154 = .ok (.putfield 62, 3) := by decide +kernel
theorem dX10_init_157 : decode cX10_init 157 = .ok (.aload_n 0, 1) := by decide +kernel
theorem dX10_init_158 : decode cX10_init 158 = .ok (.bipush 10, 2) := by decide +kernel
theorem dX10_init_160 : decode cX10_init 160 = .ok (.newarray .int, 2) := by decide +kernel
theorem dX10_init_162 : decode cX10_init 162 = .ok (.putfield 65, 3) := by decide +kernel
theorem dX10_init_165 : decode cX10_init 165 = .ok (.aload_n 0, 1) := by decide +kernel
theorem dX10_init_166 : decode cX10_init 166 = .ok (.sipush 1700, 3) := by decide +kernel
theorem dX10_init_169 : decode cX10_init 169 = .ok (.newarray .boolean, 2) := by decide +kernel
theorem dX10_init_171 : decode cX10_init 171 = .ok (.putfield 68, 3) := by decide +kernel
theorem dX10_init_174 : decode cX10_init 174 = .ok (.aload_n 0, 1) := by decide +kernel
theorem dX10_init_175 : decode cX10_init 175 = .ok (.sipush 2000, 3) := by decide +kernel
theorem dX10_init_178 : decode cX10_init 178 = .ok (.newarray .int, 2) := by decide +kernel
theorem dX10_init_180 : decode cX10_init 180 = .ok (.putfield 71, 3) := by decide +kernel
theorem dX10_init_183 : decode cX10_init 183 = .ok (.aload_n 0, 1) := by decide +kernel
theorem dX10_init_184 : decode cX10_init 184 = .ok (.bipush 24, 2) := by decide +kernel
theorem dX10_init_186 : decode cX10_init 186 = .ok (.newarray .int, 2) := by decide +kernel
theorem dX10_init_188 : decode cX10_init 188 = .ok (.putfield 74, 3) := by decide +kernel
theorem dX10_init_191 : decode cX10_init 191 = .ok (.aload_n 0, 1) := by decide +kernel
theorem dX10_init_192 : decode cX10_init 192 = .ok (.bipush 24, 2) := by decide +kernel
theorem dX10_init_194 : decode cX10_init 194 = .ok (.newarray .int, 2) := by decide +kernel
theorem dX10_init_196 : decode cX10_init 196 = .ok (.putfield 77, 3) := by decide +kernel
theorem dX10_init_199 : decode cX10_init 199 = .ok (.aload_n 0, 1) := by decide +kernel
theorem dX10_init_200 : decode cX10_init 200 = .ok (.getfield 9, 3) := by decide +kernel
theorem dX10_init_203 : decode cX10_init 203 = .ok (.sipush 169, 3) := by decide +kernel
theorem dX10_init_206 : decode cX10_init 206 = .ok (.iconst 4, 1) := by decide +kernel
theorem dX10_init_207 : decode cX10_init 207 = .ok (.iastore, 1) := by decide +kernel
theorem dX10_init_208 : decode cX10_init 208 = .ok (.iconst 0, 1) := by decide +kernel
theorem dX10_init_209 : decode cX10_init 209 = .ok (.istore_n 1, 1) := by decide +kernel
theorem dX10_init_210 : decode cX10_init 210 = .ok (.iload_n 1, 1) := by decide +kernel
theorem dX10_init_211 : decode cX10_init 211 = .ok (.bipush 26, 2) := by decide +kernel
theorem dX10_init_213 : decode cX10_init 213 = .ok (.if_icmp .ge 18, 3) := by decide +kernel
theorem dX10_init_216 : decode cX10_init 216 = .ok (.aload_n 0, 1) := by decide +kernel
theorem dX10_init_217 : decode cX10_init 217 = .ok (.getfield 26, 3) := by decide +kernel
theorem dX10_init_220 : decode cX10_init 220 = .ok (.iload_n 1, 1) := by decide +kernel
theorem dX10_init_221 : decode cX10_init 221 = .ok (.sipush 160, 3) := by decide +kernel
theorem dX10_init_224 : decode cX10_init 224 = .ok (.iastore, 1) := by decide +kernel
theorem dX10_init_225 : decode cX10_init 225 = .ok (.iinc 1 1, 3) := by decide +kernel
theorem dX10_init_228 : decode cX10_init 228 = .ok (.goto (-18), 3) := by decide +kernel
theorem dX10_init_231 : decode cX10_init 231 = .ok (.return_, 1) := by decide +kernel
theorem dX10_in_0 : decode cX10_in 0 = .ok (.iload_n 0, 1) := by decide +kernel
theorem dX10_in_1 : decode cX10_in 1 = .ok (.iload_n 1, 1) := by decide +kernel
theorem dX10_in_2 : decode cX10_in 2 = .ok (.if_icmp .lt 12, 3) := by decide +kernel
theorem dX10_in_5 : decode cX10_in 5 = .ok (.iload_n 0, 1) := by decide +kernel
theorem dX10_in_6 : decode cX10_in 6 = .ok (.iload_n 2, 1) := by decide +kernel
theorem dX10_in_7 : decode cX10_in 7 = .ok (.if_icmp .gt 7, 3) := by decide +kernel
theorem dX10_in_10 : decode cX10_in 10 = .ok (.iconst 1, 1) := by decide +kernel
theorem dX10_in_11 : decode cX10_in 11 = .ok (.goto 4, 3) := by decide +kernel
theorem dX10_in_14 : decode cX10_in 14 = .ok (.iconst 0, 1) := by decide +kernel
theorem dX10_in_15 : decode cX10_in 15 = .ok (.ireturn, 1) := by decide +kernel
theorem dX10_isPlace_0 : decode cX10_isPlace 0 = .ok (.iload_n 0, 1) := by decide +kernel
theorem dX10_isPlace_1 : decode cX10_isPlace 1 = .ok (.sipush (-4000), 3) := by decide +kernel
theorem dX10_isPlace_4 : decode cX10_isPlace 4 = .ok (.sipush 4000, 3) := by decide +kernel
theorem dX10_isPlace_7 : decode cX10_isPlace 7 = .ok (.invokestatic 80, 3) := by decide +kernel
theorem dX10_isPlace_10 : decode cX10_isPlace 10 = .ok (.ireturn, 1) := by decide +kernel
theorem dX10_size_0 : decode cX10_size 0 = .ok (.iload_n 0, 1) := by decide +kernel
theorem dX10_size_1 : decode cX10_size 1 = .ok (.ifCond .ge 8, 3) := by decide +kernel
theorem dX10_size_4 : decode cX10_size 4 = .ok (.iload_n 0, 1) := by decide +kernel
theorem dX10_size_5 : decode cX10_size 5 = .ok (.ineg, 1) := by decide +kernel
theorem dX10_size_6 : decode cX10_size 6 = .ok (.goto 4, 3) := by decide +kernel
theorem dX10_size_9 : decode cX10_size 9 = .ok (.iload_n 0, 1) := by decide +kernel
theorem dX10_size_10 : decode cX10_size 10 = .ok (.ireturn, 1) := by decide +kernel
theorem dX10_kind_0 : decode cX10_kind 0 = .ok (.aload_n 0, 1) := by decide +kernel
theorem dX10_kind_1 : decode cX10_kind 1 = .ok (.getfield 9, 3) := by decide +kernel
theorem dX10_kind_4 : decode cX10_kind 4 = .ok (.bipush 7, 2) := by decide +kernel
theorem dX10_kind_6 : decode cX10_kind 6 = .ok (.iload_n 1, 1) := by decide +kernel
theorem dX10_kind_7 : decode cX10_kind 7 = .ok (.imul, 1) := by decide +kernel
theorem dX10_kind_8 : decode cX10_kind 8 = .ok (.iaload, 1) := by decide +kernel
theorem dX10_kind_9 : decode cX10_kind 9 = .ok (.ireturn, 1) := by decide +kernel
theorem dX10_many_0 : decode cX10_many 0 = .ok (.aload_n 0, 1) := by decide +kernel
theorem dX10_many_1 : decode cX10_many 1 = .ok (.getfield 9, 3) := by decide +kernel
theorem dX10_many_4 : decode cX10_many 4 = .ok (.sipush 168, 3) := by decide +kernel
theorem dX10_many_7 : decode cX10_many 7 = .ok (.iaload, 1) := by decide +kernel
theorem dX10_many_8 : decode cX10_many 8 = .ok (.ireturn, 1) := by decide +kernel
theorem dX10_append_0 : decode cX10_append 0 = .ok (.iload_n 2, 1) := by decide +kernel
theorem dX10_append_1 : decode cX10_append 1 = .ok (.invokestatic 84, 3) := by decide +kernel
theorem dX10_append_4 : decode cX10_append 4 = .ok (.ifCond .eq 42, 3) := by decide +kernel
theorem dX10_append_7 : decode cX10_append 7 = .ok (.iload_n 3, 1) := by decide +kernel
theorem dX10_append_8 : decode cX10_append 8 = .ok (.invokestatic 84, 3) := by decide +kernel
theorem dX10_append_11 : decode cX10_append 11 = .ok (.ifCond .eq 35, 3) := by decide +kernel
theorem dX10_append_14 : decode cX10_append 14 = .ok (.iload 4, 2) := by decide +kernel
theorem dX10_append_16 : decode cX10_append 16 = .ok (.invokestatic 84, 3) := by decide +kernel
theorem dX10_append_19 : decode cX10_append 19 = .ok (.ifCond .eq 27, 3) := by decide +kernel
theorem dX10_append_22 : decode cX10_append 22 = .ok (.iload 5, 2) := by decide +kernel
theorem dX10_append_24 : decode cX10_append 24 = .ok (.invokestatic 84, 3) := by decide +kernel
theorem dX10_append_27 : decode cX10_append 27 = .ok (.ifCond .eq 19, 3) := by decide +kernel
theorem dX10_append_30 : decode cX10_append 30 = .ok (.iload 6, 2) := by decide +kernel
theorem dX10_append_32 : decode cX10_append 32 = .ok (.invokestatic 84, 3) := by decide +kernel
theorem dX10_append_35 : decode cX10_append 35 = .ok (.ifCond .eq 11, 3) := by decide +kernel
theorem dX10_append_38 : decode cX10_append 38 = .ok (.iload 7, 2) := by decide +kernel
theorem dX10_append_40 : decode cX10_append 40 = .ok (.invokestatic 84, 3) := by decide +kernel
theorem dX10_append_43 : decode cX10_append 43 = .ok (.ifCond .ne 6, 3) := by decide +kernel
theorem dX10_append_46 : decode cX10_append 46 = .ok (.ldc 88, 2) := by decide +kernel
theorem dX10_append_48 : decode cX10_append 48 = .ok (.ireturn, 1) := by decide +kernel
theorem dX10_append_49 : decode cX10_append 49 = .ok (.iload_n 1, 1) := by decide +kernel
theorem dX10_append_50 : decode cX10_append 50 = .ok (.ifCond .eq 27, 3) := by decide +kernel
theorem dX10_append_53 : decode cX10_append 53 = .ok (.aload_n 0, 1) := by decide +kernel
theorem dX10_append_54 : decode cX10_append 54 = .ok (.invokevirtual 89, 3) := by decide +kernel
theorem dX10_append_57 : decode cX10_append 57 = .ok (.ifCond .eq 17, 3) := by decide +kernel
theorem dX10_append_60 : decode cX10_append 60 = .ok (.aload_n 0, 1) := by decide +kernel
theorem dX10_append_61 : decode cX10_append 61 = .ok (.aload_n 0, 1) := by decide +kernel
theorem dX10_append_62 : decode cX10_append 62 = .ok (.invokevirtual 89, 3) := by decide +kernel
theorem dX10_append_65 : decode cX10_append 65 = .ok (.iconst 1, 1) := by decide +kernel
theorem dX10_append_66 : decode cX10_append 66 = .ok (.isub, 1) := by decide +kernel
theorem dX10_append_67 : decode cX10_append 67 = .ok (.invokevirtual 93, 3) := by decide +kernel
theorem dX10_append_70 : decode cX10_append 70 = .ok (.iconst 4, 1) := by decide +kernel
theorem dX10_append_71 : decode cX10_append 71 = .ok (.if_icmp .ne 6, 3) := by decide +kernel
theorem dX10_append_74 : decode cX10_append 74 = .ok (.ldc 97, 2) := by decide +kernel
theorem dX10_append_76 : decode cX10_append 76 = .ok (.ireturn, 1) := by decide +kernel
theorem dX10_append_77 : decode cX10_append 77 = .ok (.aload_n 0, 1) := by decide +kernel
theorem dX10_append_78 : decode cX10_append 78 = .ok (.invokevirtual 89, 3) := by decide +kernel
theorem dX10_append_81 : decode cX10_append 81 = .ok (.bipush 24, 2) := by decide +kernel
theorem dX10_append_83 : decode cX10_append 83 = .ok (.if_icmp .ne 6, 3) := by decide +kernel
theorem dX10_append_86 : decode cX10_append 86 = .ok (.ldc 98, 2) := by decide +kernel
theorem dX10_append_88 : decode cX10_append 88 = .ok (.ireturn, 1) := by decide +kernel
theorem dX10_append_89 : decode cX10_append 89 = .ok (.bipush 7, 2) := by decide +kernel
theorem dX10_append_91 : decode cX10_append 91 = .ok (.aload_n 0, 1) := by decide +kernel
theorem dX10_append_92 : decode cX10_append 92 = .ok (.invokevirtual 89, 3) := by decide +kernel
theorem dX10_append_95 : decode cX10_append 95 = .ok (.imul, 1) := by decide +kernel
theorem dX10_append_96 : decode cX10_append 96 = .ok (.istore 8, 2) := by decide +kernel
theorem dX10_append_98 : decode cX10_append 98 = .ok (.aload_n 0, 1) := by decide +kernel
theorem dX10_append_99 : decode cX10_append 99 = .ok (.getfield 9, 3) := by decide +kernel
theorem dX10_append_102 : decode cX10_append 102 = .ok (.iload 8, 2) := by decide +kernel
theorem dX10_append_104 : decode cX10_append 104 = .ok (.iload_n 1, 1) := by decide +kernel
theorem dX10_append_105 : decode cX10_append 105 = .ok (.iastore, 1) := by decide +kernel
theorem dX10_append_106 : decode cX10_append 106 = .ok (.aload_n 0, 1) := by decide +kernel
theorem dX10_append_107 : decode cX10_append 107 = .ok (.getfield 9, 3) := by decide +kernel
theorem dX10_append_110 : decode cX10_append 110 = .ok (.iload 8, 2) := by decide +kernel
theorem dX10_append_112 : decode cX10_append 112 = .ok (.iconst 1, 1) := by decide +kernel
theorem dX10_append_113 : decode cX10_append 113 = .ok (.iadd, 1) := by decide +kernel
theorem dX10_append_114 : decode cX10_append 114 = .ok (.iload_n 2, 1) := by decide +kernel
theorem dX10_append_115 : decode cX10_append 115 = .ok (.iastore, 1) := by decide +kernel
theorem dX10_append_116 : decode cX10_append 116 = .ok (.aload_n 0, 1) := by decide +kernel
theorem dX10_append_117 : decode cX10_append 117 = .ok (.getfield 9, 3) := by decide +kernel
theorem dX10_append_120 : decode cX10_append 120 = .ok (.iload 8, 2) := by decide +kernel
theorem dX10_append_122 : decode cX10_append 122 = .ok (.iconst 2, 1) := by decide +kernel
theorem dX10_append_123 : decode cX10_append 123 = .ok (.iadd, 1) := by decide +kernel
theorem dX10_append_124 : decode cX10_append 124 = .ok (.iload_n 3, 1) := by decide +kernel
theorem dX10_append_125 : decode cX10_append 125 = .ok (.iastore, 1) := by decide +kernel
theorem dX10_append_126 : decode cX10_append 126 = .ok (.aload_n 0, 1) := by decide +kernel
theorem dX10_append_127 : decode cX10_append 127 = .ok (.getfield 9, 3) := by decide +kernel
theorem dX10_append_130 : decode cX10_append 130 = .ok (.iload 8, 2) := by decide +kernel
theorem dX10_append_132 : decode cX10_append 132 = .ok (.iconst 3, 1) := by decide +kernel
theorem dX10_append_133 : decode cX10_append 133 = .ok (.iadd, 1) := by decide +kernel
theorem dX10_append_134 : decode cX10_append 134 = .ok (.iload 4, 2) := by decide +kernel
theorem dX10_append_136 : decode cX10_append 136 = .ok (.iastore, 1) := by decide +kernel
theorem dX10_append_137 : decode cX10_append 137 = .ok (.aload_n 0, 1) := by decide +kernel
theorem dX10_append_138 : decode cX10_append 138 = .ok (.getfield 9, 3) := by decide +kernel
theorem dX10_append_141 : decode cX10_append 141 = .ok (.iload 8, 2) := by decide +kernel
theorem dX10_append_143 : decode cX10_append 143 = .ok (.iconst 4, 1) := by decide +kernel
theorem dX10_append_144 : decode cX10_append 144 = .ok (.iadd, 1) := by decide +kernel
theorem dX10_append_145 : decode cX10_append 145 = .ok (.iload 5, 2) := by decide +kernel
theorem dX10_append_147 : decode cX10_append 147 = .ok (.iastore, 1) := by decide +kernel
theorem dX10_append_148 : decode cX10_append 148 = .ok (.aload_n 0, 1) := by decide +kernel
theorem dX10_append_149 : decode cX10_append 149 = .ok (.getfield 9, 3) := by decide +kernel
theorem dX10_append_152 : decode cX10_append 152 = .ok (.iload 8, 2) := by decide +kernel
theorem dX10_append_154 : decode cX10_append 154 = .ok (.iconst 5, 1) := by decide +kernel
theorem dX10_append_155 : decode cX10_append 155 = .ok (.iadd, 1) := by decide +kernel
theorem dX10_append_156 : decode cX10_append 156 = .ok (.iload 6, 2) := by decide +kernel
theorem dX10_append_158 : decode cX10_append 158 = .ok (.iastore, 1) := by decide +kernel
theorem dX10_append_159 : decode cX10_append 159 = .ok (.aload_n 0, 1) := by decide +kernel
theorem dX10_append_160 : decode cX10_append 160 = .ok (.getfield 9, 3) := by decide +kernel
theorem dX10_append_163 : decode cX10_append 163 = .ok (.iload 8, 2) := by decide +kernel
theorem dX10_append_165 : decode cX10_append 165 = .ok (.bipush 6, 2) := by decide +kernel
theorem dX10_append_167 : decode cX10_append 167 = .ok (.iadd, 1) := by decide +kernel
theorem dX10_append_168 : decode cX10_append 168 = .ok (.iload 7, 2) := by decide +kernel
theorem dX10_append_170 : decode cX10_append 170 = .ok (.iastore, 1) := by decide +kernel
theorem dX10_append_171 : decode cX10_append 171 = .ok (.aload_n 0, 1) := by decide +kernel
theorem dX10_append_172 : decode cX10_append 172 = .ok (.getfield 9, 3) := by decide +kernel
theorem dX10_append_175 : decode cX10_append 175 = .ok (.sipush 168, 3) := by decide +kernel
theorem dX10_append_178 : decode cX10_append 178 = .ok (.dup2, 1) := by decide +kernel
theorem dX10_append_179 : decode cX10_append 179 = .ok (.iaload, 1) := by decide +kernel
theorem dX10_append_180 : decode cX10_append 180 = .ok (.iconst 1, 1) := by decide +kernel
theorem dX10_append_181 : decode cX10_append 181 = .ok (.iadd, 1) := by decide +kernel
theorem dX10_append_182 : decode cX10_append 182 = .ok (.iastore, 1) := by decide +kernel
theorem dX10_append_183 : decode cX10_append 183 = .ok (.aload_n 0, 1) := by decide +kernel
theorem dX10_append_184 : decode cX10_append 184 = .ok (.invokevirtual 89, 3) := by decide +kernel
theorem dX10_append_187 : decode cX10_append 187 = .ok (.ireturn, 1) := by decide +kernel
theorem dX10_move_0 : decode cX10_move 0 = .ok (.aload_n 0, 1) := by decide +kernel
theorem dX10_move_1 : decode cX10_move 1 = .ok (.iconst 0, 1) := by decide +kernel
theorem dX10_move_2 : decode cX10_move 2 = .ok (.iconst 0, 1) := by decide +kernel
theorem dX10_move_3 : decode cX10_move 3 = .ok (.iconst 0, 1) := by decide +kernel
theorem dX10_move_4 : decode cX10_move 4 = .ok (.iconst 0, 1) := by decide +kernel
theorem dX10_move_5 : decode cX10_move 5 = .ok (.iconst 0, 1) := by decide +kernel
theorem dX10_move_6 : decode cX10_move 6 = .ok (.iload_n 1, 1) := by decide +kernel
theorem dX10_move_7 : decode cX10_move 7 = .ok (.iload_n 2, 1) := by decide +kernel
theorem dX10_move_8 : decode cX10_move 8 = .ok (.invokevirtual 99, 3) := by decide +kernel
theorem dX10_move_11 : decode cX10_move 11 = .ok (.ireturn, 1) := by decide +kernel
theorem dX10_line_0 : decode cX10_line 0 = .ok (.aload_n 0, 1) := by decide +kernel
theorem dX10_line_1 : decode cX10_line 1 = .ok (.iconst 1, 1) := by decide +kernel
theorem dX10_line_2 : decode cX10_line 2 = .ok (.iconst 0, 1) := by decide +kernel
theorem dX10_line_3 : decode cX10_line 3 = .ok (.iconst 0, 1) := by decide +kernel
theorem dX10_line_4 : decode cX10_line 4 = .ok (.iconst 0, 1) := by decide +kernel
theorem dX10_line_5 : decode cX10_line 5 = .ok (.iconst 0, 1) := by decide +kernel
theorem dX10_line_6 : decode cX10_line 6 = .ok (.iload_n 1, 1) := by decide +kernel
theorem dX10_line_7 : decode cX10_line 7 = .ok (.iload_n 2, 1) := by decide +kernel
theorem dX10_line_8 : decode cX10_line 8 = .ok (.invokevirtual 99, 3) := by decide +kernel
theorem dX10_line_11 : decode cX10_line 11 = .ok (.ireturn, 1) := by decide +kernel
theorem dX10_quad_0 : decode cX10_quad 0 = .ok (.aload_n 0, 1) := by decide +kernel
theorem dX10_quad_1 : decode cX10_quad 1 = .ok (.iconst 2, 1) := by decide +kernel
theorem dX10_quad_2 : decode cX10_quad 2 = .ok (.iload_n 1, 1) := by decide +kernel
theorem dX10_quad_3 : decode cX10_quad 3 = .ok (.iload_n 2, 1) := by decide +kernel
theorem dX10_quad_4 : decode cX10_quad 4 = .ok (.iconst 0, 1) := by decide +kernel
theorem dX10_quad_5 : decode cX10_quad 5 = .ok (.iconst 0, 1) := by decide +kernel
theorem dX10_quad_6 : decode cX10_quad 6 = .ok (.iload_n 3, 1) := by decide +kernel
theorem dX10_quad_7 : decode cX10_quad 7 = .ok (.iload 4, 2) := by decide +kernel
theorem dX10_quad_9 : decode cX10_quad 9 = .ok (.invokevirtual 99, 3) := by decide +kernel
theorem dX10_quad_12 : decode cX10_quad 12 = .ok (.ireturn, 1) := by decide +kernel
theorem dX10_cubic_0 : decode cX10_cubic 0 = .ok (.aload_n 0, 1) := by decide +kernel
theorem dX10_cubic_1 : decode cX10_cubic 1 = .ok (.iconst 3, 1) := by decide +kernel
theorem dX10_cubic_2 : decode cX10_cubic 2 = .ok (.iload_n 1, 1) := by decide +kernel
theorem dX10_cubic_3 : decode cX10_cubic 3 = .ok (.iload_n 2, 1) := by decide +kernel
theorem dX10_cubic_4 : decode cX10_cubic 4 = .ok (.iload_n 3, 1) := by decide +kernel
theorem dX10_cubic_5 : decode cX10_cubic 5 = .ok (.iload 4, 2) := by decide +kernel
theorem dX10_cubic_7 : decode cX10_cubic 7 = .ok (.iload 5, 2) := by decide +kernel
theorem dX10_cubic_9 : decode cX10_cubic 9 = .ok (.iload 6, 2) := by decide +kernel
theorem dX10_cubic_11 : decode cX10_cubic 11 = .ok (.invokevirtual 99, 3) := by decide +kernel
theorem dX10_cubic_14 : decode cX10_cubic 14 = .ok (.ireturn, 1) := by decide +kernel
theorem dX10_close_0 : decode cX10_close 0 = .ok (.aload_n 0, 1) := by decide +kernel
theorem dX10_close_1 : decode cX10_close 1 = .ok (.iconst 4, 1) := by decide +kernel
theorem dX10_close_2 : decode cX10_close 2 = .ok (.iconst 0, 1) := by decide +kernel
theorem dX10_close_3 : decode cX10_close 3 = .ok (.iconst 0, 1) := by decide +kernel
theorem dX10_close_4 : decode cX10_close 4 = .ok (.iconst 0, 1) := by decide +kernel
theorem dX10_close_5 : decode cX10_close 5 = .ok (.iconst 0, 1) := by decide +kernel
theorem dX10_close_6 : decode cX10_close 6 = .ok (.iconst 0, 1) := by decide +kernel
theorem dX10_close_7 : decode cX10_close 7 = .ok (.iconst 0, 1) := by decide +kernel
theorem dX10_close_8 : decode cX10_close 8 = .ok (.invokevirtual 99, 3) := by decide +kernel
theorem dX10_close_11 : decode cX10_close 11 = .ok (.ireturn, 1) := by decide +kernel
theorem dX10_removeLast_0 : decode cX10_removeLast 0 = .ok (.aload_n 0, 1) := by decide +kernel
theorem dX10_removeLast_1 : decode cX10_removeLast 1 = .ok (.invokevirtual 89, 3) := by decide +kernel
theorem dX10_removeLast_4 : decode cX10_removeLast 4 = .ok (.ifCond .ne 6, 3) := by decide +kernel
theorem dX10_removeLast_7 : decode cX10_removeLast 7 = .ok (.ldc 97, 2) := by decide +kernel
theorem dX10_removeLast_9 : decode cX10_removeLast 9 = .ok (.ireturn, 1) := by decide +kernel
theorem dX10_removeLast_10 : decode cX10_removeLast 10 = .ok (.aload_n 0, 1) := by decide +kernel
theorem dX10_removeLast_11 : decode cX10_removeLast 11 = .ok (.getfield 9, 3) := by decide +kernel
theorem dX10_removeLast_14 : decode cX10_removeLast 14 = .ok (.sipush 168, 3) := by decide +kernel
theorem dX10_removeLast_17 : decode cX10_removeLast 17 = .ok (.dup2, 1) := by decide +kernel
theorem dX10_removeLast_18 : decode cX10_removeLast 18 = .ok (.iaload, 1) := by decide +kernel
theorem dX10_removeLast_19 : decode cX10_removeLast 19 = .ok (.iconst 1, 1) := by decide +kernel
theorem dX10_removeLast_20 : decode cX10_removeLast 20 = .ok (.isub, 1) := by decide +kernel
theorem dX10_removeLast_21 : decode cX10_removeLast 21 = .ok (.iastore, 1) := by decide +kernel
theorem dX10_removeLast_22 : decode cX10_removeLast 22 = .ok (.aload_n 0, 1) := by decide +kernel
theorem dX10_removeLast_23 : decode cX10_removeLast 23 = .ok (.invokevirtual 89, 3) := by decide +kernel
theorem dX10_removeLast_26 : decode cX10_removeLast 26 = .ok (.ireturn, 1) := by decide +kernel
theorem dX10_moveOf_0 : decode cX10_moveOf 0 = .ok (.iload_n 1, 1) := by decide +kernel
theorem dX10_moveOf_1 : decode cX10_moveOf 1 = .ok (.istore_n 2, 1) := by decide +kernel
theorem dX10_moveOf_2 : decode cX10_moveOf 2 = .ok (.aload_n 0, 1) := by decide +kernel
theorem dX10_moveOf_3 : decode cX10_moveOf 3 = .ok (.iload_n 2, 1) := by decide +kernel
theorem dX10_moveOf_4 : decode cX10_moveOf 4 = .ok (.invokevirtual 93, 3) := by decide +kernel
theorem dX10_moveOf_7 : decode cX10_moveOf 7 = .ok (.ifCond .eq 9, 3) := by decide +kernel
theorem dX10_moveOf_10 : decode cX10_moveOf 10 = .ok (.iinc 2 (-1), 3) := by decide +kernel
theorem dX10_moveOf_13 : decode cX10_moveOf 13 = .ok (.goto (-11), 3) := by decide +kernel
theorem dX10_moveOf_16 : decode cX10_moveOf 16 = .ok (.iload_n 2, 1) := by decide +kernel
theorem dX10_moveOf_17 : decode cX10_moveOf 17 = .ok (.ireturn, 1) := by decide +kernel
theorem dX10_contourOf_0 : decode cX10_contourOf 0 = .ok (.ldc 103, 2) := by decide +kernel
theorem dX10_contourOf_2 : decode cX10_contourOf 2 = .ok (.istore_n 2, 1) := by decide +kernel
theorem dX10_contourOf_3 : decode cX10_contourOf 3 = .ok (.iconst 0, 1) := by decide +kernel
theorem dX10_contourOf_4 : decode cX10_contourOf 4 = .ok (.istore_n 3, 1) := by decide +kernel
theorem dX10_contourOf_5 : decode cX10_contourOf 5 = .ok (.iload_n 3, 1) := by decide +kernel
theorem dX10_contourOf_6 : decode cX10_contourOf 6 = .ok (.iload_n 1, 1) := by decide +kernel
theorem dX10_contourOf_7 : decode cX10_contourOf 7 = .ok (.if_icmp .gt 33, 3) := by decide +kernel
theorem dX10_contourOf_10 : decode cX10_contourOf 10 = .ok (.aload_n 0, 1) := by decide +kernel
theorem dX10_contourOf_11 : decode cX10_contourOf 11 = .ok (.iload_n 3, 1) := by decide +kernel
theorem dX10_contourOf_12 : decode cX10_contourOf 12 = .ok (.invokevirtual 93, 3) := by decide +kernel
theorem dX10_contourOf_15 : decode cX10_contourOf 15 = .ok (.ifCond .ne 17, 3) := by decide +kernel
theorem dX10_contourOf_18 : decode cX10_contourOf 18 = .ok (.iload_n 2, 1) := by decide +kernel
theorem dX10_contourOf_19 : decode cX10_contourOf 19 = .ok (.ifCond .ge 7, 3) := by decide +kernel
theorem dX10_contourOf_22 : decode cX10_contourOf 22 = .ok (.iconst 0, 1) := by decide +kernel
theorem dX10_contourOf_23 : decode cX10_contourOf 23 = .ok (.goto 10, 3) := by decide +kernel
theorem dX10_contourOf_26 : decode cX10_contourOf 26 = .ok (.iload_n 2, 1) := by decide +kernel
theorem dX10_contourOf_27 : decode cX10_contourOf 27 = .ok (.iconst 1, 1) := by decide +kernel
theorem dX10_contourOf_28 : decode cX10_contourOf 28 = .ok (.iadd, 1) := by decide +kernel
theorem dX10_contourOf_29 : decode cX10_contourOf 29 = .ok (.goto 4, 3) := by decide +kernel
theorem dX10_contourOf_32 : decode cX10_contourOf 32 = .ok (.iload_n 2, 1) := by decide +kernel
theorem dX10_contourOf_33 : decode cX10_contourOf 33 = .ok (.istore_n 2, 1) := by decide +kernel
theorem dX10_contourOf_34 : decode cX10_contourOf 34 = .ok (.iinc 3 1, 3) := by decide +kernel
theorem dX10_contourOf_37 : decode cX10_contourOf 37 = .ok (.goto (-32), 3) := by decide +kernel
theorem dX10_contourOf_40 : decode cX10_contourOf 40 = .ok (.iload_n 2, 1) := by decide +kernel
theorem dX10_contourOf_41 : decode cX10_contourOf 41 = .ok (.ireturn, 1) := by decide +kernel
theorem dX10_endX_0 : decode cX10_endX 0 = .ok (.aload_n 0, 1) := by decide +kernel
theorem dX10_endX_1 : decode cX10_endX 1 = .ok (.getfield 9, 3) := by decide +kernel
theorem dX10_endX_4 : decode cX10_endX 4 = .ok (.bipush 7, 2) := by decide +kernel
theorem dX10_endX_6 : decode cX10_endX 6 = .ok (.aload_n 0, 1) := by decide +kernel
theorem dX10_endX_7 : decode cX10_endX 7 = .ok (.iload_n 1, 1) := by decide +kernel
theorem dX10_endX_8 : decode cX10_endX 8 = .ok (.invokevirtual 93, 3) := by decide +kernel
theorem dX10_endX_11 : decode cX10_endX 11 = .ok (.iconst 4, 1) := by decide +kernel
theorem dX10_endX_12 : decode cX10_endX 12 = .ok (.if_icmp .ne 11, 3) := by decide +kernel
theorem dX10_endX_15 : decode cX10_endX 15 = .ok (.aload_n 0, 1) := by decide +kernel
theorem dX10_endX_16 : decode cX10_endX 16 = .ok (.iload_n 1, 1) := by decide +kernel
theorem dX10_endX_17 : decode cX10_endX 17 = .ok (.invokevirtual 104, 3) := by decide +kernel
theorem dX10_endX_20 : decode cX10_endX 20 = .ok (.goto 4, 3) := by decide +kernel
theorem dX10_endX_23 : decode cX10_endX 23 = .ok (.iload_n 1, 1) := by decide +kernel
theorem dX10_endX_24 : decode cX10_endX 24 = .ok (.imul, 1) := by decide +kernel
theorem dX10_endX_25 : decode cX10_endX 25 = .ok (.iconst 5, 1) := by decide +kernel
theorem dX10_endX_26 : decode cX10_endX 26 = .ok (.iadd, 1) := by decide +kernel
theorem dX10_endX_27 : decode cX10_endX 27 = .ok (.iaload, 1) := by decide +kernel
theorem dX10_endX_28 : decode cX10_endX 28 = .ok (.ireturn, 1) := by decide +kernel
theorem dX10_endY_0 : decode cX10_endY 0 = .ok (.aload_n 0, 1) := by decide +kernel
theorem dX10_endY_1 : decode cX10_endY 1 = .ok (.getfield 9, 3) := by decide +kernel
theorem dX10_endY_4 : decode cX10_endY 4 = .ok (.bipush 7, 2) := by decide +kernel
theorem dX10_endY_6 : decode cX10_endY 6 = .ok (.aload_n 0, 1) := by decide +kernel
theorem dX10_endY_7 : decode cX10_endY 7 = .ok (.iload_n 1, 1) := by decide +kernel
theorem dX10_endY_8 : decode cX10_endY 8 = .ok (.invokevirtual 93, 3) := by decide +kernel
theorem dX10_endY_11 : decode cX10_endY 11 = .ok (.iconst 4, 1) := by decide +kernel
theorem dX10_endY_12 : decode cX10_endY 12 = .ok (.if_icmp .ne 11, 3) := by decide +kernel
theorem dX10_endY_15 : decode cX10_endY 15 = .ok (.aload_n 0, 1) := by decide +kernel
theorem dX10_endY_16 : decode cX10_endY 16 = .ok (.iload_n 1, 1) := by decide +kernel
theorem dX10_endY_17 : decode cX10_endY 17 = .ok (.invokevirtual 104, 3) := by decide +kernel
theorem dX10_endY_20 : decode cX10_endY 20 = .ok (.goto 4, 3) := by decide +kernel
theorem dX10_endY_23 : decode cX10_endY 23 = .ok (.iload_n 1, 1) := by decide +kernel
theorem dX10_endY_24 : decode cX10_endY 24 = .ok (.imul, 1) := by decide +kernel
theorem dX10_endY_25 : decode cX10_endY 25 = .ok (.bipush 6, 2) := by decide +kernel
theorem dX10_endY_27 : decode cX10_endY 27 = .ok (.iadd, 1) := by decide +kernel
theorem dX10_endY_28 : decode cX10_endY 28 = .ok (.iaload, 1) := by decide +kernel
theorem dX10_endY_29 : decode cX10_endY 29 = .ok (.ireturn, 1) := by decide +kernel
theorem dX10_command_0 : decode cX10_command 0 = .ok (.iload_n 1, 1) := by decide +kernel
theorem dX10_command_1 : decode cX10_command 1 = .ok (.iconst 0, 1) := by decide +kernel
theorem dX10_command_2 : decode cX10_command 2 = .ok (.aload_n 0, 1) := by decide +kernel
theorem dX10_command_3 : decode cX10_command 3 = .ok (.invokevirtual 89, 3) := by decide +kernel
theorem dX10_command_6 : decode cX10_command 6 = .ok (.iconst 1, 1) := by decide +kernel
theorem dX10_command_7 : decode cX10_command 7 = .ok (.isub, 1) := by decide +kernel
theorem dX10_command_8 : decode cX10_command 8 = .ok (.invokestatic 80, 3) := by decide +kernel
theorem dX10_command_11 : decode cX10_command 11 = .ok (.ifCond .ne 6, 3) := by decide +kernel
theorem dX10_command_14 : decode cX10_command 14 = .ok (.ldc 107, 2) := by decide +kernel
theorem dX10_command_16 : decode cX10_command 16 = .ok (.ireturn, 1) := by decide +kernel
theorem dX10_command_17 : decode cX10_command 17 = .ok (.iload_n 2, 1) := by decide +kernel
theorem dX10_command_18 : decode cX10_command 18 = .ok (.iconst 0, 1) := by decide +kernel
theorem dX10_command_19 : decode cX10_command 19 = .ok (.bipush 8, 2) := by decide +kernel
theorem dX10_command_21 : decode cX10_command 21 = .ok (.invokestatic 80, 3) := by decide +kernel
theorem dX10_command_24 : decode cX10_command 24 = .ok (.ifCond .ne 6, 3) := by decide +kernel
theorem dX10_command_27 : decode cX10_command 27 = .ok (.ldc 88, 2) := by decide +kernel
theorem dX10_command_29 : decode cX10_command 29 = .ok (.ireturn, 1) := by decide +kernel
theorem dX10_command_30 : decode cX10_command 30 = .ok (.aload_n 0, 1) := by decide +kernel
theorem dX10_command_31 : decode cX10_command 31 = .ok (.iload_n 1, 1) := by decide +kernel
theorem dX10_command_32 : decode cX10_command 32 = .ok (.invokevirtual 93, 3) := by decide +kernel
theorem dX10_command_35 : decode cX10_command 35 = .ok (.istore_n 3, 1) := by decide +kernel
theorem dX10_command_36 : decode cX10_command 36 = .ok (.iload_n 2, 1) := by decide +kernel
theorem dX10_command_37 : decode cX10_command 37 = .ok (.tableswitch 66 0 4 #[35, 37, 43, 54, 60], 35) := by decide +kernel
theorem dX10_command_72 : decode cX10_command 72 = .ok (.iload_n 3, 1) := by decide +kernel
theorem dX10_command_73 : decode cX10_command 73 = .ok (.ireturn, 1) := by decide +kernel
theorem dX10_command_74 : decode cX10_command 74 = .ok (.aload_n 0, 1) := by decide +kernel
theorem dX10_command_75 : decode cX10_command 75 = .ok (.iload_n 1, 1) := by decide +kernel
theorem dX10_command_76 : decode cX10_command 76 = .ok (.invokevirtual 108, 3) := by decide +kernel
theorem dX10_command_79 : decode cX10_command 79 = .ok (.ireturn, 1) := by decide +kernel
theorem dX10_command_80 : decode cX10_command 80 = .ok (.aload_n 0, 1) := by decide +kernel
theorem dX10_command_81 : decode cX10_command 81 = .ok (.invokevirtual 111, 3) := by decide +kernel
theorem dX10_command_84 : decode cX10_command 84 = .ok (.aload_n 0, 1) := by decide +kernel
theorem dX10_command_85 : decode cX10_command 85 = .ok (.getfield 59, 3) := by decide +kernel
theorem dX10_command_88 : decode cX10_command 88 = .ok (.iload_n 1, 1) := by decide +kernel
theorem dX10_command_89 : decode cX10_command 89 = .ok (.iaload, 1) := by decide +kernel
theorem dX10_command_90 : decode cX10_command 90 = .ok (.ireturn, 1) := by decide +kernel
theorem dX10_command_91 : decode cX10_command 91 = .ok (.aload_n 0, 1) := by decide +kernel
theorem dX10_command_92 : decode cX10_command 92 = .ok (.iload_n 1, 1) := by decide +kernel
theorem dX10_command_93 : decode cX10_command 93 = .ok (.invokevirtual 114, 3) := by decide +kernel
theorem dX10_command_96 : decode cX10_command 96 = .ok (.ireturn, 1) := by decide +kernel
theorem dX10_command_97 : decode cX10_command 97 = .ok (.aload_n 0, 1) := by decide +kernel
theorem dX10_command_98 : decode cX10_command 98 = .ok (.iload_n 1, 1) := by decide +kernel
theorem dX10_command_99 : decode cX10_command 99 = .ok (.invokevirtual 117, 3) := by decide +kernel
theorem dX10_command_102 : decode cX10_command 102 = .ok (.ireturn, 1) := by decide +kernel
theorem dX10_command_103 : decode cX10_command 103 = .ok (.iload_n 3, 1) := by decide +kernel
theorem dX10_command_104 : decode cX10_command 104 = .ok (.iconst 3, 1) := by decide +kernel
theorem dX10_command_105 : decode cX10_command 105 = .ok (.if_icmp .eq 14, 3) := by decide +kernel
theorem dX10_command_108 : decode cX10_command 108 = .ok (.iload_n 3, 1) := by decide +kernel
theorem dX10_command_109 : decode cX10_command 109 = .ok (.iconst 2, 1) := by decide +kernel
theorem dX10_command_110 : decode cX10_command 110 = .ok (.if_icmp .ne 13, 3) := by decide +kernel
theorem dX10_command_113 : decode cX10_command 113 = .ok (.iload_n 2, 1) := by decide +kernel
theorem dX10_command_114 : decode cX10_command 114 = .ok (.bipush 7, 2) := by decide +kernel
theorem dX10_command_116 : decode cX10_command 116 = .ok (.if_icmp .ge 7, 3) := by decide +kernel
theorem dX10_command_119 : decode cX10_command 119 = .ok (.iconst 1, 1) := by decide +kernel
theorem dX10_command_120 : decode cX10_command 120 = .ok (.goto 4, 3) := by decide +kernel
theorem dX10_command_123 : decode cX10_command 123 = .ok (.iconst 0, 1) := by decide +kernel
theorem dX10_command_124 : decode cX10_command 124 = .ok (.istore 4, 2) := by decide +kernel
theorem dX10_command_126 : decode cX10_command 126 = .ok (.iload 4, 2) := by decide +kernel
theorem dX10_command_128 : decode cX10_command 128 = .ok (.ifCond .eq 19, 3) := by decide +kernel
theorem dX10_command_131 : decode cX10_command 131 = .ok (.aload_n 0, 1) := by decide +kernel
theorem dX10_command_132 : decode cX10_command 132 = .ok (.getfield 9, 3) := by decide +kernel
theorem dX10_command_135 : decode cX10_command 135 = .ok (.bipush 7, 2) := by decide +kernel
theorem dX10_command_137 : decode cX10_command 137 = .ok (.iload_n 1, 1) := by decide +kernel
theorem dX10_command_138 : decode cX10_command 138 = .ok (.imul, 1) := by decide +kernel
theorem dX10_command_139 : decode cX10_command 139 = .ok (.iload_n 2, 1) := by decide +kernel
theorem dX10_command_140 : decode cX10_command 140 = .ok (.iadd, 1) := by decide +kernel
theorem dX10_command_141 : decode cX10_command 141 = .ok (.iconst 4, 1) := by decide +kernel
theorem dX10_command_142 : decode cX10_command 142 = .ok (.isub, 1) := by decide +kernel
theorem dX10_command_143 : decode cX10_command 143 = .ok (.iaload, 1) := by decide +kernel
theorem dX10_command_144 : decode cX10_command 144 = .ok (.goto 5, 3) := by decide +kernel
theorem dX10_command_147 : decode cX10_command 147 = .ok (.ldc 103, 2) := by decide +kernel
theorem dX10_command_149 : decode cX10_command 149 = .ok (.ireturn, 1) := by decide +kernel
theorem dX10_setTolerance_0 : decode cX10_setTolerance 0 = .ok (.iload_n 1, 1) := by decide +kernel
theorem dX10_setTolerance_1 : decode cX10_setTolerance 1 = .ok (.iconst 1, 1) := by decide +kernel
theorem dX10_setTolerance_2 : decode cX10_setTolerance 2 = .ok (.sipush 1000, 3) := by decide +kernel
theorem dX10_setTolerance_5 : decode cX10_setTolerance 5 = .ok (.invokestatic 80, 3) := by decide +kernel
theorem dX10_setTolerance_8 : decode cX10_setTolerance 8 = .ok (.ifCond .ne 6, 3) := by decide +kernel
theorem dX10_setTolerance_11 : decode cX10_setTolerance 11 = .ok (.ldc 88, 2) := by decide +kernel
theorem dX10_setTolerance_13 : decode cX10_setTolerance 13 = .ok (.ireturn, 1) := by decide +kernel
theorem dX10_setTolerance_14 : decode cX10_setTolerance 14 = .ok (.aload_n 0, 1) := by decide +kernel
theorem dX10_setTolerance_15 : decode cX10_setTolerance 15 = .ok (.getfield 9, 3) := by decide +kernel
theorem dX10_setTolerance_18 : decode cX10_setTolerance 18 = .ok (.sipush 169, 3) := by decide +kernel
theorem dX10_setTolerance_21 : decode cX10_setTolerance 21 = .ok (.iaload, 1) := by decide +kernel
theorem dX10_setTolerance_22 : decode cX10_setTolerance 22 = .ok (.istore_n 2, 1) := by decide +kernel
theorem dX10_setTolerance_23 : decode cX10_setTolerance 23 = .ok (.aload_n 0, 1) := by decide +kernel
theorem dX10_setTolerance_24 : decode cX10_setTolerance 24 = .ok (.getfield 9, 3) := by decide +kernel
theorem dX10_setTolerance_27 : decode cX10_setTolerance 27 = .ok (.sipush 169, 3) := by decide +kernel
theorem dX10_setTolerance_30 : decode cX10_setTolerance 30 = .ok (.iload_n 1, 1) := by decide +kernel
theorem dX10_setTolerance_31 : decode cX10_setTolerance 31 = .ok (.iastore, 1) := by decide +kernel
theorem dX10_setTolerance_32 : decode cX10_setTolerance 32 = .ok (.iload_n 2, 1) := by decide +kernel
theorem dX10_setTolerance_33 : decode cX10_setTolerance 33 = .ok (.ireturn, 1) := by decide +kernel
theorem dX10_contours_0 : decode cX10_contours 0 = .ok (.aload_n 0, 1) := by decide +kernel
theorem dX10_contours_1 : decode cX10_contours 1 = .ok (.invokevirtual 89, 3) := by decide +kernel
theorem dX10_contours_4 : decode cX10_contours 4 = .ok (.ifCond .ne 7, 3) := by decide +kernel
theorem dX10_contours_7 : decode cX10_contours 7 = .ok (.iconst 0, 1) := by decide +kernel
theorem dX10_contours_8 : decode cX10_contours 8 = .ok (.goto 15, 3) := by decide +kernel
theorem dX10_contours_11 : decode cX10_contours 11 = .ok (.aload_n 0, 1) := by decide +kernel
theorem dX10_contours_12 : decode cX10_contours 12 = .ok (.aload_n 0, 1) := by decide +kernel
theorem dX10_contours_13 : decode cX10_contours 13 = .ok (.invokevirtual 89, 3) := by decide +kernel
theorem dX10_contours_16 : decode cX10_contours 16 = .ok (.iconst 1, 1) := by decide +kernel
theorem dX10_contours_17 : decode cX10_contours 17 = .ok (.isub, 1) := by decide +kernel
theorem dX10_contours_18 : decode cX10_contours 18 = .ok (.invokevirtual 108, 3) := by decide +kernel
theorem dX10_contours_21 : decode cX10_contours 21 = .ok (.iconst 1, 1) := by decide +kernel
theorem dX10_contours_22 : decode cX10_contours 22 = .ok (.iadd, 1) := by decide +kernel
theorem dX10_contours_23 : decode cX10_contours 23 = .ok (.ireturn, 1) := by decide +kernel
theorem dX10_isContour_0 : decode cX10_isContour 0 = .ok (.iload_n 1, 1) := by decide +kernel
theorem dX10_isContour_1 : decode cX10_isContour 1 = .ok (.iconst 0, 1) := by decide +kernel
theorem dX10_isContour_2 : decode cX10_isContour 2 = .ok (.aload_n 0, 1) := by decide +kernel
theorem dX10_isContour_3 : decode cX10_isContour 3 = .ok (.invokevirtual 120, 3) := by decide +kernel
theorem dX10_isContour_6 : decode cX10_isContour 6 = .ok (.iconst 1, 1) := by decide +kernel
theorem dX10_isContour_7 : decode cX10_isContour 7 = .ok (.isub, 1) := by decide +kernel
theorem dX10_isContour_8 : decode cX10_isContour 8 = .ok (.invokestatic 80, 3) := by decide +kernel
theorem dX10_isContour_11 : decode cX10_isContour 11 = .ok (.ireturn, 1) := by decide +kernel
theorem dX10_firstOf_0 : decode cX10_firstOf 0 = .ok (.iconst 0, 1) := by decide +kernel
theorem dX10_firstOf_1 : decode cX10_firstOf 1 = .ok (.istore_n 2, 1) := by decide +kernel
theorem dX10_firstOf_2 : decode cX10_firstOf 2 = .ok (.iconst 0, 1) := by decide +kernel
theorem dX10_firstOf_3 : decode cX10_firstOf 3 = .ok (.istore_n 3, 1) := by decide +kernel
theorem dX10_firstOf_4 : decode cX10_firstOf 4 = .ok (.iload_n 3, 1) := by decide +kernel
theorem dX10_firstOf_5 : decode cX10_firstOf 5 = .ok (.aload_n 0, 1) := by decide +kernel
theorem dX10_firstOf_6 : decode cX10_firstOf 6 = .ok (.invokevirtual 89, 3) := by decide +kernel
theorem dX10_firstOf_9 : decode cX10_firstOf 9 = .ok (.if_icmp .ge 27, 3) := by decide +kernel
theorem dX10_firstOf_12 : decode cX10_firstOf 12 = .ok (.aload_n 0, 1) := by decide +kernel
theorem dX10_firstOf_13 : decode cX10_firstOf 13 = .ok (.iload_n 3, 1) := by decide +kernel
theorem dX10_firstOf_14 : decode cX10_firstOf 14 = .ok (.invokevirtual 93, 3) := by decide +kernel
theorem dX10_firstOf_17 : decode cX10_firstOf 17 = .ok (.ifCond .ne 13, 3) := by decide +kernel
theorem dX10_firstOf_20 : decode cX10_firstOf 20 = .ok (.iload_n 2, 1) := by decide +kernel
theorem dX10_firstOf_21 : decode cX10_firstOf 21 = .ok (.iload_n 1, 1) := by decide +kernel
theorem dX10_firstOf_22 : decode cX10_firstOf 22 = .ok (.if_icmp .ne 5, 3) := by decide +kernel
theorem dX10_firstOf_25 : decode cX10_firstOf 25 = .ok (.iload_n 3, 1) := by decide +kernel
theorem dX10_firstOf_26 : decode cX10_firstOf 26 = .ok (.ireturn, 1) := by decide +kernel
theorem dX10_firstOf_27 : decode cX10_firstOf 27 = .ok (.iinc 2 1, 3) := by decide +kernel
theorem dX10_firstOf_30 : decode cX10_firstOf 30 = .ok (.iinc 3 1, 3) := by decide +kernel
theorem dX10_firstOf_33 : decode cX10_firstOf 33 = .ok (.goto (-29), 3) := by decide +kernel
theorem dX10_firstOf_36 : decode cX10_firstOf 36 = .ok (.aload_n 0, 1) := by decide +kernel
theorem dX10_firstOf_37 : decode cX10_firstOf 37 = .ok (.invokevirtual 89, 3) := by decide +kernel
theorem dX10_firstOf_40 : decode cX10_firstOf 40 = .ok (.ireturn, 1) := by decide +kernel
theorem dX10_setTurned_0 : decode cX10_setTurned 0 = .ok (.aload_n 0, 1) := by decide +kernel
theorem dX10_setTurned_1 : decode cX10_setTurned 1 = .ok (.getfield 35, 3) := by decide +kernel
theorem dX10_setTurned_4 : decode cX10_setTurned 4 = .ok (.bipush 7, 2) := by decide +kernel
theorem dX10_setTurned_6 : decode cX10_setTurned 6 = .ok (.iload_n 1, 1) := by decide +kernel
theorem dX10_setTurned_7 : decode cX10_setTurned 7 = .ok (.imul, 1) := by decide +kernel
theorem dX10_setTurned_8 : decode cX10_setTurned 8 = .ok (.iload_n 2, 1) := by decide +kernel
theorem dX10_setTurned_9 : decode cX10_setTurned 9 = .ok (.iastore, 1) := by decide +kernel
theorem dX10_setTurned_10 : decode cX10_setTurned 10 = .ok (.iconst 1, 1) := by decide +kernel
theorem dX10_setTurned_11 : decode cX10_setTurned 11 = .ok (.istore 5, 2) := by decide +kernel
theorem dX10_setTurned_13 : decode cX10_setTurned 13 = .ok (.iload 5, 2) := by decide +kernel
theorem dX10_setTurned_15 : decode cX10_setTurned 15 = .ok (.iconst 5, 1) := by decide +kernel
theorem dX10_setTurned_16 : decode cX10_setTurned 16 = .ok (.if_icmp .ge 22, 3) := by decide +kernel
theorem dX10_setTurned_19 : decode cX10_setTurned 19 = .ok (.aload_n 0, 1) := by decide +kernel
theorem dX10_setTurned_20 : decode cX10_setTurned 20 = .ok (.getfield 35, 3) := by decide +kernel
theorem dX10_setTurned_23 : decode cX10_setTurned 23 = .ok (.bipush 7, 2) := by decide +kernel
theorem dX10_setTurned_25 : decode cX10_setTurned 25 = .ok (.iload_n 1, 1) := by decide +kernel
theorem dX10_setTurned_26 : decode cX10_setTurned 26 = .ok (.imul, 1) := by decide +kernel
theorem dX10_setTurned_27 : decode cX10_setTurned 27 = .ok (.iload 5, 2) := by decide +kernel
theorem dX10_setTurned_29 : decode cX10_setTurned 29 = .ok (.iadd, 1) := by decide +kernel
theorem dX10_setTurned_30 : decode cX10_setTurned 30 = .ok (.iconst 0, 1) := by decide +kernel
theorem dX10_setTurned_31 : decode cX10_setTurned 31 = .ok (.iastore, 1) := by decide +kernel
theorem dX10_setTurned_32 : decode cX10_setTurned 32 = .ok (.iinc 5 1, 3) := by decide +kernel
theorem dX10_setTurned_35 : decode cX10_setTurned 35 = .ok (.goto (-22), 3) := by decide +kernel
theorem dX10_setTurned_38 : decode cX10_setTurned 38 = .ok (.aload_n 0, 1) := by decide +kernel
theorem dX10_setTurned_39 : decode cX10_setTurned 39 = .ok (.getfield 35, 3) := by decide +kernel
theorem dX10_setTurned_42 : decode cX10_setTurned 42 = .ok (.bipush 7, 2) := by decide +kernel
theorem dX10_setTurned_44 : decode cX10_setTurned 44 = .ok (.iload_n 1, 1) := by decide +kernel
theorem dX10_setTurned_45 : decode cX10_setTurned 45 = .ok (.imul, 1) := by decide +kernel
theorem dX10_setTurned_46 : decode cX10_setTurned 46 = .ok (.iconst 5, 1) := by decide +kernel
theorem dX10_setTurned_47 : decode cX10_setTurned 47 = .ok (.iadd, 1) := by decide +kernel
theorem dX10_setTurned_48 : decode cX10_setTurned 48 = .ok (.iload_n 3, 1) := by decide +kernel
theorem dX10_setTurned_49 : decode cX10_setTurned 49 = .ok (.iastore, 1) := by decide +kernel
theorem dX10_setTurned_50 : decode cX10_setTurned 50 = .ok (.aload_n 0, 1) := by decide +kernel
theorem dX10_setTurned_51 : decode cX10_setTurned 51 = .ok (.getfield 35, 3) := by decide +kernel
theorem dX10_setTurned_54 : decode cX10_setTurned 54 = .ok (.bipush 7, 2) := by decide +kernel
theorem dX10_setTurned_56 : decode cX10_setTurned 56 = .ok (.iload_n 1, 1) := by decide +kernel
theorem dX10_setTurned_57 : decode cX10_setTurned 57 = .ok (.imul, 1) := by decide +kernel
theorem dX10_setTurned_58 : decode cX10_setTurned 58 = .ok (.bipush 6, 2) := by decide +kernel
theorem dX10_setTurned_60 : decode cX10_setTurned 60 = .ok (.iadd, 1) := by decide +kernel
theorem dX10_setTurned_61 : decode cX10_setTurned 61 = .ok (.iload 4, 2) := by decide +kernel
theorem dX10_setTurned_63 : decode cX10_setTurned 63 = .ok (.iastore, 1) := by decide +kernel
theorem dX10_setTurned_64 : decode cX10_setTurned 64 = .ok (.return_, 1) := by decide +kernel
theorem dX10_reverse_0 : decode cX10_reverse 0 = .ok (.aload_n 0, 1) := by decide +kernel
theorem dX10_reverse_1 : decode cX10_reverse 1 = .ok (.iload_n 1, 1) := by decide +kernel
theorem dX10_reverse_2 : decode cX10_reverse 2 = .ok (.invokevirtual 123, 3) := by decide +kernel
theorem dX10_reverse_5 : decode cX10_reverse 5 = .ok (.ifCond .ne 6, 3) := by decide +kernel
theorem dX10_reverse_8 : decode cX10_reverse 8 = .ok (.ldc 107, 2) := by decide +kernel
theorem dX10_reverse_10 : decode cX10_reverse 10 = .ok (.ireturn, 1) := by decide +kernel
theorem dX10_reverse_11 : decode cX10_reverse 11 = .ok (.aload_n 0, 1) := by decide +kernel
theorem dX10_reverse_12 : decode cX10_reverse 12 = .ok (.iload_n 1, 1) := by decide +kernel
theorem dX10_reverse_13 : decode cX10_reverse 13 = .ok (.invokevirtual 126, 3) := by decide +kernel
theorem dX10_reverse_16 : decode cX10_reverse 16 = .ok (.istore_n 2, 1) := by decide +kernel
theorem dX10_reverse_17 : decode cX10_reverse 17 = .ok (.aload_n 0, 1) := by decide +kernel
theorem dX10_reverse_18 : decode cX10_reverse 18 = .ok (.iload_n 1, 1) := by decide +kernel
theorem dX10_reverse_19 : decode cX10_reverse 19 = .ok (.iconst 1, 1) := by decide +kernel
theorem dX10_reverse_20 : decode cX10_reverse 20 = .ok (.iadd, 1) := by decide +kernel
theorem dX10_reverse_21 : decode cX10_reverse 21 = .ok (.invokevirtual 126, 3) := by decide +kernel
theorem dX10_reverse_24 : decode cX10_reverse 24 = .ok (.istore_n 3, 1) := by decide +kernel
theorem dX10_reverse_25 : decode cX10_reverse 25 = .ok (.aload_n 0, 1) := by decide +kernel
theorem dX10_reverse_26 : decode cX10_reverse 26 = .ok (.iload_n 3, 1) := by decide +kernel
theorem dX10_reverse_27 : decode cX10_reverse 27 = .ok (.iconst 1, 1) := by decide +kernel
theorem dX10_reverse_28 : decode cX10_reverse 28 = .ok (.isub, 1) := by decide +kernel
theorem dX10_reverse_29 : decode cX10_reverse 29 = .ok (.invokevirtual 93, 3) := by decide +kernel
theorem dX10_reverse_32 : decode cX10_reverse 32 = .ok (.iconst 4, 1) := by decide +kernel
theorem dX10_reverse_33 : decode cX10_reverse 33 = .ok (.if_icmp .ne 7, 3) := by decide +kernel
theorem dX10_reverse_36 : decode cX10_reverse 36 = .ok (.iconst 1, 1) := by decide +kernel
theorem dX10_reverse_37 : decode cX10_reverse 37 = .ok (.goto 4, 3) := by decide +kernel
theorem dX10_reverse_40 : decode cX10_reverse 40 = .ok (.iconst 0, 1) := by decide +kernel
theorem dX10_reverse_41 : decode cX10_reverse 41 = .ok (.istore 4, 2) := by decide +kernel
theorem dX10_reverse_43 : decode cX10_reverse 43 = .ok (.iload 4, 2) := by decide +kernel
theorem dX10_reverse_45 : decode cX10_reverse 45 = .ok (.ifCond .eq 9, 3) := by decide +kernel
theorem dX10_reverse_48 : decode cX10_reverse 48 = .ok (.iload_n 3, 1) := by decide +kernel
theorem dX10_reverse_49 : decode cX10_reverse 49 = .ok (.iconst 2, 1) := by decide +kernel
theorem dX10_reverse_50 : decode cX10_reverse 50 = .ok (.isub, 1) := by decide +kernel
theorem dX10_reverse_51 : decode cX10_reverse 51 = .ok (.goto 6, 3) := by decide +kernel
theorem dX10_reverse_54 : decode cX10_reverse 54 = .ok (.iload_n 3, 1) := by decide +kernel
theorem dX10_reverse_55 : decode cX10_reverse 55 = .ok (.iconst 1, 1) := by decide +kernel
theorem dX10_reverse_56 : decode cX10_reverse 56 = .ok (.isub, 1) := by decide +kernel
theorem dX10_reverse_57 : decode cX10_reverse 57 = .ok (.istore 5, 2) := by decide +kernel
theorem dX10_reverse_59 : decode cX10_reverse 59 = .ok (.aload_n 0, 1) := by decide +kernel
theorem dX10_reverse_60 : decode cX10_reverse 60 = .ok (.iconst 0, 1) := by decide +kernel
theorem dX10_reverse_61 : decode cX10_reverse 61 = .ok (.iconst 0, 1) := by decide +kernel
theorem dX10_reverse_62 : decode cX10_reverse 62 = .ok (.aload_n 0, 1) := by decide +kernel
theorem dX10_reverse_63 : decode cX10_reverse 63 = .ok (.iload 5, 2) := by decide +kernel
theorem dX10_reverse_65 : decode cX10_reverse 65 = .ok (.invokevirtual 114, 3) := by decide +kernel
theorem dX10_reverse_68 : decode cX10_reverse 68 = .ok (.aload_n 0, 1) := by decide +kernel
theorem dX10_reverse_69 : decode cX10_reverse 69 = .ok (.iload 5, 2) := by decide +kernel
theorem dX10_reverse_71 : decode cX10_reverse 71 = .ok (.invokevirtual 117, 3) := by decide +kernel
theorem dX10_reverse_74 : decode cX10_reverse 74 = .ok (.invokevirtual 129, 3) := by decide +kernel
theorem dX10_reverse_77 : decode cX10_reverse 77 = .ok (.iconst 1, 1) := by decide +kernel
theorem dX10_reverse_78 : decode cX10_reverse 78 = .ok (.istore 6, 2) := by decide +kernel
theorem dX10_reverse_80 : decode cX10_reverse 80 = .ok (.iload 5, 2) := by decide +kernel
theorem dX10_reverse_82 : decode cX10_reverse 82 = .ok (.istore 7, 2) := by decide +kernel
theorem dX10_reverse_84 : decode cX10_reverse 84 = .ok (.iload 7, 2) := by decide +kernel
theorem dX10_reverse_86 : decode cX10_reverse 86 = .ok (.iload_n 2, 1) := by decide +kernel
theorem dX10_reverse_87 : decode cX10_reverse 87 = .ok (.if_icmp .le 182, 3) := by decide +kernel
theorem dX10_reverse_90 : decode cX10_reverse 90 = .ok (.aload_n 0, 1) := by decide +kernel
theorem dX10_reverse_91 : decode cX10_reverse 91 = .ok (.iload 6, 2) := by decide +kernel
theorem dX10_reverse_93 : decode cX10_reverse 93 = .ok (.aload_n 0, 1) := by decide +kernel
theorem dX10_reverse_94 : decode cX10_reverse 94 = .ok (.iload 7, 2) := by decide +kernel
theorem dX10_reverse_96 : decode cX10_reverse 96 = .ok (.invokevirtual 93, 3) := by decide +kernel
theorem dX10_reverse_99 : decode cX10_reverse 99 = .ok (.aload_n 0, 1) := by decide +kernel
theorem dX10_reverse_100 : decode cX10_reverse 100 = .ok (.iload 7, 2) := by decide +kernel
theorem dX10_reverse_102 : decode cX10_reverse 102 = .ok (.iconst 1, 1) := by decide +kernel
theorem dX10_reverse_103 : decode cX10_reverse 103 = .ok (.isub, 1) := by decide +kernel
theorem dX10_reverse_104 : decode cX10_reverse 104 = .ok (.invokevirtual 114, 3) := by decide +kernel
theorem dX10_reverse_107 : decode cX10_reverse 107 = .ok (.aload_n 0, 1) := by decide +kernel
theorem dX10_reverse_108 : decode cX10_reverse 108 = .ok (.iload 7, 2) := by decide +kernel
theorem dX10_reverse_110 : decode cX10_reverse 110 = .ok (.iconst 1, 1) := by decide +kernel
theorem dX10_reverse_111 : decode cX10_reverse 111 = .ok (.isub, 1) := by decide +kernel
theorem dX10_reverse_112 : decode cX10_reverse 112 = .ok (.invokevirtual 117, 3) := by decide +kernel
theorem dX10_reverse_115 : decode cX10_reverse 115 = .ok (.invokevirtual 129, 3) := by decide +kernel
theorem dX10_reverse_118 : decode cX10_reverse 118 = .ok (.bipush 7, 2) := by decide +kernel
theorem dX10_reverse_120 : decode cX10_reverse 120 = .ok (.iload 7, 2) := by decide +kernel
theorem dX10_reverse_122 : decode cX10_reverse 122 = .ok (.imul, 1) := by decide +kernel
theorem dX10_reverse_123 : decode cX10_reverse 123 = .ok (.istore 8, 2) := by decide +kernel
theorem dX10_reverse_125 : decode cX10_reverse 125 = .ok (.bipush 7, 2) := by decide +kernel
theorem dX10_reverse_127 : decode cX10_reverse 127 = .ok (.iload 6, 2) := by decide +kernel
theorem dX10_reverse_129 : decode cX10_reverse 129 = .ok (.imul, 1) := by decide +kernel
theorem dX10_reverse_130 : decode cX10_reverse 130 = .ok (.istore 9, 2) := by decide +kernel
theorem dX10_reverse_132 : decode cX10_reverse 132 = .ok (.aload_n 0, 1) := by decide +kernel
theorem dX10_reverse_133 : decode cX10_reverse 133 = .ok (.iload 7, 2) := by decide +kernel
theorem dX10_reverse_135 : decode cX10_reverse 135 = .ok (.invokevirtual 93, 3) := by decide +kernel
theorem dX10_reverse_138 : decode cX10_reverse 138 = .ok (.iconst 2, 1) := by decide +kernel
theorem dX10_reverse_139 : decode cX10_reverse 139 = .ok (.if_icmp .ne 39, 3) := by decide +kernel
theorem dX10_reverse_142 : decode cX10_reverse 142 = .ok (.aload_n 0, 1) := by decide +kernel
theorem dX10_reverse_143 : decode cX10_reverse 143 = .ok (.getfield 35, 3) := by decide +kernel
theorem dX10_reverse_146 : decode cX10_reverse 146 = .ok (.iload 9, 2) := by decide +kernel
theorem dX10_reverse_148 : decode cX10_reverse 148 = .ok (.iconst 1, 1) := by decide +kernel
theorem dX10_reverse_149 : decode cX10_reverse 149 = .ok (.iadd, 1) := by decide +kernel
theorem dX10_reverse_150 : decode cX10_reverse 150 = .ok (.aload_n 0, 1) := by decide +kernel
theorem dX10_reverse_151 : decode cX10_reverse 151 = .ok (.getfield 9, 3) := by decide +kernel
theorem dX10_reverse_154 : decode cX10_reverse 154 = .ok (.iload 8, 2) := by decide +kernel
theorem dX10_reverse_156 : decode cX10_reverse 156 = .ok (.iconst 1, 1) := by decide +kernel
theorem dX10_reverse_157 : decode cX10_reverse 157 = .ok (.iadd, 1) := by decide +kernel
theorem dX10_reverse_158 : decode cX10_reverse 158 = .ok (.iaload, 1) := by decide +kernel
theorem dX10_reverse_159 : decode cX10_reverse 159 = .ok (.iastore, 1) := by decide +kernel
theorem dX10_reverse_160 : decode cX10_reverse 160 = .ok (.aload_n 0, 1) := by decide +kernel
theorem dX10_reverse_161 : decode cX10_reverse 161 = .ok (.getfield 35, 3) := by decide +kernel
theorem dX10_reverse_164 : decode cX10_reverse 164 = .ok (.iload 9, 2) := by decide +kernel
theorem dX10_reverse_166 : decode cX10_reverse 166 = .ok (.iconst 2, 1) := by decide +kernel
theorem dX10_reverse_167 : decode cX10_reverse 167 = .ok (.iadd, 1) := by decide +kernel
theorem dX10_reverse_168 : decode cX10_reverse 168 = .ok (.aload_n 0, 1) := by decide +kernel
theorem dX10_reverse_169 : decode cX10_reverse 169 = .ok (.getfield 9, 3) := by decide +kernel
theorem dX10_reverse_172 : decode cX10_reverse 172 = .ok (.iload 8, 2) := by decide +kernel
theorem dX10_reverse_174 : decode cX10_reverse 174 = .ok (.iconst 2, 1) := by decide +kernel
theorem dX10_reverse_175 : decode cX10_reverse 175 = .ok (.iadd, 1) := by decide +kernel
theorem dX10_reverse_176 : decode cX10_reverse 176 = .ok (.iaload, 1) := by decide +kernel
theorem dX10_reverse_177 : decode cX10_reverse 177 = .ok (.iastore, 1) := by decide +kernel
theorem dX10_reverse_178 : decode cX10_reverse 178 = .ok (.aload_n 0, 1) := by decide +kernel
theorem dX10_reverse_179 : decode cX10_reverse 179 = .ok (.iload 7, 2) := by decide +kernel
theorem dX10_reverse_181 : decode cX10_reverse 181 = .ok (.invokevirtual 93, 3) := by decide +kernel
theorem dX10_reverse_184 : decode cX10_reverse 184 = .ok (.iconst 3, 1) := by decide +kernel
theorem dX10_reverse_185 : decode cX10_reverse 185 = .ok (.if_icmp .ne 75, 3) := by decide +kernel
theorem dX10_reverse_188 : decode cX10_reverse 188 = .ok (.aload_n 0, 1) := by decide +kernel
theorem dX10_reverse_189 : decode cX10_reverse 189 = .ok (.getfield 35, 3) := by decide +kernel
theorem dX10_reverse_192 : decode cX10_reverse 192 = .ok (.iload 9, 2) := by decide +kernel
theorem dX10_reverse_194 : decode cX10_reverse 194 = .ok (.iconst 1, 1) := by decide +kernel
theorem dX10_reverse_195 : decode cX10_reverse 195 = .ok (.iadd, 1) := by decide +kernel
theorem dX10_reverse_196 : decode cX10_reverse 196 = .ok (.aload_n 0, 1) := by decide +kernel
theorem dX10_reverse_197 : decode cX10_reverse 197 = .ok (.getfield 9, 3) := by decide +kernel
theorem dX10_reverse_200 : decode cX10_reverse 200 = .ok (.iload 8, 2) := by decide +kernel
theorem dX10_reverse_202 : decode cX10_reverse 202 = .ok (.iconst 3, 1) := by decide +kernel
theorem dX10_reverse_203 : decode cX10_reverse 203 = .ok (.iadd, 1) := by decide +kernel
theorem dX10_reverse_204 : decode cX10_reverse 204 = .ok (.iaload, 1) := by decide +kernel
theorem dX10_reverse_205 : decode cX10_reverse 205 = .ok (.iastore, 1) := by decide +kernel
theorem dX10_reverse_206 : decode cX10_reverse 206 = .ok (.aload_n 0, 1) := by decide +kernel
theorem dX10_reverse_207 : decode cX10_reverse 207 = .ok (.getfield 35, 3) := by decide +kernel
theorem dX10_reverse_210 : decode cX10_reverse 210 = .ok (.iload 9, 2) := by decide +kernel
theorem dX10_reverse_212 : decode cX10_reverse 212 = .ok (.iconst 2, 1) := by decide +kernel
theorem dX10_reverse_213 : decode cX10_reverse 213 = .ok (.iadd, 1) := by decide +kernel
theorem dX10_reverse_214 : decode cX10_reverse 214 = .ok (.aload_n 0, 1) := by decide +kernel
theorem dX10_reverse_215 : decode cX10_reverse 215 = .ok (.getfield 9, 3) := by decide +kernel
theorem dX10_reverse_218 : decode cX10_reverse 218 = .ok (.iload 8, 2) := by decide +kernel
theorem dX10_reverse_220 : decode cX10_reverse 220 = .ok (.iconst 4, 1) := by decide +kernel
theorem dX10_reverse_221 : decode cX10_reverse 221 = .ok (.iadd, 1) := by decide +kernel
theorem dX10_reverse_222 : decode cX10_reverse 222 = .ok (.iaload, 1) := by decide +kernel
theorem dX10_reverse_223 : decode cX10_reverse 223 = .ok (.iastore, 1) := by decide +kernel
theorem dX10_reverse_224 : decode cX10_reverse 224 = .ok (.aload_n 0, 1) := by decide +kernel
theorem dX10_reverse_225 : decode cX10_reverse 225 = .ok (.getfield 35, 3) := by decide +kernel
theorem dX10_reverse_228 : decode cX10_reverse 228 = .ok (.iload 9, 2) := by decide +kernel
theorem dX10_reverse_230 : decode cX10_reverse 230 = .ok (.iconst 3, 1) := by decide +kernel
theorem dX10_reverse_231 : decode cX10_reverse 231 = .ok (.iadd, 1) := by decide +kernel
theorem dX10_reverse_232 : decode cX10_reverse 232 = .ok (.aload_n 0, 1) := by decide +kernel
theorem dX10_reverse_233 : decode cX10_reverse 233 = .ok (.getfield 9, 3) := by decide +kernel
theorem dX10_reverse_236 : decode cX10_reverse 236 = .ok (.iload 8, 2) := by decide +kernel
theorem dX10_reverse_238 : decode cX10_reverse 238 = .ok (.iconst 1, 1) := by decide +kernel
theorem dX10_reverse_239 : decode cX10_reverse 239 = .ok (.iadd, 1) := by decide +kernel
theorem dX10_reverse_240 : decode cX10_reverse 240 = .ok (.iaload, 1) := by decide +kernel
theorem dX10_reverse_241 : decode cX10_reverse 241 = .ok (.iastore, 1) := by decide +kernel
theorem dX10_reverse_242 : decode cX10_reverse 242 = .ok (.aload_n 0, 1) := by decide +kernel
theorem dX10_reverse_243 : decode cX10_reverse 243 = .ok (.getfield 35, 3) := by decide +kernel
theorem dX10_reverse_246 : decode cX10_reverse 246 = .ok (.iload 9, 2) := by decide +kernel
theorem dX10_reverse_248 : decode cX10_reverse 248 = .ok (.iconst 4, 1) := by decide +kernel
theorem dX10_reverse_249 : decode cX10_reverse 249 = .ok (.iadd, 1) := by decide +kernel
theorem dX10_reverse_250 : decode cX10_reverse 250 = .ok (.aload_n 0, 1) := by decide +kernel
theorem dX10_reverse_251 : decode cX10_reverse 251 = .ok (.getfield 9, 3) := by decide +kernel
theorem dX10_reverse_254 : decode cX10_reverse 254 = .ok (.iload 8, 2) := by decide +kernel
theorem dX10_reverse_256 : decode cX10_reverse 256 = .ok (.iconst 2, 1) := by decide +kernel
theorem dX10_reverse_257 : decode cX10_reverse 257 = .ok (.iadd, 1) := by decide +kernel
theorem dX10_reverse_258 : decode cX10_reverse 258 = .ok (.iaload, 1) := by decide +kernel
theorem dX10_reverse_259 : decode cX10_reverse 259 = .ok (.iastore, 1) := by decide +kernel
theorem dX10_reverse_260 : decode cX10_reverse 260 = .ok (.iinc 6 1, 3) := by decide +kernel
theorem dX10_reverse_263 : decode cX10_reverse 263 = .ok (.iinc 7 (-1), 3) := by decide +kernel
theorem dX10_reverse_266 : decode cX10_reverse 266 = .ok (.goto (-182), 3) := by decide +kernel
theorem dX10_reverse_269 : decode cX10_reverse 269 = .ok (.iconst 0, 1) := by decide +kernel
theorem dX10_reverse_270 : decode cX10_reverse 270 = .ok (.istore 7, 2) := by decide +kernel
theorem dX10_reverse_272 : decode cX10_reverse 272 = .ok (.iload 7, 2) := by decide +kernel
theorem dX10_reverse_274 : decode cX10_reverse 274 = .ok (.bipush 7, 2) := by decide +kernel
theorem dX10_reverse_276 : decode cX10_reverse 276 = .ok (.iload 6, 2) := by decide +kernel
theorem dX10_reverse_278 : decode cX10_reverse 278 = .ok (.imul, 1) := by decide +kernel
theorem dX10_reverse_279 : decode cX10_reverse 279 = .ok (.if_icmp .ge 28, 3) := by decide +kernel
theorem dX10_reverse_282 : decode cX10_reverse 282 = .ok (.aload_n 0, 1) := by decide +kernel
theorem dX10_reverse_283 : decode cX10_reverse 283 = .ok (.getfield 9, 3) := by decide +kernel
theorem dX10_reverse_286 : decode cX10_reverse 286 = .ok (.bipush 7, 2) := by decide +kernel
theorem dX10_reverse_288 : decode cX10_reverse 288 = .ok (.iload_n 2, 1) := by decide +kernel
theorem dX10_reverse_289 : decode cX10_reverse 289 = .ok (.imul, 1) := by decide +kernel
theorem dX10_reverse_290 : decode cX10_reverse 290 = .ok (.iload 7, 2) := by decide +kernel
theorem dX10_reverse_292 : decode cX10_reverse 292 = .ok (.iadd, 1) := by decide +kernel
theorem dX10_reverse_293 : decode cX10_reverse 293 = .ok (.aload_n 0, 1) := by decide +kernel
theorem dX10_reverse_294 : decode cX10_reverse 294 = .ok (.getfield 35, 3) := by decide +kernel
theorem dX10_reverse_297 : decode cX10_reverse 297 = .ok (.iload 7, 2) := by decide +kernel
theorem dX10_reverse_299 : decode cX10_reverse 299 = .ok (.iaload, 1) := by decide +kernel
theorem dX10_reverse_300 : decode cX10_reverse 300 = .ok (.iastore, 1) := by decide +kernel
theorem dX10_reverse_301 : decode cX10_reverse 301 = .ok (.iinc 7 1, 3) := by decide +kernel
theorem dX10_reverse_304 : decode cX10_reverse 304 = .ok (.goto (-32), 3) := by decide +kernel
theorem dX10_reverse_307 : decode cX10_reverse 307 = .ok (.iload_n 3, 1) := by decide +kernel
theorem dX10_reverse_308 : decode cX10_reverse 308 = .ok (.iload_n 2, 1) := by decide +kernel
theorem dX10_reverse_309 : decode cX10_reverse 309 = .ok (.isub, 1) := by decide +kernel
theorem dX10_reverse_310 : decode cX10_reverse 310 = .ok (.ireturn, 1) := by decide +kernel
theorem dX10_transform_0 : decode cX10_transform 0 = .ok (.iload_n 1, 1) := by decide +kernel
theorem dX10_transform_1 : decode cX10_transform 1 = .ok (.sipush (-1024), 3) := by decide +kernel
theorem dX10_transform_4 : decode cX10_transform 4 = .ok (.sipush 1024, 3) := by decide +kernel
theorem dX10_transform_7 : decode cX10_transform 7 = .ok (.invokestatic 80, 3) := by decide +kernel
theorem dX10_transform_10 : decode cX10_transform 10 = .ok (.ifCond .eq 47, 3) := by decide +kernel
theorem dX10_transform_13 : decode cX10_transform 13 = .ok (.iload_n 2, 1) := by decide +kernel
theorem dX10_transform_14 : decode cX10_transform 14 = .ok (.sipush (-1024), 3) := by decide +kernel
theorem dX10_transform_17 : decode cX10_transform 17 = .ok (.sipush 1024, 3) := by decide +kernel
theorem dX10_transform_20 : decode cX10_transform 20 = .ok (.invokestatic 80, 3) := by decide +kernel
theorem dX10_transform_23 : decode cX10_transform 23 = .ok (.ifCond .eq 34, 3) := by decide +kernel
theorem dX10_transform_26 : decode cX10_transform 26 = .ok (.iload_n 3, 1) := by decide +kernel
theorem dX10_transform_27 : decode cX10_transform 27 = .ok (.sipush (-1024), 3) := by decide +kernel
theorem dX10_transform_30 : decode cX10_transform 30 = .ok (.sipush 1024, 3) := by decide +kernel
theorem dX10_transform_33 : decode cX10_transform 33 = .ok (.invokestatic 80, 3) := by decide +kernel
theorem dX10_transform_36 : decode cX10_transform 36 = .ok (.ifCond .eq 21, 3) := by decide +kernel
theorem dX10_transform_39 : decode cX10_transform 39 = .ok (.iload 4, 2) := by decide +kernel
theorem dX10_transform_41 : decode cX10_transform 41 = .ok (.sipush (-1024), 3) := by decide +kernel
theorem dX10_transform_44 : decode cX10_transform 44 = .ok (.sipush 1024, 3) := by decide +kernel
theorem dX10_transform_47 : decode cX10_transform 47 = .ok (.invokestatic 80, 3) := by decide +kernel
theorem dX10_transform_50 : decode cX10_transform 50 = .ok (.ifCond .eq 7, 3) := by decide +kernel
theorem dX10_transform_53 : decode cX10_transform 53 = .ok (.iconst 1, 1) := by decide +kernel
theorem dX10_transform_54 : decode cX10_transform 54 = .ok (.goto 4, 3) := by decide +kernel
theorem dX10_transform_57 : decode cX10_transform 57 = .ok (.iconst 0, 1) := by decide +kernel
theorem dX10_transform_58 : decode cX10_transform 58 = .ok (.istore 7, 2) := by decide +kernel
theorem dX10_transform_60 : decode cX10_transform 60 = .ok (.iload 7, 2) := by decide +kernel
theorem dX10_transform_62 : decode cX10_transform 62 = .ok (.ifCond .eq 31, 3) := by decide +kernel
theorem dX10_transform_65 : decode cX10_transform 65 = .ok (.iload 5, 2) := by decide +kernel
theorem dX10_transform_67 : decode cX10_transform 67 = .ok (.sipush (-8000), 3) := by decide +kernel
theorem dX10_transform_70 : decode cX10_transform 70 = .ok (.sipush 8000, 3) := by decide +kernel
theorem dX10_transform_73 : decode cX10_transform 73 = .ok (.invokestatic 80, 3) := by decide +kernel
theorem dX10_transform_76 : decode cX10_transform 76 = .ok (.ifCond .eq 17, 3) := by decide +kernel
theorem dX10_transform_79 : decode cX10_transform 79 = .ok (.iload 6, 2) := by decide +kernel
theorem dX10_transform_81 : decode cX10_transform 81 = .ok (.sipush (-8000), 3) := by decide +kernel
theorem dX10_transform_84 : decode cX10_transform 84 = .ok (.sipush 8000, 3) := by decide +kernel
theorem dX10_transform_87 : decode cX10_transform 87 = .ok (.invokestatic 80, 3) := by decide +kernel
theorem dX10_transform_90 : decode cX10_transform 90 = .ok (.ifCond .ne 6, 3) := by decide +kernel
theorem dX10_transform_93 : decode cX10_transform 93 = .ok (.ldc 88, 2) := by decide +kernel
theorem dX10_transform_95 : decode cX10_transform 95 = .ok (.ireturn, 1) := by decide +kernel
theorem dX10_transform_96 : decode cX10_transform 96 = .ok (.iconst 1, 1) := by decide +kernel
theorem dX10_transform_97 : decode cX10_transform 97 = .ok (.istore 8, 2) := by decide +kernel
theorem dX10_transform_99 : decode cX10_transform 99 = .ok (.iconst 0, 1) := by decide +kernel
theorem dX10_transform_100 : decode cX10_transform 100 = .ok (.istore 9, 2) := by decide +kernel
theorem dX10_transform_102 : decode cX10_transform 102 = .ok (.iload 9, 2) := by decide +kernel
theorem dX10_transform_104 : decode cX10_transform 104 = .ok (.aload_n 0, 1) := by decide +kernel
theorem dX10_transform_105 : decode cX10_transform 105 = .ok (.invokevirtual 89, 3) := by decide +kernel
theorem dX10_transform_108 : decode cX10_transform 108 = .ok (.if_icmp .ge 261, 3) := by decide +kernel
theorem dX10_transform_111 : decode cX10_transform 111 = .ok (.aload_n 0, 1) := by decide +kernel
theorem dX10_transform_112 : decode cX10_transform 112 = .ok (.getfield 38, 3) := by decide +kernel
theorem dX10_transform_115 : decode cX10_transform 115 = .ok (.bipush 7, 2) := by decide +kernel
theorem dX10_transform_117 : decode cX10_transform 117 = .ok (.iload 9, 2) := by decide +kernel
theorem dX10_transform_119 : decode cX10_transform 119 = .ok (.imul, 1) := by decide +kernel
theorem dX10_transform_120 : decode cX10_transform 120 = .ok (.aload_n 0, 1) := by decide +kernel
theorem dX10_transform_121 : decode cX10_transform 121 = .ok (.iload 9, 2) := by decide +kernel
theorem dX10_transform_123 : decode cX10_transform 123 = .ok (.invokevirtual 93, 3) := by decide +kernel
theorem dX10_transform_126 : decode cX10_transform 126 = .ok (.iastore, 1) := by decide +kernel
theorem dX10_transform_127 : decode cX10_transform 127 = .ok (.iconst 1, 1) := by decide +kernel
theorem dX10_transform_128 : decode cX10_transform 128 = .ok (.istore 10, 2) := by decide +kernel
theorem dX10_transform_130 : decode cX10_transform 130 = .ok (.iload 10, 2) := by decide +kernel
theorem dX10_transform_132 : decode cX10_transform 132 = .ok (.bipush 7, 2) := by decide +kernel
theorem dX10_transform_134 : decode cX10_transform 134 = .ok (.if_icmp .ge 229, 3) := by decide +kernel
theorem dX10_transform_137 : decode cX10_transform 137 = .ok (.aload_n 0, 1) := by decide +kernel
theorem dX10_transform_138 : decode cX10_transform 138 = .ok (.getfield 9, 3) := by decide +kernel
theorem dX10_transform_141 : decode cX10_transform 141 = .ok (.bipush 7, 2) := by decide +kernel
theorem dX10_transform_143 : decode cX10_transform 143 = .ok (.iload 9, 2) := by decide +kernel
theorem dX10_transform_145 : decode cX10_transform 145 = .ok (.imul, 1) := by decide +kernel
theorem dX10_transform_146 : decode cX10_transform 146 = .ok (.iload 10, 2) := by decide +kernel
theorem dX10_transform_148 : decode cX10_transform 148 = .ok (.iadd, 1) := by decide +kernel
theorem dX10_transform_149 : decode cX10_transform 149 = .ok (.iaload, 1) := by decide +kernel
theorem dX10_transform_150 : decode cX10_transform 150 = .ok (.istore 11, 2) := by decide +kernel
theorem dX10_transform_152 : decode cX10_transform 152 = .ok (.aload_n 0, 1) := by decide +kernel
theorem dX10_transform_153 : decode cX10_transform 153 = .ok (.getfield 9, 3) := by decide +kernel
theorem dX10_transform_156 : decode cX10_transform 156 = .ok (.bipush 7, 2) := by decide +kernel
theorem dX10_transform_158 : decode cX10_transform 158 = .ok (.iload 9, 2) := by decide +kernel
theorem dX10_transform_160 : decode cX10_transform 160 = .ok (.imul, 1) := by decide +kernel
theorem dX10_transform_161 : decode cX10_transform 161 = .ok (.iload 10, 2) := by decide +kernel
theorem dX10_transform_163 : decode cX10_transform 163 = .ok (.iadd, 1) := by decide +kernel
theorem dX10_transform_164 : decode cX10_transform 164 = .ok (.iconst 1, 1) := by decide +kernel
theorem dX10_transform_165 : decode cX10_transform 165 = .ok (.iadd, 1) := by decide +kernel
theorem dX10_transform_166 : decode cX10_transform 166 = .ok (.iaload, 1) := by decide +kernel
theorem dX10_transform_167 : decode cX10_transform 167 = .ok (.istore 12, 2) := by decide +kernel
theorem dX10_transform_169 : decode cX10_transform 169 = .ok (.iload 10, 2) := by decide +kernel
theorem dX10_transform_171 : decode cX10_transform 171 = .ok (.iconst 5, 1) := by decide +kernel
theorem dX10_transform_172 : decode cX10_transform 172 = .ok (.if_icmp .ne 21, 3) := by decide +kernel
theorem dX10_transform_175 : decode cX10_transform 175 = .ok (.aload_n 0, 1) := by decide +kernel
theorem dX10_transform_176 : decode cX10_transform 176 = .ok (.iload 9, 2) := by decide +kernel
theorem dX10_transform_178 : decode cX10_transform 178 = .ok (.invokevirtual 93, 3) := by decide +kernel
theorem dX10_transform_181 : decode cX10_transform 181 = .ok (.iconst 4, 1) := by decide +kernel
theorem dX10_transform_182 : decode cX10_transform 182 = .ok (.if_icmp .eq 7, 3) := by decide +kernel
theorem dX10_transform_185 : decode cX10_transform 185 = .ok (.iconst 1, 1) := by decide +kernel
theorem dX10_transform_186 : decode cX10_transform 186 = .ok (.goto 56, 3) := by decide +kernel
theorem dX10_transform_189 : decode cX10_transform 189 = .ok (.iconst 0, 1) := by decide +kernel
theorem dX10_transform_190 : decode cX10_transform 190 = .ok (.goto 52, 3) := by decide +kernel
theorem dX10_transform_193 : decode cX10_transform 193 = .ok (.iload 10, 2) := by decide +kernel
theorem dX10_transform_195 : decode cX10_transform 195 = .ok (.iconst 1, 1) := by decide +kernel
theorem dX10_transform_196 : decode cX10_transform 196 = .ok (.if_icmp .ne 31, 3) := by decide +kernel
theorem dX10_transform_199 : decode cX10_transform 199 = .ok (.aload_n 0, 1) := by decide +kernel
theorem dX10_transform_200 : decode cX10_transform 200 = .ok (.iload 9, 2) := by decide +kernel
theorem dX10_transform_202 : decode cX10_transform 202 = .ok (.invokevirtual 93, 3) := by decide +kernel
theorem dX10_transform_205 : decode cX10_transform 205 = .ok (.iconst 2, 1) := by decide +kernel
theorem dX10_transform_206 : decode cX10_transform 206 = .ok (.if_icmp .eq 13, 3) := by decide +kernel
theorem dX10_transform_209 : decode cX10_transform 209 = .ok (.aload_n 0, 1) := by decide +kernel
theorem dX10_transform_210 : decode cX10_transform 210 = .ok (.iload 9, 2) := by decide +kernel
theorem dX10_transform_212 : decode cX10_transform 212 = .ok (.invokevirtual 93, 3) := by decide +kernel
theorem dX10_transform_215 : decode cX10_transform 215 = .ok (.iconst 3, 1) := by decide +kernel
theorem dX10_transform_216 : decode cX10_transform 216 = .ok (.if_icmp .ne 7, 3) := by decide +kernel
theorem dX10_transform_219 : decode cX10_transform 219 = .ok (.iconst 1, 1) := by decide +kernel
theorem dX10_transform_220 : decode cX10_transform 220 = .ok (.goto 22, 3) := by decide +kernel
theorem dX10_transform_223 : decode cX10_transform 223 = .ok (.iconst 0, 1) := by decide +kernel
theorem dX10_transform_224 : decode cX10_transform 224 = .ok (.goto 18, 3) := by decide +kernel
theorem dX10_transform_227 : decode cX10_transform 227 = .ok (.aload_n 0, 1) := by decide +kernel
theorem dX10_transform_228 : decode cX10_transform 228 = .ok (.iload 9, 2) := by decide +kernel
theorem dX10_transform_230 : decode cX10_transform 230 = .ok (.invokevirtual 93, 3) := by decide +kernel
theorem dX10_transform_233 : decode cX10_transform 233 = .ok (.iconst 3, 1) := by decide +kernel
theorem dX10_transform_234 : decode cX10_transform 234 = .ok (.if_icmp .ne 7, 3) := by decide +kernel
theorem dX10_transform_237 : decode cX10_transform 237 = .ok (.iconst 1, 1) := by decide +kernel
theorem dX10_transform_238 : decode cX10_transform 238 = .ok (.goto 4, 3) := by decide +kernel
theorem dX10_transform_241 : decode cX10_transform 241 = .ok (.iconst 0, 1) := by decide +kernel
theorem dX10_transform_242 : decode cX10_transform 242 = .ok (.istore 13, 2) := by decide +kernel
theorem dX10_transform_244 : decode cX10_transform 244 = .ok (.iload 13, 2) := by decide +kernel
theorem dX10_transform_246 : decode cX10_transform 246 = .ok (.ifCond .eq 21, 3) := by decide +kernel
theorem dX10_transform_249 : decode cX10_transform 249 = .ok (.iload_n 1, 1) := by decide +kernel
theorem dX10_transform_250 : decode cX10_transform 250 = .ok (.iload 11, 2) := by decide +kernel
theorem dX10_transform_252 : decode cX10_transform 252 = .ok (.imul, 1) := by decide +kernel
theorem dX10_transform_253 : decode cX10_transform 253 = .ok (.iload_n 3, 1) := by decide +kernel
theorem dX10_transform_254 : decode cX10_transform 254 = .ok (.iload 12, 2) := by decide +kernel
theorem dX10_transform_256 : decode cX10_transform 256 = .ok (.imul, 1) := by decide +kernel
theorem dX10_transform_257 : decode cX10_transform 257 = .ok (.iadd, 1) := by decide +kernel
theorem dX10_transform_258 : decode cX10_transform 258 = .ok (.bipush 8, 2) := by decide +kernel
theorem dX10_transform_260 : decode cX10_transform 260 = .ok (.ishr, 1) := by decide +kernel
theorem dX10_transform_261 : decode cX10_transform 261 = .ok (.iload 5, 2) := by decide +kernel
theorem dX10_transform_263 : decode cX10_transform 263 = .ok (.iadd, 1) := by decide +kernel
theorem dX10_transform_264 : decode cX10_transform 264 = .ok (.goto 4, 3) := by decide +kernel
theorem dX10_transform_267 : decode cX10_transform 267 = .ok (.iconst 0, 1) := by decide +kernel
theorem dX10_transform_268 : decode cX10_transform 268 = .ok (.istore 14, 2) := by decide +kernel
theorem dX10_transform_270 : decode cX10_transform 270 = .ok (.iload 13, 2) := by decide +kernel
theorem dX10_transform_272 : decode cX10_transform 272 = .ok (.ifCond .eq 22, 3) := by decide +kernel
theorem dX10_transform_275 : decode cX10_transform 275 = .ok (.iload_n 2, 1) := by decide +kernel
theorem dX10_transform_276 : decode cX10_transform 276 = .ok (.iload 11, 2) := by decide +kernel
theorem dX10_transform_278 : decode cX10_transform 278 = .ok (.imul, 1) := by decide +kernel
theorem dX10_transform_279 : decode cX10_transform 279 = .ok (.iload 4, 2) := by decide +kernel
theorem dX10_transform_281 : decode cX10_transform 281 = .ok (.iload 12, 2) := by decide +kernel
theorem dX10_transform_283 : decode cX10_transform 283 = .ok (.imul, 1) := by decide +kernel
theorem dX10_transform_284 : decode cX10_transform 284 = .ok (.iadd, 1) := by decide +kernel
theorem dX10_transform_285 : decode cX10_transform 285 = .ok (.bipush 8, 2) := by decide +kernel
theorem dX10_transform_287 : decode cX10_transform 287 = .ok (.ishr, 1) := by decide +kernel
theorem dX10_transform_288 : decode cX10_transform 288 = .ok (.iload 6, 2) := by decide +kernel
theorem dX10_transform_290 : decode cX10_transform 290 = .ok (.iadd, 1) := by decide +kernel
theorem dX10_transform_291 : decode cX10_transform 291 = .ok (.goto 4, 3) := by decide +kernel
theorem dX10_transform_294 : decode cX10_transform 294 = .ok (.iconst 0, 1) := by decide +kernel
theorem dX10_transform_295 : decode cX10_transform 295 = .ok (.istore 15, 2) := by decide +kernel
theorem dX10_transform_297 : decode cX10_transform 297 = .ok (.iload 8, 2) := by decide +kernel
theorem dX10_transform_299 : decode cX10_transform 299 = .ok (.ifCond .eq 23, 3) := by decide +kernel
theorem dX10_transform_302 : decode cX10_transform 302 = .ok (.iload 14, 2) := by decide +kernel
theorem dX10_transform_304 : decode cX10_transform 304 = .ok (.invokestatic 84, 3) := by decide +kernel
theorem dX10_transform_307 : decode cX10_transform 307 = .ok (.ifCond .eq 15, 3) := by decide +kernel
theorem dX10_transform_310 : decode cX10_transform 310 = .ok (.iload 15, 2) := by decide +kernel
theorem dX10_transform_312 : decode cX10_transform 312 = .ok (.invokestatic 84, 3) := by decide +kernel
theorem dX10_transform_315 : decode cX10_transform 315 = .ok (.ifCond .eq 7, 3) := by decide +kernel
theorem dX10_transform_318 : decode cX10_transform 318 = .ok (.iconst 1, 1) := by decide +kernel
theorem dX10_transform_319 : decode cX10_transform 319 = .ok (.goto 4, 3) := by decide +kernel
theorem dX10_transform_322 : decode cX10_transform 322 = .ok (.iconst 0, 1) := by decide +kernel
theorem dX10_transform_323 : decode cX10_transform 323 = .ok (.istore 8, 2) := by decide +kernel
theorem dX10_transform_325 : decode cX10_transform 325 = .ok (.aload_n 0, 1) := by decide +kernel
theorem dX10_transform_326 : decode cX10_transform 326 = .ok (.getfield 38, 3) := by decide +kernel
theorem dX10_transform_329 : decode cX10_transform 329 = .ok (.bipush 7, 2) := by decide +kernel
theorem dX10_transform_331 : decode cX10_transform 331 = .ok (.iload 9, 2) := by decide +kernel
theorem dX10_transform_333 : decode cX10_transform 333 = .ok (.imul, 1) := by decide +kernel
theorem dX10_transform_334 : decode cX10_transform 334 = .ok (.iload 10, 2) := by decide +kernel
theorem dX10_transform_336 : decode cX10_transform 336 = .ok (.iadd, 1) := by decide +kernel
theorem dX10_transform_337 : decode cX10_transform 337 = .ok (.iload 14, 2) := by decide +kernel
theorem dX10_transform_339 : decode cX10_transform 339 = .ok (.iastore, 1) := by decide +kernel
theorem dX10_transform_340 : decode cX10_transform 340 = .ok (.aload_n 0, 1) := by decide +kernel
theorem dX10_transform_341 : decode cX10_transform 341 = .ok (.getfield 38, 3) := by decide +kernel
theorem dX10_transform_344 : decode cX10_transform 344 = .ok (.bipush 7, 2) := by decide +kernel
theorem dX10_transform_346 : decode cX10_transform 346 = .ok (.iload 9, 2) := by decide +kernel
theorem dX10_transform_348 : decode cX10_transform 348 = .ok (.imul, 1) := by decide +kernel
theorem dX10_transform_349 : decode cX10_transform 349 = .ok (.iload 10, 2) := by decide +kernel
theorem dX10_transform_351 : decode cX10_transform 351 = .ok (.iadd, 1) := by decide +kernel
theorem dX10_transform_352 : decode cX10_transform 352 = .ok (.iconst 1, 1) := by decide +kernel
theorem dX10_transform_353 : decode cX10_transform 353 = .ok (.iadd, 1) := by decide +kernel
theorem dX10_transform_354 : decode cX10_transform 354 = .ok (.iload 15, 2) := by decide +kernel
theorem dX10_transform_356 : decode cX10_transform 356 = .ok (.iastore, 1) := by decide +kernel
theorem dX10_transform_357 : decode cX10_transform 357 = .ok (.iinc 10 2, 3) := by decide +kernel
theorem dX10_transform_360 : decode cX10_transform 360 = .ok (.goto (-230), 3) := by decide +kernel
theorem dX10_transform_363 : decode cX10_transform 363 = .ok (.iinc 9 1, 3) := by decide +kernel
theorem dX10_transform_366 : decode cX10_transform 366 = .ok (.goto (-264), 3) := by decide +kernel
theorem dX10_transform_369 : decode cX10_transform 369 = .ok (.iload 8, 2) := by decide +kernel
theorem dX10_transform_371 : decode cX10_transform 371 = .ok (.ifCond .ne 6, 3) := by decide +kernel
theorem dX10_transform_374 : decode cX10_transform 374 = .ok (.ldc 97, 2) := by decide +kernel
theorem dX10_transform_376 : decode cX10_transform 376 = .ok (.ireturn, 1) := by decide +kernel
theorem dX10_transform_377 : decode cX10_transform 377 = .ok (.iconst 0, 1) := by decide +kernel
theorem dX10_transform_378 : decode cX10_transform 378 = .ok (.istore 9, 2) := by decide +kernel
theorem dX10_transform_380 : decode cX10_transform 380 = .ok (.iload 9, 2) := by decide +kernel
theorem dX10_transform_382 : decode cX10_transform 382 = .ok (.bipush 7, 2) := by decide +kernel
theorem dX10_transform_384 : decode cX10_transform 384 = .ok (.aload_n 0, 1) := by decide +kernel
theorem dX10_transform_385 : decode cX10_transform 385 = .ok (.invokevirtual 89, 3) := by decide +kernel
theorem dX10_transform_388 : decode cX10_transform 388 = .ok (.imul, 1) := by decide +kernel
theorem dX10_transform_389 : decode cX10_transform 389 = .ok (.if_icmp .ge 23, 3) := by decide +kernel
theorem dX10_transform_392 : decode cX10_transform 392 = .ok (.aload_n 0, 1) := by decide +kernel
theorem dX10_transform_393 : decode cX10_transform 393 = .ok (.getfield 9, 3) := by decide +kernel
theorem dX10_transform_396 : decode cX10_transform 396 = .ok (.iload 9, 2) := by decide +kernel
theorem dX10_transform_398 : decode cX10_transform 398 = .ok (.aload_n 0, 1) := by decide +kernel
theorem dX10_transform_399 : decode cX10_transform 399 = .ok (.getfield 38, 3) := by decide +kernel
theorem dX10_transform_402 : decode cX10_transform 402 = .ok (.iload 9, 2) := by decide +kernel
theorem dX10_transform_404 : decode cX10_transform 404 = .ok (.iaload, 1) := by decide +kernel
theorem dX10_transform_405 : decode cX10_transform 405 = .ok (.iastore, 1) := by decide +kernel
theorem dX10_transform_406 : decode cX10_transform 406 = .ok (.iinc 9 1, 3) := by decide +kernel
theorem dX10_transform_409 : decode cX10_transform 409 = .ok (.goto (-29), 3) := by decide +kernel
theorem dX10_transform_412 : decode cX10_transform 412 = .ok (.aload_n 0, 1) := by decide +kernel
theorem dX10_transform_413 : decode cX10_transform 413 = .ok (.invokevirtual 89, 3) := by decide +kernel
theorem dX10_transform_416 : decode cX10_transform 416 = .ok (.ireturn, 1) := by decide +kernel
theorem dX10_say_0 : decode cX10_say 0 = .ok (.iload_n 1, 1) := by decide +kernel
theorem dX10_say_1 : decode cX10_say 1 = .ok (.bipush 33, 2) := by decide +kernel
theorem dX10_say_3 : decode cX10_say 3 = .ok (.bipush 126, 2) := by decide +kernel
theorem dX10_say_5 : decode cX10_say 5 = .ok (.invokestatic 80, 3) := by decide +kernel
theorem dX10_say_8 : decode cX10_say 8 = .ok (.ifCond .ne 6, 3) := by decide +kernel
theorem dX10_say_11 : decode cX10_say 11 = .ok (.ldc 88, 2) := by decide +kernel
theorem dX10_say_13 : decode cX10_say 13 = .ok (.ireturn, 1) := by decide +kernel
theorem dX10_say_14 : decode cX10_say 14 = .ok (.aload_n 0, 1) := by decide +kernel
theorem dX10_say_15 : decode cX10_say 15 = .ok (.getfield 133, 3) := by decide +kernel
theorem dX10_say_18 : decode cX10_say 18 = .ok (.bipush 120, 2) := by decide +kernel
theorem dX10_say_20 : decode cX10_say 20 = .ok (.if_icmp .ne 6, 3) := by decide +kernel
theorem dX10_say_23 : decode cX10_say 23 = .ok (.ldc 98, 2) := by decide +kernel
theorem dX10_say_25 : decode cX10_say 25 = .ok (.ireturn, 1) := by decide +kernel
theorem dX10_say_26 : decode cX10_say 26 = .ok (.aload_n 0, 1) := by decide +kernel
theorem dX10_say_27 : decode cX10_say 27 = .ok (.getfield 20, 3) := by decide +kernel
theorem dX10_say_30 : decode cX10_say 30 = .ok (.aload_n 0, 1) := by decide +kernel
theorem dX10_say_31 : decode cX10_say 31 = .ok (.getfield 133, 3) := by decide +kernel
theorem dX10_say_34 : decode cX10_say 34 = .ok (.iload_n 1, 1) := by decide +kernel
theorem dX10_say_35 : decode cX10_say 35 = .ok (.iastore, 1) := by decide +kernel
theorem dX10_say_36 : decode cX10_say 36 = .ok (.aload_n 0, 1) := by decide +kernel
theorem dX10_say_37 : decode cX10_say 37 = .ok (.dup, 1) := by decide +kernel
theorem dX10_say_38 : decode cX10_say 38 = .ok (.getfield 133, 3) := by decide +kernel
theorem dX10_say_41 : decode cX10_say 41 = .ok (.iconst 1, 1) := by decide +kernel
theorem dX10_say_42 : decode cX10_say 42 = .ok (.iadd, 1) := by decide +kernel
theorem dX10_say_43 : decode cX10_say 43 = .ok (.putfield 133, 3) := by decide +kernel
theorem dX10_say_46 : decode cX10_say 46 = .ok (.aload_n 0, 1) := by decide +kernel
theorem dX10_say_47 : decode cX10_say 47 = .ok (.getfield 133, 3) := by decide +kernel
theorem dX10_say_50 : decode cX10_say 50 = .ok (.ireturn, 1) := by decide +kernel
theorem dX10_wipe_0 : decode cX10_wipe 0 = .ok (.aload_n 0, 1) := by decide +kernel
theorem dX10_wipe_1 : decode cX10_wipe 1 = .ok (.getfield 133, 3) := by decide +kernel
theorem dX10_wipe_4 : decode cX10_wipe 4 = .ok (.istore_n 1, 1) := by decide +kernel
theorem dX10_wipe_5 : decode cX10_wipe 5 = .ok (.aload_n 0, 1) := by decide +kernel
theorem dX10_wipe_6 : decode cX10_wipe 6 = .ok (.iconst 0, 1) := by decide +kernel
theorem dX10_wipe_7 : decode cX10_wipe 7 = .ok (.putfield 133, 3) := by decide +kernel
theorem dX10_wipe_10 : decode cX10_wipe 10 = .ok (.iload_n 1, 1) := by decide +kernel
theorem dX10_wipe_11 : decode cX10_wipe 11 = .ok (.ireturn, 1) := by decide +kernel
theorem dX10_sign_0 : decode cX10_sign 0 = .ok (.aload_n 0, 1) := by decide +kernel
theorem dX10_sign_1 : decode cX10_sign 1 = .ok (.getfield 137, 3) := by decide +kernel
theorem dX10_sign_4 : decode cX10_sign 4 = .ok (.aload_n 0, 1) := by decide +kernel
theorem dX10_sign_5 : decode cX10_sign 5 = .ok (.getfield 133, 3) := by decide +kernel
theorem dX10_sign_8 : decode cX10_sign 8 = .ok (.if_icmp .ge 15, 3) := by decide +kernel
theorem dX10_sign_11 : decode cX10_sign 11 = .ok (.aload_n 0, 1) := by decide +kernel
theorem dX10_sign_12 : decode cX10_sign 12 = .ok (.getfield 20, 3) := by decide +kernel
theorem dX10_sign_15 : decode cX10_sign 15 = .ok (.aload_n 0, 1) := by decide +kernel
theorem dX10_sign_16 : decode cX10_sign 16 = .ok (.getfield 137, 3) := by decide +kernel
theorem dX10_sign_19 : decode cX10_sign 19 = .ok (.iaload, 1) := by decide +kernel
theorem dX10_sign_20 : decode cX10_sign 20 = .ok (.goto 4, 3) := by decide +kernel
theorem dX10_sign_23 : decode cX10_sign 23 = .ok (.iconst 0, 1) := by decide +kernel
theorem dX10_sign_24 : decode cX10_sign 24 = .ok (.ireturn, 1) := by decide +kernel
theorem dX10_readNumber_0 : decode cX10_readNumber 0 = .ok (.aload_n 0, 1) := by decide +kernel
theorem dX10_readNumber_1 : decode cX10_readNumber 1 = .ok (.invokevirtual 140, 3) := by decide +kernel
theorem dX10_readNumber_4 : decode cX10_readNumber 4 = .ok (.bipush 45, 2) := by decide +kernel
theorem dX10_readNumber_6 : decode cX10_readNumber 6 = .ok (.if_icmp .ne 7, 3) := by decide +kernel
theorem dX10_readNumber_9 : decode cX10_readNumber 9 = .ok (.iconst (-1), 1) := by decide +kernel
theorem dX10_readNumber_10 : decode cX10_readNumber 10 = .ok (.goto 4, 3) := by decide +kernel
theorem dX10_readNumber_13 : decode cX10_readNumber 13 = .ok (.iconst 1, 1) := by decide +kernel
theorem dX10_readNumber_14 : decode cX10_readNumber 14 = .ok (.istore_n 1, 1) := by decide +kernel
theorem dX10_readNumber_15 : decode cX10_readNumber 15 = .ok (.aload_n 0, 1) := by decide +kernel
theorem dX10_readNumber_16 : decode cX10_readNumber 16 = .ok (.dup, 1) := by decide +kernel
theorem dX10_readNumber_17 : decode cX10_readNumber 17 = .ok (.getfield 137, 3) := by decide +kernel
theorem dX10_readNumber_20 : decode cX10_readNumber 20 = .ok (.iload_n 1, 1) := by decide +kernel
theorem dX10_readNumber_21 : decode cX10_readNumber 21 = .ok (.ifCond .ge 7, 3) := by decide +kernel
theorem dX10_readNumber_24 : decode cX10_readNumber 24 = .ok (.iconst 1, 1) := by decide +kernel
theorem dX10_readNumber_25 : decode cX10_readNumber 25 = .ok (.goto 4, 3) := by decide +kernel
theorem dX10_readNumber_28 : decode cX10_readNumber 28 = .ok (.iconst 0, 1) := by decide +kernel
theorem dX10_readNumber_29 : decode cX10_readNumber 29 = .ok (.iadd, 1) := by decide +kernel
theorem dX10_readNumber_30 : decode cX10_readNumber 30 = .ok (.putfield 137, 3) := by decide +kernel
theorem dX10_readNumber_33 : decode cX10_readNumber 33 = .ok (.aload_n 0, 1) := by decide +kernel
theorem dX10_readNumber_34 : decode cX10_readNumber 34 = .ok (.invokevirtual 140, 3) := by decide +kernel
theorem dX10_readNumber_37 : decode cX10_readNumber 37 = .ok (.bipush 48, 2) := by decide +kernel
theorem dX10_readNumber_39 : decode cX10_readNumber 39 = .ok (.bipush 57, 2) := by decide +kernel
theorem dX10_readNumber_41 : decode cX10_readNumber 41 = .ok (.invokestatic 80, 3) := by decide +kernel
theorem dX10_readNumber_44 : decode cX10_readNumber 44 = .ok (.ifCond .ne 10, 3) := by decide +kernel
theorem dX10_readNumber_47 : decode cX10_readNumber 47 = .ok (.aload_n 0, 1) := by decide +kernel
theorem dX10_readNumber_48 : decode cX10_readNumber 48 = .ok (.iconst 1, 1) := by decide +kernel
theorem dX10_readNumber_49 : decode cX10_readNumber 49 = .ok (.putfield 143, 3) := by decide +kernel
theorem dX10_readNumber_52 : decode cX10_readNumber 52 = .ok (.iconst 0, 1) := by decide +kernel
theorem dX10_readNumber_53 : decode cX10_readNumber 53 = .ok (.ireturn, 1) := by decide +kernel
theorem dX10_readNumber_54 : decode cX10_readNumber 54 = .ok (.aload_n 0, 1) := by decide +kernel
theorem dX10_readNumber_55 : decode cX10_readNumber 55 = .ok (.invokevirtual 140, 3) := by decide +kernel
theorem dX10_readNumber_58 : decode cX10_readNumber 58 = .ok (.bipush 48, 2) := by decide +kernel
theorem dX10_readNumber_60 : decode cX10_readNumber 60 = .ok (.isub, 1) := by decide +kernel
theorem dX10_readNumber_61 : decode cX10_readNumber 61 = .ok (.istore_n 2, 1) := by decide +kernel
theorem dX10_readNumber_62 : decode cX10_readNumber 62 = .ok (.aload_n 0, 1) := by decide +kernel
theorem dX10_readNumber_63 : decode cX10_readNumber 63 = .ok (.dup, 1) := by decide +kernel
theorem dX10_readNumber_64 : decode cX10_readNumber 64 = .ok (.getfield 137, 3) := by decide +kernel
theorem dX10_readNumber_67 : decode cX10_readNumber 67 = .ok (.iconst 1, 1) := by decide +kernel
theorem dX10_readNumber_68 : decode cX10_readNumber 68 = .ok (.iadd, 1) := by decide +kernel
theorem dX10_readNumber_69 : decode cX10_readNumber 69 = .ok (.putfield 137, 3) := by decide +kernel
theorem dX10_readNumber_72 : decode cX10_readNumber 72 = .ok (.iload_n 2, 1) := by decide +kernel
theorem dX10_readNumber_73 : decode cX10_readNumber 73 = .ok (.ifCond .le 61, 3) := by decide +kernel
theorem dX10_readNumber_76 : decode cX10_readNumber 76 = .ok (.aload_n 0, 1) := by decide +kernel
theorem dX10_readNumber_77 : decode cX10_readNumber 77 = .ok (.invokevirtual 140, 3) := by decide +kernel
theorem dX10_readNumber_80 : decode cX10_readNumber 80 = .ok (.bipush 48, 2) := by decide +kernel
theorem dX10_readNumber_82 : decode cX10_readNumber 82 = .ok (.bipush 57, 2) := by decide +kernel
theorem dX10_readNumber_84 : decode cX10_readNumber 84 = .ok (.invokestatic 80, 3) := by decide +kernel
theorem dX10_readNumber_87 : decode cX10_readNumber 87 = .ok (.ifCond .eq 47, 3) := by decide +kernel
theorem dX10_readNumber_90 : decode cX10_readNumber 90 = .ok (.bipush 10, 2) := by decide +kernel
theorem dX10_readNumber_92 : decode cX10_readNumber 92 = .ok (.iload_n 2, 1) := by decide +kernel
theorem dX10_readNumber_93 : decode cX10_readNumber 93 = .ok (.imul, 1) := by decide +kernel
theorem dX10_readNumber_94 : decode cX10_readNumber 94 = .ok (.aload_n 0, 1) := by decide +kernel
theorem dX10_readNumber_95 : decode cX10_readNumber 95 = .ok (.invokevirtual 140, 3) := by decide +kernel
theorem dX10_readNumber_98 : decode cX10_readNumber 98 = .ok (.iadd, 1) := by decide +kernel
theorem dX10_readNumber_99 : decode cX10_readNumber 99 = .ok (.bipush 48, 2) := by decide +kernel
theorem dX10_readNumber_101 : decode cX10_readNumber 101 = .ok (.isub, 1) := by decide +kernel
theorem dX10_readNumber_102 : decode cX10_readNumber 102 = .ok (.sipush 4000, 3) := by decide +kernel
theorem dX10_readNumber_105 : decode cX10_readNumber 105 = .ok (.if_icmp .gt 29, 3) := by decide +kernel
theorem dX10_readNumber_108 : decode cX10_readNumber 108 = .ok (.bipush 10, 2) := by decide +kernel
theorem dX10_readNumber_110 : decode cX10_readNumber 110 = .ok (.iload_n 2, 1) := by decide +kernel
theorem dX10_readNumber_111 : decode cX10_readNumber 111 = .ok (.imul, 1) := by decide +kernel
theorem dX10_readNumber_112 : decode cX10_readNumber 112 = .ok (.aload_n 0, 1) := by decide +kernel
theorem dX10_readNumber_113 : decode cX10_readNumber 113 = .ok (.invokevirtual 140, 3) := by decide +kernel
theorem dX10_readNumber_116 : decode cX10_readNumber 116 = .ok (.iadd, 1) := by decide +kernel
theorem dX10_readNumber_117 : decode cX10_readNumber 117 = .ok (.bipush 48, 2) := by decide +kernel
theorem dX10_readNumber_119 : decode cX10_readNumber 119 = .ok (.isub, 1) := by decide +kernel
theorem dX10_readNumber_120 : decode cX10_readNumber 120 = .ok (.istore_n 2, 1) := by decide +kernel
theorem dX10_readNumber_121 : decode cX10_readNumber 121 = .ok (.aload_n 0, 1) := by decide +kernel
theorem dX10_readNumber_122 : decode cX10_readNumber 122 = .ok (.dup, 1) := by decide +kernel
theorem dX10_readNumber_123 : decode cX10_readNumber 123 = .ok (.getfield 137, 3) := by decide +kernel
theorem dX10_readNumber_126 : decode cX10_readNumber 126 = .ok (.iconst 1, 1) := by decide +kernel
theorem dX10_readNumber_127 : decode cX10_readNumber 127 = .ok (.iadd, 1) := by decide +kernel
theorem dX10_readNumber_128 : decode cX10_readNumber 128 = .ok (.putfield 137, 3) := by decide +kernel
theorem dX10_readNumber_131 : decode cX10_readNumber 131 = .ok (.goto (-59), 3) := by decide +kernel
theorem dX10_readNumber_134 : decode cX10_readNumber 134 = .ok (.iload_n 1, 1) := by decide +kernel
theorem dX10_readNumber_135 : decode cX10_readNumber 135 = .ok (.iload_n 2, 1) := by decide +kernel
theorem dX10_readNumber_136 : decode cX10_readNumber 136 = .ok (.imul, 1) := by decide +kernel
theorem dX10_readNumber_137 : decode cX10_readNumber 137 = .ok (.ireturn, 1) := by decide +kernel
theorem dX10_readComma_0 : decode cX10_readComma 0 = .ok (.aload_n 0, 1) := by decide +kernel
theorem dX10_readComma_1 : decode cX10_readComma 1 = .ok (.invokevirtual 140, 3) := by decide +kernel
theorem dX10_readComma_4 : decode cX10_readComma 4 = .ok (.bipush 44, 2) := by decide +kernel
theorem dX10_readComma_6 : decode cX10_readComma 6 = .ok (.if_icmp .ne 16, 3) := by decide +kernel
theorem dX10_readComma_9 : decode cX10_readComma 9 = .ok (.aload_n 0, 1) := by decide +kernel
theorem dX10_readComma_10 : decode cX10_readComma 10 = .ok (.dup, 1) := by decide +kernel
theorem dX10_readComma_11 : decode cX10_readComma 11 = .ok (.getfield 137, 3) := by decide +kernel
theorem dX10_readComma_14 : decode cX10_readComma 14 = .ok (.iconst 1, 1) := by decide +kernel
theorem dX10_readComma_15 : decode cX10_readComma 15 = .ok (.iadd, 1) := by decide +kernel
theorem dX10_readComma_16 : decode cX10_readComma 16 = .ok (.putfield 137, 3) := by decide +kernel
theorem dX10_readComma_19 : decode cX10_readComma 19 = .ok (.goto 8, 3) := by decide +kernel
theorem dX10_readComma_22 : decode cX10_readComma 22 = .ok (.aload_n 0, 1) := by decide +kernel
theorem dX10_readComma_23 : decode cX10_readComma 23 = .ok (.iconst 1, 1) := by decide +kernel
theorem dX10_readComma_24 : decode cX10_readComma 24 = .ok (.putfield 143, 3) := by decide +kernel
theorem dX10_readComma_27 : decode cX10_readComma 27 = .ok (.return_, 1) := by decide +kernel
theorem dX10_readPair_0 : decode cX10_readPair 0 = .ok (.aload_n 0, 1) := by decide +kernel
theorem dX10_readPair_1 : decode cX10_readPair 1 = .ok (.invokevirtual 147, 3) := by decide +kernel
theorem dX10_readPair_4 : decode cX10_readPair 4 = .ok (.istore_n 3, 1) := by decide +kernel
theorem dX10_readPair_5 : decode cX10_readPair 5 = .ok (.aload_n 0, 1) := by decide +kernel
theorem dX10_readPair_6 : decode cX10_readPair 6 = .ok (.getfield 143, 3) := by decide +kernel
theorem dX10_readPair_9 : decode cX10_readPair 9 = .ok (.ifCond .ne 7, 3) := by decide +kernel
theorem dX10_readPair_12 : decode cX10_readPair 12 = .ok (.aload_n 0, 1) := by decide +kernel
theorem dX10_readPair_13 : decode cX10_readPair 13 = .ok (.invokevirtual 150, 3) := by decide +kernel
theorem dX10_readPair_16 : decode cX10_readPair 16 = .ok (.aload_n 0, 1) := by decide +kernel
theorem dX10_readPair_17 : decode cX10_readPair 17 = .ok (.getfield 143, 3) := by decide +kernel
theorem dX10_readPair_20 : decode cX10_readPair 20 = .ok (.ifCond .eq 7, 3) := by decide +kernel
theorem dX10_readPair_23 : decode cX10_readPair 23 = .ok (.iconst 0, 1) := by decide +kernel
theorem dX10_readPair_24 : decode cX10_readPair 24 = .ok (.goto 7, 3) := by decide +kernel
theorem dX10_readPair_27 : decode cX10_readPair 27 = .ok (.aload_n 0, 1) := by decide +kernel
theorem dX10_readPair_28 : decode cX10_readPair 28 = .ok (.invokevirtual 147, 3) := by decide +kernel
theorem dX10_readPair_31 : decode cX10_readPair 31 = .ok (.istore 4, 2) := by decide +kernel
theorem dX10_readPair_33 : decode cX10_readPair 33 = .ok (.iload_n 3, 1) := by decide +kernel
theorem dX10_readPair_34 : decode cX10_readPair 34 = .ok (.iload_n 2, 1) := by decide +kernel
theorem dX10_readPair_35 : decode cX10_readPair 35 = .ok (.ifCond .eq 10, 3) := by decide +kernel
theorem dX10_readPair_38 : decode cX10_readPair 38 = .ok (.aload_n 0, 1) := by decide +kernel
theorem dX10_readPair_39 : decode cX10_readPair 39 = .ok (.getfield 153, 3) := by decide +kernel
theorem dX10_readPair_42 : decode cX10_readPair 42 = .ok (.goto 4, 3) := by decide +kernel
theorem dX10_readPair_45 : decode cX10_readPair 45 = .ok (.iconst 0, 1) := by decide +kernel
theorem dX10_readPair_46 : decode cX10_readPair 46 = .ok (.iadd, 1) := by decide +kernel
theorem dX10_readPair_47 : decode cX10_readPair 47 = .ok (.istore_n 3, 1) := by decide +kernel
theorem dX10_readPair_48 : decode cX10_readPair 48 = .ok (.iload 4, 2) := by decide +kernel
theorem dX10_readPair_50 : decode cX10_readPair 50 = .ok (.iload_n 2, 1) := by decide +kernel
theorem dX10_readPair_51 : decode cX10_readPair 51 = .ok (.ifCond .eq 10, 3) := by decide +kernel
theorem dX10_readPair_54 : decode cX10_readPair 54 = .ok (.aload_n 0, 1) := by decide +kernel
theorem dX10_readPair_55 : decode cX10_readPair 55 = .ok (.getfield 156, 3) := by decide +kernel
theorem dX10_readPair_58 : decode cX10_readPair 58 = .ok (.goto 4, 3) := by decide +kernel
theorem dX10_readPair_61 : decode cX10_readPair 61 = .ok (.iconst 0, 1) := by decide +kernel
theorem dX10_readPair_62 : decode cX10_readPair 62 = .ok (.iadd, 1) := by decide +kernel
theorem dX10_readPair_63 : decode cX10_readPair 63 = .ok (.istore 4, 2) := by decide +kernel
theorem dX10_readPair_65 : decode cX10_readPair 65 = .ok (.aload_n 0, 1) := by decide +kernel
theorem dX10_readPair_66 : decode cX10_readPair 66 = .ok (.aload_n 0, 1) := by decide +kernel
theorem dX10_readPair_67 : decode cX10_readPair 67 = .ok (.getfield 159, 3) := by decide +kernel
theorem dX10_readPair_70 : decode cX10_readPair 70 = .ok (.ifCond .ne 25, 3) := by decide +kernel
theorem dX10_readPair_73 : decode cX10_readPair 73 = .ok (.aload_n 0, 1) := by decide +kernel
theorem dX10_readPair_74 : decode cX10_readPair 74 = .ok (.getfield 143, 3) := by decide +kernel
theorem dX10_readPair_77 : decode cX10_readPair 77 = .ok (.ifCond .ne 22, 3) := by decide +kernel
theorem dX10_readPair_80 : decode cX10_readPair 80 = .ok (.iload_n 3, 1) := by decide +kernel
theorem dX10_readPair_81 : decode cX10_readPair 81 = .ok (.invokestatic 84, 3) := by decide +kernel
theorem dX10_readPair_84 : decode cX10_readPair 84 = .ok (.ifCond .eq 11, 3) := by decide +kernel
theorem dX10_readPair_87 : decode cX10_readPair 87 = .ok (.iload 4, 2) := by decide +kernel
theorem dX10_readPair_89 : decode cX10_readPair 89 = .ok (.invokestatic 84, 3) := by decide +kernel
theorem dX10_readPair_92 : decode cX10_readPair 92 = .ok (.ifCond .ne 7, 3) := by decide +kernel
theorem dX10_readPair_95 : decode cX10_readPair 95 = .ok (.iconst 1, 1) := by decide +kernel
theorem dX10_readPair_96 : decode cX10_readPair 96 = .ok (.goto 4, 3) := by decide +kernel
theorem dX10_readPair_99 : decode cX10_readPair 99 = .ok (.iconst 0, 1) := by decide +kernel
theorem dX10_readPair_100 : decode cX10_readPair 100 = .ok (.putfield 159, 3) := by decide +kernel
theorem dX10_readPair_103 : decode cX10_readPair 103 = .ok (.aload_n 0, 1) := by decide +kernel
theorem dX10_readPair_104 : decode cX10_readPair 104 = .ok (.getfield 41, 3) := by decide +kernel
theorem dX10_readPair_107 : decode cX10_readPair 107 = .ok (.iload_n 1, 1) := by decide +kernel
theorem dX10_readPair_108 : decode cX10_readPair 108 = .ok (.iload_n 3, 1) := by decide +kernel
theorem dX10_readPair_109 : decode cX10_readPair 109 = .ok (.iastore, 1) := by decide +kernel
theorem dX10_readPair_110 : decode cX10_readPair 110 = .ok (.aload_n 0, 1) := by decide +kernel
theorem dX10_readPair_111 : decode cX10_readPair 111 = .ok (.getfield 41, 3) := by decide +kernel
theorem dX10_readPair_114 : decode cX10_readPair 114 = .ok (.iload_n 1, 1) := by decide +kernel
theorem dX10_readPair_115 : decode cX10_readPair 115 = .ok (.iconst 1, 1) := by decide +kernel
theorem dX10_readPair_116 : decode cX10_readPair 116 = .ok (.iadd, 1) := by decide +kernel
theorem dX10_readPair_117 : decode cX10_readPair 117 = .ok (.iload 4, 2) := by decide +kernel
theorem dX10_readPair_119 : decode cX10_readPair 119 = .ok (.iastore, 1) := by decide +kernel
theorem dX10_readPair_120 : decode cX10_readPair 120 = .ok (.return_, 1) := by decide +kernel
theorem dX10_readCommand_0 : decode cX10_readCommand 0 = .ok (.aload_n 0, 1) := by decide +kernel
theorem dX10_readCommand_1 : decode cX10_readCommand 1 = .ok (.dup, 1) := by decide +kernel
theorem dX10_readCommand_2 : decode cX10_readCommand 2 = .ok (.getfield 137, 3) := by decide +kernel
theorem dX10_readCommand_5 : decode cX10_readCommand 5 = .ok (.iconst 1, 1) := by decide +kernel
theorem dX10_readCommand_6 : decode cX10_readCommand 6 = .ok (.iadd, 1) := by decide +kernel
theorem dX10_readCommand_7 : decode cX10_readCommand 7 = .ok (.putfield 137, 3) := by decide +kernel
theorem dX10_readCommand_10 : decode cX10_readCommand 10 = .ok (.bipush 7, 2) := by decide +kernel
theorem dX10_readCommand_12 : decode cX10_readCommand 12 = .ok (.aload_n 0, 1) := by decide +kernel
theorem dX10_readCommand_13 : decode cX10_readCommand 13 = .ok (.getfield 162, 3) := by decide +kernel
theorem dX10_readCommand_16 : decode cX10_readCommand 16 = .ok (.imul, 1) := by decide +kernel
theorem dX10_readCommand_17 : decode cX10_readCommand 17 = .ok (.istore_n 3, 1) := by decide +kernel
theorem dX10_readCommand_18 : decode cX10_readCommand 18 = .ok (.aload_n 0, 1) := by decide +kernel
theorem dX10_readCommand_19 : decode cX10_readCommand 19 = .ok (.getfield 41, 3) := by decide +kernel
theorem dX10_readCommand_22 : decode cX10_readCommand 22 = .ok (.iload_n 3, 1) := by decide +kernel
theorem dX10_readCommand_23 : decode cX10_readCommand 23 = .ok (.iload_n 1, 1) := by decide +kernel
theorem dX10_readCommand_24 : decode cX10_readCommand 24 = .ok (.iastore, 1) := by decide +kernel
theorem dX10_readCommand_25 : decode cX10_readCommand 25 = .ok (.iconst 1, 1) := by decide +kernel
theorem dX10_readCommand_26 : decode cX10_readCommand 26 = .ok (.istore 4, 2) := by decide +kernel
theorem dX10_readCommand_28 : decode cX10_readCommand 28 = .ok (.iload 4, 2) := by decide +kernel
theorem dX10_readCommand_30 : decode cX10_readCommand 30 = .ok (.bipush 7, 2) := by decide +kernel
theorem dX10_readCommand_32 : decode cX10_readCommand 32 = .ok (.if_icmp .ge 19, 3) := by decide +kernel
theorem dX10_readCommand_35 : decode cX10_readCommand 35 = .ok (.aload_n 0, 1) := by decide +kernel
theorem dX10_readCommand_36 : decode cX10_readCommand 36 = .ok (.getfield 41, 3) := by decide +kernel
theorem dX10_readCommand_39 : decode cX10_readCommand 39 = .ok (.iload_n 3, 1) := by decide +kernel
theorem dX10_readCommand_40 : decode cX10_readCommand 40 = .ok (.iload 4, 2) := by decide +kernel
theorem dX10_readCommand_42 : decode cX10_readCommand 42 = .ok (.iadd, 1) := by decide +kernel
theorem dX10_readCommand_43 : decode cX10_readCommand 43 = .ok (.iconst 0, 1) := by decide +kernel
theorem dX10_readCommand_44 : decode cX10_readCommand 44 = .ok (.iastore, 1) := by decide +kernel
theorem dX10_readCommand_45 : decode cX10_readCommand 45 = .ok (.iinc 4 1, 3) := by decide +kernel
theorem dX10_readCommand_48 : decode cX10_readCommand 48 = .ok (.goto (-20), 3) := by decide +kernel
theorem dX10_readCommand_51 : decode cX10_readCommand 51 = .ok (.iload_n 1, 1) := by decide +kernel
theorem dX10_readCommand_52 : decode cX10_readCommand 52 = .ok (.iconst 2, 1) := by decide +kernel
theorem dX10_readCommand_53 : decode cX10_readCommand 53 = .ok (.if_icmp .ne 7, 3) := by decide +kernel
theorem dX10_readCommand_56 : decode cX10_readCommand 56 = .ok (.iconst 1, 1) := by decide +kernel
theorem dX10_readCommand_57 : decode cX10_readCommand 57 = .ok (.goto 13, 3) := by decide +kernel
theorem dX10_readCommand_60 : decode cX10_readCommand 60 = .ok (.iload_n 1, 1) := by decide +kernel
theorem dX10_readCommand_61 : decode cX10_readCommand 61 = .ok (.iconst 3, 1) := by decide +kernel
theorem dX10_readCommand_62 : decode cX10_readCommand 62 = .ok (.if_icmp .ne 7, 3) := by decide +kernel
theorem dX10_readCommand_65 : decode cX10_readCommand 65 = .ok (.iconst 2, 1) := by decide +kernel
theorem dX10_readCommand_66 : decode cX10_readCommand 66 = .ok (.goto 4, 3) := by decide +kernel
theorem dX10_readCommand_69 : decode cX10_readCommand 69 = .ok (.iconst 0, 1) := by decide +kernel
theorem dX10_readCommand_70 : decode cX10_readCommand 70 = .ok (.istore 4, 2) := by decide +kernel
theorem dX10_readCommand_72 : decode cX10_readCommand 72 = .ok (.iconst 0, 1) := by decide +kernel
theorem dX10_readCommand_73 : decode cX10_readCommand 73 = .ok (.istore 5, 2) := by decide +kernel
theorem dX10_readCommand_75 : decode cX10_readCommand 75 = .ok (.iload 5, 2) := by decide +kernel
theorem dX10_readCommand_77 : decode cX10_readCommand 77 = .ok (.iload 4, 2) := by decide +kernel
theorem dX10_readCommand_79 : decode cX10_readCommand 79 = .ok (.if_icmp .ge 40, 3) := by decide +kernel
theorem dX10_readCommand_82 : decode cX10_readCommand 82 = .ok (.aload_n 0, 1) := by decide +kernel
theorem dX10_readCommand_83 : decode cX10_readCommand 83 = .ok (.getfield 143, 3) := by decide +kernel
theorem dX10_readCommand_86 : decode cX10_readCommand 86 = .ok (.ifCond .ne 33, 3) := by decide +kernel
theorem dX10_readCommand_89 : decode cX10_readCommand 89 = .ok (.aload_n 0, 1) := by decide +kernel
theorem dX10_readCommand_90 : decode cX10_readCommand 90 = .ok (.iload_n 3, 1) := by decide +kernel
theorem dX10_readCommand_91 : decode cX10_readCommand 91 = .ok (.iconst 1, 1) := by decide +kernel
theorem dX10_readCommand_92 : decode cX10_readCommand 92 = .ok (.iadd, 1) := by decide +kernel
theorem dX10_readCommand_93 : decode cX10_readCommand 93 = .ok (.iconst 2, 1) := by decide +kernel
theorem dX10_readCommand_94 : decode cX10_readCommand 94 = .ok (.iload 5, 2) := by decide +kernel
theorem dX10_readCommand_96 : decode cX10_readCommand 96 = .ok (.imul, 1) := by decide +kernel
theorem dX10_readCommand_97 : decode cX10_readCommand 97 = .ok (.iadd, 1) := by decide +kernel
theorem dX10_readCommand_98 : decode cX10_readCommand 98 = .ok (.iload_n 2, 1) := by decide +kernel
theorem dX10_readCommand_99 : decode cX10_readCommand 99 = .ok (.invokevirtual 165, 3) := by decide +kernel
theorem dX10_readCommand_102 : decode cX10_readCommand 102 = .ok (.aload_n 0, 1) := by decide +kernel
theorem dX10_readCommand_103 : decode cX10_readCommand 103 = .ok (.getfield 143, 3) := by decide +kernel
theorem dX10_readCommand_106 : decode cX10_readCommand 106 = .ok (.ifCond .ne 7, 3) := by decide +kernel
theorem dX10_readCommand_109 : decode cX10_readCommand 109 = .ok (.aload_n 0, 1) := by decide +kernel
theorem dX10_readCommand_110 : decode cX10_readCommand 110 = .ok (.invokevirtual 150, 3) := by decide +kernel
theorem dX10_readCommand_113 : decode cX10_readCommand 113 = .ok (.iinc 5 1, 3) := by decide +kernel
theorem dX10_readCommand_116 : decode cX10_readCommand 116 = .ok (.goto (-41), 3) := by decide +kernel
theorem dX10_readCommand_119 : decode cX10_readCommand 119 = .ok (.aload_n 0, 1) := by decide +kernel
theorem dX10_readCommand_120 : decode cX10_readCommand 120 = .ok (.getfield 143, 3) := by decide +kernel
theorem dX10_readCommand_123 : decode cX10_readCommand 123 = .ok (.ifCond .ne 36, 3) := by decide +kernel
theorem dX10_readCommand_126 : decode cX10_readCommand 126 = .ok (.aload_n 0, 1) := by decide +kernel
theorem dX10_readCommand_127 : decode cX10_readCommand 127 = .ok (.iload_n 3, 1) := by decide +kernel
theorem dX10_readCommand_128 : decode cX10_readCommand 128 = .ok (.iconst 5, 1) := by decide +kernel
theorem dX10_readCommand_129 : decode cX10_readCommand 129 = .ok (.iadd, 1) := by decide +kernel
theorem dX10_readCommand_130 : decode cX10_readCommand 130 = .ok (.iload_n 2, 1) := by decide +kernel
theorem dX10_readCommand_131 : decode cX10_readCommand 131 = .ok (.invokevirtual 165, 3) := by decide +kernel
theorem dX10_readCommand_134 : decode cX10_readCommand 134 = .ok (.aload_n 0, 1) := by decide +kernel
theorem dX10_readCommand_135 : decode cX10_readCommand 135 = .ok (.aload_n 0, 1) := by decide +kernel
theorem dX10_readCommand_136 : decode cX10_readCommand 136 = .ok (.getfield 41, 3) := by decide +kernel
theorem dX10_readCommand_139 : decode cX10_readCommand 139 = .ok (.iload_n 3, 1) := by decide +kernel
theorem dX10_readCommand_140 : decode cX10_readCommand 140 = .ok (.iconst 5, 1) := by decide +kernel
theorem dX10_readCommand_141 : decode cX10_readCommand 141 = .ok (.iadd, 1) := by decide +kernel
theorem dX10_readCommand_142 : decode cX10_readCommand 142 = .ok (.iaload, 1) := by decide +kernel
theorem dX10_readCommand_143 : decode cX10_readCommand 143 = .ok (.putfield 153, 3) := by decide +kernel
theorem dX10_readCommand_146 : decode cX10_readCommand 146 = .ok (.aload_n 0, 1) := by decide +kernel
theorem dX10_readCommand_147 : decode cX10_readCommand 147 = .ok (.aload_n 0, 1) := by decide +kernel
theorem dX10_readCommand_148 : decode cX10_readCommand 148 = .ok (.getfield 41, 3) := by decide +kernel
theorem dX10_readCommand_151 : decode cX10_readCommand 151 = .ok (.iload_n 3, 1) := by decide +kernel
theorem dX10_readCommand_152 : decode cX10_readCommand 152 = .ok (.bipush 6, 2) := by decide +kernel
theorem dX10_readCommand_154 : decode cX10_readCommand 154 = .ok (.iadd, 1) := by decide +kernel
theorem dX10_readCommand_155 : decode cX10_readCommand 155 = .ok (.iaload, 1) := by decide +kernel
theorem dX10_readCommand_156 : decode cX10_readCommand 156 = .ok (.putfield 156, 3) := by decide +kernel
theorem dX10_readCommand_159 : decode cX10_readCommand 159 = .ok (.aload_n 0, 1) := by decide +kernel
theorem dX10_readCommand_160 : decode cX10_readCommand 160 = .ok (.dup, 1) := by decide +kernel
theorem dX10_readCommand_161 : decode cX10_readCommand 161 = .ok (.getfield 162, 3) := by decide +kernel
theorem dX10_readCommand_164 : decode cX10_readCommand 164 = .ok (.iconst 1, 1) := by decide +kernel
theorem dX10_readCommand_165 : decode cX10_readCommand 165 = .ok (.iadd, 1) := by decide +kernel
theorem dX10_readCommand_166 : decode cX10_readCommand 166 = .ok (.putfield 162, 3) := by decide +kernel
theorem dX10_readCommand_169 : decode cX10_readCommand 169 = .ok (.return_, 1) := by decide +kernel
theorem dX10_readContour_0 : decode cX10_readContour 0 = .ok (.aload_n 0, 1) := by decide +kernel
theorem dX10_readContour_1 : decode cX10_readContour 1 = .ok (.invokevirtual 140, 3) := by decide +kernel
theorem dX10_readContour_4 : decode cX10_readContour 4 = .ok (.bipush 77, 2) := by decide +kernel
theorem dX10_readContour_6 : decode cX10_readContour 6 = .ok (.if_icmp .eq 18, 3) := by decide +kernel
theorem dX10_readContour_9 : decode cX10_readContour 9 = .ok (.aload_n 0, 1) := by decide +kernel
theorem dX10_readContour_10 : decode cX10_readContour 10 = .ok (.invokevirtual 140, 3) := by decide +kernel
theorem dX10_readContour_13 : decode cX10_readContour 13 = .ok (.bipush 109, 2) := by decide +kernel
theorem dX10_readContour_15 : decode cX10_readContour 15 = .ok (.if_icmp .eq 9, 3) := by decide +kernel
theorem dX10_readContour_18 : decode cX10_readContour 18 = .ok (.aload_n 0, 1) := by decide +kernel
theorem dX10_readContour_19 : decode cX10_readContour 19 = .ok (.iconst 1, 1) := by decide +kernel
theorem dX10_readContour_20 : decode cX10_readContour 20 = .ok (.putfield 143, 3) := by decide +kernel
theorem dX10_readContour_23 : decode cX10_readContour 23 = .ok (.return_, 1) := by decide +kernel
theorem dX10_readContour_24 : decode cX10_readContour 24 = .ok (.aload_n 0, 1) := by decide +kernel
theorem dX10_readContour_25 : decode cX10_readContour 25 = .ok (.iconst 0, 1) := by decide +kernel
theorem dX10_readContour_26 : decode cX10_readContour 26 = .ok (.aload_n 0, 1) := by decide +kernel
theorem dX10_readContour_27 : decode cX10_readContour 27 = .ok (.invokevirtual 140, 3) := by decide +kernel
theorem dX10_readContour_30 : decode cX10_readContour 30 = .ok (.bipush 109, 2) := by decide +kernel
theorem dX10_readContour_32 : decode cX10_readContour 32 = .ok (.if_icmp .ne 7, 3) := by decide +kernel
theorem dX10_readContour_35 : decode cX10_readContour 35 = .ok (.iconst 1, 1) := by decide +kernel
theorem dX10_readContour_36 : decode cX10_readContour 36 = .ok (.goto 4, 3) := by decide +kernel
theorem dX10_readContour_39 : decode cX10_readContour 39 = .ok (.iconst 0, 1) := by decide +kernel
theorem dX10_readContour_40 : decode cX10_readContour 40 = .ok (.invokevirtual 169, 3) := by decide +kernel
theorem dX10_readContour_43 : decode cX10_readContour 43 = .ok (.aload_n 0, 1) := by decide +kernel
theorem dX10_readContour_44 : decode cX10_readContour 44 = .ok (.aload_n 0, 1) := by decide +kernel
theorem dX10_readContour_45 : decode cX10_readContour 45 = .ok (.getfield 153, 3) := by decide +kernel
theorem dX10_readContour_48 : decode cX10_readContour 48 = .ok (.putfield 172, 3) := by decide +kernel
theorem dX10_readContour_51 : decode cX10_readContour 51 = .ok (.aload_n 0, 1) := by decide +kernel
theorem dX10_readContour_52 : decode cX10_readContour 52 = .ok (.aload_n 0, 1) := by decide +kernel
theorem dX10_readContour_53 : decode cX10_readContour 53 = .ok (.getfield 156, 3) := by decide +kernel
theorem dX10_readContour_56 : decode cX10_readContour 56 = .ok (.putfield 175, 3) := by decide +kernel
theorem dX10_readContour_59 : decode cX10_readContour 59 = .ok (.aload_n 0, 1) := by decide +kernel
theorem dX10_readContour_60 : decode cX10_readContour 60 = .ok (.invokevirtual 178, 3) := by decide +kernel
theorem dX10_readContour_63 : decode cX10_readContour 63 = .ok (.istore_n 1, 1) := by decide +kernel
theorem dX10_readContour_64 : decode cX10_readContour 64 = .ok (.aload_n 0, 1) := by decide +kernel
theorem dX10_readContour_65 : decode cX10_readContour 65 = .ok (.getfield 143, 3) := by decide +kernel
theorem dX10_readContour_68 : decode cX10_readContour 68 = .ok (.ifCond .ne 34, 3) := by decide +kernel
theorem dX10_readContour_71 : decode cX10_readContour 71 = .ok (.iload_n 1, 1) := by decide +kernel
theorem dX10_readContour_72 : decode cX10_readContour 72 = .ok (.ifCond .le 30, 3) := by decide +kernel
theorem dX10_readContour_75 : decode cX10_readContour 75 = .ok (.aload_n 0, 1) := by decide +kernel
theorem dX10_readContour_76 : decode cX10_readContour 76 = .ok (.iload_n 1, 1) := by decide +kernel
theorem dX10_readContour_77 : decode cX10_readContour 77 = .ok (.aload_n 0, 1) := by decide +kernel
theorem dX10_readContour_78 : decode cX10_readContour 78 = .ok (.invokevirtual 140, 3) := by decide +kernel
theorem dX10_readContour_81 : decode cX10_readContour 81 = .ok (.bipush 97, 2) := by decide +kernel
theorem dX10_readContour_83 : decode cX10_readContour 83 = .ok (.if_icmp .lt 7, 3) := by decide +kernel
theorem dX10_readContour_86 : decode cX10_readContour 86 = .ok (.iconst 1, 1) := by decide +kernel
theorem dX10_readContour_87 : decode cX10_readContour 87 = .ok (.goto 4, 3) := by decide +kernel
theorem dX10_readContour_90 : decode cX10_readContour 90 = .ok (.iconst 0, 1) := by decide +kernel
theorem dX10_readContour_91 : decode cX10_readContour 91 = .ok (.invokevirtual 169, 3) := by decide +kernel
theorem dX10_readContour_94 : decode cX10_readContour 94 = .ok (.aload_n 0, 1) := by decide +kernel
theorem dX10_readContour_95 : decode cX10_readContour 95 = .ok (.invokevirtual 178, 3) := by decide +kernel
theorem dX10_readContour_98 : decode cX10_readContour 98 = .ok (.istore_n 1, 1) := by decide +kernel
theorem dX10_readContour_99 : decode cX10_readContour 99 = .ok (.goto (-35), 3) := by decide +kernel
theorem dX10_readContour_102 : decode cX10_readContour 102 = .ok (.aload_n 0, 1) := by decide +kernel
theorem dX10_readContour_103 : decode cX10_readContour 103 = .ok (.getfield 143, 3) := by decide +kernel
theorem dX10_readContour_106 : decode cX10_readContour 106 = .ok (.ifCond .ne 90, 3) := by decide +kernel
theorem dX10_readContour_109 : decode cX10_readContour 109 = .ok (.aload_n 0, 1) := by decide +kernel
theorem dX10_readContour_110 : decode cX10_readContour 110 = .ok (.invokevirtual 140, 3) := by decide +kernel
theorem dX10_readContour_113 : decode cX10_readContour 113 = .ok (.bipush 90, 2) := by decide +kernel
theorem dX10_readContour_115 : decode cX10_readContour 115 = .ok (.if_icmp .ne 81, 3) := by decide +kernel
theorem dX10_readContour_118 : decode cX10_readContour 118 = .ok (.aload_n 0, 1) := by decide +kernel
theorem dX10_readContour_119 : decode cX10_readContour 119 = .ok (.dup, 1) := by decide +kernel
theorem dX10_readContour_120 : decode cX10_readContour 120 = .ok (.getfield 137, 3) := by decide +kernel
theorem dX10_readContour_123 : decode cX10_readContour 123 = .ok (.iconst 1, 1) := by decide +kernel
theorem dX10_readContour_124 : decode cX10_readContour 124 = .ok (.iadd, 1) := by decide +kernel
theorem dX10_readContour_125 : decode cX10_readContour 125 = .ok (.putfield 137, 3) := by decide +kernel
theorem dX10_readContour_128 : decode cX10_readContour 128 = .ok (.aload_n 0, 1) := by decide +kernel
theorem dX10_readContour_129 : decode cX10_readContour 129 = .ok (.getfield 41, 3) := by decide +kernel
theorem dX10_readContour_132 : decode cX10_readContour 132 = .ok (.bipush 7, 2) := by decide +kernel
theorem dX10_readContour_134 : decode cX10_readContour 134 = .ok (.aload_n 0, 1) := by decide +kernel
theorem dX10_readContour_135 : decode cX10_readContour 135 = .ok (.getfield 162, 3) := by decide +kernel
theorem dX10_readContour_138 : decode cX10_readContour 138 = .ok (.imul, 1) := by decide +kernel
theorem dX10_readContour_139 : decode cX10_readContour 139 = .ok (.iconst 4, 1) := by decide +kernel
theorem dX10_readContour_140 : decode cX10_readContour 140 = .ok (.iastore, 1) := by decide +kernel
theorem dX10_readContour_141 : decode cX10_readContour 141 = .ok (.iconst 1, 1) := by decide +kernel
theorem dX10_readContour_142 : decode cX10_readContour 142 = .ok (.istore_n 2, 1) := by decide +kernel
theorem dX10_readContour_143 : decode cX10_readContour 143 = .ok (.iload_n 2, 1) := by decide +kernel
theorem dX10_readContour_144 : decode cX10_readContour 144 = .ok (.bipush 7, 2) := by decide +kernel
theorem dX10_readContour_146 : decode cX10_readContour 146 = .ok (.if_icmp .ge 24, 3) := by decide +kernel
theorem dX10_readContour_149 : decode cX10_readContour 149 = .ok (.aload_n 0, 1) := by decide +kernel
theorem dX10_readContour_150 : decode cX10_readContour 150 = .ok (.getfield 41, 3) := by decide +kernel
theorem dX10_readContour_153 : decode cX10_readContour 153 = .ok (.bipush 7, 2) := by decide +kernel
theorem dX10_readContour_155 : decode cX10_readContour 155 = .ok (.aload_n 0, 1) := by decide +kernel
theorem dX10_readContour_156 : decode cX10_readContour 156 = .ok (.getfield 162, 3) := by decide +kernel
theorem dX10_readContour_159 : decode cX10_readContour 159 = .ok (.imul, 1) := by decide +kernel
theorem dX10_readContour_160 : decode cX10_readContour 160 = .ok (.iload_n 2, 1) := by decide +kernel
theorem dX10_readContour_161 : decode cX10_readContour 161 = .ok (.iadd, 1) := by decide +kernel
theorem dX10_readContour_162 : decode cX10_readContour 162 = .ok (.iconst 0, 1) := by decide +kernel
theorem dX10_readContour_163 : decode cX10_readContour 163 = .ok (.iastore, 1) := by decide +kernel
theorem dX10_readContour_164 : decode cX10_readContour 164 = .ok (.iinc 2 1, 3) := by decide +kernel
theorem dX10_readContour_167 : decode cX10_readContour 167 = .ok (.goto (-24), 3) := by decide +kernel
theorem dX10_readContour_170 : decode cX10_readContour 170 = .ok (.aload_n 0, 1) := by decide +kernel
theorem dX10_readContour_171 : decode cX10_readContour 171 = .ok (.dup, 1) := by decide +kernel
theorem dX10_readContour_172 : decode cX10_readContour 172 = .ok (.getfield 162, 3) := by decide +kernel
theorem dX10_readContour_175 : decode cX10_readContour 175 = .ok (.iconst 1, 1) := by decide +kernel
theorem dX10_readContour_176 : decode cX10_readContour 176 = .ok (.iadd, 1) := by decide +kernel
theorem dX10_readContour_177 : decode cX10_readContour 177 = .ok (.putfield 162, 3) := by decide +kernel
theorem dX10_readContour_180 : decode cX10_readContour 180 = .ok (.aload_n 0, 1) := by decide +kernel
theorem dX10_readContour_181 : decode cX10_readContour 181 = .ok (.aload_n 0, 1) := by decide +kernel
theorem dX10_readContour_182 : decode cX10_readContour 182 = .ok (.getfield 172, 3) := by decide +kernel
theorem dX10_readContour_185 : decode cX10_readContour 185 = .ok (.putfield 153, 3) := by decide +kernel
theorem dX10_readContour_188 : decode cX10_readContour 188 = .ok (.aload_n 0, 1) := by decide +kernel
theorem dX10_readContour_189 : decode cX10_readContour 189 = .ok (.aload_n 0, 1) := by decide +kernel
theorem dX10_readContour_190 : decode cX10_readContour 190 = .ok (.getfield 175, 3) := by decide +kernel
theorem dX10_readContour_193 : decode cX10_readContour 193 = .ok (.putfield 156, 3) := by decide +kernel
theorem dX10_readContour_196 : decode cX10_readContour 196 = .ok (.return_, 1) := by decide +kernel
theorem dX10_kindAt_0 : decode cX10_kindAt 0 = .ok (.aload_n 0, 1) := by decide +kernel
theorem dX10_kindAt_1 : decode cX10_kindAt 1 = .ok (.invokevirtual 140, 3) := by decide +kernel
theorem dX10_kindAt_4 : decode cX10_kindAt 4 = .ok (.lookupswitch 66 #[(67, 64), (76, 60), (81, 62), (99, 64), (108, 60), (113, 62)], 60) := by decide +kernel
theorem dX10_kindAt_64 : decode cX10_kindAt 64 = .ok (.iconst 1, 1) := by decide +kernel
theorem dX10_kindAt_65 : decode cX10_kindAt 65 = .ok (.ireturn, 1) := by decide +kernel
theorem dX10_kindAt_66 : decode cX10_kindAt 66 = .ok (.iconst 2, 1) := by decide +kernel
theorem dX10_kindAt_67 : decode cX10_kindAt 67 = .ok (.ireturn, 1) := by decide +kernel
theorem dX10_kindAt_68 : decode cX10_kindAt 68 = .ok (.iconst 3, 1) := by decide +kernel
theorem dX10_kindAt_69 : decode cX10_kindAt 69 = .ok (.ireturn, 1) := by decide +kernel
theorem dX10_kindAt_70 : decode cX10_kindAt 70 = .ok (.iconst 0, 1) := by decide +kernel
theorem dX10_kindAt_71 : decode cX10_kindAt 71 = .ok (.ireturn, 1) := by decide +kernel
theorem dX10_fault_0 : decode cX10_fault 0 = .ok (.aload_n 0, 1) := by decide +kernel
theorem dX10_fault_1 : decode cX10_fault 1 = .ok (.iconst 0, 1) := by decide +kernel
theorem dX10_fault_2 : decode cX10_fault 2 = .ok (.putfield 137, 3) := by decide +kernel
theorem dX10_fault_5 : decode cX10_fault 5 = .ok (.aload_n 0, 1) := by decide +kernel
theorem dX10_fault_6 : decode cX10_fault 6 = .ok (.iconst 0, 1) := by decide +kernel
theorem dX10_fault_7 : decode cX10_fault 7 = .ok (.putfield 143, 3) := by decide +kernel
theorem dX10_fault_10 : decode cX10_fault 10 = .ok (.aload_n 0, 1) := by decide +kernel
theorem dX10_fault_11 : decode cX10_fault 11 = .ok (.iconst 0, 1) := by decide +kernel
theorem dX10_fault_12 : decode cX10_fault 12 = .ok (.putfield 159, 3) := by decide +kernel
theorem dX10_fault_15 : decode cX10_fault 15 = .ok (.aload_n 0, 1) := by decide +kernel
theorem dX10_fault_16 : decode cX10_fault 16 = .ok (.iconst 0, 1) := by decide +kernel
theorem dX10_fault_17 : decode cX10_fault 17 = .ok (.putfield 162, 3) := by decide +kernel
theorem dX10_fault_20 : decode cX10_fault 20 = .ok (.aload_n 0, 1) := by decide +kernel
theorem dX10_fault_21 : decode cX10_fault 21 = .ok (.iconst 0, 1) := by decide +kernel
theorem dX10_fault_22 : decode cX10_fault 22 = .ok (.putfield 153, 3) := by decide +kernel
theorem dX10_fault_25 : decode cX10_fault 25 = .ok (.aload_n 0, 1) := by decide +kernel
theorem dX10_fault_26 : decode cX10_fault 26 = .ok (.iconst 0, 1) := by decide +kernel
theorem dX10_fault_27 : decode cX10_fault 27 = .ok (.putfield 156, 3) := by decide +kernel
theorem dX10_fault_30 : decode cX10_fault 30 = .ok (.iconst 1, 1) := by decide +kernel
theorem dX10_fault_31 : decode cX10_fault 31 = .ok (.istore_n 1, 1) := by decide +kernel
theorem dX10_fault_32 : decode cX10_fault 32 = .ok (.iload_n 1, 1) := by decide +kernel
theorem dX10_fault_33 : decode cX10_fault 33 = .ok (.ifCond .eq 34, 3) := by decide +kernel
theorem dX10_fault_36 : decode cX10_fault 36 = .ok (.aload_n 0, 1) := by decide +kernel
theorem dX10_fault_37 : decode cX10_fault 37 = .ok (.invokevirtual 181, 3) := by decide +kernel
theorem dX10_fault_40 : decode cX10_fault 40 = .ok (.aload_n 0, 1) := by decide +kernel
theorem dX10_fault_41 : decode cX10_fault 41 = .ok (.getfield 143, 3) := by decide +kernel
theorem dX10_fault_44 : decode cX10_fault 44 = .ok (.ifCond .ne 18, 3) := by decide +kernel
theorem dX10_fault_47 : decode cX10_fault 47 = .ok (.aload_n 0, 1) := by decide +kernel
theorem dX10_fault_48 : decode cX10_fault 48 = .ok (.getfield 137, 3) := by decide +kernel
theorem dX10_fault_51 : decode cX10_fault 51 = .ok (.aload_n 0, 1) := by decide +kernel
theorem dX10_fault_52 : decode cX10_fault 52 = .ok (.getfield 133, 3) := by decide +kernel
theorem dX10_fault_55 : decode cX10_fault 55 = .ok (.if_icmp .ge 7, 3) := by decide +kernel
theorem dX10_fault_58 : decode cX10_fault 58 = .ok (.iconst 1, 1) := by decide +kernel
theorem dX10_fault_59 : decode cX10_fault 59 = .ok (.goto 4, 3) := by decide +kernel
theorem dX10_fault_62 : decode cX10_fault 62 = .ok (.iconst 0, 1) := by decide +kernel
theorem dX10_fault_63 : decode cX10_fault 63 = .ok (.istore_n 1, 1) := by decide +kernel
theorem dX10_fault_64 : decode cX10_fault 64 = .ok (.goto (-32), 3) := by decide +kernel
theorem dX10_fault_67 : decode cX10_fault 67 = .ok (.aload_n 0, 1) := by decide +kernel
theorem dX10_fault_68 : decode cX10_fault 68 = .ok (.getfield 143, 3) := by decide +kernel
theorem dX10_fault_71 : decode cX10_fault 71 = .ok (.ifCond .eq 10, 3) := by decide +kernel
theorem dX10_fault_74 : decode cX10_fault 74 = .ok (.aload_n 0, 1) := by decide +kernel
theorem dX10_fault_75 : decode cX10_fault 75 = .ok (.getfield 137, 3) := by decide +kernel
theorem dX10_fault_78 : decode cX10_fault 78 = .ok (.goto 5, 3) := by decide +kernel
theorem dX10_fault_81 : decode cX10_fault 81 = .ok (.ldc 103, 2) := by decide +kernel
theorem dX10_fault_83 : decode cX10_fault 83 = .ok (.ireturn, 1) := by decide +kernel
theorem dX10_load_0 : decode cX10_load 0 = .ok (.aload_n 0, 1) := by decide +kernel
theorem dX10_load_1 : decode cX10_load 1 = .ok (.invokevirtual 184, 3) := by decide +kernel
theorem dX10_load_4 : decode cX10_load 4 = .ok (.ldc 103, 2) := by decide +kernel
theorem dX10_load_6 : decode cX10_load 6 = .ok (.if_icmp .eq 6, 3) := by decide +kernel
theorem dX10_load_9 : decode cX10_load 9 = .ok (.ldc 187, 2) := by decide +kernel
theorem dX10_load_11 : decode cX10_load 11 = .ok (.ireturn, 1) := by decide +kernel
theorem dX10_load_12 : decode cX10_load 12 = .ok (.aload_n 0, 1) := by decide +kernel
theorem dX10_load_13 : decode cX10_load 13 = .ok (.getfield 162, 3) := by decide +kernel
theorem dX10_load_16 : decode cX10_load 16 = .ok (.bipush 24, 2) := by decide +kernel
theorem dX10_load_18 : decode cX10_load 18 = .ok (.if_icmp .le 6, 3) := by decide +kernel
theorem dX10_load_21 : decode cX10_load 21 = .ok (.ldc 98, 2) := by decide +kernel
theorem dX10_load_23 : decode cX10_load 23 = .ok (.ireturn, 1) := by decide +kernel
theorem dX10_load_24 : decode cX10_load 24 = .ok (.aload_n 0, 1) := by decide +kernel
theorem dX10_load_25 : decode cX10_load 25 = .ok (.getfield 159, 3) := by decide +kernel
theorem dX10_load_28 : decode cX10_load 28 = .ok (.ifCond .eq 6, 3) := by decide +kernel
theorem dX10_load_31 : decode cX10_load 31 = .ok (.ldc 97, 2) := by decide +kernel
theorem dX10_load_33 : decode cX10_load 33 = .ok (.ireturn, 1) := by decide +kernel
theorem dX10_load_34 : decode cX10_load 34 = .ok (.iconst 0, 1) := by decide +kernel
theorem dX10_load_35 : decode cX10_load 35 = .ok (.istore_n 1, 1) := by decide +kernel
theorem dX10_load_36 : decode cX10_load 36 = .ok (.iload_n 1, 1) := by decide +kernel
theorem dX10_load_37 : decode cX10_load 37 = .ok (.bipush 7, 2) := by decide +kernel
theorem dX10_load_39 : decode cX10_load 39 = .ok (.aload_n 0, 1) := by decide +kernel
theorem dX10_load_40 : decode cX10_load 40 = .ok (.getfield 162, 3) := by decide +kernel
theorem dX10_load_43 : decode cX10_load 43 = .ok (.imul, 1) := by decide +kernel
theorem dX10_load_44 : decode cX10_load 44 = .ok (.if_icmp .ge 21, 3) := by decide +kernel
theorem dX10_load_47 : decode cX10_load 47 = .ok (.aload_n 0, 1) := by decide +kernel
theorem dX10_load_48 : decode cX10_load 48 = .ok (.getfield 9, 3) := by decide +kernel
theorem dX10_load_51 : decode cX10_load 51 = .ok (.iload_n 1, 1) := by decide +kernel
theorem dX10_load_52 : decode cX10_load 52 = .ok (.aload_n 0, 1) := by decide +kernel
theorem dX10_load_53 : decode cX10_load 53 = .ok (.getfield 41, 3) := by decide +kernel
theorem dX10_load_56 : decode cX10_load 56 = .ok (.iload_n 1, 1) := by decide +kernel
theorem dX10_load_57 : decode cX10_load 57 = .ok (.iaload, 1) := by decide +kernel
theorem dX10_load_58 : decode cX10_load 58 = .ok (.iastore, 1) := by decide +kernel
theorem dX10_load_59 : decode cX10_load 59 = .ok (.iinc 1 1, 3) := by decide +kernel
theorem dX10_load_62 : decode cX10_load 62 = .ok (.goto (-26), 3) := by decide +kernel
theorem dX10_load_65 : decode cX10_load 65 = .ok (.aload_n 0, 1) := by decide +kernel
theorem dX10_load_66 : decode cX10_load 66 = .ok (.getfield 9, 3) := by decide +kernel
theorem dX10_load_69 : decode cX10_load 69 = .ok (.sipush 168, 3) := by decide +kernel
theorem dX10_load_72 : decode cX10_load 72 = .ok (.aload_n 0, 1) := by decide +kernel
theorem dX10_load_73 : decode cX10_load 73 = .ok (.getfield 162, 3) := by decide +kernel
theorem dX10_load_76 : decode cX10_load 76 = .ok (.iastore, 1) := by decide +kernel
theorem dX10_load_77 : decode cX10_load 77 = .ok (.aload_n 0, 1) := by decide +kernel
theorem dX10_load_78 : decode cX10_load 78 = .ok (.iconst 0, 1) := by decide +kernel
theorem dX10_load_79 : decode cX10_load 79 = .ok (.putfield 133, 3) := by decide +kernel
theorem dX10_load_82 : decode cX10_load 82 = .ok (.aload_n 0, 1) := by decide +kernel
theorem dX10_load_83 : decode cX10_load 83 = .ok (.getfield 162, 3) := by decide +kernel
theorem dX10_load_86 : decode cX10_load 86 = .ok (.ireturn, 1) := by decide +kernel
theorem dX10_spellSign_0 : decode cX10_spellSign 0 = .ok (.aload_n 0, 1) := by decide +kernel
theorem dX10_spellSign_1 : decode cX10_spellSign 1 = .ok (.getfield 44, 3) := by decide +kernel
theorem dX10_spellSign_4 : decode cX10_spellSign 4 = .ok (.aload_n 0, 1) := by decide +kernel
theorem dX10_spellSign_5 : decode cX10_spellSign 5 = .ok (.getfield 188, 3) := by decide +kernel
theorem dX10_spellSign_8 : decode cX10_spellSign 8 = .ok (.iload_n 1, 1) := by decide +kernel
theorem dX10_spellSign_9 : decode cX10_spellSign 9 = .ok (.iastore, 1) := by decide +kernel
theorem dX10_spellSign_10 : decode cX10_spellSign 10 = .ok (.aload_n 0, 1) := by decide +kernel
theorem dX10_spellSign_11 : decode cX10_spellSign 11 = .ok (.dup, 1) := by decide +kernel
theorem dX10_spellSign_12 : decode cX10_spellSign 12 = .ok (.getfield 188, 3) := by decide +kernel
theorem dX10_spellSign_15 : decode cX10_spellSign 15 = .ok (.iconst 1, 1) := by decide +kernel
theorem dX10_spellSign_16 : decode cX10_spellSign 16 = .ok (.iadd, 1) := by decide +kernel
theorem dX10_spellSign_17 : decode cX10_spellSign 17 = .ok (.putfield 188, 3) := by decide +kernel
theorem dX10_spellSign_20 : decode cX10_spellSign 20 = .ok (.return_, 1) := by decide +kernel
theorem dX10_spellNumber_0 : decode cX10_spellNumber 0 = .ok (.iload_n 1, 1) := by decide +kernel
theorem dX10_spellNumber_1 : decode cX10_spellNumber 1 = .ok (.ifCond .ge 9, 3) := by decide +kernel
theorem dX10_spellNumber_4 : decode cX10_spellNumber 4 = .ok (.aload_n 0, 1) := by decide +kernel
theorem dX10_spellNumber_5 : decode cX10_spellNumber 5 = .ok (.bipush 45, 2) := by decide +kernel
theorem dX10_spellNumber_7 : decode cX10_spellNumber 7 = .ok (.invokevirtual 191, 3) := by decide +kernel
theorem dX10_spellNumber_10 : decode cX10_spellNumber 10 = .ok (.iload_n 1, 1) := by decide +kernel
theorem dX10_spellNumber_11 : decode cX10_spellNumber 11 = .ok (.invokestatic 195, 3) := by decide +kernel
theorem dX10_spellNumber_14 : decode cX10_spellNumber 14 = .ok (.istore_n 2, 1) := by decide +kernel
theorem dX10_spellNumber_15 : decode cX10_spellNumber 15 = .ok (.sipush 1000, 3) := by decide +kernel
theorem dX10_spellNumber_18 : decode cX10_spellNumber 18 = .ok (.istore_n 3, 1) := by decide +kernel
theorem dX10_spellNumber_19 : decode cX10_spellNumber 19 = .ok (.iload_n 3, 1) := by decide +kernel
theorem dX10_spellNumber_20 : decode cX10_spellNumber 20 = .ok (.ifCond .le 34, 3) := by decide +kernel
theorem dX10_spellNumber_23 : decode cX10_spellNumber 23 = .ok (.iload_n 2, 1) := by decide +kernel
theorem dX10_spellNumber_24 : decode cX10_spellNumber 24 = .ok (.iload_n 3, 1) := by decide +kernel
theorem dX10_spellNumber_25 : decode cX10_spellNumber 25 = .ok (.if_icmp .ge 8, 3) := by decide +kernel
theorem dX10_spellNumber_28 : decode cX10_spellNumber 28 = .ok (.iload_n 3, 1) := by decide +kernel
theorem dX10_spellNumber_29 : decode cX10_spellNumber 29 = .ok (.iconst 1, 1) := by decide +kernel
theorem dX10_spellNumber_30 : decode cX10_spellNumber 30 = .ok (.if_icmp .ne 16, 3) := by decide +kernel
theorem dX10_spellNumber_33 : decode cX10_spellNumber 33 = .ok (.aload_n 0, 1) := by decide +kernel
theorem dX10_spellNumber_34 : decode cX10_spellNumber 34 = .ok (.bipush 48, 2) := by decide +kernel
theorem dX10_spellNumber_36 : decode cX10_spellNumber 36 = .ok (.iload_n 2, 1) := by decide +kernel
theorem dX10_spellNumber_37 : decode cX10_spellNumber 37 = .ok (.iload_n 3, 1) := by decide +kernel
theorem dX10_spellNumber_38 : decode cX10_spellNumber 38 = .ok (.idiv, 1) := by decide +kernel
theorem dX10_spellNumber_39 : decode cX10_spellNumber 39 = .ok (.bipush 10, 2) := by decide +kernel
theorem dX10_spellNumber_41 : decode cX10_spellNumber 41 = .ok (.irem, 1) := by decide +kernel
theorem dX10_spellNumber_42 : decode cX10_spellNumber 42 = .ok (.iadd, 1) := by decide +kernel
theorem dX10_spellNumber_43 : decode cX10_spellNumber 43 = .ok (.invokevirtual 191, 3) := by decide +kernel
theorem dX10_spellNumber_46 : decode cX10_spellNumber 46 = .ok (.iload_n 3, 1) := by decide +kernel
theorem dX10_spellNumber_47 : decode cX10_spellNumber 47 = .ok (.bipush 10, 2) := by decide +kernel
theorem dX10_spellNumber_49 : decode cX10_spellNumber 49 = .ok (.idiv, 1) := by decide +kernel
theorem dX10_spellNumber_50 : decode cX10_spellNumber 50 = .ok (.istore_n 3, 1) := by decide +kernel
theorem dX10_spellNumber_51 : decode cX10_spellNumber 51 = .ok (.goto (-32), 3) := by decide +kernel
theorem dX10_spellNumber_54 : decode cX10_spellNumber 54 = .ok (.return_, 1) := by decide +kernel
theorem dX10_spellPair_0 : decode cX10_spellPair 0 = .ok (.iload_n 2, 1) := by decide +kernel
theorem dX10_spellPair_1 : decode cX10_spellPair 1 = .ok (.ifCond .ne 9, 3) := by decide +kernel
theorem dX10_spellPair_4 : decode cX10_spellPair 4 = .ok (.aload_n 0, 1) := by decide +kernel
theorem dX10_spellPair_5 : decode cX10_spellPair 5 = .ok (.bipush 44, 2) := by decide +kernel
theorem dX10_spellPair_7 : decode cX10_spellPair 7 = .ok (.invokevirtual 191, 3) := by decide +kernel
theorem dX10_spellPair_10 : decode cX10_spellPair 10 = .ok (.aload_n 0, 1) := by decide +kernel
theorem dX10_spellPair_11 : decode cX10_spellPair 11 = .ok (.aload_n 0, 1) := by decide +kernel
theorem dX10_spellPair_12 : decode cX10_spellPair 12 = .ok (.getfield 9, 3) := by decide +kernel
theorem dX10_spellPair_15 : decode cX10_spellPair 15 = .ok (.iload_n 1, 1) := by decide +kernel
theorem dX10_spellPair_16 : decode cX10_spellPair 16 = .ok (.iaload, 1) := by decide +kernel
theorem dX10_spellPair_17 : decode cX10_spellPair 17 = .ok (.invokevirtual 198, 3) := by decide +kernel
theorem dX10_spellPair_20 : decode cX10_spellPair 20 = .ok (.aload_n 0, 1) := by decide +kernel
theorem dX10_spellPair_21 : decode cX10_spellPair 21 = .ok (.bipush 44, 2) := by decide +kernel
theorem dX10_spellPair_23 : decode cX10_spellPair 23 = .ok (.invokevirtual 191, 3) := by decide +kernel
theorem dX10_spellPair_26 : decode cX10_spellPair 26 = .ok (.aload_n 0, 1) := by decide +kernel
theorem dX10_spellPair_27 : decode cX10_spellPair 27 = .ok (.aload_n 0, 1) := by decide +kernel
theorem dX10_spellPair_28 : decode cX10_spellPair 28 = .ok (.getfield 9, 3) := by decide +kernel
theorem dX10_spellPair_31 : decode cX10_spellPair 31 = .ok (.iload_n 1, 1) := by decide +kernel
theorem dX10_spellPair_32 : decode cX10_spellPair 32 = .ok (.iconst 1, 1) := by decide +kernel
theorem dX10_spellPair_33 : decode cX10_spellPair 33 = .ok (.iadd, 1) := by decide +kernel
theorem dX10_spellPair_34 : decode cX10_spellPair 34 = .ok (.iaload, 1) := by decide +kernel
theorem dX10_spellPair_35 : decode cX10_spellPair 35 = .ok (.invokevirtual 198, 3) := by decide +kernel
theorem dX10_spellPair_38 : decode cX10_spellPair 38 = .ok (.return_, 1) := by decide +kernel
theorem dX10_spell_0 : decode cX10_spell 0 = .ok (.aload_n 0, 1) := by decide +kernel
theorem dX10_spell_1 : decode cX10_spell 1 = .ok (.iconst 0, 1) := by decide +kernel
theorem dX10_spell_2 : decode cX10_spell 2 = .ok (.putfield 188, 3) := by decide +kernel
theorem dX10_spell_5 : decode cX10_spell 5 = .ok (.iconst 0, 1) := by decide +kernel
theorem dX10_spell_6 : decode cX10_spell 6 = .ok (.istore_n 2, 1) := by decide +kernel
theorem dX10_spell_7 : decode cX10_spell 7 = .ok (.iload_n 2, 1) := by decide +kernel
theorem dX10_spell_8 : decode cX10_spell 8 = .ok (.aload_n 0, 1) := by decide +kernel
theorem dX10_spell_9 : decode cX10_spell 9 = .ok (.invokevirtual 89, 3) := by decide +kernel
theorem dX10_spell_12 : decode cX10_spell 12 = .ok (.if_icmp .ge 126, 3) := by decide +kernel
theorem dX10_spell_15 : decode cX10_spell 15 = .ok (.aload_n 0, 1) := by decide +kernel
theorem dX10_spell_16 : decode cX10_spell 16 = .ok (.iload_n 2, 1) := by decide +kernel
theorem dX10_spell_17 : decode cX10_spell 17 = .ok (.invokevirtual 93, 3) := by decide +kernel
theorem dX10_spell_20 : decode cX10_spell 20 = .ok (.istore_n 3, 1) := by decide +kernel
theorem dX10_spell_21 : decode cX10_spell 21 = .ok (.aload_n 0, 1) := by decide +kernel
theorem dX10_spell_22 : decode cX10_spell 22 = .ok (.iload_n 3, 1) := by decide +kernel
theorem dX10_spell_23 : decode cX10_spell 23 = .ok (.ifCond .ne 8, 3) := by decide +kernel
theorem dX10_spell_26 : decode cX10_spell 26 = .ok (.bipush 77, 2) := by decide +kernel
theorem dX10_spell_28 : decode cX10_spell 28 = .ok (.goto 35, 3) := by decide +kernel
theorem dX10_spell_31 : decode cX10_spell 31 = .ok (.iload_n 3, 1) := by decide +kernel
theorem dX10_spell_32 : decode cX10_spell 32 = .ok (.iconst 1, 1) := by decide +kernel
theorem dX10_spell_33 : decode cX10_spell 33 = .ok (.if_icmp .ne 8, 3) := by decide +kernel
theorem dX10_spell_36 : decode cX10_spell 36 = .ok (.bipush 76, 2) := by decide +kernel
theorem dX10_spell_38 : decode cX10_spell 38 = .ok (.goto 25, 3) := by decide +kernel
theorem dX10_spell_41 : decode cX10_spell 41 = .ok (.iload_n 3, 1) := by decide +kernel
theorem dX10_spell_42 : decode cX10_spell 42 = .ok (.iconst 2, 1) := by decide +kernel
theorem dX10_spell_43 : decode cX10_spell 43 = .ok (.if_icmp .ne 8, 3) := by decide +kernel
theorem dX10_spell_46 : decode cX10_spell 46 = .ok (.bipush 81, 2) := by decide +kernel
theorem dX10_spell_48 : decode cX10_spell 48 = .ok (.goto 15, 3) := by decide +kernel
theorem dX10_spell_51 : decode cX10_spell 51 = .ok (.iload_n 3, 1) := by decide +kernel
theorem dX10_spell_52 : decode cX10_spell 52 = .ok (.iconst 3, 1) := by decide +kernel
theorem dX10_spell_53 : decode cX10_spell 53 = .ok (.if_icmp .ne 8, 3) := by decide +kernel
theorem dX10_spell_56 : decode cX10_spell 56 = .ok (.bipush 67, 2) := by decide +kernel
theorem dX10_spell_58 : decode cX10_spell 58 = .ok (.goto 5, 3) := by decide +kernel
theorem dX10_spell_61 : decode cX10_spell 61 = .ok (.bipush 90, 2) := by decide +kernel
theorem dX10_spell_63 : decode cX10_spell 63 = .ok (.invokevirtual 191, 3) := by decide +kernel
theorem dX10_spell_66 : decode cX10_spell 66 = .ok (.bipush 7, 2) := by decide +kernel
theorem dX10_spell_68 : decode cX10_spell 68 = .ok (.iload_n 2, 1) := by decide +kernel
theorem dX10_spell_69 : decode cX10_spell 69 = .ok (.imul, 1) := by decide +kernel
theorem dX10_spell_70 : decode cX10_spell 70 = .ok (.istore 4, 2) := by decide +kernel
theorem dX10_spell_72 : decode cX10_spell 72 = .ok (.iload_n 3, 1) := by decide +kernel
theorem dX10_spell_73 : decode cX10_spell 73 = .ok (.iconst 2, 1) := by decide +kernel
theorem dX10_spell_74 : decode cX10_spell 74 = .ok (.if_icmp .eq 8, 3) := by decide +kernel
theorem dX10_spell_77 : decode cX10_spell 77 = .ok (.iload_n 3, 1) := by decide +kernel
theorem dX10_spell_78 : decode cX10_spell 78 = .ok (.iconst 3, 1) := by decide +kernel
theorem dX10_spell_79 : decode cX10_spell 79 = .ok (.if_icmp .ne 12, 3) := by decide +kernel
theorem dX10_spell_82 : decode cX10_spell 82 = .ok (.aload_n 0, 1) := by decide +kernel
theorem dX10_spell_83 : decode cX10_spell 83 = .ok (.iload 4, 2) := by decide +kernel
theorem dX10_spell_85 : decode cX10_spell 85 = .ok (.iconst 1, 1) := by decide +kernel
theorem dX10_spell_86 : decode cX10_spell 86 = .ok (.iadd, 1) := by decide +kernel
theorem dX10_spell_87 : decode cX10_spell 87 = .ok (.iconst 1, 1) := by decide +kernel
theorem dX10_spell_88 : decode cX10_spell 88 = .ok (.invokevirtual 201, 3) := by decide +kernel
theorem dX10_spell_91 : decode cX10_spell 91 = .ok (.iload_n 3, 1) := by decide +kernel
theorem dX10_spell_92 : decode cX10_spell 92 = .ok (.iconst 3, 1) := by decide +kernel
theorem dX10_spell_93 : decode cX10_spell 93 = .ok (.if_icmp .ne 12, 3) := by decide +kernel
theorem dX10_spell_96 : decode cX10_spell 96 = .ok (.aload_n 0, 1) := by decide +kernel
theorem dX10_spell_97 : decode cX10_spell 97 = .ok (.iload 4, 2) := by decide +kernel
theorem dX10_spell_99 : decode cX10_spell 99 = .ok (.iconst 3, 1) := by decide +kernel
theorem dX10_spell_100 : decode cX10_spell 100 = .ok (.iadd, 1) := by decide +kernel
theorem dX10_spell_101 : decode cX10_spell 101 = .ok (.iconst 0, 1) := by decide +kernel
theorem dX10_spell_102 : decode cX10_spell 102 = .ok (.invokevirtual 201, 3) := by decide +kernel
theorem dX10_spell_105 : decode cX10_spell 105 = .ok (.iload_n 3, 1) := by decide +kernel
theorem dX10_spell_106 : decode cX10_spell 106 = .ok (.iconst 4, 1) := by decide +kernel
theorem dX10_spell_107 : decode cX10_spell 107 = .ok (.if_icmp .eq 25, 3) := by decide +kernel
theorem dX10_spell_110 : decode cX10_spell 110 = .ok (.aload_n 0, 1) := by decide +kernel
theorem dX10_spell_111 : decode cX10_spell 111 = .ok (.iload 4, 2) := by decide +kernel
theorem dX10_spell_113 : decode cX10_spell 113 = .ok (.iconst 5, 1) := by decide +kernel
theorem dX10_spell_114 : decode cX10_spell 114 = .ok (.iadd, 1) := by decide +kernel
theorem dX10_spell_115 : decode cX10_spell 115 = .ok (.iload_n 3, 1) := by decide +kernel
theorem dX10_spell_116 : decode cX10_spell 116 = .ok (.ifCond .eq 8, 3) := by decide +kernel
theorem dX10_spell_119 : decode cX10_spell 119 = .ok (.iload_n 3, 1) := by decide +kernel
theorem dX10_spell_120 : decode cX10_spell 120 = .ok (.iconst 1, 1) := by decide +kernel
theorem dX10_spell_121 : decode cX10_spell 121 = .ok (.if_icmp .ne 7, 3) := by decide +kernel
theorem dX10_spell_124 : decode cX10_spell 124 = .ok (.iconst 1, 1) := by decide +kernel
theorem dX10_spell_125 : decode cX10_spell 125 = .ok (.goto 4, 3) := by decide +kernel
theorem dX10_spell_128 : decode cX10_spell 128 = .ok (.iconst 0, 1) := by decide +kernel
theorem dX10_spell_129 : decode cX10_spell 129 = .ok (.invokevirtual 201, 3) := by decide +kernel
theorem dX10_spell_132 : decode cX10_spell 132 = .ok (.iinc 2 1, 3) := by decide +kernel
theorem dX10_spell_135 : decode cX10_spell 135 = .ok (.goto (-128), 3) := by decide +kernel
theorem dX10_spell_138 : decode cX10_spell 138 = .ok (.iload_n 1, 1) := by decide +kernel
theorem dX10_spell_139 : decode cX10_spell 139 = .ok (.iconst (-1), 1) := by decide +kernel
theorem dX10_spell_140 : decode cX10_spell 140 = .ok (.if_icmp .ne 10, 3) := by decide +kernel
theorem dX10_spell_143 : decode cX10_spell 143 = .ok (.aload_n 0, 1) := by decide +kernel
theorem dX10_spell_144 : decode cX10_spell 144 = .ok (.getfield 188, 3) := by decide +kernel
theorem dX10_spell_147 : decode cX10_spell 147 = .ok (.goto 28, 3) := by decide +kernel
theorem dX10_spell_150 : decode cX10_spell 150 = .ok (.iload_n 1, 1) := by decide +kernel
theorem dX10_spell_151 : decode cX10_spell 151 = .ok (.iconst 0, 1) := by decide +kernel
theorem dX10_spell_152 : decode cX10_spell 152 = .ok (.aload_n 0, 1) := by decide +kernel
theorem dX10_spell_153 : decode cX10_spell 153 = .ok (.getfield 188, 3) := by decide +kernel
theorem dX10_spell_156 : decode cX10_spell 156 = .ok (.iconst 1, 1) := by decide +kernel
theorem dX10_spell_157 : decode cX10_spell 157 = .ok (.isub, 1) := by decide +kernel
theorem dX10_spell_158 : decode cX10_spell 158 = .ok (.invokestatic 80, 3) := by decide +kernel
theorem dX10_spell_161 : decode cX10_spell 161 = .ok (.ifCond .eq 12, 3) := by decide +kernel
theorem dX10_spell_164 : decode cX10_spell 164 = .ok (.aload_n 0, 1) := by decide +kernel
theorem dX10_spell_165 : decode cX10_spell 165 = .ok (.getfield 44, 3) := by decide +kernel
theorem dX10_spell_168 : decode cX10_spell 168 = .ok (.iload_n 1, 1) := by decide +kernel
theorem dX10_spell_169 : decode cX10_spell 169 = .ok (.iaload, 1) := by decide +kernel
theorem dX10_spell_170 : decode cX10_spell 170 = .ok (.goto 5, 3) := by decide +kernel
theorem dX10_spell_173 : decode cX10_spell 173 = .ok (.ldc 103, 2) := by decide +kernel
theorem dX10_spell_175 : decode cX10_spell 175 = .ok (.ireturn, 1) := by decide +kernel
theorem dX10_root_0 : decode cX10_root 0 = .ok (.lconst 0, 1) := by decide +kernel
theorem dX10_root_1 : decode cX10_root 1 = .ok (.lstore_n 2, 1) := by decide +kernel
theorem dX10_root_2 : decode cX10_root 2 = .ok (.ldc2_w 204, 3) := by decide +kernel
theorem dX10_root_5 : decode cX10_root 5 = .ok (.lstore 4, 2) := by decide +kernel
theorem dX10_root_7 : decode cX10_root 7 = .ok (.lload_n 2, 1) := by decide +kernel
theorem dX10_root_8 : decode cX10_root 8 = .ok (.lload 4, 2) := by decide +kernel
theorem dX10_root_10 : decode cX10_root 10 = .ok (.lcmp, 1) := by decide +kernel
theorem dX10_root_11 : decode cX10_root 11 = .ok (.ifCond .ge 40, 3) := by decide +kernel
theorem dX10_root_14 : decode cX10_root 14 = .ok (.lload_n 2, 1) := by decide +kernel
theorem dX10_root_15 : decode cX10_root 15 = .ok (.lload 4, 2) := by decide +kernel
theorem dX10_root_17 : decode cX10_root 17 = .ok (.ladd, 1) := by decide +kernel
theorem dX10_root_18 : decode cX10_root 18 = .ok (.lconst 1, 1) := by decide +kernel
theorem dX10_root_19 : decode cX10_root 19 = .ok (.ladd, 1) := by decide +kernel
theorem dX10_root_20 : decode cX10_root 20 = .ok (.ldc2_w 206, 3) := by decide +kernel
theorem dX10_root_23 : decode cX10_root 23 = .ok (.ldiv, 1) := by decide +kernel
theorem dX10_root_24 : decode cX10_root 24 = .ok (.lstore 6, 2) := by decide +kernel
theorem dX10_root_26 : decode cX10_root 26 = .ok (.lload 6, 2) := by decide +kernel
theorem dX10_root_28 : decode cX10_root 28 = .ok (.lload 6, 2) := by decide +kernel
theorem dX10_root_30 : decode cX10_root 30 = .ok (.lmul, 1) := by decide +kernel
theorem dX10_root_31 : decode cX10_root 31 = .ok (.lload_n 0, 1) := by decide +kernel
theorem dX10_root_32 : decode cX10_root 32 = .ok (.lcmp, 1) := by decide +kernel
theorem dX10_root_33 : decode cX10_root 33 = .ok (.ifCond .gt 9, 3) := by decide +kernel
theorem dX10_root_36 : decode cX10_root 36 = .ok (.lload 6, 2) := by decide +kernel
theorem dX10_root_38 : decode cX10_root 38 = .ok (.lstore_n 2, 1) := by decide +kernel
theorem dX10_root_39 : decode cX10_root 39 = .ok (.goto 9, 3) := by decide +kernel
theorem dX10_root_42 : decode cX10_root 42 = .ok (.lload 6, 2) := by decide +kernel
theorem dX10_root_44 : decode cX10_root 44 = .ok (.lconst 1, 1) := by decide +kernel
theorem dX10_root_45 : decode cX10_root 45 = .ok (.lsub, 1) := by decide +kernel
theorem dX10_root_46 : decode cX10_root 46 = .ok (.lstore 4, 2) := by decide +kernel
theorem dX10_root_48 : decode cX10_root 48 = .ok (.goto (-41), 3) := by decide +kernel
theorem dX10_root_51 : decode cX10_root 51 = .ok (.lload_n 2, 1) := by decide +kernel
theorem dX10_root_52 : decode cX10_root 52 = .ok (.l2i, 1) := by decide +kernel
theorem dX10_root_53 : decode cX10_root 53 = .ok (.ireturn, 1) := by decide +kernel
theorem dX10_addVertex_0 : decode cX10_addVertex 0 = .ok (.aload_n 0, 1) := by decide +kernel
theorem dX10_addVertex_1 : decode cX10_addVertex 1 = .ok (.getfield 208, 3) := by decide +kernel
theorem dX10_addVertex_4 : decode cX10_addVertex 4 = .ok (.iconst 1, 1) := by decide +kernel
theorem dX10_addVertex_5 : decode cX10_addVertex 5 = .ok (.isub, 1) := by decide +kernel
theorem dX10_addVertex_6 : decode cX10_addVertex 6 = .ok (.istore 4, 2) := by decide +kernel
theorem dX10_addVertex_8 : decode cX10_addVertex 8 = .ok (.aload_n 0, 1) := by decide +kernel
theorem dX10_addVertex_9 : decode cX10_addVertex 9 = .ok (.getfield 208, 3) := by decide +kernel
theorem dX10_addVertex_12 : decode cX10_addVertex 12 = .ok (.aload_n 0, 1) := by decide +kernel
theorem dX10_addVertex_13 : decode cX10_addVertex 13 = .ok (.getfield 56, 3) := by decide +kernel
theorem dX10_addVertex_16 : decode cX10_addVertex 16 = .ok (.aload_n 0, 1) := by decide +kernel
theorem dX10_addVertex_17 : decode cX10_addVertex 17 = .ok (.getfield 211, 3) := by decide +kernel
theorem dX10_addVertex_20 : decode cX10_addVertex 20 = .ok (.iconst 1, 1) := by decide +kernel
theorem dX10_addVertex_21 : decode cX10_addVertex 21 = .ok (.isub, 1) := by decide +kernel
theorem dX10_addVertex_22 : decode cX10_addVertex 22 = .ok (.iaload, 1) := by decide +kernel
theorem dX10_addVertex_23 : decode cX10_addVertex 23 = .ok (.if_icmp .le 95, 3) := by decide +kernel
theorem dX10_addVertex_26 : decode cX10_addVertex 26 = .ok (.iload_n 2, 1) := by decide +kernel
theorem dX10_addVertex_27 : decode cX10_addVertex 27 = .ok (.aload_n 0, 1) := by decide +kernel
theorem dX10_addVertex_28 : decode cX10_addVertex 28 = .ok (.getfield 47, 3) := by decide +kernel
theorem dX10_addVertex_31 : decode cX10_addVertex 31 = .ok (.iload 4, 2) := by decide +kernel
theorem dX10_addVertex_33 : decode cX10_addVertex 33 = .ok (.iaload, 1) := by decide +kernel
theorem dX10_addVertex_34 : decode cX10_addVertex 34 = .ok (.isub, 1) := by decide +kernel
theorem dX10_addVertex_35 : decode cX10_addVertex 35 = .ok (.i2l, 1) := by decide +kernel
theorem dX10_addVertex_36 : decode cX10_addVertex 36 = .ok (.lstore 5, 2) := by decide +kernel
theorem dX10_addVertex_38 : decode cX10_addVertex 38 = .ok (.iload_n 3, 1) := by decide +kernel
theorem dX10_addVertex_39 : decode cX10_addVertex 39 = .ok (.aload_n 0, 1) := by decide +kernel
theorem dX10_addVertex_40 : decode cX10_addVertex 40 = .ok (.getfield 50, 3) := by decide +kernel
theorem dX10_addVertex_43 : decode cX10_addVertex 43 = .ok (.iload 4, 2) := by decide +kernel
theorem dX10_addVertex_45 : decode cX10_addVertex 45 = .ok (.iaload, 1) := by decide +kernel
theorem dX10_addVertex_46 : decode cX10_addVertex 46 = .ok (.isub, 1) := by decide +kernel
theorem dX10_addVertex_47 : decode cX10_addVertex 47 = .ok (.i2l, 1) := by decide +kernel
theorem dX10_addVertex_48 : decode cX10_addVertex 48 = .ok (.lstore 7, 2) := by decide +kernel
theorem dX10_addVertex_50 : decode cX10_addVertex 50 = .ok (.lload 5, 2) := by decide +kernel
theorem dX10_addVertex_52 : decode cX10_addVertex 52 = .ok (.lconst 0, 1) := by decide +kernel
theorem dX10_addVertex_53 : decode cX10_addVertex 53 = .ok (.lcmp, 1) := by decide +kernel
theorem dX10_addVertex_54 : decode cX10_addVertex 54 = .ok (.ifCond .ne 11, 3) := by decide +kernel
theorem dX10_addVertex_57 : decode cX10_addVertex 57 = .ok (.lload 7, 2) := by decide +kernel
theorem dX10_addVertex_59 : decode cX10_addVertex 59 = .ok (.lconst 0, 1) := by decide +kernel
theorem dX10_addVertex_60 : decode cX10_addVertex 60 = .ok (.lcmp, 1) := by decide +kernel
theorem dX10_addVertex_61 : decode cX10_addVertex 61 = .ok (.ifCond .ne 4, 3) := by decide +kernel
theorem dX10_addVertex_64 : decode cX10_addVertex 64 = .ok (.return_, 1) := by decide +kernel
theorem dX10_addVertex_65 : decode cX10_addVertex 65 = .ok (.ldc2_w 214, 3) := by decide +kernel
theorem dX10_addVertex_68 : decode cX10_addVertex 68 = .ok (.lload 5, 2) := by decide +kernel
theorem dX10_addVertex_70 : decode cX10_addVertex 70 = .ok (.lload 5, 2) := by decide +kernel
theorem dX10_addVertex_72 : decode cX10_addVertex 72 = .ok (.lmul, 1) := by decide +kernel
theorem dX10_addVertex_73 : decode cX10_addVertex 73 = .ok (.lload 7, 2) := by decide +kernel
theorem dX10_addVertex_75 : decode cX10_addVertex 75 = .ok (.lload 7, 2) := by decide +kernel
theorem dX10_addVertex_77 : decode cX10_addVertex 77 = .ok (.lmul, 1) := by decide +kernel
theorem dX10_addVertex_78 : decode cX10_addVertex 78 = .ok (.ladd, 1) := by decide +kernel
theorem dX10_addVertex_79 : decode cX10_addVertex 79 = .ok (.lmul, 1) := by decide +kernel
theorem dX10_addVertex_80 : decode cX10_addVertex 80 = .ok (.invokestatic 216, 3) := by decide +kernel
theorem dX10_addVertex_83 : decode cX10_addVertex 83 = .ok (.istore 9, 2) := by decide +kernel
theorem dX10_addVertex_85 : decode cX10_addVertex 85 = .ok (.aload_n 0, 1) := by decide +kernel
theorem dX10_addVertex_86 : decode cX10_addVertex 86 = .ok (.getfield 59, 3) := by decide +kernel
theorem dX10_addVertex_89 : decode cX10_addVertex 89 = .ok (.iload_n 1, 1) := by decide +kernel
theorem dX10_addVertex_90 : decode cX10_addVertex 90 = .ok (.dup2, 1) := by decide +kernel
theorem dX10_addVertex_91 : decode cX10_addVertex 91 = .ok (.iaload, 1) := by decide +kernel
theorem dX10_addVertex_92 : decode cX10_addVertex 92 = .ok (.iload 9, 2) := by decide +kernel
theorem dX10_addVertex_94 : decode cX10_addVertex 94 = .ok (.iadd, 1) := by decide +kernel
theorem dX10_addVertex_95 : decode cX10_addVertex 95 = .ok (.iastore, 1) := by decide +kernel
theorem dX10_addVertex_96 : decode cX10_addVertex 96 = .ok (.aload_n 0, 1) := by decide +kernel
theorem dX10_addVertex_97 : decode cX10_addVertex 97 = .ok (.getfield 53, 3) := by decide +kernel
theorem dX10_addVertex_100 : decode cX10_addVertex 100 = .ok (.aload_n 0, 1) := by decide +kernel
theorem dX10_addVertex_101 : decode cX10_addVertex 101 = .ok (.getfield 208, 3) := by decide +kernel
theorem dX10_addVertex_104 : decode cX10_addVertex 104 = .ok (.aload_n 0, 1) := by decide +kernel
theorem dX10_addVertex_105 : decode cX10_addVertex 105 = .ok (.getfield 53, 3) := by decide +kernel
theorem dX10_addVertex_108 : decode cX10_addVertex 108 = .ok (.iload 4, 2) := by decide +kernel
theorem dX10_addVertex_110 : decode cX10_addVertex 110 = .ok (.iaload, 1) := by decide +kernel
theorem dX10_addVertex_111 : decode cX10_addVertex 111 = .ok (.iload 9, 2) := by decide +kernel
theorem dX10_addVertex_113 : decode cX10_addVertex 113 = .ok (.iadd, 1) := by decide +kernel
theorem dX10_addVertex_114 : decode cX10_addVertex 114 = .ok (.iastore, 1) := by decide +kernel
theorem dX10_addVertex_115 : decode cX10_addVertex 115 = .ok (.goto 13, 3) := by decide +kernel
theorem dX10_addVertex_118 : decode cX10_addVertex 118 = .ok (.aload_n 0, 1) := by decide +kernel
theorem dX10_addVertex_119 : decode cX10_addVertex 119 = .ok (.getfield 53, 3) := by decide +kernel
theorem dX10_addVertex_122 : decode cX10_addVertex 122 = .ok (.aload_n 0, 1) := by decide +kernel
theorem dX10_addVertex_123 : decode cX10_addVertex 123 = .ok (.getfield 208, 3) := by decide +kernel
theorem dX10_addVertex_126 : decode cX10_addVertex 126 = .ok (.iconst 0, 1) := by decide +kernel
theorem dX10_addVertex_127 : decode cX10_addVertex 127 = .ok (.iastore, 1) := by decide +kernel
theorem dX10_addVertex_128 : decode cX10_addVertex 128 = .ok (.aload_n 0, 1) := by decide +kernel
theorem dX10_addVertex_129 : decode cX10_addVertex 129 = .ok (.getfield 47, 3) := by decide +kernel
theorem dX10_addVertex_132 : decode cX10_addVertex 132 = .ok (.aload_n 0, 1) := by decide +kernel
theorem dX10_addVertex_133 : decode cX10_addVertex 133 = .ok (.getfield 208, 3) := by decide +kernel
theorem dX10_addVertex_136 : decode cX10_addVertex 136 = .ok (.iload_n 2, 1) := by decide +kernel
theorem dX10_addVertex_137 : decode cX10_addVertex 137 = .ok (.iastore, 1) := by decide +kernel
theorem dX10_addVertex_138 : decode cX10_addVertex 138 = .ok (.aload_n 0, 1) := by decide +kernel
theorem dX10_addVertex_139 : decode cX10_addVertex 139 = .ok (.getfield 50, 3) := by decide +kernel
theorem dX10_addVertex_142 : decode cX10_addVertex 142 = .ok (.aload_n 0, 1) := by decide +kernel
theorem dX10_addVertex_143 : decode cX10_addVertex 143 = .ok (.getfield 208, 3) := by decide +kernel
theorem dX10_addVertex_146 : decode cX10_addVertex 146 = .ok (.iload_n 3, 1) := by decide +kernel
theorem dX10_addVertex_147 : decode cX10_addVertex 147 = .ok (.iastore, 1) := by decide +kernel
theorem dX10_addVertex_148 : decode cX10_addVertex 148 = .ok (.aload_n 0, 1) := by decide +kernel
theorem dX10_addVertex_149 : decode cX10_addVertex 149 = .ok (.dup, 1) := by decide +kernel
theorem dX10_addVertex_150 : decode cX10_addVertex 150 = .ok (.getfield 208, 3) := by decide +kernel
theorem dX10_addVertex_153 : decode cX10_addVertex 153 = .ok (.iconst 1, 1) := by decide +kernel
theorem dX10_addVertex_154 : decode cX10_addVertex 154 = .ok (.iadd, 1) := by decide +kernel
theorem dX10_addVertex_155 : decode cX10_addVertex 155 = .ok (.putfield 208, 3) := by decide +kernel
theorem dX10_addVertex_158 : decode cX10_addVertex 158 = .ok (.return_, 1) := by decide +kernel
theorem dX10_mid_0 : decode cX10_mid 0 = .ok (.iload_n 0, 1) := by decide +kernel
theorem dX10_mid_1 : decode cX10_mid 1 = .ok (.iload_n 1, 1) := by decide +kernel
theorem dX10_mid_2 : decode cX10_mid 2 = .ok (.iadd, 1) := by decide +kernel
theorem dX10_mid_3 : decode cX10_mid 3 = .ok (.iconst 1, 1) := by decide +kernel
theorem dX10_mid_4 : decode cX10_mid 4 = .ok (.ishr, 1) := by decide +kernel
theorem dX10_mid_5 : decode cX10_mid 5 = .ok (.ireturn, 1) := by decide +kernel
theorem dX10_push_0 : decode cX10_push 0 = .ok (.bipush 8, 2) := by decide +kernel
theorem dX10_push_2 : decode cX10_push 2 = .ok (.aload_n 0, 1) := by decide +kernel
theorem dX10_push_3 : decode cX10_push 3 = .ok (.getfield 220, 3) := by decide +kernel
theorem dX10_push_6 : decode cX10_push 6 = .ok (.imul, 1) := by decide +kernel
theorem dX10_push_7 : decode cX10_push 7 = .ok (.istore 10, 2) := by decide +kernel
theorem dX10_push_9 : decode cX10_push 9 = .ok (.aload_n 0, 1) := by decide +kernel
theorem dX10_push_10 : decode cX10_push 10 = .ok (.getfield 62, 3) := by decide +kernel
theorem dX10_push_13 : decode cX10_push 13 = .ok (.iload 10, 2) := by decide +kernel
theorem dX10_push_15 : decode cX10_push 15 = .ok (.iload_n 2, 1) := by decide +kernel
theorem dX10_push_16 : decode cX10_push 16 = .ok (.iastore, 1) := by decide +kernel
theorem dX10_push_17 : decode cX10_push 17 = .ok (.aload_n 0, 1) := by decide +kernel
theorem dX10_push_18 : decode cX10_push 18 = .ok (.getfield 62, 3) := by decide +kernel
theorem dX10_push_21 : decode cX10_push 21 = .ok (.iload 10, 2) := by decide +kernel
theorem dX10_push_23 : decode cX10_push 23 = .ok (.iconst 1, 1) := by decide +kernel
theorem dX10_push_24 : decode cX10_push 24 = .ok (.iadd, 1) := by decide +kernel
theorem dX10_push_25 : decode cX10_push 25 = .ok (.iload_n 3, 1) := by decide +kernel
theorem dX10_push_26 : decode cX10_push 26 = .ok (.iastore, 1) := by decide +kernel
theorem dX10_push_27 : decode cX10_push 27 = .ok (.aload_n 0, 1) := by decide +kernel
theorem dX10_push_28 : decode cX10_push 28 = .ok (.getfield 62, 3) := by decide +kernel
theorem dX10_push_31 : decode cX10_push 31 = .ok (.iload 10, 2) := by decide +kernel
theorem dX10_push_33 : decode cX10_push 33 = .ok (.iconst 2, 1) := by decide +kernel
theorem dX10_push_34 : decode cX10_push 34 = .ok (.iadd, 1) := by decide +kernel
theorem dX10_push_35 : decode cX10_push 35 = .ok (.iload 4, 2) := by decide +kernel
theorem dX10_push_37 : decode cX10_push 37 = .ok (.iastore, 1) := by decide +kernel
theorem dX10_push_38 : decode cX10_push 38 = .ok (.aload_n 0, 1) := by decide +kernel
theorem dX10_push_39 : decode cX10_push 39 = .ok (.getfield 62, 3) := by decide +kernel
theorem dX10_push_42 : decode cX10_push 42 = .ok (.iload 10, 2) := by decide +kernel
theorem dX10_push_44 : decode cX10_push 44 = .ok (.iconst 3, 1) := by decide +kernel
theorem dX10_push_45 : decode cX10_push 45 = .ok (.iadd, 1) := by decide +kernel
theorem dX10_push_46 : decode cX10_push 46 = .ok (.iload 5, 2) := by decide +kernel
theorem dX10_push_48 : decode cX10_push 48 = .ok (.iastore, 1) := by decide +kernel
theorem dX10_push_49 : decode cX10_push 49 = .ok (.aload_n 0, 1) := by decide +kernel
theorem dX10_push_50 : decode cX10_push 50 = .ok (.getfield 62, 3) := by decide +kernel
theorem dX10_push_53 : decode cX10_push 53 = .ok (.iload 10, 2) := by decide +kernel
theorem dX10_push_55 : decode cX10_push 55 = .ok (.iconst 4, 1) := by decide +kernel
theorem dX10_push_56 : decode cX10_push 56 = .ok (.iadd, 1) := by decide +kernel
theorem dX10_push_57 : decode cX10_push 57 = .ok (.iload 6, 2) := by decide +kernel
theorem dX10_push_59 : decode cX10_push 59 = .ok (.iastore, 1) := by decide +kernel
theorem dX10_push_60 : decode cX10_push 60 = .ok (.aload_n 0, 1) := by decide +kernel
theorem dX10_push_61 : decode cX10_push 61 = .ok (.getfield 62, 3) := by decide +kernel
theorem dX10_push_64 : decode cX10_push 64 = .ok (.iload 10, 2) := by decide +kernel
theorem dX10_push_66 : decode cX10_push 66 = .ok (.iconst 5, 1) := by decide +kernel
theorem dX10_push_67 : decode cX10_push 67 = .ok (.iadd, 1) := by decide +kernel
theorem dX10_push_68 : decode cX10_push 68 = .ok (.iload 7, 2) := by decide +kernel
theorem dX10_push_70 : decode cX10_push 70 = .ok (.iastore, 1) := by decide +kernel
theorem dX10_push_71 : decode cX10_push 71 = .ok (.aload_n 0, 1) := by decide +kernel
theorem dX10_push_72 : decode cX10_push 72 = .ok (.getfield 62, 3) := by decide +kernel
theorem dX10_push_75 : decode cX10_push 75 = .ok (.iload 10, 2) := by decide +kernel
theorem dX10_push_77 : decode cX10_push 77 = .ok (.bipush 6, 2) := by decide +kernel
theorem dX10_push_79 : decode cX10_push 79 = .ok (.iadd, 1) := by decide +kernel
theorem dX10_push_80 : decode cX10_push 80 = .ok (.iload 8, 2) := by decide +kernel
theorem dX10_push_82 : decode cX10_push 82 = .ok (.iastore, 1) := by decide +kernel
theorem dX10_push_83 : decode cX10_push 83 = .ok (.aload_n 0, 1) := by decide +kernel
theorem dX10_push_84 : decode cX10_push 84 = .ok (.getfield 62, 3) := by decide +kernel
theorem dX10_push_87 : decode cX10_push 87 = .ok (.iload 10, 2) := by decide +kernel
theorem dX10_push_89 : decode cX10_push 89 = .ok (.bipush 7, 2) := by decide +kernel
theorem dX10_push_91 : decode cX10_push 91 = .ok (.iadd, 1) := by decide +kernel
theorem dX10_push_92 : decode cX10_push 92 = .ok (.iload 9, 2) := by decide +kernel
theorem dX10_push_94 : decode cX10_push 94 = .ok (.iastore, 1) := by decide +kernel
theorem dX10_push_95 : decode cX10_push 95 = .ok (.aload_n 0, 1) := by decide +kernel
theorem dX10_push_96 : decode cX10_push 96 = .ok (.getfield 65, 3) := by decide +kernel
theorem dX10_push_99 : decode cX10_push 99 = .ok (.aload_n 0, 1) := by decide +kernel
theorem dX10_push_100 : decode cX10_push 100 = .ok (.getfield 220, 3) := by decide +kernel
theorem dX10_push_103 : decode cX10_push 103 = .ok (.iload_n 1, 1) := by decide +kernel
theorem dX10_push_104 : decode cX10_push 104 = .ok (.iastore, 1) := by decide +kernel
theorem dX10_push_105 : decode cX10_push 105 = .ok (.aload_n 0, 1) := by decide +kernel
theorem dX10_push_106 : decode cX10_push 106 = .ok (.dup, 1) := by decide +kernel
theorem dX10_push_107 : decode cX10_push 107 = .ok (.getfield 220, 3) := by decide +kernel
theorem dX10_push_110 : decode cX10_push 110 = .ok (.iconst 1, 1) := by decide +kernel
theorem dX10_push_111 : decode cX10_push 111 = .ok (.iadd, 1) := by decide +kernel
theorem dX10_push_112 : decode cX10_push 112 = .ok (.putfield 220, 3) := by decide +kernel
theorem dX10_push_115 : decode cX10_push 115 = .ok (.return_, 1) := by decide +kernel
theorem dX10_bend_0 : decode cX10_bend 0 = .ok (.iload_n 0, 1) := by decide +kernel
theorem dX10_bend_1 : decode cX10_bend 1 = .ok (.iconst 2, 1) := by decide +kernel
theorem dX10_bend_2 : decode cX10_bend 2 = .ok (.iload_n 1, 1) := by decide +kernel
theorem dX10_bend_3 : decode cX10_bend 3 = .ok (.imul, 1) := by decide +kernel
theorem dX10_bend_4 : decode cX10_bend 4 = .ok (.isub, 1) := by decide +kernel
theorem dX10_bend_5 : decode cX10_bend 5 = .ok (.iload_n 2, 1) := by decide +kernel
theorem dX10_bend_6 : decode cX10_bend 6 = .ok (.iadd, 1) := by decide +kernel
theorem dX10_bend_7 : decode cX10_bend 7 = .ok (.invokestatic 195, 3) := by decide +kernel
theorem dX10_bend_10 : decode cX10_bend 10 = .ok (.ireturn, 1) := by decide +kernel
theorem dX10_flattenQuad_0 : decode cX10_flattenQuad 0 = .ok (.aload_n 0, 1) := by decide +kernel
theorem dX10_flattenQuad_1 : decode cX10_flattenQuad 1 = .ok (.getfield 9, 3) := by decide +kernel
theorem dX10_flattenQuad_4 : decode cX10_flattenQuad 4 = .ok (.sipush 169, 3) := by decide +kernel
theorem dX10_flattenQuad_7 : decode cX10_flattenQuad 7 = .ok (.iaload, 1) := by decide +kernel
theorem dX10_flattenQuad_8 : decode cX10_flattenQuad 8 = .ok (.istore_n 2, 1) := by decide +kernel
theorem dX10_flattenQuad_9 : decode cX10_flattenQuad 9 = .ok (.aload_n 0, 1) := by decide +kernel
theorem dX10_flattenQuad_10 : decode cX10_flattenQuad 10 = .ok (.getfield 220, 3) := by decide +kernel
theorem dX10_flattenQuad_13 : decode cX10_flattenQuad 13 = .ok (.ifCond .le 235, 3) := by decide +kernel
theorem dX10_flattenQuad_16 : decode cX10_flattenQuad 16 = .ok (.aload_n 0, 1) := by decide +kernel
theorem dX10_flattenQuad_17 : decode cX10_flattenQuad 17 = .ok (.dup, 1) := by decide +kernel
theorem dX10_flattenQuad_18 : decode cX10_flattenQuad 18 = .ok (.getfield 220, 3) := by decide +kernel
theorem dX10_flattenQuad_21 : decode cX10_flattenQuad 21 = .ok (.iconst 1, 1) := by decide +kernel
theorem dX10_flattenQuad_22 : decode cX10_flattenQuad 22 = .ok (.isub, 1) := by decide +kernel
theorem dX10_flattenQuad_23 : decode cX10_flattenQuad 23 = .ok (.putfield 220, 3) := by decide +kernel
theorem dX10_flattenQuad_26 : decode cX10_flattenQuad 26 = .ok (.bipush 8, 2) := by decide +kernel
theorem dX10_flattenQuad_28 : decode cX10_flattenQuad 28 = .ok (.aload_n 0, 1) := by decide +kernel
theorem dX10_flattenQuad_29 : decode cX10_flattenQuad 29 = .ok (.getfield 220, 3) := by decide +kernel
theorem dX10_flattenQuad_32 : decode cX10_flattenQuad 32 = .ok (.imul, 1) := by decide +kernel
theorem dX10_flattenQuad_33 : decode cX10_flattenQuad 33 = .ok (.istore_n 3, 1) := by decide +kernel
theorem dX10_flattenQuad_34 : decode cX10_flattenQuad 34 = .ok (.aload_n 0, 1) := by decide +kernel
theorem dX10_flattenQuad_35 : decode cX10_flattenQuad 35 = .ok (.getfield 65, 3) := by decide +kernel
theorem dX10_flattenQuad_38 : decode cX10_flattenQuad 38 = .ok (.aload_n 0, 1) := by decide +kernel
theorem dX10_flattenQuad_39 : decode cX10_flattenQuad 39 = .ok (.getfield 220, 3) := by decide +kernel
theorem dX10_flattenQuad_42 : decode cX10_flattenQuad 42 = .ok (.iaload, 1) := by decide +kernel
theorem dX10_flattenQuad_43 : decode cX10_flattenQuad 43 = .ok (.istore 4, 2) := by decide +kernel
theorem dX10_flattenQuad_45 : decode cX10_flattenQuad 45 = .ok (.aload_n 0, 1) := by decide +kernel
theorem dX10_flattenQuad_46 : decode cX10_flattenQuad 46 = .ok (.getfield 62, 3) := by decide +kernel
theorem dX10_flattenQuad_49 : decode cX10_flattenQuad 49 = .ok (.iload_n 3, 1) := by decide +kernel
theorem dX10_flattenQuad_50 : decode cX10_flattenQuad 50 = .ok (.iaload, 1) := by decide +kernel
theorem dX10_flattenQuad_51 : decode cX10_flattenQuad 51 = .ok (.istore 5, 2) := by decide +kernel
theorem dX10_flattenQuad_53 : decode cX10_flattenQuad 53 = .ok (.aload_n 0, 1) := by decide +kernel
theorem dX10_flattenQuad_54 : decode cX10_flattenQuad 54 = .ok (.getfield 62, 3) := by decide +kernel
theorem dX10_flattenQuad_57 : decode cX10_flattenQuad 57 = .ok (.iload_n 3, 1) := by decide +kernel
theorem dX10_flattenQuad_58 : decode cX10_flattenQuad 58 = .ok (.iconst 1, 1) := by decide +kernel
theorem dX10_flattenQuad_59 : decode cX10_flattenQuad 59 = .ok (.iadd, 1) := by decide +kernel
theorem dX10_flattenQuad_60 : decode cX10_flattenQuad 60 = .ok (.iaload, 1) := by decide +kernel
theorem dX10_flattenQuad_61 : decode cX10_flattenQuad 61 = .ok (.istore 6, 2) := by decide +kernel
theorem dX10_flattenQuad_63 : decode cX10_flattenQuad 63 = .ok (.aload_n 0, 1) := by decide +kernel
theorem dX10_flattenQuad_64 : decode cX10_flattenQuad 64 = .ok (.getfield 62, 3) := by decide +kernel
theorem dX10_flattenQuad_67 : decode cX10_flattenQuad 67 = .ok (.iload_n 3, 1) := by decide +kernel
theorem dX10_flattenQuad_68 : decode cX10_flattenQuad 68 = .ok (.iconst 2, 1) := by decide +kernel
theorem dX10_flattenQuad_69 : decode cX10_flattenQuad 69 = .ok (.iadd, 1) := by decide +kernel
theorem dX10_flattenQuad_70 : decode cX10_flattenQuad 70 = .ok (.iaload, 1) := by decide +kernel
theorem dX10_flattenQuad_71 : decode cX10_flattenQuad 71 = .ok (.istore 7, 2) := by decide +kernel
theorem dX10_flattenQuad_73 : decode cX10_flattenQuad 73 = .ok (.aload_n 0, 1) := by decide +kernel
theorem dX10_flattenQuad_74 : decode cX10_flattenQuad 74 = .ok (.getfield 62, 3) := by decide +kernel
theorem dX10_flattenQuad_77 : decode cX10_flattenQuad 77 = .ok (.iload_n 3, 1) := by decide +kernel
theorem dX10_flattenQuad_78 : decode cX10_flattenQuad 78 = .ok (.iconst 3, 1) := by decide +kernel
theorem dX10_flattenQuad_79 : decode cX10_flattenQuad 79 = .ok (.iadd, 1) := by decide +kernel
theorem dX10_flattenQuad_80 : decode cX10_flattenQuad 80 = .ok (.iaload, 1) := by decide +kernel
theorem dX10_flattenQuad_81 : decode cX10_flattenQuad 81 = .ok (.istore 8, 2) := by decide +kernel
theorem dX10_flattenQuad_83 : decode cX10_flattenQuad 83 = .ok (.aload_n 0, 1) := by decide +kernel
theorem dX10_flattenQuad_84 : decode cX10_flattenQuad 84 = .ok (.getfield 62, 3) := by decide +kernel
theorem dX10_flattenQuad_87 : decode cX10_flattenQuad 87 = .ok (.iload_n 3, 1) := by decide +kernel
theorem dX10_flattenQuad_88 : decode cX10_flattenQuad 88 = .ok (.iconst 4, 1) := by decide +kernel
theorem dX10_flattenQuad_89 : decode cX10_flattenQuad 89 = .ok (.iadd, 1) := by decide +kernel
theorem dX10_flattenQuad_90 : decode cX10_flattenQuad 90 = .ok (.iaload, 1) := by decide +kernel
theorem dX10_flattenQuad_91 : decode cX10_flattenQuad 91 = .ok (.istore 9, 2) := by decide +kernel
theorem dX10_flattenQuad_93 : decode cX10_flattenQuad 93 = .ok (.aload_n 0, 1) := by decide +kernel
theorem dX10_flattenQuad_94 : decode cX10_flattenQuad 94 = .ok (.getfield 62, 3) := by decide +kernel
theorem dX10_flattenQuad_97 : decode cX10_flattenQuad 97 = .ok (.iload_n 3, 1) := by decide +kernel
theorem dX10_flattenQuad_98 : decode cX10_flattenQuad 98 = .ok (.iconst 5, 1) := by decide +kernel
theorem dX10_flattenQuad_99 : decode cX10_flattenQuad 99 = .ok (.iadd, 1) := by decide +kernel
theorem dX10_flattenQuad_100 : decode cX10_flattenQuad 100 = .ok (.iaload, 1) := by decide +kernel
theorem dX10_flattenQuad_101 : decode cX10_flattenQuad 101 = .ok (.istore 10, 2) := by decide +kernel
theorem dX10_flattenQuad_103 : decode cX10_flattenQuad 103 = .ok (.iload 4, 2) := by decide +kernel
theorem dX10_flattenQuad_105 : decode cX10_flattenQuad 105 = .ok (.bipush 6, 2) := by decide +kernel
theorem dX10_flattenQuad_107 : decode cX10_flattenQuad 107 = .ok (.if_icmp .eq 28, 3) := by decide +kernel
theorem dX10_flattenQuad_110 : decode cX10_flattenQuad 110 = .ok (.iload 5, 2) := by decide +kernel
theorem dX10_flattenQuad_112 : decode cX10_flattenQuad 112 = .ok (.iload 7, 2) := by decide +kernel
theorem dX10_flattenQuad_114 : decode cX10_flattenQuad 114 = .ok (.iload 9, 2) := by decide +kernel
theorem dX10_flattenQuad_116 : decode cX10_flattenQuad 116 = .ok (.invokestatic 223, 3) := by decide +kernel
theorem dX10_flattenQuad_119 : decode cX10_flattenQuad 119 = .ok (.iload 6, 2) := by decide +kernel
theorem dX10_flattenQuad_121 : decode cX10_flattenQuad 121 = .ok (.iload 8, 2) := by decide +kernel
theorem dX10_flattenQuad_123 : decode cX10_flattenQuad 123 = .ok (.iload 10, 2) := by decide +kernel
theorem dX10_flattenQuad_125 : decode cX10_flattenQuad 125 = .ok (.invokestatic 223, 3) := by decide +kernel
theorem dX10_flattenQuad_128 : decode cX10_flattenQuad 128 = .ok (.iadd, 1) := by decide +kernel
theorem dX10_flattenQuad_129 : decode cX10_flattenQuad 129 = .ok (.iconst 4, 1) := by decide +kernel
theorem dX10_flattenQuad_130 : decode cX10_flattenQuad 130 = .ok (.iload_n 2, 1) := by decide +kernel
theorem dX10_flattenQuad_131 : decode cX10_flattenQuad 131 = .ok (.imul, 1) := by decide +kernel
theorem dX10_flattenQuad_132 : decode cX10_flattenQuad 132 = .ok (.if_icmp .gt 15, 3) := by decide +kernel
theorem dX10_flattenQuad_135 : decode cX10_flattenQuad 135 = .ok (.aload_n 0, 1) := by decide +kernel
theorem dX10_flattenQuad_136 : decode cX10_flattenQuad 136 = .ok (.iload_n 1, 1) := by decide +kernel
theorem dX10_flattenQuad_137 : decode cX10_flattenQuad 137 = .ok (.iload 9, 2) := by decide +kernel
theorem dX10_flattenQuad_139 : decode cX10_flattenQuad 139 = .ok (.iload 10, 2) := by decide +kernel
theorem dX10_flattenQuad_141 : decode cX10_flattenQuad 141 = .ok (.invokevirtual 227, 3) := by decide +kernel
theorem dX10_flattenQuad_144 : decode cX10_flattenQuad 144 = .ok (.goto 101, 3) := by decide +kernel
theorem dX10_flattenQuad_147 : decode cX10_flattenQuad 147 = .ok (.iload 5, 2) := by decide +kernel
theorem dX10_flattenQuad_149 : decode cX10_flattenQuad 149 = .ok (.iload 7, 2) := by decide +kernel
theorem dX10_flattenQuad_151 : decode cX10_flattenQuad 151 = .ok (.invokestatic 231, 3) := by decide +kernel
theorem dX10_flattenQuad_154 : decode cX10_flattenQuad 154 = .ok (.istore 11, 2) := by decide +kernel
theorem dX10_flattenQuad_156 : decode cX10_flattenQuad 156 = .ok (.iload 6, 2) := by decide +kernel
theorem dX10_flattenQuad_158 : decode cX10_flattenQuad 158 = .ok (.iload 8, 2) := by decide +kernel
theorem dX10_flattenQuad_160 : decode cX10_flattenQuad 160 = .ok (.invokestatic 231, 3) := by decide +kernel
theorem dX10_flattenQuad_163 : decode cX10_flattenQuad 163 = .ok (.istore 12, 2) := by decide +kernel
theorem dX10_flattenQuad_165 : decode cX10_flattenQuad 165 = .ok (.iload 7, 2) := by decide +kernel
theorem dX10_flattenQuad_167 : decode cX10_flattenQuad 167 = .ok (.iload 9, 2) := by decide +kernel
theorem dX10_flattenQuad_169 : decode cX10_flattenQuad 169 = .ok (.invokestatic 231, 3) := by decide +kernel
theorem dX10_flattenQuad_172 : decode cX10_flattenQuad 172 = .ok (.istore 13, 2) := by decide +kernel
theorem dX10_flattenQuad_174 : decode cX10_flattenQuad 174 = .ok (.iload 8, 2) := by decide +kernel
theorem dX10_flattenQuad_176 : decode cX10_flattenQuad 176 = .ok (.iload 10, 2) := by decide +kernel
theorem dX10_flattenQuad_178 : decode cX10_flattenQuad 178 = .ok (.invokestatic 231, 3) := by decide +kernel
theorem dX10_flattenQuad_181 : decode cX10_flattenQuad 181 = .ok (.istore 14, 2) := by decide +kernel
theorem dX10_flattenQuad_183 : decode cX10_flattenQuad 183 = .ok (.iload 11, 2) := by decide +kernel
theorem dX10_flattenQuad_185 : decode cX10_flattenQuad 185 = .ok (.iload 13, 2) := by decide +kernel
theorem dX10_flattenQuad_187 : decode cX10_flattenQuad 187 = .ok (.invokestatic 231, 3) := by decide +kernel
theorem dX10_flattenQuad_190 : decode cX10_flattenQuad 190 = .ok (.istore 15, 2) := by decide +kernel
theorem dX10_flattenQuad_192 : decode cX10_flattenQuad 192 = .ok (.iload 12, 2) := by decide +kernel
theorem dX10_flattenQuad_194 : decode cX10_flattenQuad 194 = .ok (.iload 14, 2) := by decide +kernel
theorem dX10_flattenQuad_196 : decode cX10_flattenQuad 196 = .ok (.invokestatic 231, 3) := by decide +kernel
theorem dX10_flattenQuad_199 : decode cX10_flattenQuad 199 = .ok (.istore 16, 2) := by decide +kernel
theorem dX10_flattenQuad_201 : decode cX10_flattenQuad 201 = .ok (.aload_n 0, 1) := by decide +kernel
theorem dX10_flattenQuad_202 : decode cX10_flattenQuad 202 = .ok (.iload 4, 2) := by decide +kernel
theorem dX10_flattenQuad_204 : decode cX10_flattenQuad 204 = .ok (.iconst 1, 1) := by decide +kernel
theorem dX10_flattenQuad_205 : decode cX10_flattenQuad 205 = .ok (.iadd, 1) := by decide +kernel
theorem dX10_flattenQuad_206 : decode cX10_flattenQuad 206 = .ok (.iload 15, 2) := by decide +kernel
theorem dX10_flattenQuad_208 : decode cX10_flattenQuad 208 = .ok (.iload 16, 2) := by decide +kernel
theorem dX10_flattenQuad_210 : decode cX10_flattenQuad 210 = .ok (.iload 13, 2) := by decide +kernel
theorem dX10_flattenQuad_212 : decode cX10_flattenQuad 212 = .ok (.iload 14, 2) := by decide +kernel
theorem dX10_flattenQuad_214 : decode cX10_flattenQuad 214 = .ok (.iload 9, 2) := by decide +kernel
theorem dX10_flattenQuad_216 : decode cX10_flattenQuad 216 = .ok (.iload 10, 2) := by decide +kernel
theorem dX10_flattenQuad_218 : decode cX10_flattenQuad 218 = .ok (.iconst 0, 1) := by decide +kernel
theorem dX10_flattenQuad_219 : decode cX10_flattenQuad 219 = .ok (.iconst 0, 1) := by decide +kernel
theorem dX10_flattenQuad_220 : decode cX10_flattenQuad 220 = .ok (.invokevirtual 235, 3) := by decide +kernel
theorem dX10_flattenQuad_223 : decode cX10_flattenQuad 223 = .ok (.aload_n 0, 1) := by decide +kernel
theorem dX10_flattenQuad_224 : decode cX10_flattenQuad 224 = .ok (.iload 4, 2) := by decide +kernel
theorem dX10_flattenQuad_226 : decode cX10_flattenQuad 226 = .ok (.iconst 1, 1) := by decide +kernel
theorem dX10_flattenQuad_227 : decode cX10_flattenQuad 227 = .ok (.iadd, 1) := by decide +kernel
theorem dX10_flattenQuad_228 : decode cX10_flattenQuad 228 = .ok (.iload 5, 2) := by decide +kernel
theorem dX10_flattenQuad_230 : decode cX10_flattenQuad 230 = .ok (.iload 6, 2) := by decide +kernel
theorem dX10_flattenQuad_232 : decode cX10_flattenQuad 232 = .ok (.iload 11, 2) := by decide +kernel
theorem dX10_flattenQuad_234 : decode cX10_flattenQuad 234 = .ok (.iload 12, 2) := by decide +kernel
theorem dX10_flattenQuad_236 : decode cX10_flattenQuad 236 = .ok (.iload 15, 2) := by decide +kernel
theorem dX10_flattenQuad_238 : decode cX10_flattenQuad 238 = .ok (.iload 16, 2) := by decide +kernel
theorem dX10_flattenQuad_240 : decode cX10_flattenQuad 240 = .ok (.iconst 0, 1) := by decide +kernel
theorem dX10_flattenQuad_241 : decode cX10_flattenQuad 241 = .ok (.iconst 0, 1) := by decide +kernel
theorem dX10_flattenQuad_242 : decode cX10_flattenQuad 242 = .ok (.invokevirtual 235, 3) := by decide +kernel
theorem dX10_flattenQuad_245 : decode cX10_flattenQuad 245 = .ok (.goto (-236), 3) := by decide +kernel
theorem dX10_flattenQuad_248 : decode cX10_flattenQuad 248 = .ok (.return_, 1) := by decide +kernel
theorem dX10_flattenCubic_0 : decode cX10_flattenCubic 0 = .ok (.aload_n 0, 1) := by decide +kernel
theorem dX10_flattenCubic_1 : decode cX10_flattenCubic 1 = .ok (.getfield 9, 3) := by decide +kernel
theorem dX10_flattenCubic_4 : decode cX10_flattenCubic 4 = .ok (.sipush 169, 3) := by decide +kernel
theorem dX10_flattenCubic_7 : decode cX10_flattenCubic 7 = .ok (.iaload, 1) := by decide +kernel
theorem dX10_flattenCubic_8 : decode cX10_flattenCubic 8 = .ok (.istore_n 2, 1) := by decide +kernel
theorem dX10_flattenCubic_9 : decode cX10_flattenCubic 9 = .ok (.aload_n 0, 1) := by decide +kernel
theorem dX10_flattenCubic_10 : decode cX10_flattenCubic 10 = .ok (.getfield 220, 3) := by decide +kernel
theorem dX10_flattenCubic_13 : decode cX10_flattenCubic 13 = .ok (.ifCond .le 352, 3) := by decide +kernel
theorem dX10_flattenCubic_16 : decode cX10_flattenCubic 16 = .ok (.aload_n 0, 1) := by decide +kernel
theorem dX10_flattenCubic_17 : decode cX10_flattenCubic 17 = .ok (.dup, 1) := by decide +kernel
theorem dX10_flattenCubic_18 : decode cX10_flattenCubic 18 = .ok (.getfield 220, 3) := by decide +kernel
theorem dX10_flattenCubic_21 : decode cX10_flattenCubic 21 = .ok (.iconst 1, 1) := by decide +kernel
theorem dX10_flattenCubic_22 : decode cX10_flattenCubic 22 = .ok (.isub, 1) := by decide +kernel
theorem dX10_flattenCubic_23 : decode cX10_flattenCubic 23 = .ok (.putfield 220, 3) := by decide +kernel
theorem dX10_flattenCubic_26 : decode cX10_flattenCubic 26 = .ok (.bipush 8, 2) := by decide +kernel
theorem dX10_flattenCubic_28 : decode cX10_flattenCubic 28 = .ok (.aload_n 0, 1) := by decide +kernel
theorem dX10_flattenCubic_29 : decode cX10_flattenCubic 29 = .ok (.getfield 220, 3) := by decide +kernel
theorem dX10_flattenCubic_32 : decode cX10_flattenCubic 32 = .ok (.imul, 1) := by decide +kernel
theorem dX10_flattenCubic_33 : decode cX10_flattenCubic 33 = .ok (.istore_n 3, 1) := by decide +kernel
theorem dX10_flattenCubic_34 : decode cX10_flattenCubic 34 = .ok (.aload_n 0, 1) := by decide +kernel
theorem dX10_flattenCubic_35 : decode cX10_flattenCubic 35 = .ok (.getfield 65, 3) := by decide +kernel
theorem dX10_flattenCubic_38 : decode cX10_flattenCubic 38 = .ok (.aload_n 0, 1) := by decide +kernel
theorem dX10_flattenCubic_39 : decode cX10_flattenCubic 39 = .ok (.getfield 220, 3) := by decide +kernel
theorem dX10_flattenCubic_42 : decode cX10_flattenCubic 42 = .ok (.iaload, 1) := by decide +kernel
theorem dX10_flattenCubic_43 : decode cX10_flattenCubic 43 = .ok (.istore 4, 2) := by decide +kernel
theorem dX10_flattenCubic_45 : decode cX10_flattenCubic 45 = .ok (.aload_n 0, 1) := by decide +kernel
theorem dX10_flattenCubic_46 : decode cX10_flattenCubic 46 = .ok (.getfield 62, 3) := by decide +kernel
theorem dX10_flattenCubic_49 : decode cX10_flattenCubic 49 = .ok (.iload_n 3, 1) := by decide +kernel
theorem dX10_flattenCubic_50 : decode cX10_flattenCubic 50 = .ok (.iaload, 1) := by decide +kernel
theorem dX10_flattenCubic_51 : decode cX10_flattenCubic 51 = .ok (.istore 5, 2) := by decide +kernel
theorem dX10_flattenCubic_53 : decode cX10_flattenCubic 53 = .ok (.aload_n 0, 1) := by decide +kernel
theorem dX10_flattenCubic_54 : decode cX10_flattenCubic 54 = .ok (.getfield 62, 3) := by decide +kernel
theorem dX10_flattenCubic_57 : decode cX10_flattenCubic 57 = .ok (.iload_n 3, 1) := by decide +kernel
theorem dX10_flattenCubic_58 : decode cX10_flattenCubic 58 = .ok (.iconst 1, 1) := by decide +kernel
theorem dX10_flattenCubic_59 : decode cX10_flattenCubic 59 = .ok (.iadd, 1) := by decide +kernel
theorem dX10_flattenCubic_60 : decode cX10_flattenCubic 60 = .ok (.iaload, 1) := by decide +kernel
theorem dX10_flattenCubic_61 : decode cX10_flattenCubic 61 = .ok (.istore 6, 2) := by decide +kernel
theorem dX10_flattenCubic_63 : decode cX10_flattenCubic 63 = .ok (.aload_n 0, 1) := by decide +kernel
theorem dX10_flattenCubic_64 : decode cX10_flattenCubic 64 = .ok (.getfield 62, 3) := by decide +kernel
theorem dX10_flattenCubic_67 : decode cX10_flattenCubic 67 = .ok (.iload_n 3, 1) := by decide +kernel
theorem dX10_flattenCubic_68 : decode cX10_flattenCubic 68 = .ok (.iconst 2, 1) := by decide +kernel
theorem dX10_flattenCubic_69 : decode cX10_flattenCubic 69 = .ok (.iadd, 1) := by decide +kernel
theorem dX10_flattenCubic_70 : decode cX10_flattenCubic 70 = .ok (.iaload, 1) := by decide +kernel
theorem dX10_flattenCubic_71 : decode cX10_flattenCubic 71 = .ok (.istore 7, 2) := by decide +kernel
theorem dX10_flattenCubic_73 : decode cX10_flattenCubic 73 = .ok (.aload_n 0, 1) := by decide +kernel
theorem dX10_flattenCubic_74 : decode cX10_flattenCubic 74 = .ok (.getfield 62, 3) := by decide +kernel
theorem dX10_flattenCubic_77 : decode cX10_flattenCubic 77 = .ok (.iload_n 3, 1) := by decide +kernel
theorem dX10_flattenCubic_78 : decode cX10_flattenCubic 78 = .ok (.iconst 3, 1) := by decide +kernel
theorem dX10_flattenCubic_79 : decode cX10_flattenCubic 79 = .ok (.iadd, 1) := by decide +kernel
theorem dX10_flattenCubic_80 : decode cX10_flattenCubic 80 = .ok (.iaload, 1) := by decide +kernel
theorem dX10_flattenCubic_81 : decode cX10_flattenCubic 81 = .ok (.istore 8, 2) := by decide +kernel
theorem dX10_flattenCubic_83 : decode cX10_flattenCubic 83 = .ok (.aload_n 0, 1) := by decide +kernel
theorem dX10_flattenCubic_84 : decode cX10_flattenCubic 84 = .ok (.getfield 62, 3) := by decide +kernel
theorem dX10_flattenCubic_87 : decode cX10_flattenCubic 87 = .ok (.iload_n 3, 1) := by decide +kernel
theorem dX10_flattenCubic_88 : decode cX10_flattenCubic 88 = .ok (.iconst 4, 1) := by decide +kernel
theorem dX10_flattenCubic_89 : decode cX10_flattenCubic 89 = .ok (.iadd, 1) := by decide +kernel
theorem dX10_flattenCubic_90 : decode cX10_flattenCubic 90 = .ok (.iaload, 1) := by decide +kernel
theorem dX10_flattenCubic_91 : decode cX10_flattenCubic 91 = .ok (.istore 9, 2) := by decide +kernel
theorem dX10_flattenCubic_93 : decode cX10_flattenCubic 93 = .ok (.aload_n 0, 1) := by decide +kernel
theorem dX10_flattenCubic_94 : decode cX10_flattenCubic 94 = .ok (.getfield 62, 3) := by decide +kernel
theorem dX10_flattenCubic_97 : decode cX10_flattenCubic 97 = .ok (.iload_n 3, 1) := by decide +kernel
theorem dX10_flattenCubic_98 : decode cX10_flattenCubic 98 = .ok (.iconst 5, 1) := by decide +kernel
theorem dX10_flattenCubic_99 : decode cX10_flattenCubic 99 = .ok (.iadd, 1) := by decide +kernel
theorem dX10_flattenCubic_100 : decode cX10_flattenCubic 100 = .ok (.iaload, 1) := by decide +kernel
theorem dX10_flattenCubic_101 : decode cX10_flattenCubic 101 = .ok (.istore 10, 2) := by decide +kernel
theorem dX10_flattenCubic_103 : decode cX10_flattenCubic 103 = .ok (.aload_n 0, 1) := by decide +kernel
theorem dX10_flattenCubic_104 : decode cX10_flattenCubic 104 = .ok (.getfield 62, 3) := by decide +kernel
theorem dX10_flattenCubic_107 : decode cX10_flattenCubic 107 = .ok (.iload_n 3, 1) := by decide +kernel
theorem dX10_flattenCubic_108 : decode cX10_flattenCubic 108 = .ok (.bipush 6, 2) := by decide +kernel
theorem dX10_flattenCubic_110 : decode cX10_flattenCubic 110 = .ok (.iadd, 1) := by decide +kernel
theorem dX10_flattenCubic_111 : decode cX10_flattenCubic 111 = .ok (.iaload, 1) := by decide +kernel
theorem dX10_flattenCubic_112 : decode cX10_flattenCubic 112 = .ok (.istore 11, 2) := by decide +kernel
theorem dX10_flattenCubic_114 : decode cX10_flattenCubic 114 = .ok (.aload_n 0, 1) := by decide +kernel
theorem dX10_flattenCubic_115 : decode cX10_flattenCubic 115 = .ok (.getfield 62, 3) := by decide +kernel
theorem dX10_flattenCubic_118 : decode cX10_flattenCubic 118 = .ok (.iload_n 3, 1) := by decide +kernel
theorem dX10_flattenCubic_119 : decode cX10_flattenCubic 119 = .ok (.bipush 7, 2) := by decide +kernel
theorem dX10_flattenCubic_121 : decode cX10_flattenCubic 121 = .ok (.iadd, 1) := by decide +kernel
theorem dX10_flattenCubic_122 : decode cX10_flattenCubic 122 = .ok (.iaload, 1) := by decide +kernel
theorem dX10_flattenCubic_123 : decode cX10_flattenCubic 123 = .ok (.istore 12, 2) := by decide +kernel
theorem dX10_flattenCubic_125 : decode cX10_flattenCubic 125 = .ok (.iload 5, 2) := by decide +kernel
theorem dX10_flattenCubic_127 : decode cX10_flattenCubic 127 = .ok (.iload 7, 2) := by decide +kernel
theorem dX10_flattenCubic_129 : decode cX10_flattenCubic 129 = .ok (.iload 9, 2) := by decide +kernel
theorem dX10_flattenCubic_131 : decode cX10_flattenCubic 131 = .ok (.invokestatic 223, 3) := by decide +kernel
theorem dX10_flattenCubic_134 : decode cX10_flattenCubic 134 = .ok (.iload 6, 2) := by decide +kernel
theorem dX10_flattenCubic_136 : decode cX10_flattenCubic 136 = .ok (.iload 8, 2) := by decide +kernel
theorem dX10_flattenCubic_138 : decode cX10_flattenCubic 138 = .ok (.iload 10, 2) := by decide +kernel
theorem dX10_flattenCubic_140 : decode cX10_flattenCubic 140 = .ok (.invokestatic 223, 3) := by decide +kernel
theorem dX10_flattenCubic_143 : decode cX10_flattenCubic 143 = .ok (.iadd, 1) := by decide +kernel
theorem dX10_flattenCubic_144 : decode cX10_flattenCubic 144 = .ok (.iconst 2, 1) := by decide +kernel
theorem dX10_flattenCubic_145 : decode cX10_flattenCubic 145 = .ok (.iload_n 2, 1) := by decide +kernel
theorem dX10_flattenCubic_146 : decode cX10_flattenCubic 146 = .ok (.imul, 1) := by decide +kernel
theorem dX10_flattenCubic_147 : decode cX10_flattenCubic 147 = .ok (.if_icmp .gt 32, 3) := by decide +kernel
theorem dX10_flattenCubic_150 : decode cX10_flattenCubic 150 = .ok (.iload 7, 2) := by decide +kernel
theorem dX10_flattenCubic_152 : decode cX10_flattenCubic 152 = .ok (.iload 9, 2) := by decide +kernel
theorem dX10_flattenCubic_154 : decode cX10_flattenCubic 154 = .ok (.iload 11, 2) := by decide +kernel
theorem dX10_flattenCubic_156 : decode cX10_flattenCubic 156 = .ok (.invokestatic 223, 3) := by decide +kernel
theorem dX10_flattenCubic_159 : decode cX10_flattenCubic 159 = .ok (.iload 8, 2) := by decide +kernel
theorem dX10_flattenCubic_161 : decode cX10_flattenCubic 161 = .ok (.iload 10, 2) := by decide +kernel
theorem dX10_flattenCubic_163 : decode cX10_flattenCubic 163 = .ok (.iload 12, 2) := by decide +kernel
theorem dX10_flattenCubic_165 : decode cX10_flattenCubic 165 = .ok (.invokestatic 223, 3) := by decide +kernel
theorem dX10_flattenCubic_168 : decode cX10_flattenCubic 168 = .ok (.iadd, 1) := by decide +kernel
theorem dX10_flattenCubic_169 : decode cX10_flattenCubic 169 = .ok (.iconst 2, 1) := by decide +kernel
theorem dX10_flattenCubic_170 : decode cX10_flattenCubic 170 = .ok (.iload_n 2, 1) := by decide +kernel
theorem dX10_flattenCubic_171 : decode cX10_flattenCubic 171 = .ok (.imul, 1) := by decide +kernel
theorem dX10_flattenCubic_172 : decode cX10_flattenCubic 172 = .ok (.if_icmp .gt 7, 3) := by decide +kernel
theorem dX10_flattenCubic_175 : decode cX10_flattenCubic 175 = .ok (.iconst 1, 1) := by decide +kernel
theorem dX10_flattenCubic_176 : decode cX10_flattenCubic 176 = .ok (.goto 4, 3) := by decide +kernel
theorem dX10_flattenCubic_179 : decode cX10_flattenCubic 179 = .ok (.iconst 0, 1) := by decide +kernel
theorem dX10_flattenCubic_180 : decode cX10_flattenCubic 180 = .ok (.istore 13, 2) := by decide +kernel
theorem dX10_flattenCubic_182 : decode cX10_flattenCubic 182 = .ok (.iload 4, 2) := by decide +kernel
theorem dX10_flattenCubic_184 : decode cX10_flattenCubic 184 = .ok (.bipush 6, 2) := by decide +kernel
theorem dX10_flattenCubic_186 : decode cX10_flattenCubic 186 = .ok (.if_icmp .eq 8, 3) := by decide +kernel
theorem dX10_flattenCubic_189 : decode cX10_flattenCubic 189 = .ok (.iload 13, 2) := by decide +kernel
theorem dX10_flattenCubic_191 : decode cX10_flattenCubic 191 = .ok (.ifCond .eq 15, 3) := by decide +kernel
theorem dX10_flattenCubic_194 : decode cX10_flattenCubic 194 = .ok (.aload_n 0, 1) := by decide +kernel
theorem dX10_flattenCubic_195 : decode cX10_flattenCubic 195 = .ok (.iload_n 1, 1) := by decide +kernel
theorem dX10_flattenCubic_196 : decode cX10_flattenCubic 196 = .ok (.iload 11, 2) := by decide +kernel
theorem dX10_flattenCubic_198 : decode cX10_flattenCubic 198 = .ok (.iload 12, 2) := by decide +kernel
theorem dX10_flattenCubic_200 : decode cX10_flattenCubic 200 = .ok (.invokevirtual 227, 3) := by decide +kernel
theorem dX10_flattenCubic_203 : decode cX10_flattenCubic 203 = .ok (.goto 159, 3) := by decide +kernel
theorem dX10_flattenCubic_206 : decode cX10_flattenCubic 206 = .ok (.iload 7, 2) := by decide +kernel
theorem dX10_flattenCubic_208 : decode cX10_flattenCubic 208 = .ok (.iload 9, 2) := by decide +kernel
theorem dX10_flattenCubic_210 : decode cX10_flattenCubic 210 = .ok (.invokestatic 231, 3) := by decide +kernel
theorem dX10_flattenCubic_213 : decode cX10_flattenCubic 213 = .ok (.istore 14, 2) := by decide +kernel
theorem dX10_flattenCubic_215 : decode cX10_flattenCubic 215 = .ok (.iload 8, 2) := by decide +kernel
theorem dX10_flattenCubic_217 : decode cX10_flattenCubic 217 = .ok (.iload 10, 2) := by decide +kernel
theorem dX10_flattenCubic_219 : decode cX10_flattenCubic 219 = .ok (.invokestatic 231, 3) := by decide +kernel
theorem dX10_flattenCubic_222 : decode cX10_flattenCubic 222 = .ok (.istore 15, 2) := by decide +kernel
theorem dX10_flattenCubic_224 : decode cX10_flattenCubic 224 = .ok (.iload 5, 2) := by decide +kernel
theorem dX10_flattenCubic_226 : decode cX10_flattenCubic 226 = .ok (.iload 7, 2) := by decide +kernel
theorem dX10_flattenCubic_228 : decode cX10_flattenCubic 228 = .ok (.invokestatic 231, 3) := by decide +kernel
theorem dX10_flattenCubic_231 : decode cX10_flattenCubic 231 = .ok (.istore 16, 2) := by decide +kernel
theorem dX10_flattenCubic_233 : decode cX10_flattenCubic 233 = .ok (.iload 6, 2) := by decide +kernel
theorem dX10_flattenCubic_235 : decode cX10_flattenCubic 235 = .ok (.iload 8, 2) := by decide +kernel
theorem dX10_flattenCubic_237 : decode cX10_flattenCubic 237 = .ok (.invokestatic 231, 3) := by decide +kernel
theorem dX10_flattenCubic_240 : decode cX10_flattenCubic 240 = .ok (.istore 17, 2) := by decide +kernel
theorem dX10_flattenCubic_242 : decode cX10_flattenCubic 242 = .ok (.iload 9, 2) := by decide +kernel
theorem dX10_flattenCubic_244 : decode cX10_flattenCubic 244 = .ok (.iload 11, 2) := by decide +kernel
theorem dX10_flattenCubic_246 : decode cX10_flattenCubic 246 = .ok (.invokestatic 231, 3) := by decide +kernel
theorem dX10_flattenCubic_249 : decode cX10_flattenCubic 249 = .ok (.istore 18, 2) := by decide +kernel
theorem dX10_flattenCubic_251 : decode cX10_flattenCubic 251 = .ok (.iload 10, 2) := by decide +kernel
theorem dX10_flattenCubic_253 : decode cX10_flattenCubic 253 = .ok (.iload 12, 2) := by decide +kernel
theorem dX10_flattenCubic_255 : decode cX10_flattenCubic 255 = .ok (.invokestatic 231, 3) := by decide +kernel
theorem dX10_flattenCubic_258 : decode cX10_flattenCubic 258 = .ok (.istore 19, 2) := by decide +kernel
theorem dX10_flattenCubic_260 : decode cX10_flattenCubic 260 = .ok (.iload 16, 2) := by decide +kernel
theorem dX10_flattenCubic_262 : decode cX10_flattenCubic 262 = .ok (.iload 14, 2) := by decide +kernel
theorem dX10_flattenCubic_264 : decode cX10_flattenCubic 264 = .ok (.invokestatic 231, 3) := by decide +kernel
theorem dX10_flattenCubic_267 : decode cX10_flattenCubic 267 = .ok (.istore 20, 2) := by decide +kernel
theorem dX10_flattenCubic_269 : decode cX10_flattenCubic 269 = .ok (.iload 17, 2) := by decide +kernel
theorem dX10_flattenCubic_271 : decode cX10_flattenCubic 271 = .ok (.iload 15, 2) := by decide +kernel
theorem dX10_flattenCubic_273 : decode cX10_flattenCubic 273 = .ok (.invokestatic 231, 3) := by decide +kernel
theorem dX10_flattenCubic_276 : decode cX10_flattenCubic 276 = .ok (.istore 21, 2) := by decide +kernel
theorem dX10_flattenCubic_278 : decode cX10_flattenCubic 278 = .ok (.iload 14, 2) := by decide +kernel
theorem dX10_flattenCubic_280 : decode cX10_flattenCubic 280 = .ok (.iload 18, 2) := by decide +kernel
theorem dX10_flattenCubic_282 : decode cX10_flattenCubic 282 = .ok (.invokestatic 231, 3) := by decide +kernel
theorem dX10_flattenCubic_285 : decode cX10_flattenCubic 285 = .ok (.istore 22, 2) := by decide +kernel
theorem dX10_flattenCubic_287 : decode cX10_flattenCubic 287 = .ok (.iload 15, 2) := by decide +kernel
theorem dX10_flattenCubic_289 : decode cX10_flattenCubic 289 = .ok (.iload 19, 2) := by decide +kernel
theorem dX10_flattenCubic_291 : decode cX10_flattenCubic 291 = .ok (.invokestatic 231, 3) := by decide +kernel
theorem dX10_flattenCubic_294 : decode cX10_flattenCubic 294 = .ok (.istore 23, 2) := by decide +kernel
theorem dX10_flattenCubic_296 : decode cX10_flattenCubic 296 = .ok (.iload 20, 2) := by decide +kernel
theorem dX10_flattenCubic_298 : decode cX10_flattenCubic 298 = .ok (.iload 22, 2) := by decide +kernel
theorem dX10_flattenCubic_300 : decode cX10_flattenCubic 300 = .ok (.invokestatic 231, 3) := by decide +kernel
theorem dX10_flattenCubic_303 : decode cX10_flattenCubic 303 = .ok (.istore 24, 2) := by decide +kernel
theorem dX10_flattenCubic_305 : decode cX10_flattenCubic 305 = .ok (.iload 21, 2) := by decide +kernel
theorem dX10_flattenCubic_307 : decode cX10_flattenCubic 307 = .ok (.iload 23, 2) := by decide +kernel
theorem dX10_flattenCubic_309 : decode cX10_flattenCubic 309 = .ok (.invokestatic 231, 3) := by decide +kernel
theorem dX10_flattenCubic_312 : decode cX10_flattenCubic 312 = .ok (.istore 25, 2) := by decide +kernel
theorem dX10_flattenCubic_314 : decode cX10_flattenCubic 314 = .ok (.aload_n 0, 1) := by decide +kernel
theorem dX10_flattenCubic_315 : decode cX10_flattenCubic 315 = .ok (.iload 4, 2) := by decide +kernel
theorem dX10_flattenCubic_317 : decode cX10_flattenCubic 317 = .ok (.iconst 1, 1) := by decide +kernel
theorem dX10_flattenCubic_318 : decode cX10_flattenCubic 318 = .ok (.iadd, 1) := by decide +kernel
theorem dX10_flattenCubic_319 : decode cX10_flattenCubic 319 = .ok (.iload 24, 2) := by decide +kernel
theorem dX10_flattenCubic_321 : decode cX10_flattenCubic 321 = .ok (.iload 25, 2) := by decide +kernel
theorem dX10_flattenCubic_323 : decode cX10_flattenCubic 323 = .ok (.iload 22, 2) := by decide +kernel
theorem dX10_flattenCubic_325 : decode cX10_flattenCubic 325 = .ok (.iload 23, 2) := by decide +kernel
theorem dX10_flattenCubic_327 : decode cX10_flattenCubic 327 = .ok (.iload 18, 2) := by decide +kernel
theorem dX10_flattenCubic_329 : decode cX10_flattenCubic 329 = .ok (.iload 19, 2) := by decide +kernel
theorem dX10_flattenCubic_331 : decode cX10_flattenCubic 331 = .ok (.iload 11, 2) := by decide +kernel
theorem dX10_flattenCubic_333 : decode cX10_flattenCubic 333 = .ok (.iload 12, 2) := by decide +kernel
theorem dX10_flattenCubic_335 : decode cX10_flattenCubic 335 = .ok (.invokevirtual 235, 3) := by decide +kernel
theorem dX10_flattenCubic_338 : decode cX10_flattenCubic 338 = .ok (.aload_n 0, 1) := by decide +kernel
theorem dX10_flattenCubic_339 : decode cX10_flattenCubic 339 = .ok (.iload 4, 2) := by decide +kernel
theorem dX10_flattenCubic_341 : decode cX10_flattenCubic 341 = .ok (.iconst 1, 1) := by decide +kernel
theorem dX10_flattenCubic_342 : decode cX10_flattenCubic 342 = .ok (.iadd, 1) := by decide +kernel
theorem dX10_flattenCubic_343 : decode cX10_flattenCubic 343 = .ok (.iload 5, 2) := by decide +kernel
theorem dX10_flattenCubic_345 : decode cX10_flattenCubic 345 = .ok (.iload 6, 2) := by decide +kernel
theorem dX10_flattenCubic_347 : decode cX10_flattenCubic 347 = .ok (.iload 16, 2) := by decide +kernel
theorem dX10_flattenCubic_349 : decode cX10_flattenCubic 349 = .ok (.iload 17, 2) := by decide +kernel
theorem dX10_flattenCubic_351 : decode cX10_flattenCubic 351 = .ok (.iload 20, 2) := by decide +kernel
theorem dX10_flattenCubic_353 : decode cX10_flattenCubic 353 = .ok (.iload 21, 2) := by decide +kernel
theorem dX10_flattenCubic_355 : decode cX10_flattenCubic 355 = .ok (.iload 24, 2) := by decide +kernel
theorem dX10_flattenCubic_357 : decode cX10_flattenCubic 357 = .ok (.iload 25, 2) := by decide +kernel
theorem dX10_flattenCubic_359 : decode cX10_flattenCubic 359 = .ok (.invokevirtual 235, 3) := by decide +kernel
theorem dX10_flattenCubic_362 : decode cX10_flattenCubic 362 = .ok (.goto (-353), 3) := by decide +kernel
theorem dX10_flattenCubic_365 : decode cX10_flattenCubic 365 = .ok (.return_, 1) := by decide +kernel
theorem dX10_flatten_0 : decode cX10_flatten 0 = .ok (.aload_n 0, 1) := by decide +kernel
theorem dX10_flatten_1 : decode cX10_flatten 1 = .ok (.iconst 0, 1) := by decide +kernel
theorem dX10_flatten_2 : decode cX10_flatten 2 = .ok (.putfield 208, 3) := by decide +kernel
theorem dX10_flatten_5 : decode cX10_flatten 5 = .ok (.aload_n 0, 1) := by decide +kernel
theorem dX10_flatten_6 : decode cX10_flatten 6 = .ok (.iconst 0, 1) := by decide +kernel
theorem dX10_flatten_7 : decode cX10_flatten 7 = .ok (.putfield 211, 3) := by decide +kernel
theorem dX10_flatten_10 : decode cX10_flatten 10 = .ok (.iconst 0, 1) := by decide +kernel
theorem dX10_flatten_11 : decode cX10_flatten 11 = .ok (.istore_n 1, 1) := by decide +kernel
theorem dX10_flatten_12 : decode cX10_flatten 12 = .ok (.iload_n 1, 1) := by decide +kernel
theorem dX10_flatten_13 : decode cX10_flatten 13 = .ok (.aload_n 0, 1) := by decide +kernel
theorem dX10_flatten_14 : decode cX10_flatten 14 = .ok (.invokevirtual 89, 3) := by decide +kernel
theorem dX10_flatten_17 : decode cX10_flatten 17 = .ok (.if_icmp .ge 255, 3) := by decide +kernel
theorem dX10_flatten_20 : decode cX10_flatten 20 = .ok (.aload_n 0, 1) := by decide +kernel
theorem dX10_flatten_21 : decode cX10_flatten 21 = .ok (.getfield 59, 3) := by decide +kernel
theorem dX10_flatten_24 : decode cX10_flatten 24 = .ok (.iload_n 1, 1) := by decide +kernel
theorem dX10_flatten_25 : decode cX10_flatten 25 = .ok (.iconst 0, 1) := by decide +kernel
theorem dX10_flatten_26 : decode cX10_flatten 26 = .ok (.iastore, 1) := by decide +kernel
theorem dX10_flatten_27 : decode cX10_flatten 27 = .ok (.bipush 7, 2) := by decide +kernel
theorem dX10_flatten_29 : decode cX10_flatten 29 = .ok (.iload_n 1, 1) := by decide +kernel
theorem dX10_flatten_30 : decode cX10_flatten 30 = .ok (.imul, 1) := by decide +kernel
theorem dX10_flatten_31 : decode cX10_flatten 31 = .ok (.istore_n 2, 1) := by decide +kernel
theorem dX10_flatten_32 : decode cX10_flatten 32 = .ok (.aload_n 0, 1) := by decide +kernel
theorem dX10_flatten_33 : decode cX10_flatten 33 = .ok (.iconst 0, 1) := by decide +kernel
theorem dX10_flatten_34 : decode cX10_flatten 34 = .ok (.putfield 220, 3) := by decide +kernel
theorem dX10_flatten_37 : decode cX10_flatten 37 = .ok (.aload_n 0, 1) := by decide +kernel
theorem dX10_flatten_38 : decode cX10_flatten 38 = .ok (.iload_n 1, 1) := by decide +kernel
theorem dX10_flatten_39 : decode cX10_flatten 39 = .ok (.invokevirtual 93, 3) := by decide +kernel
theorem dX10_flatten_42 : decode cX10_flatten 42 = .ok (.tableswitch 209 0 3 #[30, 209, 71, 133], 30) := by decide +kernel
theorem dX10_flatten_72 : decode cX10_flatten 72 = .ok (.aload_n 0, 1) := by decide +kernel
theorem dX10_flatten_73 : decode cX10_flatten 73 = .ok (.getfield 56, 3) := by decide +kernel
theorem dX10_flatten_76 : decode cX10_flatten 76 = .ok (.aload_n 0, 1) := by decide +kernel
theorem dX10_flatten_77 : decode cX10_flatten 77 = .ok (.getfield 211, 3) := by decide +kernel
theorem dX10_flatten_80 : decode cX10_flatten 80 = .ok (.aload_n 0, 1) := by decide +kernel
theorem dX10_flatten_81 : decode cX10_flatten 81 = .ok (.getfield 208, 3) := by decide +kernel
theorem dX10_flatten_84 : decode cX10_flatten 84 = .ok (.iastore, 1) := by decide +kernel
theorem dX10_flatten_85 : decode cX10_flatten 85 = .ok (.aload_n 0, 1) := by decide +kernel
theorem dX10_flatten_86 : decode cX10_flatten 86 = .ok (.dup, 1) := by decide +kernel
theorem dX10_flatten_87 : decode cX10_flatten 87 = .ok (.getfield 211, 3) := by decide +kernel
theorem dX10_flatten_90 : decode cX10_flatten 90 = .ok (.iconst 1, 1) := by decide +kernel
theorem dX10_flatten_91 : decode cX10_flatten 91 = .ok (.iadd, 1) := by decide +kernel
theorem dX10_flatten_92 : decode cX10_flatten 92 = .ok (.putfield 211, 3) := by decide +kernel
theorem dX10_flatten_95 : decode cX10_flatten 95 = .ok (.aload_n 0, 1) := by decide +kernel
theorem dX10_flatten_96 : decode cX10_flatten 96 = .ok (.iload_n 1, 1) := by decide +kernel
theorem dX10_flatten_97 : decode cX10_flatten 97 = .ok (.aload_n 0, 1) := by decide +kernel
theorem dX10_flatten_98 : decode cX10_flatten 98 = .ok (.iload_n 1, 1) := by decide +kernel
theorem dX10_flatten_99 : decode cX10_flatten 99 = .ok (.invokevirtual 114, 3) := by decide +kernel
theorem dX10_flatten_102 : decode cX10_flatten 102 = .ok (.aload_n 0, 1) := by decide +kernel
theorem dX10_flatten_103 : decode cX10_flatten 103 = .ok (.iload_n 1, 1) := by decide +kernel
theorem dX10_flatten_104 : decode cX10_flatten 104 = .ok (.invokevirtual 117, 3) := by decide +kernel
theorem dX10_flatten_107 : decode cX10_flatten 107 = .ok (.invokevirtual 227, 3) := by decide +kernel
theorem dX10_flatten_110 : decode cX10_flatten 110 = .ok (.goto 156, 3) := by decide +kernel
theorem dX10_flatten_113 : decode cX10_flatten 113 = .ok (.aload_n 0, 1) := by decide +kernel
theorem dX10_flatten_114 : decode cX10_flatten 114 = .ok (.iconst 0, 1) := by decide +kernel
theorem dX10_flatten_115 : decode cX10_flatten 115 = .ok (.aload_n 0, 1) := by decide +kernel
theorem dX10_flatten_116 : decode cX10_flatten 116 = .ok (.iload_n 1, 1) := by decide +kernel
theorem dX10_flatten_117 : decode cX10_flatten 117 = .ok (.iconst 1, 1) := by decide +kernel
theorem dX10_flatten_118 : decode cX10_flatten 118 = .ok (.isub, 1) := by decide +kernel
theorem dX10_flatten_119 : decode cX10_flatten 119 = .ok (.invokevirtual 114, 3) := by decide +kernel
theorem dX10_flatten_122 : decode cX10_flatten 122 = .ok (.aload_n 0, 1) := by decide +kernel
theorem dX10_flatten_123 : decode cX10_flatten 123 = .ok (.iload_n 1, 1) := by decide +kernel
theorem dX10_flatten_124 : decode cX10_flatten 124 = .ok (.iconst 1, 1) := by decide +kernel
theorem dX10_flatten_125 : decode cX10_flatten 125 = .ok (.isub, 1) := by decide +kernel
theorem dX10_flatten_126 : decode cX10_flatten 126 = .ok (.invokevirtual 117, 3) := by decide +kernel
theorem dX10_flatten_129 : decode cX10_flatten 129 = .ok (.aload_n 0, 1) := by decide +kernel
theorem dX10_flatten_130 : decode cX10_flatten 130 = .ok (.getfield 9, 3) := by decide +kernel
theorem dX10_flatten_133 : decode cX10_flatten 133 = .ok (.iload_n 2, 1) := by decide +kernel
theorem dX10_flatten_134 : decode cX10_flatten 134 = .ok (.iconst 1, 1) := by decide +kernel
theorem dX10_flatten_135 : decode cX10_flatten 135 = .ok (.iadd, 1) := by decide +kernel
theorem dX10_flatten_136 : decode cX10_flatten 136 = .ok (.iaload, 1) := by decide +kernel
theorem dX10_flatten_137 : decode cX10_flatten 137 = .ok (.aload_n 0, 1) := by decide +kernel
theorem dX10_flatten_138 : decode cX10_flatten 138 = .ok (.getfield 9, 3) := by decide +kernel
theorem dX10_flatten_141 : decode cX10_flatten 141 = .ok (.iload_n 2, 1) := by decide +kernel
theorem dX10_flatten_142 : decode cX10_flatten 142 = .ok (.iconst 2, 1) := by decide +kernel
theorem dX10_flatten_143 : decode cX10_flatten 143 = .ok (.iadd, 1) := by decide +kernel
theorem dX10_flatten_144 : decode cX10_flatten 144 = .ok (.iaload, 1) := by decide +kernel
theorem dX10_flatten_145 : decode cX10_flatten 145 = .ok (.aload_n 0, 1) := by decide +kernel
theorem dX10_flatten_146 : decode cX10_flatten 146 = .ok (.getfield 9, 3) := by decide +kernel
theorem dX10_flatten_149 : decode cX10_flatten 149 = .ok (.iload_n 2, 1) := by decide +kernel
theorem dX10_flatten_150 : decode cX10_flatten 150 = .ok (.iconst 5, 1) := by decide +kernel
theorem dX10_flatten_151 : decode cX10_flatten 151 = .ok (.iadd, 1) := by decide +kernel
theorem dX10_flatten_152 : decode cX10_flatten 152 = .ok (.iaload, 1) := by decide +kernel
theorem dX10_flatten_153 : decode cX10_flatten 153 = .ok (.aload_n 0, 1) := by decide +kernel
theorem dX10_flatten_154 : decode cX10_flatten 154 = .ok (.getfield 9, 3) := by decide +kernel
theorem dX10_flatten_157 : decode cX10_flatten 157 = .ok (.iload_n 2, 1) := by decide +kernel
theorem dX10_flatten_158 : decode cX10_flatten 158 = .ok (.bipush 6, 2) := by decide +kernel
theorem dX10_flatten_160 : decode cX10_flatten 160 = .ok (.iadd, 1) := by decide +kernel
theorem dX10_flatten_161 : decode cX10_flatten 161 = .ok (.iaload, 1) := by decide +kernel
theorem dX10_flatten_162 : decode cX10_flatten 162 = .ok (.iconst 0, 1) := by decide +kernel
theorem dX10_flatten_163 : decode cX10_flatten 163 = .ok (.iconst 0, 1) := by decide +kernel
theorem dX10_flatten_164 : decode cX10_flatten 164 = .ok (.invokevirtual 235, 3) := by decide +kernel
theorem dX10_flatten_167 : decode cX10_flatten 167 = .ok (.aload_n 0, 1) := by decide +kernel
theorem dX10_flatten_168 : decode cX10_flatten 168 = .ok (.iload_n 1, 1) := by decide +kernel
theorem dX10_flatten_169 : decode cX10_flatten 169 = .ok (.invokevirtual 239, 3) := by decide +kernel
theorem dX10_flatten_172 : decode cX10_flatten 172 = .ok (.goto 94, 3) := by decide +kernel
theorem dX10_flatten_175 : decode cX10_flatten 175 = .ok (.aload_n 0, 1) := by decide +kernel
theorem dX10_flatten_176 : decode cX10_flatten 176 = .ok (.iconst 0, 1) := by decide +kernel
theorem dX10_flatten_177 : decode cX10_flatten 177 = .ok (.aload_n 0, 1) := by decide +kernel
theorem dX10_flatten_178 : decode cX10_flatten 178 = .ok (.iload_n 1, 1) := by decide +kernel
theorem dX10_flatten_179 : decode cX10_flatten 179 = .ok (.iconst 1, 1) := by decide +kernel
theorem dX10_flatten_180 : decode cX10_flatten 180 = .ok (.isub, 1) := by decide +kernel
theorem dX10_flatten_181 : decode cX10_flatten 181 = .ok (.invokevirtual 114, 3) := by decide +kernel
theorem dX10_flatten_184 : decode cX10_flatten 184 = .ok (.aload_n 0, 1) := by decide +kernel
theorem dX10_flatten_185 : decode cX10_flatten 185 = .ok (.iload_n 1, 1) := by decide +kernel
theorem dX10_flatten_186 : decode cX10_flatten 186 = .ok (.iconst 1, 1) := by decide +kernel
theorem dX10_flatten_187 : decode cX10_flatten 187 = .ok (.isub, 1) := by decide +kernel
theorem dX10_flatten_188 : decode cX10_flatten 188 = .ok (.invokevirtual 117, 3) := by decide +kernel
theorem dX10_flatten_191 : decode cX10_flatten 191 = .ok (.aload_n 0, 1) := by decide +kernel
theorem dX10_flatten_192 : decode cX10_flatten 192 = .ok (.getfield 9, 3) := by decide +kernel
theorem dX10_flatten_195 : decode cX10_flatten 195 = .ok (.iload_n 2, 1) := by decide +kernel
theorem dX10_flatten_196 : decode cX10_flatten 196 = .ok (.iconst 1, 1) := by decide +kernel
theorem dX10_flatten_197 : decode cX10_flatten 197 = .ok (.iadd, 1) := by decide +kernel
theorem dX10_flatten_198 : decode cX10_flatten 198 = .ok (.iaload, 1) := by decide +kernel
theorem dX10_flatten_199 : decode cX10_flatten 199 = .ok (.aload_n 0, 1) := by decide +kernel
theorem dX10_flatten_200 : decode cX10_flatten 200 = .ok (.getfield 9, 3) := by decide +kernel
theorem dX10_flatten_203 : decode cX10_flatten 203 = .ok (.iload_n 2, 1) := by decide +kernel
theorem dX10_flatten_204 : decode cX10_flatten 204 = .ok (.iconst 2, 1) := by decide +kernel
theorem dX10_flatten_205 : decode cX10_flatten 205 = .ok (.iadd, 1) := by decide +kernel
theorem dX10_flatten_206 : decode cX10_flatten 206 = .ok (.iaload, 1) := by decide +kernel
theorem dX10_flatten_207 : decode cX10_flatten 207 = .ok (.aload_n 0, 1) := by decide +kernel
theorem dX10_flatten_208 : decode cX10_flatten 208 = .ok (.getfield 9, 3) := by decide +kernel
theorem dX10_flatten_211 : decode cX10_flatten 211 = .ok (.iload_n 2, 1) := by decide +kernel
theorem dX10_flatten_212 : decode cX10_flatten 212 = .ok (.iconst 3, 1) := by decide +kernel
theorem dX10_flatten_213 : decode cX10_flatten 213 = .ok (.iadd, 1) := by decide +kernel
theorem dX10_flatten_214 : decode cX10_flatten 214 = .ok (.iaload, 1) := by decide +kernel
theorem dX10_flatten_215 : decode cX10_flatten 215 = .ok (.aload_n 0, 1) := by decide +kernel
theorem dX10_flatten_216 : decode cX10_flatten 216 = .ok (.getfield 9, 3) := by decide +kernel
theorem dX10_flatten_219 : decode cX10_flatten 219 = .ok (.iload_n 2, 1) := by decide +kernel
theorem dX10_flatten_220 : decode cX10_flatten 220 = .ok (.iconst 4, 1) := by decide +kernel
theorem dX10_flatten_221 : decode cX10_flatten 221 = .ok (.iadd, 1) := by decide +kernel
theorem dX10_flatten_222 : decode cX10_flatten 222 = .ok (.iaload, 1) := by decide +kernel
theorem dX10_flatten_223 : decode cX10_flatten 223 = .ok (.aload_n 0, 1) := by decide +kernel
theorem dX10_flatten_224 : decode cX10_flatten 224 = .ok (.getfield 9, 3) := by decide +kernel
theorem dX10_flatten_227 : decode cX10_flatten 227 = .ok (.iload_n 2, 1) := by decide +kernel
theorem dX10_flatten_228 : decode cX10_flatten 228 = .ok (.iconst 5, 1) := by decide +kernel
theorem dX10_flatten_229 : decode cX10_flatten 229 = .ok (.iadd, 1) := by decide +kernel
theorem dX10_flatten_230 : decode cX10_flatten 230 = .ok (.iaload, 1) := by decide +kernel
theorem dX10_flatten_231 : decode cX10_flatten 231 = .ok (.aload_n 0, 1) := by decide +kernel
theorem dX10_flatten_232 : decode cX10_flatten 232 = .ok (.getfield 9, 3) := by decide +kernel
theorem dX10_flatten_235 : decode cX10_flatten 235 = .ok (.iload_n 2, 1) := by decide +kernel
theorem dX10_flatten_236 : decode cX10_flatten 236 = .ok (.bipush 6, 2) := by decide +kernel
theorem dX10_flatten_238 : decode cX10_flatten 238 = .ok (.iadd, 1) := by decide +kernel
theorem dX10_flatten_239 : decode cX10_flatten 239 = .ok (.iaload, 1) := by decide +kernel
theorem dX10_flatten_240 : decode cX10_flatten 240 = .ok (.invokevirtual 235, 3) := by decide +kernel
theorem dX10_flatten_243 : decode cX10_flatten 243 = .ok (.aload_n 0, 1) := by decide +kernel
theorem dX10_flatten_244 : decode cX10_flatten 244 = .ok (.iload_n 1, 1) := by decide +kernel
theorem dX10_flatten_245 : decode cX10_flatten 245 = .ok (.invokevirtual 242, 3) := by decide +kernel
theorem dX10_flatten_248 : decode cX10_flatten 248 = .ok (.goto 18, 3) := by decide +kernel
theorem dX10_flatten_251 : decode cX10_flatten 251 = .ok (.aload_n 0, 1) := by decide +kernel
theorem dX10_flatten_252 : decode cX10_flatten 252 = .ok (.iload_n 1, 1) := by decide +kernel
theorem dX10_flatten_253 : decode cX10_flatten 253 = .ok (.aload_n 0, 1) := by decide +kernel
theorem dX10_flatten_254 : decode cX10_flatten 254 = .ok (.iload_n 1, 1) := by decide +kernel
theorem dX10_flatten_255 : decode cX10_flatten 255 = .ok (.invokevirtual 114, 3) := by decide +kernel
theorem dX10_flatten_258 : decode cX10_flatten 258 = .ok (.aload_n 0, 1) := by decide +kernel
theorem dX10_flatten_259 : decode cX10_flatten 259 = .ok (.iload_n 1, 1) := by decide +kernel
theorem dX10_flatten_260 : decode cX10_flatten 260 = .ok (.invokevirtual 117, 3) := by decide +kernel
theorem dX10_flatten_263 : decode cX10_flatten 263 = .ok (.invokevirtual 227, 3) := by decide +kernel
theorem dX10_flatten_266 : decode cX10_flatten 266 = .ok (.iinc 1 1, 3) := by decide +kernel
theorem dX10_flatten_269 : decode cX10_flatten 269 = .ok (.goto (-257), 3) := by decide +kernel
theorem dX10_flatten_272 : decode cX10_flatten 272 = .ok (.aload_n 0, 1) := by decide +kernel
theorem dX10_flatten_273 : decode cX10_flatten 273 = .ok (.getfield 56, 3) := by decide +kernel
theorem dX10_flatten_276 : decode cX10_flatten 276 = .ok (.aload_n 0, 1) := by decide +kernel
theorem dX10_flatten_277 : decode cX10_flatten 277 = .ok (.getfield 211, 3) := by decide +kernel
theorem dX10_flatten_280 : decode cX10_flatten 280 = .ok (.aload_n 0, 1) := by decide +kernel
theorem dX10_flatten_281 : decode cX10_flatten 281 = .ok (.getfield 208, 3) := by decide +kernel
theorem dX10_flatten_284 : decode cX10_flatten 284 = .ok (.iastore, 1) := by decide +kernel
theorem dX10_flatten_285 : decode cX10_flatten 285 = .ok (.return_, 1) := by decide +kernel
theorem dX10_verticesOf_0 : decode cX10_verticesOf 0 = .ok (.aload_n 0, 1) := by decide +kernel
theorem dX10_verticesOf_1 : decode cX10_verticesOf 1 = .ok (.getfield 56, 3) := by decide +kernel
theorem dX10_verticesOf_4 : decode cX10_verticesOf 4 = .ok (.iload_n 1, 1) := by decide +kernel
theorem dX10_verticesOf_5 : decode cX10_verticesOf 5 = .ok (.iconst 1, 1) := by decide +kernel
theorem dX10_verticesOf_6 : decode cX10_verticesOf 6 = .ok (.iadd, 1) := by decide +kernel
theorem dX10_verticesOf_7 : decode cX10_verticesOf 7 = .ok (.iaload, 1) := by decide +kernel
theorem dX10_verticesOf_8 : decode cX10_verticesOf 8 = .ok (.aload_n 0, 1) := by decide +kernel
theorem dX10_verticesOf_9 : decode cX10_verticesOf 9 = .ok (.getfield 56, 3) := by decide +kernel
theorem dX10_verticesOf_12 : decode cX10_verticesOf 12 = .ok (.iload_n 1, 1) := by decide +kernel
theorem dX10_verticesOf_13 : decode cX10_verticesOf 13 = .ok (.iaload, 1) := by decide +kernel
theorem dX10_verticesOf_14 : decode cX10_verticesOf 14 = .ok (.isub, 1) := by decide +kernel
theorem dX10_verticesOf_15 : decode cX10_verticesOf 15 = .ok (.ireturn, 1) := by decide +kernel
theorem dX10_lengthOfContour_0 : decode cX10_lengthOfContour 0 = .ok (.aload_n 0, 1) := by decide +kernel
theorem dX10_lengthOfContour_1 : decode cX10_lengthOfContour 1 = .ok (.getfield 53, 3) := by decide +kernel
theorem dX10_lengthOfContour_4 : decode cX10_lengthOfContour 4 = .ok (.aload_n 0, 1) := by decide +kernel
theorem dX10_lengthOfContour_5 : decode cX10_lengthOfContour 5 = .ok (.getfield 56, 3) := by decide +kernel
theorem dX10_lengthOfContour_8 : decode cX10_lengthOfContour 8 = .ok (.iload_n 1, 1) := by decide +kernel
theorem dX10_lengthOfContour_9 : decode cX10_lengthOfContour 9 = .ok (.iconst 1, 1) := by decide +kernel
theorem dX10_lengthOfContour_10 : decode cX10_lengthOfContour 10 = .ok (.iadd, 1) := by decide +kernel
theorem dX10_lengthOfContour_11 : decode cX10_lengthOfContour 11 = .ok (.iaload, 1) := by decide +kernel
theorem dX10_lengthOfContour_12 : decode cX10_lengthOfContour 12 = .ok (.iconst 1, 1) := by decide +kernel
theorem dX10_lengthOfContour_13 : decode cX10_lengthOfContour 13 = .ok (.isub, 1) := by decide +kernel
theorem dX10_lengthOfContour_14 : decode cX10_lengthOfContour 14 = .ok (.iaload, 1) := by decide +kernel
theorem dX10_lengthOfContour_15 : decode cX10_lengthOfContour 15 = .ok (.ireturn, 1) := by decide +kernel
theorem dX10_isClosed_0 : decode cX10_isClosed 0 = .ok (.aload_n 0, 1) := by decide +kernel
theorem dX10_isClosed_1 : decode cX10_isClosed 1 = .ok (.aload_n 0, 1) := by decide +kernel
theorem dX10_isClosed_2 : decode cX10_isClosed 2 = .ok (.iload_n 1, 1) := by decide +kernel
theorem dX10_isClosed_3 : decode cX10_isClosed 3 = .ok (.iconst 1, 1) := by decide +kernel
theorem dX10_isClosed_4 : decode cX10_isClosed 4 = .ok (.iadd, 1) := by decide +kernel
theorem dX10_isClosed_5 : decode cX10_isClosed 5 = .ok (.invokevirtual 126, 3) := by decide +kernel
theorem dX10_isClosed_8 : decode cX10_isClosed 8 = .ok (.iconst 1, 1) := by decide +kernel
theorem dX10_isClosed_9 : decode cX10_isClosed 9 = .ok (.isub, 1) := by decide +kernel
theorem dX10_isClosed_10 : decode cX10_isClosed 10 = .ok (.invokevirtual 93, 3) := by decide +kernel
theorem dX10_isClosed_13 : decode cX10_isClosed 13 = .ok (.iconst 4, 1) := by decide +kernel
theorem dX10_isClosed_14 : decode cX10_isClosed 14 = .ok (.if_icmp .ne 7, 3) := by decide +kernel
theorem dX10_isClosed_17 : decode cX10_isClosed 17 = .ok (.iconst 1, 1) := by decide +kernel
theorem dX10_isClosed_18 : decode cX10_isClosed 18 = .ok (.goto 4, 3) := by decide +kernel
theorem dX10_isClosed_21 : decode cX10_isClosed 21 = .ok (.iconst 0, 1) := by decide +kernel
theorem dX10_isClosed_22 : decode cX10_isClosed 22 = .ok (.ireturn, 1) := by decide +kernel
theorem dX10_segmentAt_0 : decode cX10_segmentAt 0 = .ok (.iload_n 2, 1) := by decide +kernel
theorem dX10_segmentAt_1 : decode cX10_segmentAt 1 = .ok (.iload_n 1, 1) := by decide +kernel
theorem dX10_segmentAt_2 : decode cX10_segmentAt 2 = .ok (.isub, 1) := by decide +kernel
theorem dX10_segmentAt_3 : decode cX10_segmentAt 3 = .ok (.ireturn, 1) := by decide +kernel
theorem dX10_measured_0 : decode cX10_measured 0 = .ok (.iload_n 2, 1) := by decide +kernel
theorem dX10_measured_1 : decode cX10_measured 1 = .ok (.ifCond .ne 11, 3) := by decide +kernel
theorem dX10_measured_4 : decode cX10_measured 4 = .ok (.aload_n 0, 1) := by decide +kernel
theorem dX10_measured_5 : decode cX10_measured 5 = .ok (.iload_n 1, 1) := by decide +kernel
theorem dX10_measured_6 : decode cX10_measured 6 = .ok (.invokevirtual 245, 3) := by decide +kernel
theorem dX10_measured_9 : decode cX10_measured 9 = .ok (.goto 44, 3) := by decide +kernel
theorem dX10_measured_12 : decode cX10_measured 12 = .ok (.iload_n 2, 1) := by decide +kernel
theorem dX10_measured_13 : decode cX10_measured 13 = .ok (.iconst 1, 1) := by decide +kernel
theorem dX10_measured_14 : decode cX10_measured 14 = .ok (.if_icmp .ne 13, 3) := by decide +kernel
theorem dX10_measured_17 : decode cX10_measured 17 = .ok (.aload_n 0, 1) := by decide +kernel
theorem dX10_measured_18 : decode cX10_measured 18 = .ok (.iload_n 1, 1) := by decide +kernel
theorem dX10_measured_19 : decode cX10_measured 19 = .ok (.invokevirtual 245, 3) := by decide +kernel
theorem dX10_measured_22 : decode cX10_measured 22 = .ok (.iconst 1, 1) := by decide +kernel
theorem dX10_measured_23 : decode cX10_measured 23 = .ok (.isub, 1) := by decide +kernel
theorem dX10_measured_24 : decode cX10_measured 24 = .ok (.goto 29, 3) := by decide +kernel
theorem dX10_measured_27 : decode cX10_measured 27 = .ok (.iload_n 2, 1) := by decide +kernel
theorem dX10_measured_28 : decode cX10_measured 28 = .ok (.iconst 2, 1) := by decide +kernel
theorem dX10_measured_29 : decode cX10_measured 29 = .ok (.if_icmp .ne 11, 3) := by decide +kernel
theorem dX10_measured_32 : decode cX10_measured 32 = .ok (.aload_n 0, 1) := by decide +kernel
theorem dX10_measured_33 : decode cX10_measured 33 = .ok (.iload_n 1, 1) := by decide +kernel
theorem dX10_measured_34 : decode cX10_measured 34 = .ok (.invokevirtual 248, 3) := by decide +kernel
theorem dX10_measured_37 : decode cX10_measured 37 = .ok (.goto 16, 3) := by decide +kernel
theorem dX10_measured_40 : decode cX10_measured 40 = .ok (.aload_n 0, 1) := by decide +kernel
theorem dX10_measured_41 : decode cX10_measured 41 = .ok (.iload_n 1, 1) := by decide +kernel
theorem dX10_measured_42 : decode cX10_measured 42 = .ok (.invokevirtual 251, 3) := by decide +kernel
theorem dX10_measured_45 : decode cX10_measured 45 = .ok (.ifCond .eq 7, 3) := by decide +kernel
theorem dX10_measured_48 : decode cX10_measured 48 = .ok (.iconst 1, 1) := by decide +kernel
theorem dX10_measured_49 : decode cX10_measured 49 = .ok (.goto 4, 3) := by decide +kernel
theorem dX10_measured_52 : decode cX10_measured 52 = .ok (.iconst 0, 1) := by decide +kernel
theorem dX10_measured_53 : decode cX10_measured 53 = .ok (.ireturn, 1) := by decide +kernel
theorem dX10_measure_0 : decode cX10_measure 0 = .ok (.iload_n 1, 1) := by decide +kernel
theorem dX10_measure_1 : decode cX10_measure 1 = .ok (.iconst (-1), 1) := by decide +kernel
theorem dX10_measure_2 : decode cX10_measure 2 = .ok (.if_icmp .eq 14, 3) := by decide +kernel
theorem dX10_measure_5 : decode cX10_measure 5 = .ok (.aload_n 0, 1) := by decide +kernel
theorem dX10_measure_6 : decode cX10_measure 6 = .ok (.iload_n 1, 1) := by decide +kernel
theorem dX10_measure_7 : decode cX10_measure 7 = .ok (.invokevirtual 123, 3) := by decide +kernel
theorem dX10_measure_10 : decode cX10_measure 10 = .ok (.ifCond .ne 6, 3) := by decide +kernel
theorem dX10_measure_13 : decode cX10_measure 13 = .ok (.ldc 107, 2) := by decide +kernel
theorem dX10_measure_15 : decode cX10_measure 15 = .ok (.ireturn, 1) := by decide +kernel
theorem dX10_measure_16 : decode cX10_measure 16 = .ok (.iload_n 2, 1) := by decide +kernel
theorem dX10_measure_17 : decode cX10_measure 17 = .ok (.iconst 0, 1) := by decide +kernel
theorem dX10_measure_18 : decode cX10_measure 18 = .ok (.iconst 3, 1) := by decide +kernel
theorem dX10_measure_19 : decode cX10_measure 19 = .ok (.invokestatic 80, 3) := by decide +kernel
theorem dX10_measure_22 : decode cX10_measure 22 = .ok (.ifCond .ne 6, 3) := by decide +kernel
theorem dX10_measure_25 : decode cX10_measure 25 = .ok (.ldc 88, 2) := by decide +kernel
theorem dX10_measure_27 : decode cX10_measure 27 = .ok (.ireturn, 1) := by decide +kernel
theorem dX10_measure_28 : decode cX10_measure 28 = .ok (.aload_n 0, 1) := by decide +kernel
theorem dX10_measure_29 : decode cX10_measure 29 = .ok (.invokevirtual 111, 3) := by decide +kernel
theorem dX10_measure_32 : decode cX10_measure 32 = .ok (.iload_n 1, 1) := by decide +kernel
theorem dX10_measure_33 : decode cX10_measure 33 = .ok (.ifCond .lt 10, 3) := by decide +kernel
theorem dX10_measure_36 : decode cX10_measure 36 = .ok (.aload_n 0, 1) := by decide +kernel
theorem dX10_measure_37 : decode cX10_measure 37 = .ok (.iload_n 1, 1) := by decide +kernel
theorem dX10_measure_38 : decode cX10_measure 38 = .ok (.iload_n 2, 1) := by decide +kernel
theorem dX10_measure_39 : decode cX10_measure 39 = .ok (.invokevirtual 254, 3) := by decide +kernel
theorem dX10_measure_42 : decode cX10_measure 42 = .ok (.ireturn, 1) := by decide +kernel
theorem dX10_measure_43 : decode cX10_measure 43 = .ok (.iconst 0, 1) := by decide +kernel
theorem dX10_measure_44 : decode cX10_measure 44 = .ok (.istore_n 3, 1) := by decide +kernel
theorem dX10_measure_45 : decode cX10_measure 45 = .ok (.iconst 0, 1) := by decide +kernel
theorem dX10_measure_46 : decode cX10_measure 46 = .ok (.istore 4, 2) := by decide +kernel
theorem dX10_measure_48 : decode cX10_measure 48 = .ok (.iload 4, 2) := by decide +kernel
theorem dX10_measure_50 : decode cX10_measure 50 = .ok (.aload_n 0, 1) := by decide +kernel
theorem dX10_measure_51 : decode cX10_measure 51 = .ok (.getfield 211, 3) := by decide +kernel
theorem dX10_measure_54 : decode cX10_measure 54 = .ok (.if_icmp .ge 19, 3) := by decide +kernel
theorem dX10_measure_57 : decode cX10_measure 57 = .ok (.iload_n 3, 1) := by decide +kernel
theorem dX10_measure_58 : decode cX10_measure 58 = .ok (.aload_n 0, 1) := by decide +kernel
theorem dX10_measure_59 : decode cX10_measure 59 = .ok (.iload 4, 2) := by decide +kernel
theorem dX10_measure_61 : decode cX10_measure 61 = .ok (.iload_n 2, 1) := by decide +kernel
theorem dX10_measure_62 : decode cX10_measure 62 = .ok (.invokevirtual 254, 3) := by decide +kernel
theorem dX10_measure_65 : decode cX10_measure 65 = .ok (.iadd, 1) := by decide +kernel
theorem dX10_measure_66 : decode cX10_measure 66 = .ok (.istore_n 3, 1) := by decide +kernel
theorem dX10_measure_67 : decode cX10_measure 67 = .ok (.iinc 4 1, 3) := by decide +kernel
theorem dX10_measure_70 : decode cX10_measure 70 = .ok (.goto (-22), 3) := by decide +kernel
theorem dX10_measure_73 : decode cX10_measure 73 = .ok (.iload_n 2, 1) := by decide +kernel
theorem dX10_measure_74 : decode cX10_measure 74 = .ok (.iconst 3, 1) := by decide +kernel
theorem dX10_measure_75 : decode cX10_measure 75 = .ok (.if_icmp .ge 7, 3) := by decide +kernel
theorem dX10_measure_78 : decode cX10_measure 78 = .ok (.iload_n 3, 1) := by decide +kernel
theorem dX10_measure_79 : decode cX10_measure 79 = .ok (.goto 16, 3) := by decide +kernel
theorem dX10_measure_82 : decode cX10_measure 82 = .ok (.iload_n 3, 1) := by decide +kernel
theorem dX10_measure_83 : decode cX10_measure 83 = .ok (.aload_n 0, 1) := by decide +kernel
theorem dX10_measure_84 : decode cX10_measure 84 = .ok (.getfield 211, 3) := by decide +kernel
theorem dX10_measure_87 : decode cX10_measure 87 = .ok (.if_icmp .ne 7, 3) := by decide +kernel
theorem dX10_measure_90 : decode cX10_measure 90 = .ok (.iconst 1, 1) := by decide +kernel
theorem dX10_measure_91 : decode cX10_measure 91 = .ok (.goto 4, 3) := by decide +kernel
theorem dX10_measure_94 : decode cX10_measure 94 = .ok (.iconst 0, 1) := by decide +kernel
theorem dX10_measure_95 : decode cX10_measure 95 = .ok (.ireturn, 1) := by decide +kernel
theorem dX10_vertex_0 : decode cX10_vertex 0 = .ok (.aload_n 0, 1) := by decide +kernel
theorem dX10_vertex_1 : decode cX10_vertex 1 = .ok (.iload_n 1, 1) := by decide +kernel
theorem dX10_vertex_2 : decode cX10_vertex 2 = .ok (.invokevirtual 123, 3) := by decide +kernel
theorem dX10_vertex_5 : decode cX10_vertex 5 = .ok (.ifCond .ne 6, 3) := by decide +kernel
theorem dX10_vertex_8 : decode cX10_vertex 8 = .ok (.ldc 107, 2) := by decide +kernel
theorem dX10_vertex_10 : decode cX10_vertex 10 = .ok (.ireturn, 1) := by decide +kernel
theorem dX10_vertex_11 : decode cX10_vertex 11 = .ok (.aload_n 0, 1) := by decide +kernel
theorem dX10_vertex_12 : decode cX10_vertex 12 = .ok (.invokevirtual 111, 3) := by decide +kernel
theorem dX10_vertex_15 : decode cX10_vertex 15 = .ok (.iload_n 2, 1) := by decide +kernel
theorem dX10_vertex_16 : decode cX10_vertex 16 = .ok (.iconst 0, 1) := by decide +kernel
theorem dX10_vertex_17 : decode cX10_vertex 17 = .ok (.aload_n 0, 1) := by decide +kernel
theorem dX10_vertex_18 : decode cX10_vertex 18 = .ok (.iload_n 1, 1) := by decide +kernel
theorem dX10_vertex_19 : decode cX10_vertex 19 = .ok (.invokevirtual 245, 3) := by decide +kernel
theorem dX10_vertex_22 : decode cX10_vertex 22 = .ok (.iconst 1, 1) := by decide +kernel
theorem dX10_vertex_23 : decode cX10_vertex 23 = .ok (.isub, 1) := by decide +kernel
theorem dX10_vertex_24 : decode cX10_vertex 24 = .ok (.invokestatic 80, 3) := by decide +kernel
theorem dX10_vertex_27 : decode cX10_vertex 27 = .ok (.ifCond .ne 6, 3) := by decide +kernel
theorem dX10_vertex_30 : decode cX10_vertex 30 = .ok (.ldc 107, 2) := by decide +kernel
theorem dX10_vertex_32 : decode cX10_vertex 32 = .ok (.ireturn, 1) := by decide +kernel
theorem dX10_vertex_33 : decode cX10_vertex 33 = .ok (.iload_n 3, 1) := by decide +kernel
theorem dX10_vertex_34 : decode cX10_vertex 34 = .ok (.iconst 0, 1) := by decide +kernel
theorem dX10_vertex_35 : decode cX10_vertex 35 = .ok (.iconst 2, 1) := by decide +kernel
theorem dX10_vertex_36 : decode cX10_vertex 36 = .ok (.invokestatic 80, 3) := by decide +kernel
theorem dX10_vertex_39 : decode cX10_vertex 39 = .ok (.ifCond .ne 6, 3) := by decide +kernel
theorem dX10_vertex_42 : decode cX10_vertex 42 = .ok (.ldc 88, 2) := by decide +kernel
theorem dX10_vertex_44 : decode cX10_vertex 44 = .ok (.ireturn, 1) := by decide +kernel
theorem dX10_vertex_45 : decode cX10_vertex 45 = .ok (.aload_n 0, 1) := by decide +kernel
theorem dX10_vertex_46 : decode cX10_vertex 46 = .ok (.getfield 56, 3) := by decide +kernel
theorem dX10_vertex_49 : decode cX10_vertex 49 = .ok (.iload_n 1, 1) := by decide +kernel
theorem dX10_vertex_50 : decode cX10_vertex 50 = .ok (.iaload, 1) := by decide +kernel
theorem dX10_vertex_51 : decode cX10_vertex 51 = .ok (.iload_n 2, 1) := by decide +kernel
theorem dX10_vertex_52 : decode cX10_vertex 52 = .ok (.iadd, 1) := by decide +kernel
theorem dX10_vertex_53 : decode cX10_vertex 53 = .ok (.istore 4, 2) := by decide +kernel
theorem dX10_vertex_55 : decode cX10_vertex 55 = .ok (.iload_n 3, 1) := by decide +kernel
theorem dX10_vertex_56 : decode cX10_vertex 56 = .ok (.ifCond .ne 13, 3) := by decide +kernel
theorem dX10_vertex_59 : decode cX10_vertex 59 = .ok (.aload_n 0, 1) := by decide +kernel
theorem dX10_vertex_60 : decode cX10_vertex 60 = .ok (.getfield 47, 3) := by decide +kernel
theorem dX10_vertex_63 : decode cX10_vertex 63 = .ok (.iload 4, 2) := by decide +kernel
theorem dX10_vertex_65 : decode cX10_vertex 65 = .ok (.iaload, 1) := by decide +kernel
theorem dX10_vertex_66 : decode cX10_vertex 66 = .ok (.goto 25, 3) := by decide +kernel
theorem dX10_vertex_69 : decode cX10_vertex 69 = .ok (.iload_n 3, 1) := by decide +kernel
theorem dX10_vertex_70 : decode cX10_vertex 70 = .ok (.iconst 1, 1) := by decide +kernel
theorem dX10_vertex_71 : decode cX10_vertex 71 = .ok (.if_icmp .ne 13, 3) := by decide +kernel
theorem dX10_vertex_74 : decode cX10_vertex 74 = .ok (.aload_n 0, 1) := by decide +kernel
theorem dX10_vertex_75 : decode cX10_vertex 75 = .ok (.getfield 50, 3) := by decide +kernel
theorem dX10_vertex_78 : decode cX10_vertex 78 = .ok (.iload 4, 2) := by decide +kernel
theorem dX10_vertex_80 : decode cX10_vertex 80 = .ok (.iaload, 1) := by decide +kernel
theorem dX10_vertex_81 : decode cX10_vertex 81 = .ok (.goto 10, 3) := by decide +kernel
theorem dX10_vertex_84 : decode cX10_vertex 84 = .ok (.aload_n 0, 1) := by decide +kernel
theorem dX10_vertex_85 : decode cX10_vertex 85 = .ok (.getfield 53, 3) := by decide +kernel
theorem dX10_vertex_88 : decode cX10_vertex 88 = .ok (.iload 4, 2) := by decide +kernel
theorem dX10_vertex_90 : decode cX10_vertex 90 = .ok (.iaload, 1) := by decide +kernel
theorem dX10_vertex_91 : decode cX10_vertex 91 = .ok (.ireturn, 1) := by decide +kernel
theorem dX10_vertexFor_0 : decode cX10_vertexFor 0 = .ok (.aload_n 0, 1) := by decide +kernel
theorem dX10_vertexFor_1 : decode cX10_vertexFor 1 = .ok (.getfield 56, 3) := by decide +kernel
theorem dX10_vertexFor_4 : decode cX10_vertexFor 4 = .ok (.iload_n 1, 1) := by decide +kernel
theorem dX10_vertexFor_5 : decode cX10_vertexFor 5 = .ok (.iaload, 1) := by decide +kernel
theorem dX10_vertexFor_6 : decode cX10_vertexFor 6 = .ok (.iconst 1, 1) := by decide +kernel
theorem dX10_vertexFor_7 : decode cX10_vertexFor 7 = .ok (.iadd, 1) := by decide +kernel
theorem dX10_vertexFor_8 : decode cX10_vertexFor 8 = .ok (.istore_n 3, 1) := by decide +kernel
theorem dX10_vertexFor_9 : decode cX10_vertexFor 9 = .ok (.aload_n 0, 1) := by decide +kernel
theorem dX10_vertexFor_10 : decode cX10_vertexFor 10 = .ok (.getfield 53, 3) := by decide +kernel
theorem dX10_vertexFor_13 : decode cX10_vertexFor 13 = .ok (.iload_n 3, 1) := by decide +kernel
theorem dX10_vertexFor_14 : decode cX10_vertexFor 14 = .ok (.iaload, 1) := by decide +kernel
theorem dX10_vertexFor_15 : decode cX10_vertexFor 15 = .ok (.iload_n 2, 1) := by decide +kernel
theorem dX10_vertexFor_16 : decode cX10_vertexFor 16 = .ok (.if_icmp .ge 9, 3) := by decide +kernel
theorem dX10_vertexFor_19 : decode cX10_vertexFor 19 = .ok (.iinc 3 1, 3) := by decide +kernel
theorem dX10_vertexFor_22 : decode cX10_vertexFor 22 = .ok (.goto (-13), 3) := by decide +kernel
theorem dX10_vertexFor_25 : decode cX10_vertexFor 25 = .ok (.iload_n 3, 1) := by decide +kernel
theorem dX10_vertexFor_26 : decode cX10_vertexFor 26 = .ok (.iconst 1, 1) := by decide +kernel
theorem dX10_vertexFor_27 : decode cX10_vertexFor 27 = .ok (.isub, 1) := by decide +kernel
theorem dX10_vertexFor_28 : decode cX10_vertexFor 28 = .ok (.ireturn, 1) := by decide +kernel
theorem dX10_placeAt_0 : decode cX10_placeAt 0 = .ok (.aload_n 0, 1) := by decide +kernel
theorem dX10_placeAt_1 : decode cX10_placeAt 1 = .ok (.iload_n 1, 1) := by decide +kernel
theorem dX10_placeAt_2 : decode cX10_placeAt 2 = .ok (.iload_n 2, 1) := by decide +kernel
theorem dX10_placeAt_3 : decode cX10_placeAt 3 = .ok (.invokevirtual 257, 3) := by decide +kernel
theorem dX10_placeAt_6 : decode cX10_placeAt 6 = .ok (.istore 4, 2) := by decide +kernel
theorem dX10_placeAt_8 : decode cX10_placeAt 8 = .ok (.aload_n 0, 1) := by decide +kernel
theorem dX10_placeAt_9 : decode cX10_placeAt 9 = .ok (.getfield 47, 3) := by decide +kernel
theorem dX10_placeAt_12 : decode cX10_placeAt 12 = .ok (.iload 4, 2) := by decide +kernel
theorem dX10_placeAt_14 : decode cX10_placeAt 14 = .ok (.iconst 1, 1) := by decide +kernel
theorem dX10_placeAt_15 : decode cX10_placeAt 15 = .ok (.iadd, 1) := by decide +kernel
theorem dX10_placeAt_16 : decode cX10_placeAt 16 = .ok (.iaload, 1) := by decide +kernel
theorem dX10_placeAt_17 : decode cX10_placeAt 17 = .ok (.aload_n 0, 1) := by decide +kernel
theorem dX10_placeAt_18 : decode cX10_placeAt 18 = .ok (.getfield 47, 3) := by decide +kernel
theorem dX10_placeAt_21 : decode cX10_placeAt 21 = .ok (.iload 4, 2) := by decide +kernel
theorem dX10_placeAt_23 : decode cX10_placeAt 23 = .ok (.iaload, 1) := by decide +kernel
theorem dX10_placeAt_24 : decode cX10_placeAt 24 = .ok (.isub, 1) := by decide +kernel
theorem dX10_placeAt_25 : decode cX10_placeAt 25 = .ok (.i2l, 1) := by decide +kernel
theorem dX10_placeAt_26 : decode cX10_placeAt 26 = .ok (.lstore 5, 2) := by decide +kernel
theorem dX10_placeAt_28 : decode cX10_placeAt 28 = .ok (.aload_n 0, 1) := by decide +kernel
theorem dX10_placeAt_29 : decode cX10_placeAt 29 = .ok (.getfield 50, 3) := by decide +kernel
theorem dX10_placeAt_32 : decode cX10_placeAt 32 = .ok (.iload 4, 2) := by decide +kernel
theorem dX10_placeAt_34 : decode cX10_placeAt 34 = .ok (.iconst 1, 1) := by decide +kernel
theorem dX10_placeAt_35 : decode cX10_placeAt 35 = .ok (.iadd, 1) := by decide +kernel
theorem dX10_placeAt_36 : decode cX10_placeAt 36 = .ok (.iaload, 1) := by decide +kernel
theorem dX10_placeAt_37 : decode cX10_placeAt 37 = .ok (.aload_n 0, 1) := by decide +kernel
theorem dX10_placeAt_38 : decode cX10_placeAt 38 = .ok (.getfield 50, 3) := by decide +kernel
theorem dX10_placeAt_41 : decode cX10_placeAt 41 = .ok (.iload 4, 2) := by decide +kernel
theorem dX10_placeAt_43 : decode cX10_placeAt 43 = .ok (.iaload, 1) := by decide +kernel
theorem dX10_placeAt_44 : decode cX10_placeAt 44 = .ok (.isub, 1) := by decide +kernel
theorem dX10_placeAt_45 : decode cX10_placeAt 45 = .ok (.i2l, 1) := by decide +kernel
theorem dX10_placeAt_46 : decode cX10_placeAt 46 = .ok (.lstore 7, 2) := by decide +kernel
theorem dX10_placeAt_48 : decode cX10_placeAt 48 = .ok (.iload_n 2, 1) := by decide +kernel
theorem dX10_placeAt_49 : decode cX10_placeAt 49 = .ok (.aload_n 0, 1) := by decide +kernel
theorem dX10_placeAt_50 : decode cX10_placeAt 50 = .ok (.getfield 53, 3) := by decide +kernel
theorem dX10_placeAt_53 : decode cX10_placeAt 53 = .ok (.iload 4, 2) := by decide +kernel
theorem dX10_placeAt_55 : decode cX10_placeAt 55 = .ok (.iaload, 1) := by decide +kernel
theorem dX10_placeAt_56 : decode cX10_placeAt 56 = .ok (.isub, 1) := by decide +kernel
theorem dX10_placeAt_57 : decode cX10_placeAt 57 = .ok (.i2l, 1) := by decide +kernel
theorem dX10_placeAt_58 : decode cX10_placeAt 58 = .ok (.lstore 9, 2) := by decide +kernel
theorem dX10_placeAt_60 : decode cX10_placeAt 60 = .ok (.aload_n 0, 1) := by decide +kernel
theorem dX10_placeAt_61 : decode cX10_placeAt 61 = .ok (.getfield 53, 3) := by decide +kernel
theorem dX10_placeAt_64 : decode cX10_placeAt 64 = .ok (.iload 4, 2) := by decide +kernel
theorem dX10_placeAt_66 : decode cX10_placeAt 66 = .ok (.iconst 1, 1) := by decide +kernel
theorem dX10_placeAt_67 : decode cX10_placeAt 67 = .ok (.iadd, 1) := by decide +kernel
theorem dX10_placeAt_68 : decode cX10_placeAt 68 = .ok (.iaload, 1) := by decide +kernel
theorem dX10_placeAt_69 : decode cX10_placeAt 69 = .ok (.aload_n 0, 1) := by decide +kernel
theorem dX10_placeAt_70 : decode cX10_placeAt 70 = .ok (.getfield 53, 3) := by decide +kernel
theorem dX10_placeAt_73 : decode cX10_placeAt 73 = .ok (.iload 4, 2) := by decide +kernel
theorem dX10_placeAt_75 : decode cX10_placeAt 75 = .ok (.iaload, 1) := by decide +kernel
theorem dX10_placeAt_76 : decode cX10_placeAt 76 = .ok (.isub, 1) := by decide +kernel
theorem dX10_placeAt_77 : decode cX10_placeAt 77 = .ok (.i2l, 1) := by decide +kernel
theorem dX10_placeAt_78 : decode cX10_placeAt 78 = .ok (.lstore 11, 2) := by decide +kernel
theorem dX10_placeAt_80 : decode cX10_placeAt 80 = .ok (.iload_n 3, 1) := by decide +kernel
theorem dX10_placeAt_81 : decode cX10_placeAt 81 = .ok (.tableswitch 79 0 3 #[31, 49, 67, 75], 31) := by decide +kernel
theorem dX10_placeAt_112 : decode cX10_placeAt 112 = .ok (.aload_n 0, 1) := by decide +kernel
theorem dX10_placeAt_113 : decode cX10_placeAt 113 = .ok (.getfield 47, 3) := by decide +kernel
theorem dX10_placeAt_116 : decode cX10_placeAt 116 = .ok (.iload 4, 2) := by decide +kernel
theorem dX10_placeAt_118 : decode cX10_placeAt 118 = .ok (.iaload, 1) := by decide +kernel
theorem dX10_placeAt_119 : decode cX10_placeAt 119 = .ok (.lload 5, 2) := by decide +kernel
theorem dX10_placeAt_121 : decode cX10_placeAt 121 = .ok (.lload 9, 2) := by decide +kernel
theorem dX10_placeAt_123 : decode cX10_placeAt 123 = .ok (.lmul, 1) := by decide +kernel
theorem dX10_placeAt_124 : decode cX10_placeAt 124 = .ok (.lload 11, 2) := by decide +kernel
theorem dX10_placeAt_126 : decode cX10_placeAt 126 = .ok (.ldiv, 1) := by decide +kernel
theorem dX10_placeAt_127 : decode cX10_placeAt 127 = .ok (.l2i, 1) := by decide +kernel
theorem dX10_placeAt_128 : decode cX10_placeAt 128 = .ok (.iadd, 1) := by decide +kernel
theorem dX10_placeAt_129 : decode cX10_placeAt 129 = .ok (.ireturn, 1) := by decide +kernel
theorem dX10_placeAt_130 : decode cX10_placeAt 130 = .ok (.aload_n 0, 1) := by decide +kernel
theorem dX10_placeAt_131 : decode cX10_placeAt 131 = .ok (.getfield 50, 3) := by decide +kernel
theorem dX10_placeAt_134 : decode cX10_placeAt 134 = .ok (.iload 4, 2) := by decide +kernel
theorem dX10_placeAt_136 : decode cX10_placeAt 136 = .ok (.iaload, 1) := by decide +kernel
theorem dX10_placeAt_137 : decode cX10_placeAt 137 = .ok (.lload 7, 2) := by decide +kernel
theorem dX10_placeAt_139 : decode cX10_placeAt 139 = .ok (.lload 9, 2) := by decide +kernel
theorem dX10_placeAt_141 : decode cX10_placeAt 141 = .ok (.lmul, 1) := by decide +kernel
theorem dX10_placeAt_142 : decode cX10_placeAt 142 = .ok (.lload 11, 2) := by decide +kernel
theorem dX10_placeAt_144 : decode cX10_placeAt 144 = .ok (.ldiv, 1) := by decide +kernel
theorem dX10_placeAt_145 : decode cX10_placeAt 145 = .ok (.l2i, 1) := by decide +kernel
theorem dX10_placeAt_146 : decode cX10_placeAt 146 = .ok (.iadd, 1) := by decide +kernel
theorem dX10_placeAt_147 : decode cX10_placeAt 147 = .ok (.ireturn, 1) := by decide +kernel
theorem dX10_placeAt_148 : decode cX10_placeAt 148 = .ok (.aload_n 0, 1) := by decide +kernel
theorem dX10_placeAt_149 : decode cX10_placeAt 149 = .ok (.iload_n 1, 1) := by decide +kernel
theorem dX10_placeAt_150 : decode cX10_placeAt 150 = .ok (.iload 4, 2) := by decide +kernel
theorem dX10_placeAt_152 : decode cX10_placeAt 152 = .ok (.invokevirtual 260, 3) := by decide +kernel
theorem dX10_placeAt_155 : decode cX10_placeAt 155 = .ok (.ireturn, 1) := by decide +kernel
theorem dX10_placeAt_156 : decode cX10_placeAt 156 = .ok (.lload 5, 2) := by decide +kernel
theorem dX10_placeAt_158 : decode cX10_placeAt 158 = .ok (.l2i, 1) := by decide +kernel
theorem dX10_placeAt_159 : decode cX10_placeAt 159 = .ok (.ireturn, 1) := by decide +kernel
theorem dX10_placeAt_160 : decode cX10_placeAt 160 = .ok (.lload 7, 2) := by decide +kernel
theorem dX10_placeAt_162 : decode cX10_placeAt 162 = .ok (.l2i, 1) := by decide +kernel
theorem dX10_placeAt_163 : decode cX10_placeAt 163 = .ok (.ireturn, 1) := by decide +kernel
theorem dX10_at_0 : decode cX10_at 0 = .ok (.aload_n 0, 1) := by decide +kernel
theorem dX10_at_1 : decode cX10_at 1 = .ok (.iload_n 1, 1) := by decide +kernel
theorem dX10_at_2 : decode cX10_at 2 = .ok (.invokevirtual 123, 3) := by decide +kernel
theorem dX10_at_5 : decode cX10_at 5 = .ok (.ifCond .ne 6, 3) := by decide +kernel
theorem dX10_at_8 : decode cX10_at 8 = .ok (.ldc 107, 2) := by decide +kernel
theorem dX10_at_10 : decode cX10_at 10 = .ok (.ireturn, 1) := by decide +kernel
theorem dX10_at_11 : decode cX10_at 11 = .ok (.iload_n 3, 1) := by decide +kernel
theorem dX10_at_12 : decode cX10_at 12 = .ok (.iconst 0, 1) := by decide +kernel
theorem dX10_at_13 : decode cX10_at 13 = .ok (.iconst 4, 1) := by decide +kernel
theorem dX10_at_14 : decode cX10_at 14 = .ok (.invokestatic 80, 3) := by decide +kernel
theorem dX10_at_17 : decode cX10_at 17 = .ok (.ifCond .ne 6, 3) := by decide +kernel
theorem dX10_at_20 : decode cX10_at 20 = .ok (.ldc 88, 2) := by decide +kernel
theorem dX10_at_22 : decode cX10_at 22 = .ok (.ireturn, 1) := by decide +kernel
theorem dX10_at_23 : decode cX10_at 23 = .ok (.aload_n 0, 1) := by decide +kernel
theorem dX10_at_24 : decode cX10_at 24 = .ok (.invokevirtual 111, 3) := by decide +kernel
theorem dX10_at_27 : decode cX10_at 27 = .ok (.aload_n 0, 1) := by decide +kernel
theorem dX10_at_28 : decode cX10_at 28 = .ok (.iload_n 1, 1) := by decide +kernel
theorem dX10_at_29 : decode cX10_at 29 = .ok (.invokevirtual 245, 3) := by decide +kernel
theorem dX10_at_32 : decode cX10_at 32 = .ok (.iconst 2, 1) := by decide +kernel
theorem dX10_at_33 : decode cX10_at 33 = .ok (.if_icmp .lt 16, 3) := by decide +kernel
theorem dX10_at_36 : decode cX10_at 36 = .ok (.iload_n 2, 1) := by decide +kernel
theorem dX10_at_37 : decode cX10_at 37 = .ok (.iconst 0, 1) := by decide +kernel
theorem dX10_at_38 : decode cX10_at 38 = .ok (.aload_n 0, 1) := by decide +kernel
theorem dX10_at_39 : decode cX10_at 39 = .ok (.iload_n 1, 1) := by decide +kernel
theorem dX10_at_40 : decode cX10_at 40 = .ok (.invokevirtual 248, 3) := by decide +kernel
theorem dX10_at_43 : decode cX10_at 43 = .ok (.invokestatic 80, 3) := by decide +kernel
theorem dX10_at_46 : decode cX10_at 46 = .ok (.ifCond .ne 6, 3) := by decide +kernel
theorem dX10_at_49 : decode cX10_at 49 = .ok (.ldc 97, 2) := by decide +kernel
theorem dX10_at_51 : decode cX10_at 51 = .ok (.ireturn, 1) := by decide +kernel
theorem dX10_at_52 : decode cX10_at 52 = .ok (.aload_n 0, 1) := by decide +kernel
theorem dX10_at_53 : decode cX10_at 53 = .ok (.iload_n 1, 1) := by decide +kernel
theorem dX10_at_54 : decode cX10_at 54 = .ok (.iload_n 2, 1) := by decide +kernel
theorem dX10_at_55 : decode cX10_at 55 = .ok (.iload_n 3, 1) := by decide +kernel
theorem dX10_at_56 : decode cX10_at 56 = .ok (.invokevirtual 263, 3) := by decide +kernel
theorem dX10_at_59 : decode cX10_at 59 = .ok (.ireturn, 1) := by decide +kernel
theorem dX10_nearest_0 : decode cX10_nearest 0 = .ok (.iload_n 1, 1) := by decide +kernel
theorem dX10_nearest_1 : decode cX10_nearest 1 = .ok (.invokestatic 84, 3) := by decide +kernel
theorem dX10_nearest_4 : decode cX10_nearest 4 = .ok (.ifCond .eq 19, 3) := by decide +kernel
theorem dX10_nearest_7 : decode cX10_nearest 7 = .ok (.iload_n 2, 1) := by decide +kernel
theorem dX10_nearest_8 : decode cX10_nearest 8 = .ok (.invokestatic 84, 3) := by decide +kernel
theorem dX10_nearest_11 : decode cX10_nearest 11 = .ok (.ifCond .eq 12, 3) := by decide +kernel
theorem dX10_nearest_14 : decode cX10_nearest 14 = .ok (.iload_n 3, 1) := by decide +kernel
theorem dX10_nearest_15 : decode cX10_nearest 15 = .ok (.iconst 0, 1) := by decide +kernel
theorem dX10_nearest_16 : decode cX10_nearest 16 = .ok (.iconst 3, 1) := by decide +kernel
theorem dX10_nearest_17 : decode cX10_nearest 17 = .ok (.invokestatic 80, 3) := by decide +kernel
theorem dX10_nearest_20 : decode cX10_nearest 20 = .ok (.ifCond .ne 6, 3) := by decide +kernel
theorem dX10_nearest_23 : decode cX10_nearest 23 = .ok (.ldc 88, 2) := by decide +kernel
theorem dX10_nearest_25 : decode cX10_nearest 25 = .ok (.ireturn, 1) := by decide +kernel
theorem dX10_nearest_26 : decode cX10_nearest 26 = .ok (.aload_n 0, 1) := by decide +kernel
theorem dX10_nearest_27 : decode cX10_nearest 27 = .ok (.invokevirtual 111, 3) := by decide +kernel
theorem dX10_nearest_30 : decode cX10_nearest 30 = .ok (.ldc2_w 266, 3) := by decide +kernel
theorem dX10_nearest_33 : decode cX10_nearest 33 = .ok (.lstore 4, 2) := by decide +kernel
theorem dX10_nearest_35 : decode cX10_nearest 35 = .ok (.lconst 0, 1) := by decide +kernel
theorem dX10_nearest_36 : decode cX10_nearest 36 = .ok (.lstore 6, 2) := by decide +kernel
theorem dX10_nearest_38 : decode cX10_nearest 38 = .ok (.lconst 0, 1) := by decide +kernel
theorem dX10_nearest_39 : decode cX10_nearest 39 = .ok (.lstore 8, 2) := by decide +kernel
theorem dX10_nearest_41 : decode cX10_nearest 41 = .ok (.iconst 0, 1) := by decide +kernel
theorem dX10_nearest_42 : decode cX10_nearest 42 = .ok (.istore 10, 2) := by decide +kernel
theorem dX10_nearest_44 : decode cX10_nearest 44 = .ok (.iconst 0, 1) := by decide +kernel
theorem dX10_nearest_45 : decode cX10_nearest 45 = .ok (.istore 11, 2) := by decide +kernel
theorem dX10_nearest_47 : decode cX10_nearest 47 = .ok (.iload 11, 2) := by decide +kernel
theorem dX10_nearest_49 : decode cX10_nearest 49 = .ok (.aload_n 0, 1) := by decide +kernel
theorem dX10_nearest_50 : decode cX10_nearest 50 = .ok (.getfield 211, 3) := by decide +kernel
theorem dX10_nearest_53 : decode cX10_nearest 53 = .ok (.if_icmp .ge 250, 3) := by decide +kernel
theorem dX10_nearest_56 : decode cX10_nearest 56 = .ok (.aload_n 0, 1) := by decide +kernel
theorem dX10_nearest_57 : decode cX10_nearest 57 = .ok (.getfield 56, 3) := by decide +kernel
theorem dX10_nearest_60 : decode cX10_nearest 60 = .ok (.iload 11, 2) := by decide +kernel
theorem dX10_nearest_62 : decode cX10_nearest 62 = .ok (.iaload, 1) := by decide +kernel
theorem dX10_nearest_63 : decode cX10_nearest 63 = .ok (.istore 12, 2) := by decide +kernel
theorem dX10_nearest_65 : decode cX10_nearest 65 = .ok (.iload 12, 2) := by decide +kernel
theorem dX10_nearest_67 : decode cX10_nearest 67 = .ok (.aload_n 0, 1) := by decide +kernel
theorem dX10_nearest_68 : decode cX10_nearest 68 = .ok (.getfield 56, 3) := by decide +kernel
theorem dX10_nearest_71 : decode cX10_nearest 71 = .ok (.iload 11, 2) := by decide +kernel
theorem dX10_nearest_73 : decode cX10_nearest 73 = .ok (.iconst 1, 1) := by decide +kernel
theorem dX10_nearest_74 : decode cX10_nearest 74 = .ok (.iadd, 1) := by decide +kernel
theorem dX10_nearest_75 : decode cX10_nearest 75 = .ok (.iaload, 1) := by decide +kernel
theorem dX10_nearest_76 : decode cX10_nearest 76 = .ok (.iconst 1, 1) := by decide +kernel
theorem dX10_nearest_77 : decode cX10_nearest 77 = .ok (.isub, 1) := by decide +kernel
theorem dX10_nearest_78 : decode cX10_nearest 78 = .ok (.if_icmp .ge 219, 3) := by decide +kernel
theorem dX10_nearest_81 : decode cX10_nearest 81 = .ok (.aload_n 0, 1) := by decide +kernel
theorem dX10_nearest_82 : decode cX10_nearest 82 = .ok (.getfield 47, 3) := by decide +kernel
theorem dX10_nearest_85 : decode cX10_nearest 85 = .ok (.iload 12, 2) := by decide +kernel
theorem dX10_nearest_87 : decode cX10_nearest 87 = .ok (.iconst 1, 1) := by decide +kernel
theorem dX10_nearest_88 : decode cX10_nearest 88 = .ok (.iadd, 1) := by decide +kernel
theorem dX10_nearest_89 : decode cX10_nearest 89 = .ok (.iaload, 1) := by decide +kernel
theorem dX10_nearest_90 : decode cX10_nearest 90 = .ok (.aload_n 0, 1) := by decide +kernel
theorem dX10_nearest_91 : decode cX10_nearest 91 = .ok (.getfield 47, 3) := by decide +kernel
theorem dX10_nearest_94 : decode cX10_nearest 94 = .ok (.iload 12, 2) := by decide +kernel
theorem dX10_nearest_96 : decode cX10_nearest 96 = .ok (.iaload, 1) := by decide +kernel
theorem dX10_nearest_97 : decode cX10_nearest 97 = .ok (.isub, 1) := by decide +kernel
theorem dX10_nearest_98 : decode cX10_nearest 98 = .ok (.i2l, 1) := by decide +kernel
theorem dX10_nearest_99 : decode cX10_nearest 99 = .ok (.lstore 13, 2) := by decide +kernel
theorem dX10_nearest_101 : decode cX10_nearest 101 = .ok (.aload_n 0, 1) := by decide +kernel
theorem dX10_nearest_102 : decode cX10_nearest 102 = .ok (.getfield 50, 3) := by decide +kernel
theorem dX10_nearest_105 : decode cX10_nearest 105 = .ok (.iload 12, 2) := by decide +kernel
theorem dX10_nearest_107 : decode cX10_nearest 107 = .ok (.iconst 1, 1) := by decide +kernel
theorem dX10_nearest_108 : decode cX10_nearest 108 = .ok (.iadd, 1) := by decide +kernel
theorem dX10_nearest_109 : decode cX10_nearest 109 = .ok (.iaload, 1) := by decide +kernel
theorem dX10_nearest_110 : decode cX10_nearest 110 = .ok (.aload_n 0, 1) := by decide +kernel
theorem dX10_nearest_111 : decode cX10_nearest 111 = .ok (.getfield 50, 3) := by decide +kernel
theorem dX10_nearest_114 : decode cX10_nearest 114 = .ok (.iload 12, 2) := by decide +kernel
theorem dX10_nearest_116 : decode cX10_nearest 116 = .ok (.iaload, 1) := by decide +kernel
theorem dX10_nearest_117 : decode cX10_nearest 117 = .ok (.isub, 1) := by decide +kernel
theorem dX10_nearest_118 : decode cX10_nearest 118 = .ok (.i2l, 1) := by decide +kernel
theorem dX10_nearest_119 : decode cX10_nearest 119 = .ok (.lstore 15, 2) := by decide +kernel
theorem dX10_nearest_121 : decode cX10_nearest 121 = .ok (.lload 13, 2) := by decide +kernel
theorem dX10_nearest_123 : decode cX10_nearest 123 = .ok (.lload 13, 2) := by decide +kernel
theorem dX10_nearest_125 : decode cX10_nearest 125 = .ok (.lmul, 1) := by decide +kernel
theorem dX10_nearest_126 : decode cX10_nearest 126 = .ok (.lload 15, 2) := by decide +kernel
theorem dX10_nearest_128 : decode cX10_nearest 128 = .ok (.lload 15, 2) := by decide +kernel
theorem dX10_nearest_130 : decode cX10_nearest 130 = .ok (.lmul, 1) := by decide +kernel
theorem dX10_nearest_131 : decode cX10_nearest 131 = .ok (.ladd, 1) := by decide +kernel
theorem dX10_nearest_132 : decode cX10_nearest 132 = .ok (.lstore 17, 2) := by decide +kernel
theorem dX10_nearest_134 : decode cX10_nearest 134 = .ok (.lload 13, 2) := by decide +kernel
theorem dX10_nearest_136 : decode cX10_nearest 136 = .ok (.iload_n 1, 1) := by decide +kernel
theorem dX10_nearest_137 : decode cX10_nearest 137 = .ok (.aload_n 0, 1) := by decide +kernel
theorem dX10_nearest_138 : decode cX10_nearest 138 = .ok (.getfield 47, 3) := by decide +kernel
theorem dX10_nearest_141 : decode cX10_nearest 141 = .ok (.iload 12, 2) := by decide +kernel
theorem dX10_nearest_143 : decode cX10_nearest 143 = .ok (.iaload, 1) := by decide +kernel
theorem dX10_nearest_144 : decode cX10_nearest 144 = .ok (.isub, 1) := by decide +kernel
theorem dX10_nearest_145 : decode cX10_nearest 145 = .ok (.i2l, 1) := by decide +kernel
theorem dX10_nearest_146 : decode cX10_nearest 146 = .ok (.lmul, 1) := by decide +kernel
theorem dX10_nearest_147 : decode cX10_nearest 147 = .ok (.lload 15, 2) := by decide +kernel
theorem dX10_nearest_149 : decode cX10_nearest 149 = .ok (.iload_n 2, 1) := by decide +kernel
theorem dX10_nearest_150 : decode cX10_nearest 150 = .ok (.aload_n 0, 1) := by decide +kernel
theorem dX10_nearest_151 : decode cX10_nearest 151 = .ok (.getfield 50, 3) := by decide +kernel
theorem dX10_nearest_154 : decode cX10_nearest 154 = .ok (.iload 12, 2) := by decide +kernel
theorem dX10_nearest_156 : decode cX10_nearest 156 = .ok (.iaload, 1) := by decide +kernel
theorem dX10_nearest_157 : decode cX10_nearest 157 = .ok (.isub, 1) := by decide +kernel
theorem dX10_nearest_158 : decode cX10_nearest 158 = .ok (.i2l, 1) := by decide +kernel
theorem dX10_nearest_159 : decode cX10_nearest 159 = .ok (.lmul, 1) := by decide +kernel
theorem dX10_nearest_160 : decode cX10_nearest 160 = .ok (.ladd, 1) := by decide +kernel
theorem dX10_nearest_161 : decode cX10_nearest 161 = .ok (.lstore 19, 2) := by decide +kernel
theorem dX10_nearest_163 : decode cX10_nearest 163 = .ok (.lload 19, 2) := by decide +kernel
theorem dX10_nearest_165 : decode cX10_nearest 165 = .ok (.lconst 0, 1) := by decide +kernel
theorem dX10_nearest_166 : decode cX10_nearest 166 = .ok (.lcmp, 1) := by decide +kernel
theorem dX10_nearest_167 : decode cX10_nearest 167 = .ok (.ifCond .ge 7, 3) := by decide +kernel
theorem dX10_nearest_170 : decode cX10_nearest 170 = .ok (.lconst 0, 1) := by decide +kernel
theorem dX10_nearest_171 : decode cX10_nearest 171 = .ok (.goto 18, 3) := by decide +kernel
theorem dX10_nearest_174 : decode cX10_nearest 174 = .ok (.lload 19, 2) := by decide +kernel
theorem dX10_nearest_176 : decode cX10_nearest 176 = .ok (.lload 17, 2) := by decide +kernel
theorem dX10_nearest_178 : decode cX10_nearest 178 = .ok (.lcmp, 1) := by decide +kernel
theorem dX10_nearest_179 : decode cX10_nearest 179 = .ok (.ifCond .le 8, 3) := by decide +kernel
theorem dX10_nearest_182 : decode cX10_nearest 182 = .ok (.lload 17, 2) := by decide +kernel
theorem dX10_nearest_184 : decode cX10_nearest 184 = .ok (.goto 5, 3) := by decide +kernel
theorem dX10_nearest_187 : decode cX10_nearest 187 = .ok (.lload 19, 2) := by decide +kernel
theorem dX10_nearest_189 : decode cX10_nearest 189 = .ok (.lstore 19, 2) := by decide +kernel
theorem dX10_nearest_191 : decode cX10_nearest 191 = .ok (.aload_n 0, 1) := by decide +kernel
theorem dX10_nearest_192 : decode cX10_nearest 192 = .ok (.getfield 47, 3) := by decide +kernel
theorem dX10_nearest_195 : decode cX10_nearest 195 = .ok (.iload 12, 2) := by decide +kernel
theorem dX10_nearest_197 : decode cX10_nearest 197 = .ok (.iaload, 1) := by decide +kernel
theorem dX10_nearest_198 : decode cX10_nearest 198 = .ok (.i2l, 1) := by decide +kernel
theorem dX10_nearest_199 : decode cX10_nearest 199 = .ok (.lload 13, 2) := by decide +kernel
theorem dX10_nearest_201 : decode cX10_nearest 201 = .ok (.lload 19, 2) := by decide +kernel
theorem dX10_nearest_203 : decode cX10_nearest 203 = .ok (.lmul, 1) := by decide +kernel
theorem dX10_nearest_204 : decode cX10_nearest 204 = .ok (.lload 17, 2) := by decide +kernel
theorem dX10_nearest_206 : decode cX10_nearest 206 = .ok (.ldiv, 1) := by decide +kernel
theorem dX10_nearest_207 : decode cX10_nearest 207 = .ok (.ladd, 1) := by decide +kernel
theorem dX10_nearest_208 : decode cX10_nearest 208 = .ok (.lstore 21, 2) := by decide +kernel
theorem dX10_nearest_210 : decode cX10_nearest 210 = .ok (.aload_n 0, 1) := by decide +kernel
theorem dX10_nearest_211 : decode cX10_nearest 211 = .ok (.getfield 50, 3) := by decide +kernel
theorem dX10_nearest_214 : decode cX10_nearest 214 = .ok (.iload 12, 2) := by decide +kernel
theorem dX10_nearest_216 : decode cX10_nearest 216 = .ok (.iaload, 1) := by decide +kernel
theorem dX10_nearest_217 : decode cX10_nearest 217 = .ok (.i2l, 1) := by decide +kernel
theorem dX10_nearest_218 : decode cX10_nearest 218 = .ok (.lload 15, 2) := by decide +kernel
theorem dX10_nearest_220 : decode cX10_nearest 220 = .ok (.lload 19, 2) := by decide +kernel
theorem dX10_nearest_222 : decode cX10_nearest 222 = .ok (.lmul, 1) := by decide +kernel
theorem dX10_nearest_223 : decode cX10_nearest 223 = .ok (.lload 17, 2) := by decide +kernel
theorem dX10_nearest_225 : decode cX10_nearest 225 = .ok (.ldiv, 1) := by decide +kernel
theorem dX10_nearest_226 : decode cX10_nearest 226 = .ok (.ladd, 1) := by decide +kernel
theorem dX10_nearest_227 : decode cX10_nearest 227 = .ok (.lstore 23, 2) := by decide +kernel
theorem dX10_nearest_229 : decode cX10_nearest 229 = .ok (.lload 21, 2) := by decide +kernel
theorem dX10_nearest_231 : decode cX10_nearest 231 = .ok (.iload_n 1, 1) := by decide +kernel
theorem dX10_nearest_232 : decode cX10_nearest 232 = .ok (.i2l, 1) := by decide +kernel
theorem dX10_nearest_233 : decode cX10_nearest 233 = .ok (.lsub, 1) := by decide +kernel
theorem dX10_nearest_234 : decode cX10_nearest 234 = .ok (.lload 21, 2) := by decide +kernel
theorem dX10_nearest_236 : decode cX10_nearest 236 = .ok (.iload_n 1, 1) := by decide +kernel
theorem dX10_nearest_237 : decode cX10_nearest 237 = .ok (.i2l, 1) := by decide +kernel
theorem dX10_nearest_238 : decode cX10_nearest 238 = .ok (.lsub, 1) := by decide +kernel
theorem dX10_nearest_239 : decode cX10_nearest 239 = .ok (.lmul, 1) := by decide +kernel
theorem dX10_nearest_240 : decode cX10_nearest 240 = .ok (.lload 23, 2) := by decide +kernel
theorem dX10_nearest_242 : decode cX10_nearest 242 = .ok (.iload_n 2, 1) := by decide +kernel
theorem dX10_nearest_243 : decode cX10_nearest 243 = .ok (.i2l, 1) := by decide +kernel
theorem dX10_nearest_244 : decode cX10_nearest 244 = .ok (.lsub, 1) := by decide +kernel
theorem dX10_nearest_245 : decode cX10_nearest 245 = .ok (.lload 23, 2) := by decide +kernel
theorem dX10_nearest_247 : decode cX10_nearest 247 = .ok (.iload_n 2, 1) := by decide +kernel
theorem dX10_nearest_248 : decode cX10_nearest 248 = .ok (.i2l, 1) := by decide +kernel
theorem dX10_nearest_249 : decode cX10_nearest 249 = .ok (.lsub, 1) := by decide +kernel
theorem dX10_nearest_250 : decode cX10_nearest 250 = .ok (.lmul, 1) := by decide +kernel
theorem dX10_nearest_251 : decode cX10_nearest 251 = .ok (.ladd, 1) := by decide +kernel
theorem dX10_nearest_252 : decode cX10_nearest 252 = .ok (.lstore 25, 2) := by decide +kernel
theorem dX10_nearest_254 : decode cX10_nearest 254 = .ok (.lload 4, 2) := by decide +kernel
theorem dX10_nearest_256 : decode cX10_nearest 256 = .ok (.lconst 0, 1) := by decide +kernel
theorem dX10_nearest_257 : decode cX10_nearest 257 = .ok (.lcmp, 1) := by decide +kernel
theorem dX10_nearest_258 : decode cX10_nearest 258 = .ok (.ifCond .lt 11, 3) := by decide +kernel
theorem dX10_nearest_261 : decode cX10_nearest 261 = .ok (.lload 25, 2) := by decide +kernel
theorem dX10_nearest_263 : decode cX10_nearest 263 = .ok (.lload 4, 2) := by decide +kernel
theorem dX10_nearest_265 : decode cX10_nearest 265 = .ok (.lcmp, 1) := by decide +kernel
theorem dX10_nearest_266 : decode cX10_nearest 266 = .ok (.ifCond .ge 25, 3) := by decide +kernel
theorem dX10_nearest_269 : decode cX10_nearest 269 = .ok (.lload 25, 2) := by decide +kernel
theorem dX10_nearest_271 : decode cX10_nearest 271 = .ok (.lstore 4, 2) := by decide +kernel
theorem dX10_nearest_273 : decode cX10_nearest 273 = .ok (.lload 21, 2) := by decide +kernel
theorem dX10_nearest_275 : decode cX10_nearest 275 = .ok (.lstore 6, 2) := by decide +kernel
theorem dX10_nearest_277 : decode cX10_nearest 277 = .ok (.lload 23, 2) := by decide +kernel
theorem dX10_nearest_279 : decode cX10_nearest 279 = .ok (.lstore 8, 2) := by decide +kernel
theorem dX10_nearest_281 : decode cX10_nearest 281 = .ok (.aload_n 0, 1) := by decide +kernel
theorem dX10_nearest_282 : decode cX10_nearest 282 = .ok (.iload 11, 2) := by decide +kernel
theorem dX10_nearest_284 : decode cX10_nearest 284 = .ok (.iload 12, 2) := by decide +kernel
theorem dX10_nearest_286 : decode cX10_nearest 286 = .ok (.invokevirtual 260, 3) := by decide +kernel
theorem dX10_nearest_289 : decode cX10_nearest 289 = .ok (.istore 10, 2) := by decide +kernel
theorem dX10_nearest_291 : decode cX10_nearest 291 = .ok (.iinc 12 1, 3) := by decide +kernel
theorem dX10_nearest_294 : decode cX10_nearest 294 = .ok (.goto (-229), 3) := by decide +kernel
theorem dX10_nearest_297 : decode cX10_nearest 297 = .ok (.iinc 11 1, 3) := by decide +kernel
theorem dX10_nearest_300 : decode cX10_nearest 300 = .ok (.goto (-253), 3) := by decide +kernel
theorem dX10_nearest_303 : decode cX10_nearest 303 = .ok (.lload 4, 2) := by decide +kernel
theorem dX10_nearest_305 : decode cX10_nearest 305 = .ok (.lconst 0, 1) := by decide +kernel
theorem dX10_nearest_306 : decode cX10_nearest 306 = .ok (.lcmp, 1) := by decide +kernel
theorem dX10_nearest_307 : decode cX10_nearest 307 = .ok (.ifCond .ge 6, 3) := by decide +kernel
theorem dX10_nearest_310 : decode cX10_nearest 310 = .ok (.ldc 97, 2) := by decide +kernel
theorem dX10_nearest_312 : decode cX10_nearest 312 = .ok (.ireturn, 1) := by decide +kernel
theorem dX10_nearest_313 : decode cX10_nearest 313 = .ok (.iload_n 3, 1) := by decide +kernel
theorem dX10_nearest_314 : decode cX10_nearest 314 = .ok (.ifCond .ne 8, 3) := by decide +kernel
theorem dX10_nearest_317 : decode cX10_nearest 317 = .ok (.lload 6, 2) := by decide +kernel
theorem dX10_nearest_319 : decode cX10_nearest 319 = .ok (.goto 26, 3) := by decide +kernel
theorem dX10_nearest_322 : decode cX10_nearest 322 = .ok (.iload_n 3, 1) := by decide +kernel
theorem dX10_nearest_323 : decode cX10_nearest 323 = .ok (.iconst 1, 1) := by decide +kernel
theorem dX10_nearest_324 : decode cX10_nearest 324 = .ok (.if_icmp .ne 8, 3) := by decide +kernel
theorem dX10_nearest_327 : decode cX10_nearest 327 = .ok (.lload 8, 2) := by decide +kernel
theorem dX10_nearest_329 : decode cX10_nearest 329 = .ok (.goto 16, 3) := by decide +kernel
theorem dX10_nearest_332 : decode cX10_nearest 332 = .ok (.iload_n 3, 1) := by decide +kernel
theorem dX10_nearest_333 : decode cX10_nearest 333 = .ok (.iconst 2, 1) := by decide +kernel
theorem dX10_nearest_334 : decode cX10_nearest 334 = .ok (.if_icmp .ne 9, 3) := by decide +kernel
theorem dX10_nearest_337 : decode cX10_nearest 337 = .ok (.iload 10, 2) := by decide +kernel
theorem dX10_nearest_339 : decode cX10_nearest 339 = .ok (.i2l, 1) := by decide +kernel
theorem dX10_nearest_340 : decode cX10_nearest 340 = .ok (.goto 5, 3) := by decide +kernel
theorem dX10_nearest_343 : decode cX10_nearest 343 = .ok (.lload 4, 2) := by decide +kernel
theorem dX10_nearest_345 : decode cX10_nearest 345 = .ok (.l2i, 1) := by decide +kernel
theorem dX10_nearest_346 : decode cX10_nearest 346 = .ok (.ireturn, 1) := by decide +kernel
theorem dX10_turnsRound_0 : decode cX10_turnsRound 0 = .ok (.lload 4, 2) := by decide +kernel
theorem dX10_turnsRound_2 : decode cX10_turnsRound 2 = .ok (.lload_n 0, 1) := by decide +kernel
theorem dX10_turnsRound_3 : decode cX10_turnsRound 3 = .ok (.lsub, 1) := by decide +kernel
theorem dX10_turnsRound_4 : decode cX10_turnsRound 4 = .ok (.lload 10, 2) := by decide +kernel
theorem dX10_turnsRound_6 : decode cX10_turnsRound 6 = .ok (.lload_n 2, 1) := by decide +kernel
theorem dX10_turnsRound_7 : decode cX10_turnsRound 7 = .ok (.lsub, 1) := by decide +kernel
theorem dX10_turnsRound_8 : decode cX10_turnsRound 8 = .ok (.lmul, 1) := by decide +kernel
theorem dX10_turnsRound_9 : decode cX10_turnsRound 9 = .ok (.lload 8, 2) := by decide +kernel
theorem dX10_turnsRound_11 : decode cX10_turnsRound 11 = .ok (.lload_n 0, 1) := by decide +kernel
theorem dX10_turnsRound_12 : decode cX10_turnsRound 12 = .ok (.lsub, 1) := by decide +kernel
theorem dX10_turnsRound_13 : decode cX10_turnsRound 13 = .ok (.lload 6, 2) := by decide +kernel
theorem dX10_turnsRound_15 : decode cX10_turnsRound 15 = .ok (.lload_n 2, 1) := by decide +kernel
theorem dX10_turnsRound_16 : decode cX10_turnsRound 16 = .ok (.lsub, 1) := by decide +kernel
theorem dX10_turnsRound_17 : decode cX10_turnsRound 17 = .ok (.lmul, 1) := by decide +kernel
theorem dX10_turnsRound_18 : decode cX10_turnsRound 18 = .ok (.lsub, 1) := by decide +kernel
theorem dX10_turnsRound_19 : decode cX10_turnsRound 19 = .ok (.lstore 12, 2) := by decide +kernel
theorem dX10_turnsRound_21 : decode cX10_turnsRound 21 = .ok (.lload_n 2, 1) := by decide +kernel
theorem dX10_turnsRound_22 : decode cX10_turnsRound 22 = .ok (.lload 10, 2) := by decide +kernel
theorem dX10_turnsRound_24 : decode cX10_turnsRound 24 = .ok (.lcmp, 1) := by decide +kernel
theorem dX10_turnsRound_25 : decode cX10_turnsRound 25 = .ok (.ifCond .gt 24, 3) := by decide +kernel
theorem dX10_turnsRound_28 : decode cX10_turnsRound 28 = .ok (.lload 6, 2) := by decide +kernel
theorem dX10_turnsRound_30 : decode cX10_turnsRound 30 = .ok (.lload 10, 2) := by decide +kernel
theorem dX10_turnsRound_32 : decode cX10_turnsRound 32 = .ok (.lcmp, 1) := by decide +kernel
theorem dX10_turnsRound_33 : decode cX10_turnsRound 33 = .ok (.ifCond .le 16, 3) := by decide +kernel
theorem dX10_turnsRound_36 : decode cX10_turnsRound 36 = .ok (.lload 12, 2) := by decide +kernel
theorem dX10_turnsRound_38 : decode cX10_turnsRound 38 = .ok (.lconst 0, 1) := by decide +kernel
theorem dX10_turnsRound_39 : decode cX10_turnsRound 39 = .ok (.lcmp, 1) := by decide +kernel
theorem dX10_turnsRound_40 : decode cX10_turnsRound 40 = .ok (.ifCond .le 7, 3) := by decide +kernel
theorem dX10_turnsRound_43 : decode cX10_turnsRound 43 = .ok (.iconst 1, 1) := by decide +kernel
theorem dX10_turnsRound_44 : decode cX10_turnsRound 44 = .ok (.goto 4, 3) := by decide +kernel
theorem dX10_turnsRound_47 : decode cX10_turnsRound 47 = .ok (.iconst 0, 1) := by decide +kernel
theorem dX10_turnsRound_48 : decode cX10_turnsRound 48 = .ok (.ireturn, 1) := by decide +kernel
theorem dX10_turnsRound_49 : decode cX10_turnsRound 49 = .ok (.lload 6, 2) := by decide +kernel
theorem dX10_turnsRound_51 : decode cX10_turnsRound 51 = .ok (.lload 10, 2) := by decide +kernel
theorem dX10_turnsRound_53 : decode cX10_turnsRound 53 = .ok (.lcmp, 1) := by decide +kernel
theorem dX10_turnsRound_54 : decode cX10_turnsRound 54 = .ok (.ifCond .gt 23, 3) := by decide +kernel
theorem dX10_turnsRound_57 : decode cX10_turnsRound 57 = .ok (.lload_n 2, 1) := by decide +kernel
theorem dX10_turnsRound_58 : decode cX10_turnsRound 58 = .ok (.lload 10, 2) := by decide +kernel
theorem dX10_turnsRound_60 : decode cX10_turnsRound 60 = .ok (.lcmp, 1) := by decide +kernel
theorem dX10_turnsRound_61 : decode cX10_turnsRound 61 = .ok (.ifCond .le 16, 3) := by decide +kernel
theorem dX10_turnsRound_64 : decode cX10_turnsRound 64 = .ok (.lload 12, 2) := by decide +kernel
theorem dX10_turnsRound_66 : decode cX10_turnsRound 66 = .ok (.lconst 0, 1) := by decide +kernel
theorem dX10_turnsRound_67 : decode cX10_turnsRound 67 = .ok (.lcmp, 1) := by decide +kernel
theorem dX10_turnsRound_68 : decode cX10_turnsRound 68 = .ok (.ifCond .ge 7, 3) := by decide +kernel
theorem dX10_turnsRound_71 : decode cX10_turnsRound 71 = .ok (.iconst (-1), 1) := by decide +kernel
theorem dX10_turnsRound_72 : decode cX10_turnsRound 72 = .ok (.goto 4, 3) := by decide +kernel
theorem dX10_turnsRound_75 : decode cX10_turnsRound 75 = .ok (.iconst 0, 1) := by decide +kernel
theorem dX10_turnsRound_76 : decode cX10_turnsRound 76 = .ok (.ireturn, 1) := by decide +kernel
theorem dX10_turnsRound_77 : decode cX10_turnsRound 77 = .ok (.iconst 0, 1) := by decide +kernel
theorem dX10_turnsRound_78 : decode cX10_turnsRound 78 = .ok (.ireturn, 1) := by decide +kernel
theorem dX10_winding_0 : decode cX10_winding 0 = .ok (.iload_n 1, 1) := by decide +kernel
theorem dX10_winding_1 : decode cX10_winding 1 = .ok (.invokestatic 84, 3) := by decide +kernel
theorem dX10_winding_4 : decode cX10_winding 4 = .ok (.ifCond .eq 10, 3) := by decide +kernel
theorem dX10_winding_7 : decode cX10_winding 7 = .ok (.iload_n 2, 1) := by decide +kernel
theorem dX10_winding_8 : decode cX10_winding 8 = .ok (.invokestatic 84, 3) := by decide +kernel
theorem dX10_winding_11 : decode cX10_winding 11 = .ok (.ifCond .ne 6, 3) := by decide +kernel
theorem dX10_winding_14 : decode cX10_winding 14 = .ok (.ldc 88, 2) := by decide +kernel
theorem dX10_winding_16 : decode cX10_winding 16 = .ok (.ireturn, 1) := by decide +kernel
theorem dX10_winding_17 : decode cX10_winding 17 = .ok (.aload_n 0, 1) := by decide +kernel
theorem dX10_winding_18 : decode cX10_winding 18 = .ok (.invokevirtual 111, 3) := by decide +kernel
theorem dX10_winding_21 : decode cX10_winding 21 = .ok (.iconst 0, 1) := by decide +kernel
theorem dX10_winding_22 : decode cX10_winding 22 = .ok (.istore_n 3, 1) := by decide +kernel
theorem dX10_winding_23 : decode cX10_winding 23 = .ok (.iconst 0, 1) := by decide +kernel
theorem dX10_winding_24 : decode cX10_winding 24 = .ok (.istore 4, 2) := by decide +kernel
theorem dX10_winding_26 : decode cX10_winding 26 = .ok (.iload 4, 2) := by decide +kernel
theorem dX10_winding_28 : decode cX10_winding 28 = .ok (.aload_n 0, 1) := by decide +kernel
theorem dX10_winding_29 : decode cX10_winding 29 = .ok (.getfield 211, 3) := by decide +kernel
theorem dX10_winding_32 : decode cX10_winding 32 = .ok (.if_icmp .ge 112, 3) := by decide +kernel
theorem dX10_winding_35 : decode cX10_winding 35 = .ok (.aload_n 0, 1) := by decide +kernel
theorem dX10_winding_36 : decode cX10_winding 36 = .ok (.getfield 56, 3) := by decide +kernel
theorem dX10_winding_39 : decode cX10_winding 39 = .ok (.iload 4, 2) := by decide +kernel
theorem dX10_winding_41 : decode cX10_winding 41 = .ok (.iaload, 1) := by decide +kernel
theorem dX10_winding_42 : decode cX10_winding 42 = .ok (.istore 5, 2) := by decide +kernel
theorem dX10_winding_44 : decode cX10_winding 44 = .ok (.iload 5, 2) := by decide +kernel
theorem dX10_winding_46 : decode cX10_winding 46 = .ok (.aload_n 0, 1) := by decide +kernel
theorem dX10_winding_47 : decode cX10_winding 47 = .ok (.getfield 56, 3) := by decide +kernel
theorem dX10_winding_50 : decode cX10_winding 50 = .ok (.iload 4, 2) := by decide +kernel
theorem dX10_winding_52 : decode cX10_winding 52 = .ok (.iconst 1, 1) := by decide +kernel
theorem dX10_winding_53 : decode cX10_winding 53 = .ok (.iadd, 1) := by decide +kernel
theorem dX10_winding_54 : decode cX10_winding 54 = .ok (.iaload, 1) := by decide +kernel
theorem dX10_winding_55 : decode cX10_winding 55 = .ok (.if_icmp .ge 83, 3) := by decide +kernel
theorem dX10_winding_58 : decode cX10_winding 58 = .ok (.iload 5, 2) := by decide +kernel
theorem dX10_winding_60 : decode cX10_winding 60 = .ok (.iconst 1, 1) := by decide +kernel
theorem dX10_winding_61 : decode cX10_winding 61 = .ok (.iadd, 1) := by decide +kernel
theorem dX10_winding_62 : decode cX10_winding 62 = .ok (.aload_n 0, 1) := by decide +kernel
theorem dX10_winding_63 : decode cX10_winding 63 = .ok (.getfield 56, 3) := by decide +kernel
theorem dX10_winding_66 : decode cX10_winding 66 = .ok (.iload 4, 2) := by decide +kernel
theorem dX10_winding_68 : decode cX10_winding 68 = .ok (.iconst 1, 1) := by decide +kernel
theorem dX10_winding_69 : decode cX10_winding 69 = .ok (.iadd, 1) := by decide +kernel
theorem dX10_winding_70 : decode cX10_winding 70 = .ok (.iaload, 1) := by decide +kernel
theorem dX10_winding_71 : decode cX10_winding 71 = .ok (.if_icmp .ge 10, 3) := by decide +kernel
theorem dX10_winding_74 : decode cX10_winding 74 = .ok (.iload 5, 2) := by decide +kernel
theorem dX10_winding_76 : decode cX10_winding 76 = .ok (.iconst 1, 1) := by decide +kernel
theorem dX10_winding_77 : decode cX10_winding 77 = .ok (.iadd, 1) := by decide +kernel
theorem dX10_winding_78 : decode cX10_winding 78 = .ok (.goto 10, 3) := by decide +kernel
theorem dX10_winding_81 : decode cX10_winding 81 = .ok (.aload_n 0, 1) := by decide +kernel
theorem dX10_winding_82 : decode cX10_winding 82 = .ok (.getfield 56, 3) := by decide +kernel
theorem dX10_winding_85 : decode cX10_winding 85 = .ok (.iload 4, 2) := by decide +kernel
theorem dX10_winding_87 : decode cX10_winding 87 = .ok (.iaload, 1) := by decide +kernel
theorem dX10_winding_88 : decode cX10_winding 88 = .ok (.istore 6, 2) := by decide +kernel
theorem dX10_winding_90 : decode cX10_winding 90 = .ok (.iload_n 3, 1) := by decide +kernel
theorem dX10_winding_91 : decode cX10_winding 91 = .ok (.aload_n 0, 1) := by decide +kernel
theorem dX10_winding_92 : decode cX10_winding 92 = .ok (.getfield 47, 3) := by decide +kernel
theorem dX10_winding_95 : decode cX10_winding 95 = .ok (.iload 5, 2) := by decide +kernel
theorem dX10_winding_97 : decode cX10_winding 97 = .ok (.iaload, 1) := by decide +kernel
theorem dX10_winding_98 : decode cX10_winding 98 = .ok (.i2l, 1) := by decide +kernel
theorem dX10_winding_99 : decode cX10_winding 99 = .ok (.aload_n 0, 1) := by decide +kernel
theorem dX10_winding_100 : decode cX10_winding 100 = .ok (.getfield 50, 3) := by decide +kernel
theorem dX10_winding_103 : decode cX10_winding 103 = .ok (.iload 5, 2) := by decide +kernel
theorem dX10_winding_105 : decode cX10_winding 105 = .ok (.iaload, 1) := by decide +kernel
theorem dX10_winding_106 : decode cX10_winding 106 = .ok (.i2l, 1) := by decide +kernel
theorem dX10_winding_107 : decode cX10_winding 107 = .ok (.aload_n 0, 1) := by decide +kernel
theorem dX10_winding_108 : decode cX10_winding 108 = .ok (.getfield 47, 3) := by decide +kernel
theorem dX10_winding_111 : decode cX10_winding 111 = .ok (.iload 6, 2) := by decide +kernel
theorem dX10_winding_113 : decode cX10_winding 113 = .ok (.iaload, 1) := by decide +kernel
theorem dX10_winding_114 : decode cX10_winding 114 = .ok (.i2l, 1) := by decide +kernel
theorem dX10_winding_115 : decode cX10_winding 115 = .ok (.aload_n 0, 1) := by decide +kernel
theorem dX10_winding_116 : decode cX10_winding 116 = .ok (.getfield 50, 3) := by decide +kernel
theorem dX10_winding_119 : decode cX10_winding 119 = .ok (.iload 6, 2) := by decide +kernel
theorem dX10_winding_121 : decode cX10_winding 121 = .ok (.iaload, 1) := by decide +kernel
theorem dX10_winding_122 : decode cX10_winding 122 = .ok (.i2l, 1) := by decide +kernel
theorem dX10_winding_123 : decode cX10_winding 123 = .ok (.iload_n 1, 1) := by decide +kernel
theorem dX10_winding_124 : decode cX10_winding 124 = .ok (.i2l, 1) := by decide +kernel
theorem dX10_winding_125 : decode cX10_winding 125 = .ok (.iload_n 2, 1) := by decide +kernel
theorem dX10_winding_126 : decode cX10_winding 126 = .ok (.i2l, 1) := by decide +kernel
theorem dX10_winding_127 : decode cX10_winding 127 = .ok (.invokestatic 268, 3) := by decide +kernel
theorem dX10_winding_130 : decode cX10_winding 130 = .ok (.iadd, 1) := by decide +kernel
theorem dX10_winding_131 : decode cX10_winding 131 = .ok (.istore_n 3, 1) := by decide +kernel
theorem dX10_winding_132 : decode cX10_winding 132 = .ok (.iinc 5 1, 3) := by decide +kernel
theorem dX10_winding_135 : decode cX10_winding 135 = .ok (.goto (-91), 3) := by decide +kernel
theorem dX10_winding_138 : decode cX10_winding 138 = .ok (.iinc 4 1, 3) := by decide +kernel
theorem dX10_winding_141 : decode cX10_winding 141 = .ok (.goto (-115), 3) := by decide +kernel
theorem dX10_winding_144 : decode cX10_winding 144 = .ok (.iload_n 3, 1) := by decide +kernel
theorem dX10_winding_145 : decode cX10_winding 145 = .ok (.ireturn, 1) := by decide +kernel
theorem dX10_area_0 : decode cX10_area 0 = .ok (.aload_n 0, 1) := by decide +kernel
theorem dX10_area_1 : decode cX10_area 1 = .ok (.iload_n 1, 1) := by decide +kernel
theorem dX10_area_2 : decode cX10_area 2 = .ok (.invokevirtual 123, 3) := by decide +kernel
theorem dX10_area_5 : decode cX10_area 5 = .ok (.ifCond .ne 7, 3) := by decide +kernel
theorem dX10_area_8 : decode cX10_area 8 = .ok (.ldc2_w 272, 3) := by decide +kernel
theorem dX10_area_11 : decode cX10_area 11 = .ok (.lreturn, 1) := by decide +kernel
theorem dX10_area_12 : decode cX10_area 12 = .ok (.aload_n 0, 1) := by decide +kernel
theorem dX10_area_13 : decode cX10_area 13 = .ok (.invokevirtual 111, 3) := by decide +kernel
theorem dX10_area_16 : decode cX10_area 16 = .ok (.lconst 0, 1) := by decide +kernel
theorem dX10_area_17 : decode cX10_area 17 = .ok (.lstore_n 2, 1) := by decide +kernel
theorem dX10_area_18 : decode cX10_area 18 = .ok (.aload_n 0, 1) := by decide +kernel
theorem dX10_area_19 : decode cX10_area 19 = .ok (.getfield 56, 3) := by decide +kernel
theorem dX10_area_22 : decode cX10_area 22 = .ok (.iload_n 1, 1) := by decide +kernel
theorem dX10_area_23 : decode cX10_area 23 = .ok (.iaload, 1) := by decide +kernel
theorem dX10_area_24 : decode cX10_area 24 = .ok (.istore 4, 2) := by decide +kernel
theorem dX10_area_26 : decode cX10_area 26 = .ok (.iload 4, 2) := by decide +kernel
theorem dX10_area_28 : decode cX10_area 28 = .ok (.aload_n 0, 1) := by decide +kernel
theorem dX10_area_29 : decode cX10_area 29 = .ok (.getfield 56, 3) := by decide +kernel
theorem dX10_area_32 : decode cX10_area 32 = .ok (.iload_n 1, 1) := by decide +kernel
theorem dX10_area_33 : decode cX10_area 33 = .ok (.iconst 1, 1) := by decide +kernel
theorem dX10_area_34 : decode cX10_area 34 = .ok (.iadd, 1) := by decide +kernel
theorem dX10_area_35 : decode cX10_area 35 = .ok (.iaload, 1) := by decide +kernel
theorem dX10_area_36 : decode cX10_area 36 = .ok (.if_icmp .ge 77, 3) := by decide +kernel
theorem dX10_area_39 : decode cX10_area 39 = .ok (.iload 4, 2) := by decide +kernel
theorem dX10_area_41 : decode cX10_area 41 = .ok (.iconst 1, 1) := by decide +kernel
theorem dX10_area_42 : decode cX10_area 42 = .ok (.iadd, 1) := by decide +kernel
theorem dX10_area_43 : decode cX10_area 43 = .ok (.aload_n 0, 1) := by decide +kernel
theorem dX10_area_44 : decode cX10_area 44 = .ok (.getfield 56, 3) := by decide +kernel
theorem dX10_area_47 : decode cX10_area 47 = .ok (.iload_n 1, 1) := by decide +kernel
theorem dX10_area_48 : decode cX10_area 48 = .ok (.iconst 1, 1) := by decide +kernel
theorem dX10_area_49 : decode cX10_area 49 = .ok (.iadd, 1) := by decide +kernel
theorem dX10_area_50 : decode cX10_area 50 = .ok (.iaload, 1) := by decide +kernel
theorem dX10_area_51 : decode cX10_area 51 = .ok (.if_icmp .ge 10, 3) := by decide +kernel
theorem dX10_area_54 : decode cX10_area 54 = .ok (.iload 4, 2) := by decide +kernel
theorem dX10_area_56 : decode cX10_area 56 = .ok (.iconst 1, 1) := by decide +kernel
theorem dX10_area_57 : decode cX10_area 57 = .ok (.iadd, 1) := by decide +kernel
theorem dX10_area_58 : decode cX10_area 58 = .ok (.goto 9, 3) := by decide +kernel
theorem dX10_area_61 : decode cX10_area 61 = .ok (.aload_n 0, 1) := by decide +kernel
theorem dX10_area_62 : decode cX10_area 62 = .ok (.getfield 56, 3) := by decide +kernel
theorem dX10_area_65 : decode cX10_area 65 = .ok (.iload_n 1, 1) := by decide +kernel
theorem dX10_area_66 : decode cX10_area 66 = .ok (.iaload, 1) := by decide +kernel
theorem dX10_area_67 : decode cX10_area 67 = .ok (.istore 5, 2) := by decide +kernel
theorem dX10_area_69 : decode cX10_area 69 = .ok (.lload_n 2, 1) := by decide +kernel
theorem dX10_area_70 : decode cX10_area 70 = .ok (.aload_n 0, 1) := by decide +kernel
theorem dX10_area_71 : decode cX10_area 71 = .ok (.getfield 47, 3) := by decide +kernel
theorem dX10_area_74 : decode cX10_area 74 = .ok (.iload 4, 2) := by decide +kernel
theorem dX10_area_76 : decode cX10_area 76 = .ok (.iaload, 1) := by decide +kernel
theorem dX10_area_77 : decode cX10_area 77 = .ok (.i2l, 1) := by decide +kernel
theorem dX10_area_78 : decode cX10_area 78 = .ok (.aload_n 0, 1) := by decide +kernel
theorem dX10_area_79 : decode cX10_area 79 = .ok (.getfield 50, 3) := by decide +kernel
theorem dX10_area_82 : decode cX10_area 82 = .ok (.iload 5, 2) := by decide +kernel
theorem dX10_area_84 : decode cX10_area 84 = .ok (.iaload, 1) := by decide +kernel
theorem dX10_area_85 : decode cX10_area 85 = .ok (.i2l, 1) := by decide +kernel
theorem dX10_area_86 : decode cX10_area 86 = .ok (.lmul, 1) := by decide +kernel
theorem dX10_area_87 : decode cX10_area 87 = .ok (.aload_n 0, 1) := by decide +kernel
theorem dX10_area_88 : decode cX10_area 88 = .ok (.getfield 47, 3) := by decide +kernel
theorem dX10_area_91 : decode cX10_area 91 = .ok (.iload 5, 2) := by decide +kernel
theorem dX10_area_93 : decode cX10_area 93 = .ok (.iaload, 1) := by decide +kernel
theorem dX10_area_94 : decode cX10_area 94 = .ok (.i2l, 1) := by decide +kernel
theorem dX10_area_95 : decode cX10_area 95 = .ok (.aload_n 0, 1) := by decide +kernel
theorem dX10_area_96 : decode cX10_area 96 = .ok (.getfield 50, 3) := by decide +kernel
theorem dX10_area_99 : decode cX10_area 99 = .ok (.iload 4, 2) := by decide +kernel
theorem dX10_area_101 : decode cX10_area 101 = .ok (.iaload, 1) := by decide +kernel
theorem dX10_area_102 : decode cX10_area 102 = .ok (.i2l, 1) := by decide +kernel
theorem dX10_area_103 : decode cX10_area 103 = .ok (.lmul, 1) := by decide +kernel
theorem dX10_area_104 : decode cX10_area 104 = .ok (.lsub, 1) := by decide +kernel
theorem dX10_area_105 : decode cX10_area 105 = .ok (.ladd, 1) := by decide +kernel
theorem dX10_area_106 : decode cX10_area 106 = .ok (.lstore_n 2, 1) := by decide +kernel
theorem dX10_area_107 : decode cX10_area 107 = .ok (.iinc 4 1, 3) := by decide +kernel
theorem dX10_area_110 : decode cX10_area 110 = .ok (.goto (-84), 3) := by decide +kernel
theorem dX10_area_113 : decode cX10_area 113 = .ok (.lload_n 2, 1) := by decide +kernel
theorem dX10_area_114 : decode cX10_area 114 = .ok (.lreturn, 1) := by decide +kernel
theorem dX10_bound_0 : decode cX10_bound 0 = .ok (.iload_n 1, 1) := by decide +kernel
theorem dX10_bound_1 : decode cX10_bound 1 = .ok (.iconst (-1), 1) := by decide +kernel
theorem dX10_bound_2 : decode cX10_bound 2 = .ok (.if_icmp .ne 13, 3) := by decide +kernel
theorem dX10_bound_5 : decode cX10_bound 5 = .ok (.aload_n 0, 1) := by decide +kernel
theorem dX10_bound_6 : decode cX10_bound 6 = .ok (.invokevirtual 120, 3) := by decide +kernel
theorem dX10_bound_9 : decode cX10_bound 9 = .ok (.ifCond .ne 17, 3) := by decide +kernel
theorem dX10_bound_12 : decode cX10_bound 12 = .ok (.goto 11, 3) := by decide +kernel
theorem dX10_bound_15 : decode cX10_bound 15 = .ok (.aload_n 0, 1) := by decide +kernel
theorem dX10_bound_16 : decode cX10_bound 16 = .ok (.iload_n 1, 1) := by decide +kernel
theorem dX10_bound_17 : decode cX10_bound 17 = .ok (.invokevirtual 123, 3) := by decide +kernel
theorem dX10_bound_20 : decode cX10_bound 20 = .ok (.ifCond .ne 6, 3) := by decide +kernel
theorem dX10_bound_23 : decode cX10_bound 23 = .ok (.ldc 107, 2) := by decide +kernel
theorem dX10_bound_25 : decode cX10_bound 25 = .ok (.ireturn, 1) := by decide +kernel
theorem dX10_bound_26 : decode cX10_bound 26 = .ok (.iload_n 2, 1) := by decide +kernel
theorem dX10_bound_27 : decode cX10_bound 27 = .ok (.iconst 0, 1) := by decide +kernel
theorem dX10_bound_28 : decode cX10_bound 28 = .ok (.iconst 3, 1) := by decide +kernel
theorem dX10_bound_29 : decode cX10_bound 29 = .ok (.invokestatic 80, 3) := by decide +kernel
theorem dX10_bound_32 : decode cX10_bound 32 = .ok (.ifCond .ne 6, 3) := by decide +kernel
theorem dX10_bound_35 : decode cX10_bound 35 = .ok (.ldc 88, 2) := by decide +kernel
theorem dX10_bound_37 : decode cX10_bound 37 = .ok (.ireturn, 1) := by decide +kernel
theorem dX10_bound_38 : decode cX10_bound 38 = .ok (.aload_n 0, 1) := by decide +kernel
theorem dX10_bound_39 : decode cX10_bound 39 = .ok (.invokevirtual 111, 3) := by decide +kernel
theorem dX10_bound_42 : decode cX10_bound 42 = .ok (.iload_n 1, 1) := by decide +kernel
theorem dX10_bound_43 : decode cX10_bound 43 = .ok (.iconst (-1), 1) := by decide +kernel
theorem dX10_bound_44 : decode cX10_bound 44 = .ok (.if_icmp .ne 7, 3) := by decide +kernel
theorem dX10_bound_47 : decode cX10_bound 47 = .ok (.iconst 0, 1) := by decide +kernel
theorem dX10_bound_48 : decode cX10_bound 48 = .ok (.goto 9, 3) := by decide +kernel
theorem dX10_bound_51 : decode cX10_bound 51 = .ok (.aload_n 0, 1) := by decide +kernel
theorem dX10_bound_52 : decode cX10_bound 52 = .ok (.getfield 56, 3) := by decide +kernel
theorem dX10_bound_55 : decode cX10_bound 55 = .ok (.iload_n 1, 1) := by decide +kernel
theorem dX10_bound_56 : decode cX10_bound 56 = .ok (.iaload, 1) := by decide +kernel
theorem dX10_bound_57 : decode cX10_bound 57 = .ok (.istore_n 3, 1) := by decide +kernel
theorem dX10_bound_58 : decode cX10_bound 58 = .ok (.iload_n 1, 1) := by decide +kernel
theorem dX10_bound_59 : decode cX10_bound 59 = .ok (.iconst (-1), 1) := by decide +kernel
theorem dX10_bound_60 : decode cX10_bound 60 = .ok (.if_icmp .ne 10, 3) := by decide +kernel
theorem dX10_bound_63 : decode cX10_bound 63 = .ok (.aload_n 0, 1) := by decide +kernel
theorem dX10_bound_64 : decode cX10_bound 64 = .ok (.getfield 208, 3) := by decide +kernel
theorem dX10_bound_67 : decode cX10_bound 67 = .ok (.goto 11, 3) := by decide +kernel
theorem dX10_bound_70 : decode cX10_bound 70 = .ok (.aload_n 0, 1) := by decide +kernel
theorem dX10_bound_71 : decode cX10_bound 71 = .ok (.getfield 56, 3) := by decide +kernel
theorem dX10_bound_74 : decode cX10_bound 74 = .ok (.iload_n 1, 1) := by decide +kernel
theorem dX10_bound_75 : decode cX10_bound 75 = .ok (.iconst 1, 1) := by decide +kernel
theorem dX10_bound_76 : decode cX10_bound 76 = .ok (.iadd, 1) := by decide +kernel
theorem dX10_bound_77 : decode cX10_bound 77 = .ok (.iaload, 1) := by decide +kernel
theorem dX10_bound_78 : decode cX10_bound 78 = .ok (.istore 4, 2) := by decide +kernel
theorem dX10_bound_80 : decode cX10_bound 80 = .ok (.iload_n 2, 1) := by decide +kernel
theorem dX10_bound_81 : decode cX10_bound 81 = .ok (.iconst 2, 1) := by decide +kernel
theorem dX10_bound_82 : decode cX10_bound 82 = .ok (.irem, 1) := by decide +kernel
theorem dX10_bound_83 : decode cX10_bound 83 = .ok (.ifCond .ne 12, 3) := by decide +kernel
theorem dX10_bound_86 : decode cX10_bound 86 = .ok (.aload_n 0, 1) := by decide +kernel
theorem dX10_bound_87 : decode cX10_bound 87 = .ok (.getfield 47, 3) := by decide +kernel
theorem dX10_bound_90 : decode cX10_bound 90 = .ok (.iload_n 3, 1) := by decide +kernel
theorem dX10_bound_91 : decode cX10_bound 91 = .ok (.iaload, 1) := by decide +kernel
theorem dX10_bound_92 : decode cX10_bound 92 = .ok (.goto 9, 3) := by decide +kernel
theorem dX10_bound_95 : decode cX10_bound 95 = .ok (.aload_n 0, 1) := by decide +kernel
theorem dX10_bound_96 : decode cX10_bound 96 = .ok (.getfield 50, 3) := by decide +kernel
theorem dX10_bound_99 : decode cX10_bound 99 = .ok (.iload_n 3, 1) := by decide +kernel
theorem dX10_bound_100 : decode cX10_bound 100 = .ok (.iaload, 1) := by decide +kernel
theorem dX10_bound_101 : decode cX10_bound 101 = .ok (.istore 5, 2) := by decide +kernel
theorem dX10_bound_103 : decode cX10_bound 103 = .ok (.iload_n 3, 1) := by decide +kernel
theorem dX10_bound_104 : decode cX10_bound 104 = .ok (.istore 6, 2) := by decide +kernel
theorem dX10_bound_106 : decode cX10_bound 106 = .ok (.iload 6, 2) := by decide +kernel
theorem dX10_bound_108 : decode cX10_bound 108 = .ok (.iload 4, 2) := by decide +kernel
theorem dX10_bound_110 : decode cX10_bound 110 = .ok (.if_icmp .ge 72, 3) := by decide +kernel
theorem dX10_bound_113 : decode cX10_bound 113 = .ok (.iload_n 2, 1) := by decide +kernel
theorem dX10_bound_114 : decode cX10_bound 114 = .ok (.iconst 2, 1) := by decide +kernel
theorem dX10_bound_115 : decode cX10_bound 115 = .ok (.irem, 1) := by decide +kernel
theorem dX10_bound_116 : decode cX10_bound 116 = .ok (.ifCond .ne 13, 3) := by decide +kernel
theorem dX10_bound_119 : decode cX10_bound 119 = .ok (.aload_n 0, 1) := by decide +kernel
theorem dX10_bound_120 : decode cX10_bound 120 = .ok (.getfield 47, 3) := by decide +kernel
theorem dX10_bound_123 : decode cX10_bound 123 = .ok (.iload 6, 2) := by decide +kernel
theorem dX10_bound_125 : decode cX10_bound 125 = .ok (.iaload, 1) := by decide +kernel
theorem dX10_bound_126 : decode cX10_bound 126 = .ok (.goto 10, 3) := by decide +kernel
theorem dX10_bound_129 : decode cX10_bound 129 = .ok (.aload_n 0, 1) := by decide +kernel
theorem dX10_bound_130 : decode cX10_bound 130 = .ok (.getfield 50, 3) := by decide +kernel
theorem dX10_bound_133 : decode cX10_bound 133 = .ok (.iload 6, 2) := by decide +kernel
theorem dX10_bound_135 : decode cX10_bound 135 = .ok (.iaload, 1) := by decide +kernel
theorem dX10_bound_136 : decode cX10_bound 136 = .ok (.istore 7, 2) := by decide +kernel
theorem dX10_bound_138 : decode cX10_bound 138 = .ok (.iload_n 2, 1) := by decide +kernel
theorem dX10_bound_139 : decode cX10_bound 139 = .ok (.iconst 2, 1) := by decide +kernel
theorem dX10_bound_140 : decode cX10_bound 140 = .ok (.if_icmp .ge 20, 3) := by decide +kernel
theorem dX10_bound_143 : decode cX10_bound 143 = .ok (.iload 7, 2) := by decide +kernel
theorem dX10_bound_145 : decode cX10_bound 145 = .ok (.iload 5, 2) := by decide +kernel
theorem dX10_bound_147 : decode cX10_bound 147 = .ok (.if_icmp .ge 8, 3) := by decide +kernel
theorem dX10_bound_150 : decode cX10_bound 150 = .ok (.iload 7, 2) := by decide +kernel
theorem dX10_bound_152 : decode cX10_bound 152 = .ok (.goto 22, 3) := by decide +kernel
theorem dX10_bound_155 : decode cX10_bound 155 = .ok (.iload 5, 2) := by decide +kernel
theorem dX10_bound_157 : decode cX10_bound 157 = .ok (.goto 17, 3) := by decide +kernel
theorem dX10_bound_160 : decode cX10_bound 160 = .ok (.iload 7, 2) := by decide +kernel
theorem dX10_bound_162 : decode cX10_bound 162 = .ok (.iload 5, 2) := by decide +kernel
theorem dX10_bound_164 : decode cX10_bound 164 = .ok (.if_icmp .le 8, 3) := by decide +kernel
theorem dX10_bound_167 : decode cX10_bound 167 = .ok (.iload 7, 2) := by decide +kernel
theorem dX10_bound_169 : decode cX10_bound 169 = .ok (.goto 5, 3) := by decide +kernel
theorem dX10_bound_172 : decode cX10_bound 172 = .ok (.iload 5, 2) := by decide +kernel
theorem dX10_bound_174 : decode cX10_bound 174 = .ok (.istore 5, 2) := by decide +kernel
theorem dX10_bound_176 : decode cX10_bound 176 = .ok (.iinc 6 1, 3) := by decide +kernel
theorem dX10_bound_179 : decode cX10_bound 179 = .ok (.goto (-73), 3) := by decide +kernel
theorem dX10_bound_182 : decode cX10_bound 182 = .ok (.iload 5, 2) := by decide +kernel
theorem dX10_bound_184 : decode cX10_bound 184 = .ok (.ireturn, 1) := by decide +kernel
theorem dX10_farthest_0 : decode cX10_farthest 0 = .ok (.aload_n 0, 1) := by decide +kernel
theorem dX10_farthest_1 : decode cX10_farthest 1 = .ok (.getfield 47, 3) := by decide +kernel
theorem dX10_farthest_4 : decode cX10_farthest 4 = .ok (.iload_n 2, 1) := by decide +kernel
theorem dX10_farthest_5 : decode cX10_farthest 5 = .ok (.iaload, 1) := by decide +kernel
theorem dX10_farthest_6 : decode cX10_farthest 6 = .ok (.aload_n 0, 1) := by decide +kernel
theorem dX10_farthest_7 : decode cX10_farthest 7 = .ok (.getfield 47, 3) := by decide +kernel
theorem dX10_farthest_10 : decode cX10_farthest 10 = .ok (.iload_n 1, 1) := by decide +kernel
theorem dX10_farthest_11 : decode cX10_farthest 11 = .ok (.iaload, 1) := by decide +kernel
theorem dX10_farthest_12 : decode cX10_farthest 12 = .ok (.isub, 1) := by decide +kernel
theorem dX10_farthest_13 : decode cX10_farthest 13 = .ok (.i2l, 1) := by decide +kernel
theorem dX10_farthest_14 : decode cX10_farthest 14 = .ok (.lstore 4, 2) := by decide +kernel
theorem dX10_farthest_16 : decode cX10_farthest 16 = .ok (.aload_n 0, 1) := by decide +kernel
theorem dX10_farthest_17 : decode cX10_farthest 17 = .ok (.getfield 50, 3) := by decide +kernel
theorem dX10_farthest_20 : decode cX10_farthest 20 = .ok (.iload_n 2, 1) := by decide +kernel
theorem dX10_farthest_21 : decode cX10_farthest 21 = .ok (.iaload, 1) := by decide +kernel
theorem dX10_farthest_22 : decode cX10_farthest 22 = .ok (.aload_n 0, 1) := by decide +kernel
theorem dX10_farthest_23 : decode cX10_farthest 23 = .ok (.getfield 50, 3) := by decide +kernel
theorem dX10_farthest_26 : decode cX10_farthest 26 = .ok (.iload_n 1, 1) := by decide +kernel
theorem dX10_farthest_27 : decode cX10_farthest 27 = .ok (.iaload, 1) := by decide +kernel
theorem dX10_farthest_28 : decode cX10_farthest 28 = .ok (.isub, 1) := by decide +kernel
theorem dX10_farthest_29 : decode cX10_farthest 29 = .ok (.i2l, 1) := by decide +kernel
theorem dX10_farthest_30 : decode cX10_farthest 30 = .ok (.lstore 6, 2) := by decide +kernel
theorem dX10_farthest_32 : decode cX10_farthest 32 = .ok (.lload 4, 2) := by decide +kernel
theorem dX10_farthest_34 : decode cX10_farthest 34 = .ok (.lload 4, 2) := by decide +kernel
theorem dX10_farthest_36 : decode cX10_farthest 36 = .ok (.lmul, 1) := by decide +kernel
theorem dX10_farthest_37 : decode cX10_farthest 37 = .ok (.lload 6, 2) := by decide +kernel
theorem dX10_farthest_39 : decode cX10_farthest 39 = .ok (.lload 6, 2) := by decide +kernel
theorem dX10_farthest_41 : decode cX10_farthest 41 = .ok (.lmul, 1) := by decide +kernel
theorem dX10_farthest_42 : decode cX10_farthest 42 = .ok (.ladd, 1) := by decide +kernel
theorem dX10_farthest_43 : decode cX10_farthest 43 = .ok (.lstore 8, 2) := by decide +kernel
theorem dX10_farthest_45 : decode cX10_farthest 45 = .ok (.iload_n 3, 1) := by decide +kernel
theorem dX10_farthest_46 : decode cX10_farthest 46 = .ok (.i2l, 1) := by decide +kernel
theorem dX10_farthest_47 : decode cX10_farthest 47 = .ok (.iload_n 3, 1) := by decide +kernel
theorem dX10_farthest_48 : decode cX10_farthest 48 = .ok (.i2l, 1) := by decide +kernel
theorem dX10_farthest_49 : decode cX10_farthest 49 = .ok (.lmul, 1) := by decide +kernel
theorem dX10_farthest_50 : decode cX10_farthest 50 = .ok (.lload 8, 2) := by decide +kernel
theorem dX10_farthest_52 : decode cX10_farthest 52 = .ok (.lconst 0, 1) := by decide +kernel
theorem dX10_farthest_53 : decode cX10_farthest 53 = .ok (.lcmp, 1) := by decide +kernel
theorem dX10_farthest_54 : decode cX10_farthest 54 = .ok (.ifCond .ne 7, 3) := by decide +kernel
theorem dX10_farthest_57 : decode cX10_farthest 57 = .ok (.lconst 1, 1) := by decide +kernel
theorem dX10_farthest_58 : decode cX10_farthest 58 = .ok (.goto 5, 3) := by decide +kernel
theorem dX10_farthest_61 : decode cX10_farthest 61 = .ok (.lload 8, 2) := by decide +kernel
theorem dX10_farthest_63 : decode cX10_farthest 63 = .ok (.lmul, 1) := by decide +kernel
theorem dX10_farthest_64 : decode cX10_farthest 64 = .ok (.lstore 10, 2) := by decide +kernel
theorem dX10_farthest_66 : decode cX10_farthest 66 = .ok (.ldc 103, 2) := by decide +kernel
theorem dX10_farthest_68 : decode cX10_farthest 68 = .ok (.istore 12, 2) := by decide +kernel
theorem dX10_farthest_70 : decode cX10_farthest 70 = .ok (.iload_n 1, 1) := by decide +kernel
theorem dX10_farthest_71 : decode cX10_farthest 71 = .ok (.iconst 1, 1) := by decide +kernel
theorem dX10_farthest_72 : decode cX10_farthest 72 = .ok (.iadd, 1) := by decide +kernel
theorem dX10_farthest_73 : decode cX10_farthest 73 = .ok (.istore 13, 2) := by decide +kernel
theorem dX10_farthest_75 : decode cX10_farthest 75 = .ok (.iload 13, 2) := by decide +kernel
theorem dX10_farthest_77 : decode cX10_farthest 77 = .ok (.iload_n 2, 1) := by decide +kernel
theorem dX10_farthest_78 : decode cX10_farthest 78 = .ok (.if_icmp .ge 100, 3) := by decide +kernel
theorem dX10_farthest_81 : decode cX10_farthest 81 = .ok (.aload_n 0, 1) := by decide +kernel
theorem dX10_farthest_82 : decode cX10_farthest 82 = .ok (.getfield 47, 3) := by decide +kernel
theorem dX10_farthest_85 : decode cX10_farthest 85 = .ok (.iload 13, 2) := by decide +kernel
theorem dX10_farthest_87 : decode cX10_farthest 87 = .ok (.iaload, 1) := by decide +kernel
theorem dX10_farthest_88 : decode cX10_farthest 88 = .ok (.aload_n 0, 1) := by decide +kernel
theorem dX10_farthest_89 : decode cX10_farthest 89 = .ok (.getfield 47, 3) := by decide +kernel
theorem dX10_farthest_92 : decode cX10_farthest 92 = .ok (.iload_n 1, 1) := by decide +kernel
theorem dX10_farthest_93 : decode cX10_farthest 93 = .ok (.iaload, 1) := by decide +kernel
theorem dX10_farthest_94 : decode cX10_farthest 94 = .ok (.isub, 1) := by decide +kernel
theorem dX10_farthest_95 : decode cX10_farthest 95 = .ok (.i2l, 1) := by decide +kernel
theorem dX10_farthest_96 : decode cX10_farthest 96 = .ok (.lstore 14, 2) := by decide +kernel
theorem dX10_farthest_98 : decode cX10_farthest 98 = .ok (.aload_n 0, 1) := by decide +kernel
theorem dX10_farthest_99 : decode cX10_farthest 99 = .ok (.getfield 50, 3) := by decide +kernel
theorem dX10_farthest_102 : decode cX10_farthest 102 = .ok (.iload 13, 2) := by decide +kernel
theorem dX10_farthest_104 : decode cX10_farthest 104 = .ok (.iaload, 1) := by decide +kernel
theorem dX10_farthest_105 : decode cX10_farthest 105 = .ok (.aload_n 0, 1) := by decide +kernel
theorem dX10_farthest_106 : decode cX10_farthest 106 = .ok (.getfield 50, 3) := by decide +kernel
theorem dX10_farthest_109 : decode cX10_farthest 109 = .ok (.iload_n 1, 1) := by decide +kernel
theorem dX10_farthest_110 : decode cX10_farthest 110 = .ok (.iaload, 1) := by decide +kernel
theorem dX10_farthest_111 : decode cX10_farthest 111 = .ok (.isub, 1) := by decide +kernel
theorem dX10_farthest_112 : decode cX10_farthest 112 = .ok (.i2l, 1) := by decide +kernel
theorem dX10_farthest_113 : decode cX10_farthest 113 = .ok (.lstore 16, 2) := by decide +kernel
theorem dX10_farthest_115 : decode cX10_farthest 115 = .ok (.lload 4, 2) := by decide +kernel
theorem dX10_farthest_117 : decode cX10_farthest 117 = .ok (.lload 16, 2) := by decide +kernel
theorem dX10_farthest_119 : decode cX10_farthest 119 = .ok (.lmul, 1) := by decide +kernel
theorem dX10_farthest_120 : decode cX10_farthest 120 = .ok (.lload 6, 2) := by decide +kernel
theorem dX10_farthest_122 : decode cX10_farthest 122 = .ok (.lload 14, 2) := by decide +kernel
theorem dX10_farthest_124 : decode cX10_farthest 124 = .ok (.lmul, 1) := by decide +kernel
theorem dX10_farthest_125 : decode cX10_farthest 125 = .ok (.lsub, 1) := by decide +kernel
theorem dX10_farthest_126 : decode cX10_farthest 126 = .ok (.lstore 18, 2) := by decide +kernel
theorem dX10_farthest_128 : decode cX10_farthest 128 = .ok (.lload 8, 2) := by decide +kernel
theorem dX10_farthest_130 : decode cX10_farthest 130 = .ok (.lconst 0, 1) := by decide +kernel
theorem dX10_farthest_131 : decode cX10_farthest 131 = .ok (.lcmp, 1) := by decide +kernel
theorem dX10_farthest_132 : decode cX10_farthest 132 = .ok (.ifCond .ne 17, 3) := by decide +kernel
theorem dX10_farthest_135 : decode cX10_farthest 135 = .ok (.lload 14, 2) := by decide +kernel
theorem dX10_farthest_137 : decode cX10_farthest 137 = .ok (.lload 14, 2) := by decide +kernel
theorem dX10_farthest_139 : decode cX10_farthest 139 = .ok (.lmul, 1) := by decide +kernel
theorem dX10_farthest_140 : decode cX10_farthest 140 = .ok (.lload 16, 2) := by decide +kernel
theorem dX10_farthest_142 : decode cX10_farthest 142 = .ok (.lload 16, 2) := by decide +kernel
theorem dX10_farthest_144 : decode cX10_farthest 144 = .ok (.lmul, 1) := by decide +kernel
theorem dX10_farthest_145 : decode cX10_farthest 145 = .ok (.ladd, 1) := by decide +kernel
theorem dX10_farthest_146 : decode cX10_farthest 146 = .ok (.goto 8, 3) := by decide +kernel
theorem dX10_farthest_149 : decode cX10_farthest 149 = .ok (.lload 18, 2) := by decide +kernel
theorem dX10_farthest_151 : decode cX10_farthest 151 = .ok (.lload 18, 2) := by decide +kernel
theorem dX10_farthest_153 : decode cX10_farthest 153 = .ok (.lmul, 1) := by decide +kernel
theorem dX10_farthest_154 : decode cX10_farthest 154 = .ok (.lstore 20, 2) := by decide +kernel
theorem dX10_farthest_156 : decode cX10_farthest 156 = .ok (.lload 20, 2) := by decide +kernel
theorem dX10_farthest_158 : decode cX10_farthest 158 = .ok (.lload 10, 2) := by decide +kernel
theorem dX10_farthest_160 : decode cX10_farthest 160 = .ok (.lcmp, 1) := by decide +kernel
theorem dX10_farthest_161 : decode cX10_farthest 161 = .ok (.ifCond .le 11, 3) := by decide +kernel
theorem dX10_farthest_164 : decode cX10_farthest 164 = .ok (.lload 20, 2) := by decide +kernel
theorem dX10_farthest_166 : decode cX10_farthest 166 = .ok (.lstore 10, 2) := by decide +kernel
theorem dX10_farthest_168 : decode cX10_farthest 168 = .ok (.iload 13, 2) := by decide +kernel
theorem dX10_farthest_170 : decode cX10_farthest 170 = .ok (.istore 12, 2) := by decide +kernel
theorem dX10_farthest_172 : decode cX10_farthest 172 = .ok (.iinc 13 1, 3) := by decide +kernel
theorem dX10_farthest_175 : decode cX10_farthest 175 = .ok (.goto (-100), 3) := by decide +kernel
theorem dX10_farthest_178 : decode cX10_farthest 178 = .ok (.iload 12, 2) := by decide +kernel
theorem dX10_farthest_180 : decode cX10_farthest 180 = .ok (.ireturn, 1) := by decide +kernel
theorem dX10_simplified_0 : decode cX10_simplified 0 = .ok (.aload_n 0, 1) := by decide +kernel
theorem dX10_simplified_1 : decode cX10_simplified 1 = .ok (.iload_n 1, 1) := by decide +kernel
theorem dX10_simplified_2 : decode cX10_simplified 2 = .ok (.invokevirtual 123, 3) := by decide +kernel
theorem dX10_simplified_5 : decode cX10_simplified 5 = .ok (.ifCond .ne 6, 3) := by decide +kernel
theorem dX10_simplified_8 : decode cX10_simplified 8 = .ok (.ldc 107, 2) := by decide +kernel
theorem dX10_simplified_10 : decode cX10_simplified 10 = .ok (.ireturn, 1) := by decide +kernel
theorem dX10_simplified_11 : decode cX10_simplified 11 = .ok (.iload_n 2, 1) := by decide +kernel
theorem dX10_simplified_12 : decode cX10_simplified 12 = .ok (.iconst 0, 1) := by decide +kernel
theorem dX10_simplified_13 : decode cX10_simplified 13 = .ok (.sipush 1000, 3) := by decide +kernel
theorem dX10_simplified_16 : decode cX10_simplified 16 = .ok (.invokestatic 80, 3) := by decide +kernel
theorem dX10_simplified_19 : decode cX10_simplified 19 = .ok (.ifCond .ne 6, 3) := by decide +kernel
theorem dX10_simplified_22 : decode cX10_simplified 22 = .ok (.ldc 88, 2) := by decide +kernel
theorem dX10_simplified_24 : decode cX10_simplified 24 = .ok (.ireturn, 1) := by decide +kernel
theorem dX10_simplified_25 : decode cX10_simplified 25 = .ok (.aload_n 0, 1) := by decide +kernel
theorem dX10_simplified_26 : decode cX10_simplified 26 = .ok (.invokevirtual 111, 3) := by decide +kernel
theorem dX10_simplified_29 : decode cX10_simplified 29 = .ok (.aload_n 0, 1) := by decide +kernel
theorem dX10_simplified_30 : decode cX10_simplified 30 = .ok (.getfield 56, 3) := by decide +kernel
theorem dX10_simplified_33 : decode cX10_simplified 33 = .ok (.iload_n 1, 1) := by decide +kernel
theorem dX10_simplified_34 : decode cX10_simplified 34 = .ok (.iaload, 1) := by decide +kernel
theorem dX10_simplified_35 : decode cX10_simplified 35 = .ok (.istore 4, 2) := by decide +kernel
theorem dX10_simplified_37 : decode cX10_simplified 37 = .ok (.aload_n 0, 1) := by decide +kernel
theorem dX10_simplified_38 : decode cX10_simplified 38 = .ok (.getfield 56, 3) := by decide +kernel
theorem dX10_simplified_41 : decode cX10_simplified 41 = .ok (.iload_n 1, 1) := by decide +kernel
theorem dX10_simplified_42 : decode cX10_simplified 42 = .ok (.iconst 1, 1) := by decide +kernel
theorem dX10_simplified_43 : decode cX10_simplified 43 = .ok (.iadd, 1) := by decide +kernel
theorem dX10_simplified_44 : decode cX10_simplified 44 = .ok (.iaload, 1) := by decide +kernel
theorem dX10_simplified_45 : decode cX10_simplified 45 = .ok (.iconst 1, 1) := by decide +kernel
theorem dX10_simplified_46 : decode cX10_simplified 46 = .ok (.isub, 1) := by decide +kernel
theorem dX10_simplified_47 : decode cX10_simplified 47 = .ok (.istore 5, 2) := by decide +kernel
theorem dX10_simplified_49 : decode cX10_simplified 49 = .ok (.iload 4, 2) := by decide +kernel
theorem dX10_simplified_51 : decode cX10_simplified 51 = .ok (.istore 6, 2) := by decide +kernel
theorem dX10_simplified_53 : decode cX10_simplified 53 = .ok (.iload 6, 2) := by decide +kernel
theorem dX10_simplified_55 : decode cX10_simplified 55 = .ok (.iload 5, 2) := by decide +kernel
theorem dX10_simplified_57 : decode cX10_simplified 57 = .ok (.if_icmp .gt 35, 3) := by decide +kernel
theorem dX10_simplified_60 : decode cX10_simplified 60 = .ok (.aload_n 0, 1) := by decide +kernel
theorem dX10_simplified_61 : decode cX10_simplified 61 = .ok (.getfield 68, 3) := by decide +kernel
theorem dX10_simplified_64 : decode cX10_simplified 64 = .ok (.iload 6, 2) := by decide +kernel
theorem dX10_simplified_66 : decode cX10_simplified 66 = .ok (.iload 6, 2) := by decide +kernel
theorem dX10_simplified_68 : decode cX10_simplified 68 = .ok (.iload 4, 2) := by decide +kernel
theorem dX10_simplified_70 : decode cX10_simplified 70 = .ok (.if_icmp .eq 10, 3) := by decide +kernel
theorem dX10_simplified_73 : decode cX10_simplified 73 = .ok (.iload 6, 2) := by decide +kernel
theorem dX10_simplified_75 : decode cX10_simplified 75 = .ok (.iload 5, 2) := by decide +kernel
theorem dX10_simplified_77 : decode cX10_simplified 77 = .ok (.if_icmp .ne 7, 3) := by decide +kernel
theorem dX10_simplified_80 : decode cX10_simplified 80 = .ok (.iconst 1, 1) := by decide +kernel
theorem dX10_simplified_81 : decode cX10_simplified 81 = .ok (.goto 4, 3) := by decide +kernel
theorem dX10_simplified_84 : decode cX10_simplified 84 = .ok (.iconst 0, 1) := by decide +kernel
theorem dX10_simplified_85 : decode cX10_simplified 85 = .ok (.bastore, 1) := by decide +kernel
theorem dX10_simplified_86 : decode cX10_simplified 86 = .ok (.iinc 6 1, 3) := by decide +kernel
theorem dX10_simplified_89 : decode cX10_simplified 89 = .ok (.goto (-36), 3) := by decide +kernel
theorem dX10_simplified_92 : decode cX10_simplified 92 = .ok (.iload 4, 2) := by decide +kernel
theorem dX10_simplified_94 : decode cX10_simplified 94 = .ok (.istore 6, 2) := by decide +kernel
theorem dX10_simplified_96 : decode cX10_simplified 96 = .ok (.iload 6, 2) := by decide +kernel
theorem dX10_simplified_98 : decode cX10_simplified 98 = .ok (.iload 5, 2) := by decide +kernel
theorem dX10_simplified_100 : decode cX10_simplified 100 = .ok (.if_icmp .ge 59, 3) := by decide +kernel
theorem dX10_simplified_103 : decode cX10_simplified 103 = .ok (.iload 6, 2) := by decide +kernel
theorem dX10_simplified_105 : decode cX10_simplified 105 = .ok (.iconst 1, 1) := by decide +kernel
theorem dX10_simplified_106 : decode cX10_simplified 106 = .ok (.iadd, 1) := by decide +kernel
theorem dX10_simplified_107 : decode cX10_simplified 107 = .ok (.istore 7, 2) := by decide +kernel
theorem dX10_simplified_109 : decode cX10_simplified 109 = .ok (.aload_n 0, 1) := by decide +kernel
theorem dX10_simplified_110 : decode cX10_simplified 110 = .ok (.getfield 68, 3) := by decide +kernel
theorem dX10_simplified_113 : decode cX10_simplified 113 = .ok (.iload 7, 2) := by decide +kernel
theorem dX10_simplified_115 : decode cX10_simplified 115 = .ok (.baload, 1) := by decide +kernel
theorem dX10_simplified_116 : decode cX10_simplified 116 = .ok (.ifCond .ne 9, 3) := by decide +kernel
theorem dX10_simplified_119 : decode cX10_simplified 119 = .ok (.iinc 7 1, 3) := by decide +kernel
theorem dX10_simplified_122 : decode cX10_simplified 122 = .ok (.goto (-13), 3) := by decide +kernel
theorem dX10_simplified_125 : decode cX10_simplified 125 = .ok (.aload_n 0, 1) := by decide +kernel
theorem dX10_simplified_126 : decode cX10_simplified 126 = .ok (.iload 6, 2) := by decide +kernel
theorem dX10_simplified_128 : decode cX10_simplified 128 = .ok (.iload 7, 2) := by decide +kernel
theorem dX10_simplified_130 : decode cX10_simplified 130 = .ok (.iload_n 2, 1) := by decide +kernel
theorem dX10_simplified_131 : decode cX10_simplified 131 = .ok (.invokevirtual 274, 3) := by decide +kernel
theorem dX10_simplified_134 : decode cX10_simplified 134 = .ok (.istore 8, 2) := by decide +kernel
theorem dX10_simplified_136 : decode cX10_simplified 136 = .ok (.iload 8, 2) := by decide +kernel
theorem dX10_simplified_138 : decode cX10_simplified 138 = .ok (.ifCond .lt 14, 3) := by decide +kernel
theorem dX10_simplified_141 : decode cX10_simplified 141 = .ok (.aload_n 0, 1) := by decide +kernel
theorem dX10_simplified_142 : decode cX10_simplified 142 = .ok (.getfield 68, 3) := by decide +kernel
theorem dX10_simplified_145 : decode cX10_simplified 145 = .ok (.iload 8, 2) := by decide +kernel
theorem dX10_simplified_147 : decode cX10_simplified 147 = .ok (.iconst 1, 1) := by decide +kernel
theorem dX10_simplified_148 : decode cX10_simplified 148 = .ok (.bastore, 1) := by decide +kernel
theorem dX10_simplified_149 : decode cX10_simplified 149 = .ok (.goto 7, 3) := by decide +kernel
theorem dX10_simplified_152 : decode cX10_simplified 152 = .ok (.iload 7, 2) := by decide +kernel
theorem dX10_simplified_154 : decode cX10_simplified 154 = .ok (.istore 6, 2) := by decide +kernel
theorem dX10_simplified_156 : decode cX10_simplified 156 = .ok (.goto (-60), 3) := by decide +kernel
theorem dX10_simplified_159 : decode cX10_simplified 159 = .ok (.iconst 0, 1) := by decide +kernel
theorem dX10_simplified_160 : decode cX10_simplified 160 = .ok (.istore 7, 2) := by decide +kernel
theorem dX10_simplified_162 : decode cX10_simplified 162 = .ok (.iload 4, 2) := by decide +kernel
theorem dX10_simplified_164 : decode cX10_simplified 164 = .ok (.istore 8, 2) := by decide +kernel
theorem dX10_simplified_166 : decode cX10_simplified 166 = .ok (.iload 8, 2) := by decide +kernel
theorem dX10_simplified_168 : decode cX10_simplified 168 = .ok (.iload 5, 2) := by decide +kernel
theorem dX10_simplified_170 : decode cX10_simplified 170 = .ok (.if_icmp .gt 34, 3) := by decide +kernel
theorem dX10_simplified_173 : decode cX10_simplified 173 = .ok (.aload_n 0, 1) := by decide +kernel
theorem dX10_simplified_174 : decode cX10_simplified 174 = .ok (.getfield 68, 3) := by decide +kernel
theorem dX10_simplified_177 : decode cX10_simplified 177 = .ok (.iload 8, 2) := by decide +kernel
theorem dX10_simplified_179 : decode cX10_simplified 179 = .ok (.baload, 1) := by decide +kernel
theorem dX10_simplified_180 : decode cX10_simplified 180 = .ok (.ifCond .eq 18, 3) := by decide +kernel
theorem dX10_simplified_183 : decode cX10_simplified 183 = .ok (.iload 7, 2) := by decide +kernel
theorem dX10_simplified_185 : decode cX10_simplified 185 = .ok (.iload_n 3, 1) := by decide +kernel
theorem dX10_simplified_186 : decode cX10_simplified 186 = .ok (.if_icmp .ne 9, 3) := by decide +kernel
theorem dX10_simplified_189 : decode cX10_simplified 189 = .ok (.iload 8, 2) := by decide +kernel
theorem dX10_simplified_191 : decode cX10_simplified 191 = .ok (.iload 4, 2) := by decide +kernel
theorem dX10_simplified_193 : decode cX10_simplified 193 = .ok (.isub, 1) := by decide +kernel
theorem dX10_simplified_194 : decode cX10_simplified 194 = .ok (.ireturn, 1) := by decide +kernel
theorem dX10_simplified_195 : decode cX10_simplified 195 = .ok (.iinc 7 1, 3) := by decide +kernel
theorem dX10_simplified_198 : decode cX10_simplified 198 = .ok (.iinc 8 1, 3) := by decide +kernel
theorem dX10_simplified_201 : decode cX10_simplified 201 = .ok (.goto (-35), 3) := by decide +kernel
theorem dX10_simplified_204 : decode cX10_simplified 204 = .ok (.iload_n 3, 1) := by decide +kernel
theorem dX10_simplified_205 : decode cX10_simplified 205 = .ok (.iconst (-1), 1) := by decide +kernel
theorem dX10_simplified_206 : decode cX10_simplified 206 = .ok (.if_icmp .ne 8, 3) := by decide +kernel
theorem dX10_simplified_209 : decode cX10_simplified 209 = .ok (.iload 7, 2) := by decide +kernel
theorem dX10_simplified_211 : decode cX10_simplified 211 = .ok (.goto 5, 3) := by decide +kernel
theorem dX10_simplified_214 : decode cX10_simplified 214 = .ok (.ldc 103, 2) := by decide +kernel
theorem dX10_simplified_216 : decode cX10_simplified 216 = .ok (.ireturn, 1) := by decide +kernel
theorem dX10_addDash_0 : decode cX10_addDash 0 = .ok (.iload_n 1, 1) := by decide +kernel
theorem dX10_addDash_1 : decode cX10_addDash 1 = .ok (.iconst 1, 1) := by decide +kernel
theorem dX10_addDash_2 : decode cX10_addDash 2 = .ok (.ldc_w 277, 3) := by decide +kernel
theorem dX10_addDash_5 : decode cX10_addDash 5 = .ok (.invokestatic 80, 3) := by decide +kernel
theorem dX10_addDash_8 : decode cX10_addDash 8 = .ok (.ifCond .ne 6, 3) := by decide +kernel
theorem dX10_addDash_11 : decode cX10_addDash 11 = .ok (.ldc 88, 2) := by decide +kernel
theorem dX10_addDash_13 : decode cX10_addDash 13 = .ok (.ireturn, 1) := by decide +kernel
theorem dX10_addDash_14 : decode cX10_addDash 14 = .ok (.aload_n 0, 1) := by decide +kernel
theorem dX10_addDash_15 : decode cX10_addDash 15 = .ok (.getfield 278, 3) := by decide +kernel
theorem dX10_addDash_18 : decode cX10_addDash 18 = .ok (.bipush 6, 2) := by decide +kernel
theorem dX10_addDash_20 : decode cX10_addDash 20 = .ok (.if_icmp .ne 6, 3) := by decide +kernel
theorem dX10_addDash_23 : decode cX10_addDash 23 = .ok (.ldc 98, 2) := by decide +kernel
theorem dX10_addDash_25 : decode cX10_addDash 25 = .ok (.ireturn, 1) := by decide +kernel
theorem dX10_addDash_26 : decode cX10_addDash 26 = .ok (.aload_n 0, 1) := by decide +kernel
theorem dX10_addDash_27 : decode cX10_addDash 27 = .ok (.getfield 23, 3) := by decide +kernel
theorem dX10_addDash_30 : decode cX10_addDash 30 = .ok (.aload_n 0, 1) := by decide +kernel
theorem dX10_addDash_31 : decode cX10_addDash 31 = .ok (.getfield 278, 3) := by decide +kernel
theorem dX10_addDash_34 : decode cX10_addDash 34 = .ok (.iload_n 1, 1) := by decide +kernel
theorem dX10_addDash_35 : decode cX10_addDash 35 = .ok (.iastore, 1) := by decide +kernel
theorem dX10_addDash_36 : decode cX10_addDash 36 = .ok (.aload_n 0, 1) := by decide +kernel
theorem dX10_addDash_37 : decode cX10_addDash 37 = .ok (.dup, 1) := by decide +kernel
theorem dX10_addDash_38 : decode cX10_addDash 38 = .ok (.getfield 278, 3) := by decide +kernel
theorem dX10_addDash_41 : decode cX10_addDash 41 = .ok (.iconst 1, 1) := by decide +kernel
theorem dX10_addDash_42 : decode cX10_addDash 42 = .ok (.iadd, 1) := by decide +kernel
theorem dX10_addDash_43 : decode cX10_addDash 43 = .ok (.putfield 278, 3) := by decide +kernel
theorem dX10_addDash_46 : decode cX10_addDash 46 = .ok (.aload_n 0, 1) := by decide +kernel
theorem dX10_addDash_47 : decode cX10_addDash 47 = .ok (.getfield 278, 3) := by decide +kernel
theorem dX10_addDash_50 : decode cX10_addDash 50 = .ok (.ireturn, 1) := by decide +kernel
theorem dX10_clearDashes_0 : decode cX10_clearDashes 0 = .ok (.iload_n 1, 1) := by decide +kernel
theorem dX10_clearDashes_1 : decode cX10_clearDashes 1 = .ok (.iconst 0, 1) := by decide +kernel
theorem dX10_clearDashes_2 : decode cX10_clearDashes 2 = .ok (.ldc_w 277, 3) := by decide +kernel
theorem dX10_clearDashes_5 : decode cX10_clearDashes 5 = .ok (.invokestatic 80, 3) := by decide +kernel
theorem dX10_clearDashes_8 : decode cX10_clearDashes 8 = .ok (.ifCond .ne 6, 3) := by decide +kernel
theorem dX10_clearDashes_11 : decode cX10_clearDashes 11 = .ok (.ldc 88, 2) := by decide +kernel
theorem dX10_clearDashes_13 : decode cX10_clearDashes 13 = .ok (.ireturn, 1) := by decide +kernel
theorem dX10_clearDashes_14 : decode cX10_clearDashes 14 = .ok (.aload_n 0, 1) := by decide +kernel
theorem dX10_clearDashes_15 : decode cX10_clearDashes 15 = .ok (.getfield 278, 3) := by decide +kernel
theorem dX10_clearDashes_18 : decode cX10_clearDashes 18 = .ok (.istore_n 2, 1) := by decide +kernel
theorem dX10_clearDashes_19 : decode cX10_clearDashes 19 = .ok (.aload_n 0, 1) := by decide +kernel
theorem dX10_clearDashes_20 : decode cX10_clearDashes 20 = .ok (.iconst 0, 1) := by decide +kernel
theorem dX10_clearDashes_21 : decode cX10_clearDashes 21 = .ok (.putfield 278, 3) := by decide +kernel
theorem dX10_clearDashes_24 : decode cX10_clearDashes 24 = .ok (.aload_n 0, 1) := by decide +kernel
theorem dX10_clearDashes_25 : decode cX10_clearDashes 25 = .ok (.iload_n 1, 1) := by decide +kernel
theorem dX10_clearDashes_26 : decode cX10_clearDashes 26 = .ok (.putfield 281, 3) := by decide +kernel
theorem dX10_clearDashes_29 : decode cX10_clearDashes 29 = .ok (.iload_n 2, 1) := by decide +kernel
theorem dX10_clearDashes_30 : decode cX10_clearDashes 30 = .ok (.ireturn, 1) := by decide +kernel
theorem dX10_layDashes_0 : decode cX10_layDashes 0 = .ok (.iconst 0, 1) := by decide +kernel
theorem dX10_layDashes_1 : decode cX10_layDashes 1 = .ok (.istore_n 2, 1) := by decide +kernel
theorem dX10_layDashes_2 : decode cX10_layDashes 2 = .ok (.aload_n 0, 1) := by decide +kernel
theorem dX10_layDashes_3 : decode cX10_layDashes 3 = .ok (.getfield 281, 3) := by decide +kernel
theorem dX10_layDashes_6 : decode cX10_layDashes 6 = .ok (.ineg, 1) := by decide +kernel
theorem dX10_layDashes_7 : decode cX10_layDashes 7 = .ok (.istore_n 3, 1) := by decide +kernel
theorem dX10_layDashes_8 : decode cX10_layDashes 8 = .ok (.iconst 0, 1) := by decide +kernel
theorem dX10_layDashes_9 : decode cX10_layDashes 9 = .ok (.istore 4, 2) := by decide +kernel
theorem dX10_layDashes_11 : decode cX10_layDashes 11 = .ok (.iload_n 3, 1) := by decide +kernel
theorem dX10_layDashes_12 : decode cX10_layDashes 12 = .ok (.iload_n 1, 1) := by decide +kernel
theorem dX10_layDashes_13 : decode cX10_layDashes 13 = .ok (.if_icmp .ge 106, 3) := by decide +kernel
theorem dX10_layDashes_16 : decode cX10_layDashes 16 = .ok (.iload_n 2, 1) := by decide +kernel
theorem dX10_layDashes_17 : decode cX10_layDashes 17 = .ok (.sipush 1000, 3) := by decide +kernel
theorem dX10_layDashes_20 : decode cX10_layDashes 20 = .ok (.if_icmp .gt 99, 3) := by decide +kernel
theorem dX10_layDashes_23 : decode cX10_layDashes 23 = .ok (.iload_n 3, 1) := by decide +kernel
theorem dX10_layDashes_24 : decode cX10_layDashes 24 = .ok (.aload_n 0, 1) := by decide +kernel
theorem dX10_layDashes_25 : decode cX10_layDashes 25 = .ok (.getfield 23, 3) := by decide +kernel
theorem dX10_layDashes_28 : decode cX10_layDashes 28 = .ok (.iload 4, 2) := by decide +kernel
theorem dX10_layDashes_30 : decode cX10_layDashes 30 = .ok (.aload_n 0, 1) := by decide +kernel
theorem dX10_layDashes_31 : decode cX10_layDashes 31 = .ok (.getfield 278, 3) := by decide +kernel
theorem dX10_layDashes_34 : decode cX10_layDashes 34 = .ok (.irem, 1) := by decide +kernel
theorem dX10_layDashes_35 : decode cX10_layDashes 35 = .ok (.iaload, 1) := by decide +kernel
theorem dX10_layDashes_36 : decode cX10_layDashes 36 = .ok (.iadd, 1) := by decide +kernel
theorem dX10_layDashes_37 : decode cX10_layDashes 37 = .ok (.istore 5, 2) := by decide +kernel
theorem dX10_layDashes_39 : decode cX10_layDashes 39 = .ok (.iload_n 3, 1) := by decide +kernel
theorem dX10_layDashes_40 : decode cX10_layDashes 40 = .ok (.ifCond .ge 7, 3) := by decide +kernel
theorem dX10_layDashes_43 : decode cX10_layDashes 43 = .ok (.iconst 0, 1) := by decide +kernel
theorem dX10_layDashes_44 : decode cX10_layDashes 44 = .ok (.goto 4, 3) := by decide +kernel
theorem dX10_layDashes_47 : decode cX10_layDashes 47 = .ok (.iload_n 3, 1) := by decide +kernel
theorem dX10_layDashes_48 : decode cX10_layDashes 48 = .ok (.istore 6, 2) := by decide +kernel
theorem dX10_layDashes_50 : decode cX10_layDashes 50 = .ok (.iload 5, 2) := by decide +kernel
theorem dX10_layDashes_52 : decode cX10_layDashes 52 = .ok (.iload_n 1, 1) := by decide +kernel
theorem dX10_layDashes_53 : decode cX10_layDashes 53 = .ok (.if_icmp .le 7, 3) := by decide +kernel
theorem dX10_layDashes_56 : decode cX10_layDashes 56 = .ok (.iload_n 1, 1) := by decide +kernel
theorem dX10_layDashes_57 : decode cX10_layDashes 57 = .ok (.goto 5, 3) := by decide +kernel
theorem dX10_layDashes_60 : decode cX10_layDashes 60 = .ok (.iload 5, 2) := by decide +kernel
theorem dX10_layDashes_62 : decode cX10_layDashes 62 = .ok (.istore 7, 2) := by decide +kernel
theorem dX10_layDashes_64 : decode cX10_layDashes 64 = .ok (.iload 4, 2) := by decide +kernel
theorem dX10_layDashes_66 : decode cX10_layDashes 66 = .ok (.iconst 2, 1) := by decide +kernel
theorem dX10_layDashes_67 : decode cX10_layDashes 67 = .ok (.irem, 1) := by decide +kernel
theorem dX10_layDashes_68 : decode cX10_layDashes 68 = .ok (.ifCond .ne 42, 3) := by decide +kernel
theorem dX10_layDashes_71 : decode cX10_layDashes 71 = .ok (.iload 6, 2) := by decide +kernel
theorem dX10_layDashes_73 : decode cX10_layDashes 73 = .ok (.iload 7, 2) := by decide +kernel
theorem dX10_layDashes_75 : decode cX10_layDashes 75 = .ok (.if_icmp .ge 35, 3) := by decide +kernel
theorem dX10_layDashes_78 : decode cX10_layDashes 78 = .ok (.iload_n 2, 1) := by decide +kernel
theorem dX10_layDashes_79 : decode cX10_layDashes 79 = .ok (.sipush 1000, 3) := by decide +kernel
theorem dX10_layDashes_82 : decode cX10_layDashes 82 = .ok (.if_icmp .ge 25, 3) := by decide +kernel
theorem dX10_layDashes_85 : decode cX10_layDashes 85 = .ok (.aload_n 0, 1) := by decide +kernel
theorem dX10_layDashes_86 : decode cX10_layDashes 86 = .ok (.getfield 71, 3) := by decide +kernel
theorem dX10_layDashes_89 : decode cX10_layDashes 89 = .ok (.iconst 2, 1) := by decide +kernel
theorem dX10_layDashes_90 : decode cX10_layDashes 90 = .ok (.iload_n 2, 1) := by decide +kernel
theorem dX10_layDashes_91 : decode cX10_layDashes 91 = .ok (.imul, 1) := by decide +kernel
theorem dX10_layDashes_92 : decode cX10_layDashes 92 = .ok (.iload 6, 2) := by decide +kernel
theorem dX10_layDashes_94 : decode cX10_layDashes 94 = .ok (.iastore, 1) := by decide +kernel
theorem dX10_layDashes_95 : decode cX10_layDashes 95 = .ok (.aload_n 0, 1) := by decide +kernel
theorem dX10_layDashes_96 : decode cX10_layDashes 96 = .ok (.getfield 71, 3) := by decide +kernel
theorem dX10_layDashes_99 : decode cX10_layDashes 99 = .ok (.iconst 2, 1) := by decide +kernel
theorem dX10_layDashes_100 : decode cX10_layDashes 100 = .ok (.iload_n 2, 1) := by decide +kernel
theorem dX10_layDashes_101 : decode cX10_layDashes 101 = .ok (.imul, 1) := by decide +kernel
theorem dX10_layDashes_102 : decode cX10_layDashes 102 = .ok (.iconst 1, 1) := by decide +kernel
theorem dX10_layDashes_103 : decode cX10_layDashes 103 = .ok (.iadd, 1) := by decide +kernel
theorem dX10_layDashes_104 : decode cX10_layDashes 104 = .ok (.iload 7, 2) := by decide +kernel
theorem dX10_layDashes_106 : decode cX10_layDashes 106 = .ok (.iastore, 1) := by decide +kernel
theorem dX10_layDashes_107 : decode cX10_layDashes 107 = .ok (.iinc 2 1, 3) := by decide +kernel
theorem dX10_layDashes_110 : decode cX10_layDashes 110 = .ok (.iload 5, 2) := by decide +kernel
theorem dX10_layDashes_112 : decode cX10_layDashes 112 = .ok (.istore_n 3, 1) := by decide +kernel
theorem dX10_layDashes_113 : decode cX10_layDashes 113 = .ok (.iinc 4 1, 3) := by decide +kernel
theorem dX10_layDashes_116 : decode cX10_layDashes 116 = .ok (.goto (-105), 3) := by decide +kernel
theorem dX10_layDashes_119 : decode cX10_layDashes 119 = .ok (.iload_n 2, 1) := by decide +kernel
theorem dX10_layDashes_120 : decode cX10_layDashes 120 = .ok (.ireturn, 1) := by decide +kernel
theorem dX10_dash_0 : decode cX10_dash 0 = .ok (.aload_n 0, 1) := by decide +kernel
theorem dX10_dash_1 : decode cX10_dash 1 = .ok (.iload_n 1, 1) := by decide +kernel
theorem dX10_dash_2 : decode cX10_dash 2 = .ok (.invokevirtual 123, 3) := by decide +kernel
theorem dX10_dash_5 : decode cX10_dash 5 = .ok (.ifCond .ne 6, 3) := by decide +kernel
theorem dX10_dash_8 : decode cX10_dash 8 = .ok (.ldc 107, 2) := by decide +kernel
theorem dX10_dash_10 : decode cX10_dash 10 = .ok (.ireturn, 1) := by decide +kernel
theorem dX10_dash_11 : decode cX10_dash 11 = .ok (.iload_n 3, 1) := by decide +kernel
theorem dX10_dash_12 : decode cX10_dash 12 = .ok (.iconst 0, 1) := by decide +kernel
theorem dX10_dash_13 : decode cX10_dash 13 = .ok (.iconst 1, 1) := by decide +kernel
theorem dX10_dash_14 : decode cX10_dash 14 = .ok (.invokestatic 80, 3) := by decide +kernel
theorem dX10_dash_17 : decode cX10_dash 17 = .ok (.ifCond .ne 6, 3) := by decide +kernel
theorem dX10_dash_20 : decode cX10_dash 20 = .ok (.ldc 88, 2) := by decide +kernel
theorem dX10_dash_22 : decode cX10_dash 22 = .ok (.ireturn, 1) := by decide +kernel
theorem dX10_dash_23 : decode cX10_dash 23 = .ok (.aload_n 0, 1) := by decide +kernel
theorem dX10_dash_24 : decode cX10_dash 24 = .ok (.getfield 278, 3) := by decide +kernel
theorem dX10_dash_27 : decode cX10_dash 27 = .ok (.ifCond .eq 13, 3) := by decide +kernel
theorem dX10_dash_30 : decode cX10_dash 30 = .ok (.aload_n 0, 1) := by decide +kernel
theorem dX10_dash_31 : decode cX10_dash 31 = .ok (.getfield 278, 3) := by decide +kernel
theorem dX10_dash_34 : decode cX10_dash 34 = .ok (.iconst 2, 1) := by decide +kernel
theorem dX10_dash_35 : decode cX10_dash 35 = .ok (.irem, 1) := by decide +kernel
theorem dX10_dash_36 : decode cX10_dash 36 = .ok (.iconst 1, 1) := by decide +kernel
theorem dX10_dash_37 : decode cX10_dash 37 = .ok (.if_icmp .ne 6, 3) := by decide +kernel
theorem dX10_dash_40 : decode cX10_dash 40 = .ok (.ldc 97, 2) := by decide +kernel
theorem dX10_dash_42 : decode cX10_dash 42 = .ok (.ireturn, 1) := by decide +kernel
theorem dX10_dash_43 : decode cX10_dash 43 = .ok (.aload_n 0, 1) := by decide +kernel
theorem dX10_dash_44 : decode cX10_dash 44 = .ok (.invokevirtual 111, 3) := by decide +kernel
theorem dX10_dash_47 : decode cX10_dash 47 = .ok (.aload_n 0, 1) := by decide +kernel
theorem dX10_dash_48 : decode cX10_dash 48 = .ok (.aload_n 0, 1) := by decide +kernel
theorem dX10_dash_49 : decode cX10_dash 49 = .ok (.iload_n 1, 1) := by decide +kernel
theorem dX10_dash_50 : decode cX10_dash 50 = .ok (.invokevirtual 248, 3) := by decide +kernel
theorem dX10_dash_53 : decode cX10_dash 53 = .ok (.invokevirtual 284, 3) := by decide +kernel
theorem dX10_dash_56 : decode cX10_dash 56 = .ok (.istore 4, 2) := by decide +kernel
theorem dX10_dash_58 : decode cX10_dash 58 = .ok (.iload 4, 2) := by decide +kernel
theorem dX10_dash_60 : decode cX10_dash 60 = .ok (.sipush 1000, 3) := by decide +kernel
theorem dX10_dash_63 : decode cX10_dash 63 = .ok (.if_icmp .le 6, 3) := by decide +kernel
theorem dX10_dash_66 : decode cX10_dash 66 = .ok (.ldc 98, 2) := by decide +kernel
theorem dX10_dash_68 : decode cX10_dash 68 = .ok (.ireturn, 1) := by decide +kernel
theorem dX10_dash_69 : decode cX10_dash 69 = .ok (.iload_n 2, 1) := by decide +kernel
theorem dX10_dash_70 : decode cX10_dash 70 = .ok (.iconst (-1), 1) := by decide +kernel
theorem dX10_dash_71 : decode cX10_dash 71 = .ok (.if_icmp .ne 8, 3) := by decide +kernel
theorem dX10_dash_74 : decode cX10_dash 74 = .ok (.iload 4, 2) := by decide +kernel
theorem dX10_dash_76 : decode cX10_dash 76 = .ok (.goto 30, 3) := by decide +kernel
theorem dX10_dash_79 : decode cX10_dash 79 = .ok (.iload_n 2, 1) := by decide +kernel
theorem dX10_dash_80 : decode cX10_dash 80 = .ok (.iconst 0, 1) := by decide +kernel
theorem dX10_dash_81 : decode cX10_dash 81 = .ok (.iload 4, 2) := by decide +kernel
theorem dX10_dash_83 : decode cX10_dash 83 = .ok (.iconst 1, 1) := by decide +kernel
theorem dX10_dash_84 : decode cX10_dash 84 = .ok (.isub, 1) := by decide +kernel
theorem dX10_dash_85 : decode cX10_dash 85 = .ok (.invokestatic 80, 3) := by decide +kernel
theorem dX10_dash_88 : decode cX10_dash 88 = .ok (.ifCond .eq 16, 3) := by decide +kernel
theorem dX10_dash_91 : decode cX10_dash 91 = .ok (.aload_n 0, 1) := by decide +kernel
theorem dX10_dash_92 : decode cX10_dash 92 = .ok (.getfield 71, 3) := by decide +kernel
theorem dX10_dash_95 : decode cX10_dash 95 = .ok (.iconst 2, 1) := by decide +kernel
theorem dX10_dash_96 : decode cX10_dash 96 = .ok (.iload_n 2, 1) := by decide +kernel
theorem dX10_dash_97 : decode cX10_dash 97 = .ok (.imul, 1) := by decide +kernel
theorem dX10_dash_98 : decode cX10_dash 98 = .ok (.iload_n 3, 1) := by decide +kernel
theorem dX10_dash_99 : decode cX10_dash 99 = .ok (.iadd, 1) := by decide +kernel
theorem dX10_dash_100 : decode cX10_dash 100 = .ok (.iaload, 1) := by decide +kernel
theorem dX10_dash_101 : decode cX10_dash 101 = .ok (.goto 5, 3) := by decide +kernel
theorem dX10_dash_104 : decode cX10_dash 104 = .ok (.ldc 103, 2) := by decide +kernel
theorem dX10_dash_106 : decode cX10_dash 106 = .ok (.ireturn, 1) := by decide +kernel
theorem dX10_isLetter_0 : decode cX10_isLetter 0 = .ok (.iload_n 0, 1) := by decide +kernel
theorem dX10_isLetter_1 : decode cX10_isLetter 1 = .ok (.iconst 0, 1) := by decide +kernel
theorem dX10_isLetter_2 : decode cX10_isLetter 2 = .ok (.bipush 25, 2) := by decide +kernel
theorem dX10_isLetter_4 : decode cX10_isLetter 4 = .ok (.invokestatic 80, 3) := by decide +kernel
theorem dX10_isLetter_7 : decode cX10_isLetter 7 = .ok (.ireturn, 1) := by decide +kernel
theorem dX10_setWidth_0 : decode cX10_setWidth 0 = .ok (.iload_n 1, 1) := by decide +kernel
theorem dX10_setWidth_1 : decode cX10_setWidth 1 = .ok (.invokestatic 287, 3) := by decide +kernel
theorem dX10_setWidth_4 : decode cX10_setWidth 4 = .ok (.ifCond .ne 6, 3) := by decide +kernel
theorem dX10_setWidth_7 : decode cX10_setWidth 7 = .ok (.ldc 107, 2) := by decide +kernel
theorem dX10_setWidth_9 : decode cX10_setWidth 9 = .ok (.ireturn, 1) := by decide +kernel
theorem dX10_setWidth_10 : decode cX10_setWidth 10 = .ok (.iload_n 2, 1) := by decide +kernel
theorem dX10_setWidth_11 : decode cX10_setWidth 11 = .ok (.iconst 1, 1) := by decide +kernel
theorem dX10_setWidth_12 : decode cX10_setWidth 12 = .ok (.sipush 4000, 3) := by decide +kernel
theorem dX10_setWidth_15 : decode cX10_setWidth 15 = .ok (.invokestatic 80, 3) := by decide +kernel
theorem dX10_setWidth_18 : decode cX10_setWidth 18 = .ok (.ifCond .ne 6, 3) := by decide +kernel
theorem dX10_setWidth_21 : decode cX10_setWidth 21 = .ok (.ldc 88, 2) := by decide +kernel
theorem dX10_setWidth_23 : decode cX10_setWidth 23 = .ok (.ireturn, 1) := by decide +kernel
theorem dX10_setWidth_24 : decode cX10_setWidth 24 = .ok (.aload_n 0, 1) := by decide +kernel
theorem dX10_setWidth_25 : decode cX10_setWidth 25 = .ok (.getfield 26, 3) := by decide +kernel
theorem dX10_setWidth_28 : decode cX10_setWidth 28 = .ok (.iload_n 1, 1) := by decide +kernel
theorem dX10_setWidth_29 : decode cX10_setWidth 29 = .ok (.iaload, 1) := by decide +kernel
theorem dX10_setWidth_30 : decode cX10_setWidth 30 = .ok (.istore_n 3, 1) := by decide +kernel
theorem dX10_setWidth_31 : decode cX10_setWidth 31 = .ok (.aload_n 0, 1) := by decide +kernel
theorem dX10_setWidth_32 : decode cX10_setWidth 32 = .ok (.getfield 26, 3) := by decide +kernel
theorem dX10_setWidth_35 : decode cX10_setWidth 35 = .ok (.iload_n 1, 1) := by decide +kernel
theorem dX10_setWidth_36 : decode cX10_setWidth 36 = .ok (.iload_n 2, 1) := by decide +kernel
theorem dX10_setWidth_37 : decode cX10_setWidth 37 = .ok (.iastore, 1) := by decide +kernel
theorem dX10_setWidth_38 : decode cX10_setWidth 38 = .ok (.iload_n 3, 1) := by decide +kernel
theorem dX10_setWidth_39 : decode cX10_setWidth 39 = .ok (.ireturn, 1) := by decide +kernel
theorem dX10_setKerning_0 : decode cX10_setKerning 0 = .ok (.iload_n 1, 1) := by decide +kernel
theorem dX10_setKerning_1 : decode cX10_setKerning 1 = .ok (.invokestatic 287, 3) := by decide +kernel
theorem dX10_setKerning_4 : decode cX10_setKerning 4 = .ok (.ifCond .eq 10, 3) := by decide +kernel
theorem dX10_setKerning_7 : decode cX10_setKerning 7 = .ok (.iload_n 2, 1) := by decide +kernel
theorem dX10_setKerning_8 : decode cX10_setKerning 8 = .ok (.invokestatic 287, 3) := by decide +kernel
theorem dX10_setKerning_11 : decode cX10_setKerning 11 = .ok (.ifCond .ne 6, 3) := by decide +kernel
theorem dX10_setKerning_14 : decode cX10_setKerning 14 = .ok (.ldc 107, 2) := by decide +kernel
theorem dX10_setKerning_16 : decode cX10_setKerning 16 = .ok (.ireturn, 1) := by decide +kernel
theorem dX10_setKerning_17 : decode cX10_setKerning 17 = .ok (.iload_n 3, 1) := by decide +kernel
theorem dX10_setKerning_18 : decode cX10_setKerning 18 = .ok (.sipush (-500), 3) := by decide +kernel
theorem dX10_setKerning_21 : decode cX10_setKerning 21 = .ok (.sipush 500, 3) := by decide +kernel
theorem dX10_setKerning_24 : decode cX10_setKerning 24 = .ok (.invokestatic 80, 3) := by decide +kernel
theorem dX10_setKerning_27 : decode cX10_setKerning 27 = .ok (.ifCond .ne 6, 3) := by decide +kernel
theorem dX10_setKerning_30 : decode cX10_setKerning 30 = .ok (.ldc 88, 2) := by decide +kernel
theorem dX10_setKerning_32 : decode cX10_setKerning 32 = .ok (.ireturn, 1) := by decide +kernel
theorem dX10_setKerning_33 : decode cX10_setKerning 33 = .ok (.bipush 26, 2) := by decide +kernel
theorem dX10_setKerning_35 : decode cX10_setKerning 35 = .ok (.iload_n 1, 1) := by decide +kernel
theorem dX10_setKerning_36 : decode cX10_setKerning 36 = .ok (.imul, 1) := by decide +kernel
theorem dX10_setKerning_37 : decode cX10_setKerning 37 = .ok (.iload_n 2, 1) := by decide +kernel
theorem dX10_setKerning_38 : decode cX10_setKerning 38 = .ok (.iadd, 1) := by decide +kernel
theorem dX10_setKerning_39 : decode cX10_setKerning 39 = .ok (.istore 4, 2) := by decide +kernel
theorem dX10_setKerning_41 : decode cX10_setKerning 41 = .ok (.aload_n 0, 1) := by decide +kernel
theorem dX10_setKerning_42 : decode cX10_setKerning 42 = .ok (.getfield 290, 3) := by decide +kernel
theorem dX10_setKerning_45 : decode cX10_setKerning 45 = .ok (.aload_n 0, 1) := by decide +kernel
theorem dX10_setKerning_46 : decode cX10_setKerning 46 = .ok (.getfield 29, 3) := by decide +kernel
theorem dX10_setKerning_49 : decode cX10_setKerning 49 = .ok (.iload 4, 2) := by decide +kernel
theorem dX10_setKerning_51 : decode cX10_setKerning 51 = .ok (.iaload, 1) := by decide +kernel
theorem dX10_setKerning_52 : decode cX10_setKerning 52 = .ok (.ifCond .eq 7, 3) := by decide +kernel
theorem dX10_setKerning_55 : decode cX10_setKerning 55 = .ok (.iconst 1, 1) := by decide +kernel
theorem dX10_setKerning_56 : decode cX10_setKerning 56 = .ok (.goto 4, 3) := by decide +kernel
theorem dX10_setKerning_59 : decode cX10_setKerning 59 = .ok (.iconst 0, 1) := by decide +kernel
theorem dX10_setKerning_60 : decode cX10_setKerning 60 = .ok (.isub, 1) := by decide +kernel
theorem dX10_setKerning_61 : decode cX10_setKerning 61 = .ok (.istore 5, 2) := by decide +kernel
theorem dX10_setKerning_63 : decode cX10_setKerning 63 = .ok (.iload 5, 2) := by decide +kernel
theorem dX10_setKerning_65 : decode cX10_setKerning 65 = .ok (.bipush 20, 2) := by decide +kernel
theorem dX10_setKerning_67 : decode cX10_setKerning 67 = .ok (.if_icmp .ne 10, 3) := by decide +kernel
theorem dX10_setKerning_70 : decode cX10_setKerning 70 = .ok (.iload_n 3, 1) := by decide +kernel
theorem dX10_setKerning_71 : decode cX10_setKerning 71 = .ok (.ifCond .eq 6, 3) := by decide +kernel
theorem dX10_setKerning_74 : decode cX10_setKerning 74 = .ok (.ldc 98, 2) := by decide +kernel
theorem dX10_setKerning_76 : decode cX10_setKerning 76 = .ok (.ireturn, 1) := by decide +kernel
theorem dX10_setKerning_77 : decode cX10_setKerning 77 = .ok (.aload_n 0, 1) := by decide +kernel
theorem dX10_setKerning_78 : decode cX10_setKerning 78 = .ok (.getfield 29, 3) := by decide +kernel
theorem dX10_setKerning_81 : decode cX10_setKerning 81 = .ok (.iload 4, 2) := by decide +kernel
theorem dX10_setKerning_83 : decode cX10_setKerning 83 = .ok (.iload_n 3, 1) := by decide +kernel
theorem dX10_setKerning_84 : decode cX10_setKerning 84 = .ok (.iastore, 1) := by decide +kernel
theorem dX10_setKerning_85 : decode cX10_setKerning 85 = .ok (.aload_n 0, 1) := by decide +kernel
theorem dX10_setKerning_86 : decode cX10_setKerning 86 = .ok (.iload 5, 2) := by decide +kernel
theorem dX10_setKerning_88 : decode cX10_setKerning 88 = .ok (.iload_n 3, 1) := by decide +kernel
theorem dX10_setKerning_89 : decode cX10_setKerning 89 = .ok (.ifCond .eq 7, 3) := by decide +kernel
theorem dX10_setKerning_92 : decode cX10_setKerning 92 = .ok (.iconst 1, 1) := by decide +kernel
theorem dX10_setKerning_93 : decode cX10_setKerning 93 = .ok (.goto 4, 3) := by decide +kernel
theorem dX10_setKerning_96 : decode cX10_setKerning 96 = .ok (.iconst 0, 1) := by decide +kernel
theorem dX10_setKerning_97 : decode cX10_setKerning 97 = .ok (.iadd, 1) := by decide +kernel
theorem dX10_setKerning_98 : decode cX10_setKerning 98 = .ok (.putfield 290, 3) := by decide +kernel
theorem dX10_setKerning_101 : decode cX10_setKerning 101 = .ok (.aload_n 0, 1) := by decide +kernel
theorem dX10_setKerning_102 : decode cX10_setKerning 102 = .ok (.getfield 290, 3) := by decide +kernel
theorem dX10_setKerning_105 : decode cX10_setKerning 105 = .ok (.ireturn, 1) := by decide +kernel
theorem dX10_write_0 : decode cX10_write 0 = .ok (.iload_n 1, 1) := by decide +kernel
theorem dX10_write_1 : decode cX10_write 1 = .ok (.invokestatic 287, 3) := by decide +kernel
theorem dX10_write_4 : decode cX10_write 4 = .ok (.ifCond .ne 6, 3) := by decide +kernel
theorem dX10_write_7 : decode cX10_write 7 = .ok (.ldc 107, 2) := by decide +kernel
theorem dX10_write_9 : decode cX10_write 9 = .ok (.ireturn, 1) := by decide +kernel
theorem dX10_write_10 : decode cX10_write 10 = .ok (.aload_n 0, 1) := by decide +kernel
theorem dX10_write_11 : decode cX10_write 11 = .ok (.getfield 293, 3) := by decide +kernel
theorem dX10_write_14 : decode cX10_write 14 = .ok (.bipush 24, 2) := by decide +kernel
theorem dX10_write_16 : decode cX10_write 16 = .ok (.if_icmp .ne 6, 3) := by decide +kernel
theorem dX10_write_19 : decode cX10_write 19 = .ok (.ldc 98, 2) := by decide +kernel
theorem dX10_write_21 : decode cX10_write 21 = .ok (.ireturn, 1) := by decide +kernel
theorem dX10_write_22 : decode cX10_write 22 = .ok (.aload_n 0, 1) := by decide +kernel
theorem dX10_write_23 : decode cX10_write 23 = .ok (.getfield 32, 3) := by decide +kernel
theorem dX10_write_26 : decode cX10_write 26 = .ok (.aload_n 0, 1) := by decide +kernel
theorem dX10_write_27 : decode cX10_write 27 = .ok (.getfield 293, 3) := by decide +kernel
theorem dX10_write_30 : decode cX10_write 30 = .ok (.iload_n 1, 1) := by decide +kernel
theorem dX10_write_31 : decode cX10_write 31 = .ok (.iastore, 1) := by decide +kernel
theorem dX10_write_32 : decode cX10_write 32 = .ok (.aload_n 0, 1) := by decide +kernel
theorem dX10_write_33 : decode cX10_write 33 = .ok (.dup, 1) := by decide +kernel
theorem dX10_write_34 : decode cX10_write 34 = .ok (.getfield 293, 3) := by decide +kernel
theorem dX10_write_37 : decode cX10_write 37 = .ok (.iconst 1, 1) := by decide +kernel
theorem dX10_write_38 : decode cX10_write 38 = .ok (.iadd, 1) := by decide +kernel
theorem dX10_write_39 : decode cX10_write 39 = .ok (.putfield 293, 3) := by decide +kernel
theorem dX10_write_42 : decode cX10_write 42 = .ok (.aload_n 0, 1) := by decide +kernel
theorem dX10_write_43 : decode cX10_write 43 = .ok (.getfield 293, 3) := by decide +kernel
theorem dX10_write_46 : decode cX10_write 46 = .ok (.ireturn, 1) := by decide +kernel
theorem dX10_erase_0 : decode cX10_erase 0 = .ok (.aload_n 0, 1) := by decide +kernel
theorem dX10_erase_1 : decode cX10_erase 1 = .ok (.getfield 293, 3) := by decide +kernel
theorem dX10_erase_4 : decode cX10_erase 4 = .ok (.istore_n 1, 1) := by decide +kernel
theorem dX10_erase_5 : decode cX10_erase 5 = .ok (.aload_n 0, 1) := by decide +kernel
theorem dX10_erase_6 : decode cX10_erase 6 = .ok (.iconst 0, 1) := by decide +kernel
theorem dX10_erase_7 : decode cX10_erase 7 = .ok (.putfield 293, 3) := by decide +kernel
theorem dX10_erase_10 : decode cX10_erase 10 = .ok (.iload_n 1, 1) := by decide +kernel
theorem dX10_erase_11 : decode cX10_erase 11 = .ok (.ireturn, 1) := by decide +kernel
theorem dX10_arrange_0 : decode cX10_arrange 0 = .ok (.iload_n 1, 1) := by decide +kernel
theorem dX10_arrange_1 : decode cX10_arrange 1 = .ok (.sipush (-20000), 3) := by decide +kernel
theorem dX10_arrange_4 : decode cX10_arrange 4 = .ok (.ldc_w 277, 3) := by decide +kernel
theorem dX10_arrange_7 : decode cX10_arrange 7 = .ok (.invokestatic 80, 3) := by decide +kernel
theorem dX10_arrange_10 : decode cX10_arrange 10 = .ok (.ifCond .eq 24, 3) := by decide +kernel
theorem dX10_arrange_13 : decode cX10_arrange 13 = .ok (.iload_n 2, 1) := by decide +kernel
theorem dX10_arrange_14 : decode cX10_arrange 14 = .ok (.bipush (-100), 2) := by decide +kernel
theorem dX10_arrange_16 : decode cX10_arrange 16 = .ok (.sipush 1000, 3) := by decide +kernel
theorem dX10_arrange_19 : decode cX10_arrange 19 = .ok (.invokestatic 80, 3) := by decide +kernel
theorem dX10_arrange_22 : decode cX10_arrange 22 = .ok (.ifCond .eq 12, 3) := by decide +kernel
theorem dX10_arrange_25 : decode cX10_arrange 25 = .ok (.iload_n 3, 1) := by decide +kernel
theorem dX10_arrange_26 : decode cX10_arrange 26 = .ok (.iconst 0, 1) := by decide +kernel
theorem dX10_arrange_27 : decode cX10_arrange 27 = .ok (.iconst 3, 1) := by decide +kernel
theorem dX10_arrange_28 : decode cX10_arrange 28 = .ok (.invokestatic 80, 3) := by decide +kernel
theorem dX10_arrange_31 : decode cX10_arrange 31 = .ok (.ifCond .ne 6, 3) := by decide +kernel
theorem dX10_arrange_34 : decode cX10_arrange 34 = .ok (.ldc 88, 2) := by decide +kernel
theorem dX10_arrange_36 : decode cX10_arrange 36 = .ok (.ireturn, 1) := by decide +kernel
theorem dX10_arrange_37 : decode cX10_arrange 37 = .ok (.aload_n 0, 1) := by decide +kernel
theorem dX10_arrange_38 : decode cX10_arrange 38 = .ok (.iload_n 1, 1) := by decide +kernel
theorem dX10_arrange_39 : decode cX10_arrange 39 = .ok (.putfield 296, 3) := by decide +kernel
theorem dX10_arrange_42 : decode cX10_arrange 42 = .ok (.aload_n 0, 1) := by decide +kernel
theorem dX10_arrange_43 : decode cX10_arrange 43 = .ok (.iload_n 2, 1) := by decide +kernel
theorem dX10_arrange_44 : decode cX10_arrange 44 = .ok (.putfield 299, 3) := by decide +kernel
theorem dX10_arrange_47 : decode cX10_arrange 47 = .ok (.aload_n 0, 1) := by decide +kernel
theorem dX10_arrange_48 : decode cX10_arrange 48 = .ok (.iload_n 3, 1) := by decide +kernel
theorem dX10_arrange_49 : decode cX10_arrange 49 = .ok (.putfield 302, 3) := by decide +kernel
theorem dX10_arrange_52 : decode cX10_arrange 52 = .ok (.aload_n 0, 1) := by decide +kernel
theorem dX10_arrange_53 : decode cX10_arrange 53 = .ok (.getfield 293, 3) := by decide +kernel
theorem dX10_arrange_56 : decode cX10_arrange 56 = .ok (.ireturn, 1) := by decide +kernel
theorem dX10_widthOf_0 : decode cX10_widthOf 0 = .ok (.aload_n 0, 1) := by decide +kernel
theorem dX10_widthOf_1 : decode cX10_widthOf 1 = .ok (.getfield 26, 3) := by decide +kernel
theorem dX10_widthOf_4 : decode cX10_widthOf 4 = .ok (.aload_n 0, 1) := by decide +kernel
theorem dX10_widthOf_5 : decode cX10_widthOf 5 = .ok (.getfield 32, 3) := by decide +kernel
theorem dX10_widthOf_8 : decode cX10_widthOf 8 = .ok (.iload_n 1, 1) := by decide +kernel
theorem dX10_widthOf_9 : decode cX10_widthOf 9 = .ok (.iaload, 1) := by decide +kernel
theorem dX10_widthOf_10 : decode cX10_widthOf 10 = .ok (.iaload, 1) := by decide +kernel
theorem dX10_widthOf_11 : decode cX10_widthOf 11 = .ok (.ireturn, 1) := by decide +kernel
theorem dX10_advance_0 : decode cX10_advance 0 = .ok (.aload_n 0, 1) := by decide +kernel
theorem dX10_advance_1 : decode cX10_advance 1 = .ok (.iload_n 1, 1) := by decide +kernel
theorem dX10_advance_2 : decode cX10_advance 2 = .ok (.invokevirtual 305, 3) := by decide +kernel
theorem dX10_advance_5 : decode cX10_advance 5 = .ok (.aload_n 0, 1) := by decide +kernel
theorem dX10_advance_6 : decode cX10_advance 6 = .ok (.getfield 299, 3) := by decide +kernel
theorem dX10_advance_9 : decode cX10_advance 9 = .ok (.iadd, 1) := by decide +kernel
theorem dX10_advance_10 : decode cX10_advance 10 = .ok (.iload_n 1, 1) := by decide +kernel
theorem dX10_advance_11 : decode cX10_advance 11 = .ok (.iconst 1, 1) := by decide +kernel
theorem dX10_advance_12 : decode cX10_advance 12 = .ok (.iadd, 1) := by decide +kernel
theorem dX10_advance_13 : decode cX10_advance 13 = .ok (.aload_n 0, 1) := by decide +kernel
theorem dX10_advance_14 : decode cX10_advance 14 = .ok (.getfield 293, 3) := by decide +kernel
theorem dX10_advance_17 : decode cX10_advance 17 = .ok (.if_icmp .ge 29, 3) := by decide +kernel
theorem dX10_advance_20 : decode cX10_advance 20 = .ok (.aload_n 0, 1) := by decide +kernel
theorem dX10_advance_21 : decode cX10_advance 21 = .ok (.getfield 29, 3) := by decide +kernel
theorem dX10_advance_24 : decode cX10_advance 24 = .ok (.bipush 26, 2) := by decide +kernel
theorem dX10_advance_26 : decode cX10_advance 26 = .ok (.aload_n 0, 1) := by decide +kernel
theorem dX10_advance_27 : decode cX10_advance 27 = .ok (.getfield 32, 3) := by decide +kernel
theorem dX10_advance_30 : decode cX10_advance 30 = .ok (.iload_n 1, 1) := by decide +kernel
theorem dX10_advance_31 : decode cX10_advance 31 = .ok (.iaload, 1) := by decide +kernel
theorem dX10_advance_32 : decode cX10_advance 32 = .ok (.imul, 1) := by decide +kernel
theorem dX10_advance_33 : decode cX10_advance 33 = .ok (.aload_n 0, 1) := by decide +kernel
theorem dX10_advance_34 : decode cX10_advance 34 = .ok (.getfield 32, 3) := by decide +kernel
theorem dX10_advance_37 : decode cX10_advance 37 = .ok (.iload_n 1, 1) := by decide +kernel
theorem dX10_advance_38 : decode cX10_advance 38 = .ok (.iconst 1, 1) := by decide +kernel
theorem dX10_advance_39 : decode cX10_advance 39 = .ok (.iadd, 1) := by decide +kernel
theorem dX10_advance_40 : decode cX10_advance 40 = .ok (.iaload, 1) := by decide +kernel
theorem dX10_advance_41 : decode cX10_advance 41 = .ok (.iadd, 1) := by decide +kernel
theorem dX10_advance_42 : decode cX10_advance 42 = .ok (.iaload, 1) := by decide +kernel
theorem dX10_advance_43 : decode cX10_advance 43 = .ok (.goto 4, 3) := by decide +kernel
theorem dX10_advance_46 : decode cX10_advance 46 = .ok (.iconst 0, 1) := by decide +kernel
theorem dX10_advance_47 : decode cX10_advance 47 = .ok (.iadd, 1) := by decide +kernel
theorem dX10_advance_48 : decode cX10_advance 48 = .ok (.ireturn, 1) := by decide +kernel
theorem dX10_hasSegments_0 : decode cX10_hasSegments 0 = .ok (.aload_n 0, 1) := by decide +kernel
theorem dX10_hasSegments_1 : decode cX10_hasSegments 1 = .ok (.iload_n 1, 1) := by decide +kernel
theorem dX10_hasSegments_2 : decode cX10_hasSegments 2 = .ok (.invokevirtual 245, 3) := by decide +kernel
theorem dX10_hasSegments_5 : decode cX10_hasSegments 5 = .ok (.iconst 1, 1) := by decide +kernel
theorem dX10_hasSegments_6 : decode cX10_hasSegments 6 = .ok (.if_icmp .le 7, 3) := by decide +kernel
theorem dX10_hasSegments_9 : decode cX10_hasSegments 9 = .ok (.iconst 1, 1) := by decide +kernel
theorem dX10_hasSegments_10 : decode cX10_hasSegments 10 = .ok (.goto 4, 3) := by decide +kernel
theorem dX10_hasSegments_13 : decode cX10_hasSegments 13 = .ok (.iconst 0, 1) := by decide +kernel
theorem dX10_hasSegments_14 : decode cX10_hasSegments 14 = .ok (.ireturn, 1) := by decide +kernel
theorem dX10_layOne_0 : decode cX10_layOne 0 = .ok (.aload_n 0, 1) := by decide +kernel
theorem dX10_layOne_1 : decode cX10_layOne 1 = .ok (.iload_n 1, 1) := by decide +kernel
theorem dX10_layOne_2 : decode cX10_layOne 2 = .ok (.invokevirtual 248, 3) := by decide +kernel
theorem dX10_layOne_5 : decode cX10_layOne 5 = .ok (.istore_n 2, 1) := by decide +kernel
theorem dX10_layOne_6 : decode cX10_layOne 6 = .ok (.aload_n 0, 1) := by decide +kernel
theorem dX10_layOne_7 : decode cX10_layOne 7 = .ok (.getfield 296, 3) := by decide +kernel
theorem dX10_layOne_10 : decode cX10_layOne 10 = .ok (.istore_n 3, 1) := by decide +kernel
theorem dX10_layOne_11 : decode cX10_layOne 11 = .ok (.aload_n 0, 1) := by decide +kernel
theorem dX10_layOne_12 : decode cX10_layOne 12 = .ok (.getfield 296, 3) := by decide +kernel
theorem dX10_layOne_15 : decode cX10_layOne 15 = .ok (.istore 4, 2) := by decide +kernel
theorem dX10_layOne_17 : decode cX10_layOne 17 = .ok (.iconst 0, 1) := by decide +kernel
theorem dX10_layOne_18 : decode cX10_layOne 18 = .ok (.istore 5, 2) := by decide +kernel
theorem dX10_layOne_20 : decode cX10_layOne 20 = .ok (.iload 5, 2) := by decide +kernel
theorem dX10_layOne_22 : decode cX10_layOne 22 = .ok (.aload_n 0, 1) := by decide +kernel
theorem dX10_layOne_23 : decode cX10_layOne 23 = .ok (.getfield 293, 3) := by decide +kernel
theorem dX10_layOne_26 : decode cX10_layOne 26 = .ok (.if_icmp .ge 30, 3) := by decide +kernel
theorem dX10_layOne_29 : decode cX10_layOne 29 = .ok (.iload 4, 2) := by decide +kernel
theorem dX10_layOne_31 : decode cX10_layOne 31 = .ok (.aload_n 0, 1) := by decide +kernel
theorem dX10_layOne_32 : decode cX10_layOne 32 = .ok (.iload 5, 2) := by decide +kernel
theorem dX10_layOne_34 : decode cX10_layOne 34 = .ok (.invokevirtual 305, 3) := by decide +kernel
theorem dX10_layOne_37 : decode cX10_layOne 37 = .ok (.iadd, 1) := by decide +kernel
theorem dX10_layOne_38 : decode cX10_layOne 38 = .ok (.istore_n 3, 1) := by decide +kernel
theorem dX10_layOne_39 : decode cX10_layOne 39 = .ok (.iload 4, 2) := by decide +kernel
theorem dX10_layOne_41 : decode cX10_layOne 41 = .ok (.aload_n 0, 1) := by decide +kernel
theorem dX10_layOne_42 : decode cX10_layOne 42 = .ok (.iload 5, 2) := by decide +kernel
theorem dX10_layOne_44 : decode cX10_layOne 44 = .ok (.invokevirtual 308, 3) := by decide +kernel
theorem dX10_layOne_47 : decode cX10_layOne 47 = .ok (.iadd, 1) := by decide +kernel
theorem dX10_layOne_48 : decode cX10_layOne 48 = .ok (.istore 4, 2) := by decide +kernel
theorem dX10_layOne_50 : decode cX10_layOne 50 = .ok (.iinc 5 1, 3) := by decide +kernel
theorem dX10_layOne_53 : decode cX10_layOne 53 = .ok (.goto (-33), 3) := by decide +kernel
theorem dX10_layOne_56 : decode cX10_layOne 56 = .ok (.aload_n 0, 1) := by decide +kernel
theorem dX10_layOne_57 : decode cX10_layOne 57 = .ok (.getfield 302, 3) := by decide +kernel
theorem dX10_layOne_60 : decode cX10_layOne 60 = .ok (.iconst 1, 1) := by decide +kernel
theorem dX10_layOne_61 : decode cX10_layOne 61 = .ok (.if_icmp .ne 20, 3) := by decide +kernel
theorem dX10_layOne_64 : decode cX10_layOne 64 = .ok (.iload_n 3, 1) := by decide +kernel
theorem dX10_layOne_65 : decode cX10_layOne 65 = .ok (.iload_n 2, 1) := by decide +kernel
theorem dX10_layOne_66 : decode cX10_layOne 66 = .ok (.if_icmp .le 15, 3) := by decide +kernel
theorem dX10_layOne_69 : decode cX10_layOne 69 = .ok (.aload_n 0, 1) := by decide +kernel
theorem dX10_layOne_70 : decode cX10_layOne 70 = .ok (.getfield 296, 3) := by decide +kernel
theorem dX10_layOne_73 : decode cX10_layOne 73 = .ok (.iload_n 2, 1) := by decide +kernel
theorem dX10_layOne_74 : decode cX10_layOne 74 = .ok (.if_icmp .ge 7, 3) := by decide +kernel
theorem dX10_layOne_77 : decode cX10_layOne 77 = .ok (.iconst 1, 1) := by decide +kernel
theorem dX10_layOne_78 : decode cX10_layOne 78 = .ok (.goto 4, 3) := by decide +kernel
theorem dX10_layOne_81 : decode cX10_layOne 81 = .ok (.iconst 0, 1) := by decide +kernel
theorem dX10_layOne_82 : decode cX10_layOne 82 = .ok (.istore 5, 2) := by decide +kernel
theorem dX10_layOne_84 : decode cX10_layOne 84 = .ok (.aload_n 0, 1) := by decide +kernel
theorem dX10_layOne_85 : decode cX10_layOne 85 = .ok (.getfield 302, 3) := by decide +kernel
theorem dX10_layOne_88 : decode cX10_layOne 88 = .ok (.iconst 2, 1) := by decide +kernel
theorem dX10_layOne_89 : decode cX10_layOne 89 = .ok (.if_icmp .ne 19, 3) := by decide +kernel
theorem dX10_layOne_92 : decode cX10_layOne 92 = .ok (.aload_n 0, 1) := by decide +kernel
theorem dX10_layOne_93 : decode cX10_layOne 93 = .ok (.iload_n 1, 1) := by decide +kernel
theorem dX10_layOne_94 : decode cX10_layOne 94 = .ok (.invokevirtual 251, 3) := by decide +kernel
theorem dX10_layOne_97 : decode cX10_layOne 97 = .ok (.ifCond .eq 11, 3) := by decide +kernel
theorem dX10_layOne_100 : decode cX10_layOne 100 = .ok (.iload_n 2, 1) := by decide +kernel
theorem dX10_layOne_101 : decode cX10_layOne 101 = .ok (.ifCond .eq 7, 3) := by decide +kernel
theorem dX10_layOne_104 : decode cX10_layOne 104 = .ok (.iconst 1, 1) := by decide +kernel
theorem dX10_layOne_105 : decode cX10_layOne 105 = .ok (.goto 4, 3) := by decide +kernel
theorem dX10_layOne_108 : decode cX10_layOne 108 = .ok (.iconst 0, 1) := by decide +kernel
theorem dX10_layOne_109 : decode cX10_layOne 109 = .ok (.istore 6, 2) := by decide +kernel
theorem dX10_layOne_111 : decode cX10_layOne 111 = .ok (.aload_n 0, 1) := by decide +kernel
theorem dX10_layOne_112 : decode cX10_layOne 112 = .ok (.getfield 296, 3) := by decide +kernel
theorem dX10_layOne_115 : decode cX10_layOne 115 = .ok (.istore 4, 2) := by decide +kernel
theorem dX10_layOne_117 : decode cX10_layOne 117 = .ok (.iconst 0, 1) := by decide +kernel
theorem dX10_layOne_118 : decode cX10_layOne 118 = .ok (.istore 7, 2) := by decide +kernel
theorem dX10_layOne_120 : decode cX10_layOne 120 = .ok (.iload 7, 2) := by decide +kernel
theorem dX10_layOne_122 : decode cX10_layOne 122 = .ok (.aload_n 0, 1) := by decide +kernel
theorem dX10_layOne_123 : decode cX10_layOne 123 = .ok (.getfield 293, 3) := by decide +kernel
theorem dX10_layOne_126 : decode cX10_layOne 126 = .ok (.if_icmp .ge 125, 3) := by decide +kernel
theorem dX10_layOne_129 : decode cX10_layOne 129 = .ok (.iload 4, 2) := by decide +kernel
theorem dX10_layOne_131 : decode cX10_layOne 131 = .ok (.aload_n 0, 1) := by decide +kernel
theorem dX10_layOne_132 : decode cX10_layOne 132 = .ok (.iload 7, 2) := by decide +kernel
theorem dX10_layOne_134 : decode cX10_layOne 134 = .ok (.invokevirtual 305, 3) := by decide +kernel
theorem dX10_layOne_137 : decode cX10_layOne 137 = .ok (.iconst 2, 1) := by decide +kernel
theorem dX10_layOne_138 : decode cX10_layOne 138 = .ok (.idiv, 1) := by decide +kernel
theorem dX10_layOne_139 : decode cX10_layOne 139 = .ok (.iadd, 1) := by decide +kernel
theorem dX10_layOne_140 : decode cX10_layOne 140 = .ok (.istore 8, 2) := by decide +kernel
theorem dX10_layOne_142 : decode cX10_layOne 142 = .ok (.iload 5, 2) := by decide +kernel
theorem dX10_layOne_144 : decode cX10_layOne 144 = .ok (.ifCond .eq 35, 3) := by decide +kernel
theorem dX10_layOne_147 : decode cX10_layOne 147 = .ok (.aload_n 0, 1) := by decide +kernel
theorem dX10_layOne_148 : decode cX10_layOne 148 = .ok (.getfield 296, 3) := by decide +kernel
theorem dX10_layOne_151 : decode cX10_layOne 151 = .ok (.iload 8, 2) := by decide +kernel
theorem dX10_layOne_153 : decode cX10_layOne 153 = .ok (.aload_n 0, 1) := by decide +kernel
theorem dX10_layOne_154 : decode cX10_layOne 154 = .ok (.getfield 296, 3) := by decide +kernel
theorem dX10_layOne_157 : decode cX10_layOne 157 = .ok (.isub, 1) := by decide +kernel
theorem dX10_layOne_158 : decode cX10_layOne 158 = .ok (.i2l, 1) := by decide +kernel
theorem dX10_layOne_159 : decode cX10_layOne 159 = .ok (.iload_n 2, 1) := by decide +kernel
theorem dX10_layOne_160 : decode cX10_layOne 160 = .ok (.aload_n 0, 1) := by decide +kernel
theorem dX10_layOne_161 : decode cX10_layOne 161 = .ok (.getfield 296, 3) := by decide +kernel
theorem dX10_layOne_164 : decode cX10_layOne 164 = .ok (.isub, 1) := by decide +kernel
theorem dX10_layOne_165 : decode cX10_layOne 165 = .ok (.i2l, 1) := by decide +kernel
theorem dX10_layOne_166 : decode cX10_layOne 166 = .ok (.lmul, 1) := by decide +kernel
theorem dX10_layOne_167 : decode cX10_layOne 167 = .ok (.iload_n 3, 1) := by decide +kernel
theorem dX10_layOne_168 : decode cX10_layOne 168 = .ok (.aload_n 0, 1) := by decide +kernel
theorem dX10_layOne_169 : decode cX10_layOne 169 = .ok (.getfield 296, 3) := by decide +kernel
theorem dX10_layOne_172 : decode cX10_layOne 172 = .ok (.isub, 1) := by decide +kernel
theorem dX10_layOne_173 : decode cX10_layOne 173 = .ok (.i2l, 1) := by decide +kernel
theorem dX10_layOne_174 : decode cX10_layOne 174 = .ok (.ldiv, 1) := by decide +kernel
theorem dX10_layOne_175 : decode cX10_layOne 175 = .ok (.l2i, 1) := by decide +kernel
theorem dX10_layOne_176 : decode cX10_layOne 176 = .ok (.iadd, 1) := by decide +kernel
theorem dX10_layOne_177 : decode cX10_layOne 177 = .ok (.istore 8, 2) := by decide +kernel
theorem dX10_layOne_179 : decode cX10_layOne 179 = .ok (.iload 6, 2) := by decide +kernel
theorem dX10_layOne_181 : decode cX10_layOne 181 = .ok (.ifCond .eq 13, 3) := by decide +kernel
theorem dX10_layOne_184 : decode cX10_layOne 184 = .ok (.iload 8, 2) := by decide +kernel
theorem dX10_layOne_186 : decode cX10_layOne 186 = .ok (.iload_n 2, 1) := by decide +kernel
theorem dX10_layOne_187 : decode cX10_layOne 187 = .ok (.irem, 1) := by decide +kernel
theorem dX10_layOne_188 : decode cX10_layOne 188 = .ok (.iload_n 2, 1) := by decide +kernel
theorem dX10_layOne_189 : decode cX10_layOne 189 = .ok (.iadd, 1) := by decide +kernel
theorem dX10_layOne_190 : decode cX10_layOne 190 = .ok (.iload_n 2, 1) := by decide +kernel
theorem dX10_layOne_191 : decode cX10_layOne 191 = .ok (.irem, 1) := by decide +kernel
theorem dX10_layOne_192 : decode cX10_layOne 192 = .ok (.istore 8, 2) := by decide +kernel
theorem dX10_layOne_194 : decode cX10_layOne 194 = .ok (.aload_n 0, 1) := by decide +kernel
theorem dX10_layOne_195 : decode cX10_layOne 195 = .ok (.getfield 74, 3) := by decide +kernel
theorem dX10_layOne_198 : decode cX10_layOne 198 = .ok (.iload 7, 2) := by decide +kernel
theorem dX10_layOne_200 : decode cX10_layOne 200 = .ok (.aload_n 0, 1) := by decide +kernel
theorem dX10_layOne_201 : decode cX10_layOne 201 = .ok (.iload_n 1, 1) := by decide +kernel
theorem dX10_layOne_202 : decode cX10_layOne 202 = .ok (.invokevirtual 311, 3) := by decide +kernel
theorem dX10_layOne_205 : decode cX10_layOne 205 = .ok (.ifCond .eq 17, 3) := by decide +kernel
theorem dX10_layOne_208 : decode cX10_layOne 208 = .ok (.iload 8, 2) := by decide +kernel
theorem dX10_layOne_210 : decode cX10_layOne 210 = .ok (.iconst 0, 1) := by decide +kernel
theorem dX10_layOne_211 : decode cX10_layOne 211 = .ok (.iload_n 2, 1) := by decide +kernel
theorem dX10_layOne_212 : decode cX10_layOne 212 = .ok (.invokestatic 80, 3) := by decide +kernel
theorem dX10_layOne_215 : decode cX10_layOne 215 = .ok (.ifCond .eq 7, 3) := by decide +kernel
theorem dX10_layOne_218 : decode cX10_layOne 218 = .ok (.iload_n 1, 1) := by decide +kernel
theorem dX10_layOne_219 : decode cX10_layOne 219 = .ok (.goto 5, 3) := by decide +kernel
theorem dX10_layOne_222 : decode cX10_layOne 222 = .ok (.ldc 103, 2) := by decide +kernel
theorem dX10_layOne_224 : decode cX10_layOne 224 = .ok (.iastore, 1) := by decide +kernel
theorem dX10_layOne_225 : decode cX10_layOne 225 = .ok (.aload_n 0, 1) := by decide +kernel
theorem dX10_layOne_226 : decode cX10_layOne 226 = .ok (.getfield 77, 3) := by decide +kernel
theorem dX10_layOne_229 : decode cX10_layOne 229 = .ok (.iload 7, 2) := by decide +kernel
theorem dX10_layOne_231 : decode cX10_layOne 231 = .ok (.iload 8, 2) := by decide +kernel
theorem dX10_layOne_233 : decode cX10_layOne 233 = .ok (.iastore, 1) := by decide +kernel
theorem dX10_layOne_234 : decode cX10_layOne 234 = .ok (.iload 4, 2) := by decide +kernel
theorem dX10_layOne_236 : decode cX10_layOne 236 = .ok (.aload_n 0, 1) := by decide +kernel
theorem dX10_layOne_237 : decode cX10_layOne 237 = .ok (.iload 7, 2) := by decide +kernel
theorem dX10_layOne_239 : decode cX10_layOne 239 = .ok (.invokevirtual 308, 3) := by decide +kernel
theorem dX10_layOne_242 : decode cX10_layOne 242 = .ok (.iadd, 1) := by decide +kernel
theorem dX10_layOne_243 : decode cX10_layOne 243 = .ok (.istore 4, 2) := by decide +kernel
theorem dX10_layOne_245 : decode cX10_layOne 245 = .ok (.iinc 7 1, 3) := by decide +kernel
theorem dX10_layOne_248 : decode cX10_layOne 248 = .ok (.goto (-128), 3) := by decide +kernel
theorem dX10_layOne_251 : decode cX10_layOne 251 = .ok (.return_, 1) := by decide +kernel
theorem dX10_layOn_0 : decode cX10_layOn 0 = .ok (.iload_n 1, 1) := by decide +kernel
theorem dX10_layOn_1 : decode cX10_layOn 1 = .ok (.istore_n 2, 1) := by decide +kernel
theorem dX10_layOn_2 : decode cX10_layOn 2 = .ok (.aload_n 0, 1) := by decide +kernel
theorem dX10_layOn_3 : decode cX10_layOn 3 = .ok (.getfield 296, 3) := by decide +kernel
theorem dX10_layOn_6 : decode cX10_layOn 6 = .ok (.istore_n 3, 1) := by decide +kernel
theorem dX10_layOn_7 : decode cX10_layOn 7 = .ok (.iconst 0, 1) := by decide +kernel
theorem dX10_layOn_8 : decode cX10_layOn 8 = .ok (.istore 4, 2) := by decide +kernel
theorem dX10_layOn_10 : decode cX10_layOn 10 = .ok (.iload 4, 2) := by decide +kernel
theorem dX10_layOn_12 : decode cX10_layOn 12 = .ok (.aload_n 0, 1) := by decide +kernel
theorem dX10_layOn_13 : decode cX10_layOn 13 = .ok (.getfield 293, 3) := by decide +kernel
theorem dX10_layOn_16 : decode cX10_layOn 16 = .ok (.if_icmp .ge 105, 3) := by decide +kernel
theorem dX10_layOn_19 : decode cX10_layOn 19 = .ok (.iload_n 2, 1) := by decide +kernel
theorem dX10_layOn_20 : decode cX10_layOn 20 = .ok (.aload_n 0, 1) := by decide +kernel
theorem dX10_layOn_21 : decode cX10_layOn 21 = .ok (.getfield 211, 3) := by decide +kernel
theorem dX10_layOn_24 : decode cX10_layOn 24 = .ok (.if_icmp .ge 35, 3) := by decide +kernel
theorem dX10_layOn_27 : decode cX10_layOn 27 = .ok (.aload_n 0, 1) := by decide +kernel
theorem dX10_layOn_28 : decode cX10_layOn 28 = .ok (.iload_n 2, 1) := by decide +kernel
theorem dX10_layOn_29 : decode cX10_layOn 29 = .ok (.invokevirtual 311, 3) := by decide +kernel
theorem dX10_layOn_32 : decode cX10_layOn 32 = .ok (.ifCond .eq 19, 3) := by decide +kernel
theorem dX10_layOn_35 : decode cX10_layOn 35 = .ok (.iload_n 3, 1) := by decide +kernel
theorem dX10_layOn_36 : decode cX10_layOn 36 = .ok (.aload_n 0, 1) := by decide +kernel
theorem dX10_layOn_37 : decode cX10_layOn 37 = .ok (.iload 4, 2) := by decide +kernel
theorem dX10_layOn_39 : decode cX10_layOn 39 = .ok (.invokevirtual 305, 3) := by decide +kernel
theorem dX10_layOn_42 : decode cX10_layOn 42 = .ok (.iadd, 1) := by decide +kernel
theorem dX10_layOn_43 : decode cX10_layOn 43 = .ok (.aload_n 0, 1) := by decide +kernel
theorem dX10_layOn_44 : decode cX10_layOn 44 = .ok (.iload_n 2, 1) := by decide +kernel
theorem dX10_layOn_45 : decode cX10_layOn 45 = .ok (.invokevirtual 248, 3) := by decide +kernel
theorem dX10_layOn_48 : decode cX10_layOn 48 = .ok (.if_icmp .le 11, 3) := by decide +kernel
theorem dX10_layOn_51 : decode cX10_layOn 51 = .ok (.iinc 2 1, 3) := by decide +kernel
theorem dX10_layOn_54 : decode cX10_layOn 54 = .ok (.iconst 0, 1) := by decide +kernel
theorem dX10_layOn_55 : decode cX10_layOn 55 = .ok (.istore_n 3, 1) := by decide +kernel
theorem dX10_layOn_56 : decode cX10_layOn 56 = .ok (.goto (-37), 3) := by decide +kernel
theorem dX10_layOn_59 : decode cX10_layOn 59 = .ok (.iload_n 3, 1) := by decide +kernel
theorem dX10_layOn_60 : decode cX10_layOn 60 = .ok (.aload_n 0, 1) := by decide +kernel
theorem dX10_layOn_61 : decode cX10_layOn 61 = .ok (.iload 4, 2) := by decide +kernel
theorem dX10_layOn_63 : decode cX10_layOn 63 = .ok (.invokevirtual 305, 3) := by decide +kernel
theorem dX10_layOn_66 : decode cX10_layOn 66 = .ok (.iconst 2, 1) := by decide +kernel
theorem dX10_layOn_67 : decode cX10_layOn 67 = .ok (.idiv, 1) := by decide +kernel
theorem dX10_layOn_68 : decode cX10_layOn 68 = .ok (.iadd, 1) := by decide +kernel
theorem dX10_layOn_69 : decode cX10_layOn 69 = .ok (.istore 5, 2) := by decide +kernel
theorem dX10_layOn_71 : decode cX10_layOn 71 = .ok (.aload_n 0, 1) := by decide +kernel
theorem dX10_layOn_72 : decode cX10_layOn 72 = .ok (.getfield 74, 3) := by decide +kernel
theorem dX10_layOn_75 : decode cX10_layOn 75 = .ok (.iload 4, 2) := by decide +kernel
theorem dX10_layOn_77 : decode cX10_layOn 77 = .ok (.iload_n 2, 1) := by decide +kernel
theorem dX10_layOn_78 : decode cX10_layOn 78 = .ok (.aload_n 0, 1) := by decide +kernel
theorem dX10_layOn_79 : decode cX10_layOn 79 = .ok (.getfield 211, 3) := by decide +kernel
theorem dX10_layOn_82 : decode cX10_layOn 82 = .ok (.if_icmp .ge 12, 3) := by decide +kernel
theorem dX10_layOn_85 : decode cX10_layOn 85 = .ok (.iload 5, 2) := by decide +kernel
theorem dX10_layOn_87 : decode cX10_layOn 87 = .ok (.ifCond .lt 7, 3) := by decide +kernel
theorem dX10_layOn_90 : decode cX10_layOn 90 = .ok (.iload_n 2, 1) := by decide +kernel
theorem dX10_layOn_91 : decode cX10_layOn 91 = .ok (.goto 5, 3) := by decide +kernel
theorem dX10_layOn_94 : decode cX10_layOn 94 = .ok (.ldc 103, 2) := by decide +kernel
theorem dX10_layOn_96 : decode cX10_layOn 96 = .ok (.iastore, 1) := by decide +kernel
theorem dX10_layOn_97 : decode cX10_layOn 97 = .ok (.aload_n 0, 1) := by decide +kernel
theorem dX10_layOn_98 : decode cX10_layOn 98 = .ok (.getfield 77, 3) := by decide +kernel
theorem dX10_layOn_101 : decode cX10_layOn 101 = .ok (.iload 4, 2) := by decide +kernel
theorem dX10_layOn_103 : decode cX10_layOn 103 = .ok (.iload 5, 2) := by decide +kernel
theorem dX10_layOn_105 : decode cX10_layOn 105 = .ok (.iastore, 1) := by decide +kernel
theorem dX10_layOn_106 : decode cX10_layOn 106 = .ok (.iload_n 3, 1) := by decide +kernel
theorem dX10_layOn_107 : decode cX10_layOn 107 = .ok (.aload_n 0, 1) := by decide +kernel
theorem dX10_layOn_108 : decode cX10_layOn 108 = .ok (.iload 4, 2) := by decide +kernel
theorem dX10_layOn_110 : decode cX10_layOn 110 = .ok (.invokevirtual 308, 3) := by decide +kernel
theorem dX10_layOn_113 : decode cX10_layOn 113 = .ok (.iadd, 1) := by decide +kernel
theorem dX10_layOn_114 : decode cX10_layOn 114 = .ok (.istore_n 3, 1) := by decide +kernel
theorem dX10_layOn_115 : decode cX10_layOn 115 = .ok (.iinc 4 1, 3) := by decide +kernel
theorem dX10_layOn_118 : decode cX10_layOn 118 = .ok (.goto (-108), 3) := by decide +kernel
theorem dX10_layOn_121 : decode cX10_layOn 121 = .ok (.return_, 1) := by decide +kernel
theorem dX10_layLetters_0 : decode cX10_layLetters 0 = .ok (.aload_n 0, 1) := by decide +kernel
theorem dX10_layLetters_1 : decode cX10_layLetters 1 = .ok (.invokevirtual 111, 3) := by decide +kernel
theorem dX10_layLetters_4 : decode cX10_layLetters 4 = .ok (.aload_n 0, 1) := by decide +kernel
theorem dX10_layLetters_5 : decode cX10_layLetters 5 = .ok (.getfield 302, 3) := by decide +kernel
theorem dX10_layLetters_8 : decode cX10_layLetters 8 = .ok (.iconst 3, 1) := by decide +kernel
theorem dX10_layLetters_9 : decode cX10_layLetters 9 = .ok (.if_icmp .ne 11, 3) := by decide +kernel
theorem dX10_layLetters_12 : decode cX10_layLetters 12 = .ok (.aload_n 0, 1) := by decide +kernel
theorem dX10_layLetters_13 : decode cX10_layLetters 13 = .ok (.iload_n 1, 1) := by decide +kernel
theorem dX10_layLetters_14 : decode cX10_layLetters 14 = .ok (.invokevirtual 314, 3) := by decide +kernel
theorem dX10_layLetters_17 : decode cX10_layLetters 17 = .ok (.goto 8, 3) := by decide +kernel
theorem dX10_layLetters_20 : decode cX10_layLetters 20 = .ok (.aload_n 0, 1) := by decide +kernel
theorem dX10_layLetters_21 : decode cX10_layLetters 21 = .ok (.iload_n 1, 1) := by decide +kernel
theorem dX10_layLetters_22 : decode cX10_layLetters 22 = .ok (.invokevirtual 317, 3) := by decide +kernel
theorem dX10_layLetters_25 : decode cX10_layLetters 25 = .ok (.return_, 1) := by decide +kernel
theorem dX10_letter_0 : decode cX10_letter 0 = .ok (.aload_n 0, 1) := by decide +kernel
theorem dX10_letter_1 : decode cX10_letter 1 = .ok (.iload_n 1, 1) := by decide +kernel
theorem dX10_letter_2 : decode cX10_letter 2 = .ok (.invokevirtual 123, 3) := by decide +kernel
theorem dX10_letter_5 : decode cX10_letter 5 = .ok (.ifCond .eq 17, 3) := by decide +kernel
theorem dX10_letter_8 : decode cX10_letter 8 = .ok (.iload_n 2, 1) := by decide +kernel
theorem dX10_letter_9 : decode cX10_letter 9 = .ok (.iconst 0, 1) := by decide +kernel
theorem dX10_letter_10 : decode cX10_letter 10 = .ok (.aload_n 0, 1) := by decide +kernel
theorem dX10_letter_11 : decode cX10_letter 11 = .ok (.getfield 293, 3) := by decide +kernel
theorem dX10_letter_14 : decode cX10_letter 14 = .ok (.iconst 1, 1) := by decide +kernel
theorem dX10_letter_15 : decode cX10_letter 15 = .ok (.isub, 1) := by decide +kernel
theorem dX10_letter_16 : decode cX10_letter 16 = .ok (.invokestatic 80, 3) := by decide +kernel
theorem dX10_letter_19 : decode cX10_letter 19 = .ok (.ifCond .ne 6, 3) := by decide +kernel
theorem dX10_letter_22 : decode cX10_letter 22 = .ok (.ldc 107, 2) := by decide +kernel
theorem dX10_letter_24 : decode cX10_letter 24 = .ok (.ireturn, 1) := by decide +kernel
theorem dX10_letter_25 : decode cX10_letter 25 = .ok (.iload_n 3, 1) := by decide +kernel
theorem dX10_letter_26 : decode cX10_letter 26 = .ok (.iconst 0, 1) := by decide +kernel
theorem dX10_letter_27 : decode cX10_letter 27 = .ok (.iconst 4, 1) := by decide +kernel
theorem dX10_letter_28 : decode cX10_letter 28 = .ok (.invokestatic 80, 3) := by decide +kernel
theorem dX10_letter_31 : decode cX10_letter 31 = .ok (.ifCond .ne 6, 3) := by decide +kernel
theorem dX10_letter_34 : decode cX10_letter 34 = .ok (.ldc 88, 2) := by decide +kernel
theorem dX10_letter_36 : decode cX10_letter 36 = .ok (.ireturn, 1) := by decide +kernel
theorem dX10_letter_37 : decode cX10_letter 37 = .ok (.aload_n 0, 1) := by decide +kernel
theorem dX10_letter_38 : decode cX10_letter 38 = .ok (.iload_n 1, 1) := by decide +kernel
theorem dX10_letter_39 : decode cX10_letter 39 = .ok (.invokevirtual 320, 3) := by decide +kernel
theorem dX10_letter_42 : decode cX10_letter 42 = .ok (.aload_n 0, 1) := by decide +kernel
theorem dX10_letter_43 : decode cX10_letter 43 = .ok (.getfield 74, 3) := by decide +kernel
theorem dX10_letter_46 : decode cX10_letter 46 = .ok (.iload_n 2, 1) := by decide +kernel
theorem dX10_letter_47 : decode cX10_letter 47 = .ok (.iaload, 1) := by decide +kernel
theorem dX10_letter_48 : decode cX10_letter 48 = .ok (.istore 4, 2) := by decide +kernel
theorem dX10_letter_50 : decode cX10_letter 50 = .ok (.iload 4, 2) := by decide +kernel
theorem dX10_letter_52 : decode cX10_letter 52 = .ok (.ifCond .ge 6, 3) := by decide +kernel
theorem dX10_letter_55 : decode cX10_letter 55 = .ok (.ldc 103, 2) := by decide +kernel
theorem dX10_letter_57 : decode cX10_letter 57 = .ok (.ireturn, 1) := by decide +kernel
theorem dX10_letter_58 : decode cX10_letter 58 = .ok (.iload_n 3, 1) := by decide +kernel
theorem dX10_letter_59 : decode cX10_letter 59 = .ok (.ifCond .ne 8, 3) := by decide +kernel
theorem dX10_letter_62 : decode cX10_letter 62 = .ok (.iload 4, 2) := by decide +kernel
theorem dX10_letter_64 : decode cX10_letter 64 = .ok (.goto 32, 3) := by decide +kernel
theorem dX10_letter_67 : decode cX10_letter 67 = .ok (.iload_n 3, 1) := by decide +kernel
theorem dX10_letter_68 : decode cX10_letter 68 = .ok (.iconst 1, 1) := by decide +kernel
theorem dX10_letter_69 : decode cX10_letter 69 = .ok (.if_icmp .ne 12, 3) := by decide +kernel
theorem dX10_letter_72 : decode cX10_letter 72 = .ok (.aload_n 0, 1) := by decide +kernel
theorem dX10_letter_73 : decode cX10_letter 73 = .ok (.getfield 77, 3) := by decide +kernel
theorem dX10_letter_76 : decode cX10_letter 76 = .ok (.iload_n 2, 1) := by decide +kernel
theorem dX10_letter_77 : decode cX10_letter 77 = .ok (.iaload, 1) := by decide +kernel
theorem dX10_letter_78 : decode cX10_letter 78 = .ok (.goto 18, 3) := by decide +kernel
theorem dX10_letter_81 : decode cX10_letter 81 = .ok (.aload_n 0, 1) := by decide +kernel
theorem dX10_letter_82 : decode cX10_letter 82 = .ok (.iload 4, 2) := by decide +kernel
theorem dX10_letter_84 : decode cX10_letter 84 = .ok (.aload_n 0, 1) := by decide +kernel
theorem dX10_letter_85 : decode cX10_letter 85 = .ok (.getfield 77, 3) := by decide +kernel
theorem dX10_letter_88 : decode cX10_letter 88 = .ok (.iload_n 2, 1) := by decide +kernel
theorem dX10_letter_89 : decode cX10_letter 89 = .ok (.iaload, 1) := by decide +kernel
theorem dX10_letter_90 : decode cX10_letter 90 = .ok (.iload_n 3, 1) := by decide +kernel
theorem dX10_letter_91 : decode cX10_letter 91 = .ok (.iconst 2, 1) := by decide +kernel
theorem dX10_letter_92 : decode cX10_letter 92 = .ok (.isub, 1) := by decide +kernel
theorem dX10_letter_93 : decode cX10_letter 93 = .ok (.invokevirtual 263, 3) := by decide +kernel
theorem dX10_letter_96 : decode cX10_letter 96 = .ok (.ireturn, 1) := by decide +kernel
theorem dX10_turnsBack_0 : decode cX10_turnsBack 0 = .ok (.aload_n 0, 1) := by decide +kernel
theorem dX10_turnsBack_1 : decode cX10_turnsBack 1 = .ok (.getfield 74, 3) := by decide +kernel
theorem dX10_turnsBack_4 : decode cX10_turnsBack 4 = .ok (.iload_n 1, 1) := by decide +kernel
theorem dX10_turnsBack_5 : decode cX10_turnsBack 5 = .ok (.iaload, 1) := by decide +kernel
theorem dX10_turnsBack_6 : decode cX10_turnsBack 6 = .ok (.istore_n 3, 1) := by decide +kernel
theorem dX10_turnsBack_7 : decode cX10_turnsBack 7 = .ok (.aload_n 0, 1) := by decide +kernel
theorem dX10_turnsBack_8 : decode cX10_turnsBack 8 = .ok (.iload_n 3, 1) := by decide +kernel
theorem dX10_turnsBack_9 : decode cX10_turnsBack 9 = .ok (.aload_n 0, 1) := by decide +kernel
theorem dX10_turnsBack_10 : decode cX10_turnsBack 10 = .ok (.getfield 77, 3) := by decide +kernel
theorem dX10_turnsBack_13 : decode cX10_turnsBack 13 = .ok (.iload_n 1, 1) := by decide +kernel
theorem dX10_turnsBack_14 : decode cX10_turnsBack 14 = .ok (.iaload, 1) := by decide +kernel
theorem dX10_turnsBack_15 : decode cX10_turnsBack 15 = .ok (.iconst 3, 1) := by decide +kernel
theorem dX10_turnsBack_16 : decode cX10_turnsBack 16 = .ok (.invokevirtual 263, 3) := by decide +kernel
theorem dX10_turnsBack_19 : decode cX10_turnsBack 19 = .ok (.i2l, 1) := by decide +kernel
theorem dX10_turnsBack_20 : decode cX10_turnsBack 20 = .ok (.lstore 4, 2) := by decide +kernel
theorem dX10_turnsBack_22 : decode cX10_turnsBack 22 = .ok (.aload_n 0, 1) := by decide +kernel
theorem dX10_turnsBack_23 : decode cX10_turnsBack 23 = .ok (.iload_n 3, 1) := by decide +kernel
theorem dX10_turnsBack_24 : decode cX10_turnsBack 24 = .ok (.aload_n 0, 1) := by decide +kernel
theorem dX10_turnsBack_25 : decode cX10_turnsBack 25 = .ok (.getfield 77, 3) := by decide +kernel
theorem dX10_turnsBack_28 : decode cX10_turnsBack 28 = .ok (.iload_n 1, 1) := by decide +kernel
theorem dX10_turnsBack_29 : decode cX10_turnsBack 29 = .ok (.iaload, 1) := by decide +kernel
theorem dX10_turnsBack_30 : decode cX10_turnsBack 30 = .ok (.iconst 4, 1) := by decide +kernel
theorem dX10_turnsBack_31 : decode cX10_turnsBack 31 = .ok (.invokevirtual 263, 3) := by decide +kernel
theorem dX10_turnsBack_34 : decode cX10_turnsBack 34 = .ok (.i2l, 1) := by decide +kernel
theorem dX10_turnsBack_35 : decode cX10_turnsBack 35 = .ok (.lstore 6, 2) := by decide +kernel
theorem dX10_turnsBack_37 : decode cX10_turnsBack 37 = .ok (.lload 4, 2) := by decide +kernel
theorem dX10_turnsBack_39 : decode cX10_turnsBack 39 = .ok (.aload_n 0, 1) := by decide +kernel
theorem dX10_turnsBack_40 : decode cX10_turnsBack 40 = .ok (.iload_n 3, 1) := by decide +kernel
theorem dX10_turnsBack_41 : decode cX10_turnsBack 41 = .ok (.aload_n 0, 1) := by decide +kernel
theorem dX10_turnsBack_42 : decode cX10_turnsBack 42 = .ok (.getfield 77, 3) := by decide +kernel
theorem dX10_turnsBack_45 : decode cX10_turnsBack 45 = .ok (.iload_n 2, 1) := by decide +kernel
theorem dX10_turnsBack_46 : decode cX10_turnsBack 46 = .ok (.iaload, 1) := by decide +kernel
theorem dX10_turnsBack_47 : decode cX10_turnsBack 47 = .ok (.iconst 3, 1) := by decide +kernel
theorem dX10_turnsBack_48 : decode cX10_turnsBack 48 = .ok (.invokevirtual 263, 3) := by decide +kernel
theorem dX10_turnsBack_51 : decode cX10_turnsBack 51 = .ok (.i2l, 1) := by decide +kernel
theorem dX10_turnsBack_52 : decode cX10_turnsBack 52 = .ok (.lmul, 1) := by decide +kernel
theorem dX10_turnsBack_53 : decode cX10_turnsBack 53 = .ok (.lload 6, 2) := by decide +kernel
theorem dX10_turnsBack_55 : decode cX10_turnsBack 55 = .ok (.aload_n 0, 1) := by decide +kernel
theorem dX10_turnsBack_56 : decode cX10_turnsBack 56 = .ok (.iload_n 3, 1) := by decide +kernel
theorem dX10_turnsBack_57 : decode cX10_turnsBack 57 = .ok (.aload_n 0, 1) := by decide +kernel
theorem dX10_turnsBack_58 : decode cX10_turnsBack 58 = .ok (.getfield 77, 3) := by decide +kernel
theorem dX10_turnsBack_61 : decode cX10_turnsBack 61 = .ok (.iload_n 2, 1) := by decide +kernel
theorem dX10_turnsBack_62 : decode cX10_turnsBack 62 = .ok (.iaload, 1) := by decide +kernel
theorem dX10_turnsBack_63 : decode cX10_turnsBack 63 = .ok (.iconst 4, 1) := by decide +kernel
theorem dX10_turnsBack_64 : decode cX10_turnsBack 64 = .ok (.invokevirtual 263, 3) := by decide +kernel
theorem dX10_turnsBack_67 : decode cX10_turnsBack 67 = .ok (.i2l, 1) := by decide +kernel
theorem dX10_turnsBack_68 : decode cX10_turnsBack 68 = .ok (.lmul, 1) := by decide +kernel
theorem dX10_turnsBack_69 : decode cX10_turnsBack 69 = .ok (.ladd, 1) := by decide +kernel
theorem dX10_turnsBack_70 : decode cX10_turnsBack 70 = .ok (.lconst 0, 1) := by decide +kernel
theorem dX10_turnsBack_71 : decode cX10_turnsBack 71 = .ok (.lcmp, 1) := by decide +kernel
theorem dX10_turnsBack_72 : decode cX10_turnsBack 72 = .ok (.ifCond .ge 7, 3) := by decide +kernel
theorem dX10_turnsBack_75 : decode cX10_turnsBack 75 = .ok (.iconst 1, 1) := by decide +kernel
theorem dX10_turnsBack_76 : decode cX10_turnsBack 76 = .ok (.goto 4, 3) := by decide +kernel
theorem dX10_turnsBack_79 : decode cX10_turnsBack 79 = .ok (.iconst 0, 1) := by decide +kernel
theorem dX10_turnsBack_80 : decode cX10_turnsBack 80 = .ok (.ireturn, 1) := by decide +kernel
theorem dX10_placed_0 : decode cX10_placed 0 = .ok (.aload_n 0, 1) := by decide +kernel
theorem dX10_placed_1 : decode cX10_placed 1 = .ok (.iload_n 1, 1) := by decide +kernel
theorem dX10_placed_2 : decode cX10_placed 2 = .ok (.invokevirtual 123, 3) := by decide +kernel
theorem dX10_placed_5 : decode cX10_placed 5 = .ok (.ifCond .ne 6, 3) := by decide +kernel
theorem dX10_placed_8 : decode cX10_placed 8 = .ok (.ldc 107, 2) := by decide +kernel
theorem dX10_placed_10 : decode cX10_placed 10 = .ok (.ireturn, 1) := by decide +kernel
theorem dX10_placed_11 : decode cX10_placed 11 = .ok (.iload_n 2, 1) := by decide +kernel
theorem dX10_placed_12 : decode cX10_placed 12 = .ok (.iconst 0, 1) := by decide +kernel
theorem dX10_placed_13 : decode cX10_placed 13 = .ok (.iconst 1, 1) := by decide +kernel
theorem dX10_placed_14 : decode cX10_placed 14 = .ok (.invokestatic 80, 3) := by decide +kernel
theorem dX10_placed_17 : decode cX10_placed 17 = .ok (.ifCond .ne 6, 3) := by decide +kernel
theorem dX10_placed_20 : decode cX10_placed 20 = .ok (.ldc 88, 2) := by decide +kernel
theorem dX10_placed_22 : decode cX10_placed 22 = .ok (.ireturn, 1) := by decide +kernel
theorem dX10_placed_23 : decode cX10_placed 23 = .ok (.aload_n 0, 1) := by decide +kernel
theorem dX10_placed_24 : decode cX10_placed 24 = .ok (.iload_n 1, 1) := by decide +kernel
theorem dX10_placed_25 : decode cX10_placed 25 = .ok (.invokevirtual 320, 3) := by decide +kernel
theorem dX10_placed_28 : decode cX10_placed 28 = .ok (.iconst 0, 1) := by decide +kernel
theorem dX10_placed_29 : decode cX10_placed 29 = .ok (.istore_n 3, 1) := by decide +kernel
theorem dX10_placed_30 : decode cX10_placed 30 = .ok (.ldc 103, 2) := by decide +kernel
theorem dX10_placed_32 : decode cX10_placed 32 = .ok (.istore 4, 2) := by decide +kernel
theorem dX10_placed_34 : decode cX10_placed 34 = .ok (.iconst 0, 1) := by decide +kernel
theorem dX10_placed_35 : decode cX10_placed 35 = .ok (.istore 5, 2) := by decide +kernel
theorem dX10_placed_37 : decode cX10_placed 37 = .ok (.iload 5, 2) := by decide +kernel
theorem dX10_placed_39 : decode cX10_placed 39 = .ok (.aload_n 0, 1) := by decide +kernel
theorem dX10_placed_40 : decode cX10_placed 40 = .ok (.getfield 293, 3) := by decide +kernel
theorem dX10_placed_43 : decode cX10_placed 43 = .ok (.if_icmp .ge 80, 3) := by decide +kernel
theorem dX10_placed_46 : decode cX10_placed 46 = .ok (.aload_n 0, 1) := by decide +kernel
theorem dX10_placed_47 : decode cX10_placed 47 = .ok (.getfield 74, 3) := by decide +kernel
theorem dX10_placed_50 : decode cX10_placed 50 = .ok (.iload 5, 2) := by decide +kernel
theorem dX10_placed_52 : decode cX10_placed 52 = .ok (.iaload, 1) := by decide +kernel
theorem dX10_placed_53 : decode cX10_placed 53 = .ok (.ifCond .lt 64, 3) := by decide +kernel
theorem dX10_placed_56 : decode cX10_placed 56 = .ok (.iload_n 2, 1) := by decide +kernel
theorem dX10_placed_57 : decode cX10_placed 57 = .ok (.ifCond .eq 36, 3) := by decide +kernel
theorem dX10_placed_60 : decode cX10_placed 60 = .ok (.iload 4, 2) := by decide +kernel
theorem dX10_placed_62 : decode cX10_placed 62 = .ok (.ifCond .lt 35, 3) := by decide +kernel
theorem dX10_placed_65 : decode cX10_placed 65 = .ok (.aload_n 0, 1) := by decide +kernel
theorem dX10_placed_66 : decode cX10_placed 66 = .ok (.getfield 74, 3) := by decide +kernel
theorem dX10_placed_69 : decode cX10_placed 69 = .ok (.iload 4, 2) := by decide +kernel
theorem dX10_placed_71 : decode cX10_placed 71 = .ok (.iaload, 1) := by decide +kernel
theorem dX10_placed_72 : decode cX10_placed 72 = .ok (.aload_n 0, 1) := by decide +kernel
theorem dX10_placed_73 : decode cX10_placed 73 = .ok (.getfield 74, 3) := by decide +kernel
theorem dX10_placed_76 : decode cX10_placed 76 = .ok (.iload 5, 2) := by decide +kernel
theorem dX10_placed_78 : decode cX10_placed 78 = .ok (.iaload, 1) := by decide +kernel
theorem dX10_placed_79 : decode cX10_placed 79 = .ok (.if_icmp .ne 18, 3) := by decide +kernel
theorem dX10_placed_82 : decode cX10_placed 82 = .ok (.aload_n 0, 1) := by decide +kernel
theorem dX10_placed_83 : decode cX10_placed 83 = .ok (.iload 5, 2) := by decide +kernel
theorem dX10_placed_85 : decode cX10_placed 85 = .ok (.iload 4, 2) := by decide +kernel
theorem dX10_placed_87 : decode cX10_placed 87 = .ok (.invokevirtual 323, 3) := by decide +kernel
theorem dX10_placed_90 : decode cX10_placed 90 = .ok (.ifCond .eq 7, 3) := by decide +kernel
theorem dX10_placed_93 : decode cX10_placed 93 = .ok (.iconst 1, 1) := by decide +kernel
theorem dX10_placed_94 : decode cX10_placed 94 = .ok (.goto 4, 3) := by decide +kernel
theorem dX10_placed_97 : decode cX10_placed 97 = .ok (.iconst 0, 1) := by decide +kernel
theorem dX10_placed_98 : decode cX10_placed 98 = .ok (.istore 6, 2) := by decide +kernel
theorem dX10_placed_100 : decode cX10_placed 100 = .ok (.iload_n 3, 1) := by decide +kernel
theorem dX10_placed_101 : decode cX10_placed 101 = .ok (.iload 6, 2) := by decide +kernel
theorem dX10_placed_103 : decode cX10_placed 103 = .ok (.ifCond .eq 7, 3) := by decide +kernel
theorem dX10_placed_106 : decode cX10_placed 106 = .ok (.iconst 1, 1) := by decide +kernel
theorem dX10_placed_107 : decode cX10_placed 107 = .ok (.goto 4, 3) := by decide +kernel
theorem dX10_placed_110 : decode cX10_placed 110 = .ok (.iconst 0, 1) := by decide +kernel
theorem dX10_placed_111 : decode cX10_placed 111 = .ok (.iadd, 1) := by decide +kernel
theorem dX10_placed_112 : decode cX10_placed 112 = .ok (.istore_n 3, 1) := by decide +kernel
theorem dX10_placed_113 : decode cX10_placed 113 = .ok (.iload 5, 2) := by decide +kernel
theorem dX10_placed_115 : decode cX10_placed 115 = .ok (.istore 4, 2) := by decide +kernel
theorem dX10_placed_117 : decode cX10_placed 117 = .ok (.iinc 5 1, 3) := by decide +kernel
theorem dX10_placed_120 : decode cX10_placed 120 = .ok (.goto (-83), 3) := by decide +kernel
theorem dX10_placed_123 : decode cX10_placed 123 = .ok (.iload_n 3, 1) := by decide +kernel
theorem dX10_placed_124 : decode cX10_placed 124 = .ok (.ireturn, 1) := by decide +kernel
theorem dX10_count_0 : decode cX10_count 0 = .ok (.iload_n 1, 1) := by decide +kernel
theorem dX10_count_1 : decode cX10_count 1 = .ok (.tableswitch 82 0 6 #[43, 48, 53, 62, 67, 72, 77], 43) := by decide +kernel
theorem dX10_count_44 : decode cX10_count 44 = .ok (.aload_n 0, 1) := by decide +kernel
theorem dX10_count_45 : decode cX10_count 45 = .ok (.invokevirtual 89, 3) := by decide +kernel
theorem dX10_count_48 : decode cX10_count 48 = .ok (.ireturn, 1) := by decide +kernel
theorem dX10_count_49 : decode cX10_count 49 = .ok (.aload_n 0, 1) := by decide +kernel
theorem dX10_count_50 : decode cX10_count 50 = .ok (.invokevirtual 120, 3) := by decide +kernel
theorem dX10_count_53 : decode cX10_count 53 = .ok (.ireturn, 1) := by decide +kernel
theorem dX10_count_54 : decode cX10_count 54 = .ok (.aload_n 0, 1) := by decide +kernel
theorem dX10_count_55 : decode cX10_count 55 = .ok (.getfield 9, 3) := by decide +kernel
theorem dX10_count_58 : decode cX10_count 58 = .ok (.sipush 169, 3) := by decide +kernel
theorem dX10_count_61 : decode cX10_count 61 = .ok (.iaload, 1) := by decide +kernel
theorem dX10_count_62 : decode cX10_count 62 = .ok (.ireturn, 1) := by decide +kernel
theorem dX10_count_63 : decode cX10_count 63 = .ok (.aload_n 0, 1) := by decide +kernel
theorem dX10_count_64 : decode cX10_count 64 = .ok (.getfield 133, 3) := by decide +kernel
theorem dX10_count_67 : decode cX10_count 67 = .ok (.ireturn, 1) := by decide +kernel
theorem dX10_count_68 : decode cX10_count 68 = .ok (.aload_n 0, 1) := by decide +kernel
theorem dX10_count_69 : decode cX10_count 69 = .ok (.getfield 293, 3) := by decide +kernel
theorem dX10_count_72 : decode cX10_count 72 = .ok (.ireturn, 1) := by decide +kernel
theorem dX10_count_73 : decode cX10_count 73 = .ok (.aload_n 0, 1) := by decide +kernel
theorem dX10_count_74 : decode cX10_count 74 = .ok (.getfield 278, 3) := by decide +kernel
theorem dX10_count_77 : decode cX10_count 77 = .ok (.ireturn, 1) := by decide +kernel
theorem dX10_count_78 : decode cX10_count 78 = .ok (.aload_n 0, 1) := by decide +kernel
theorem dX10_count_79 : decode cX10_count 79 = .ok (.getfield 290, 3) := by decide +kernel
theorem dX10_count_82 : decode cX10_count 82 = .ok (.ireturn, 1) := by decide +kernel
theorem dX10_count_83 : decode cX10_count 83 = .ok (.ldc 88, 2) := by decide +kernel
theorem dX10_count_85 : decode cX10_count 85 = .ok (.ireturn, 1) := by decide +kernel
theorem dX10_save_0 : decode cX10_save 0 = .ok (.iload_n 1, 1) := by decide +kernel
theorem dX10_save_1 : decode cX10_save 1 = .ok (.iconst 0, 1) := by decide +kernel
theorem dX10_save_2 : decode cX10_save 2 = .ok (.iconst 1, 1) := by decide +kernel
theorem dX10_save_3 : decode cX10_save 3 = .ok (.invokestatic 80, 3) := by decide +kernel
theorem dX10_save_6 : decode cX10_save 6 = .ok (.ifCond .ne 6, 3) := by decide +kernel
theorem dX10_save_9 : decode cX10_save 9 = .ok (.ldc 88, 2) := by decide +kernel
theorem dX10_save_11 : decode cX10_save 11 = .ok (.ireturn, 1) := by decide +kernel
theorem dX10_save_12 : decode cX10_save 12 = .ok (.iconst 0, 1) := by decide +kernel
theorem dX10_save_13 : decode cX10_save 13 = .ok (.istore_n 2, 1) := by decide +kernel
theorem dX10_save_14 : decode cX10_save 14 = .ok (.iload_n 2, 1) := by decide +kernel
theorem dX10_save_15 : decode cX10_save 15 = .ok (.sipush 170, 3) := by decide +kernel
theorem dX10_save_18 : decode cX10_save 18 = .ok (.if_icmp .ge 27, 3) := by decide +kernel
theorem dX10_save_21 : decode cX10_save 21 = .ok (.aload_n 0, 1) := by decide +kernel
theorem dX10_save_22 : decode cX10_save 22 = .ok (.getfield 13, 3) := by decide +kernel
theorem dX10_save_25 : decode cX10_save 25 = .ok (.sipush 170, 3) := by decide +kernel
theorem dX10_save_28 : decode cX10_save 28 = .ok (.iload_n 1, 1) := by decide +kernel
theorem dX10_save_29 : decode cX10_save 29 = .ok (.imul, 1) := by decide +kernel
theorem dX10_save_30 : decode cX10_save 30 = .ok (.iload_n 2, 1) := by decide +kernel
theorem dX10_save_31 : decode cX10_save 31 = .ok (.iadd, 1) := by decide +kernel
theorem dX10_save_32 : decode cX10_save 32 = .ok (.aload_n 0, 1) := by decide +kernel
theorem dX10_save_33 : decode cX10_save 33 = .ok (.getfield 9, 3) := by decide +kernel
theorem dX10_save_36 : decode cX10_save 36 = .ok (.iload_n 2, 1) := by decide +kernel
theorem dX10_save_37 : decode cX10_save 37 = .ok (.iaload, 1) := by decide +kernel
theorem dX10_save_38 : decode cX10_save 38 = .ok (.iastore, 1) := by decide +kernel
theorem dX10_save_39 : decode cX10_save 39 = .ok (.iinc 2 1, 3) := by decide +kernel
theorem dX10_save_42 : decode cX10_save 42 = .ok (.goto (-28), 3) := by decide +kernel
theorem dX10_save_45 : decode cX10_save 45 = .ok (.aload_n 0, 1) := by decide +kernel
theorem dX10_save_46 : decode cX10_save 46 = .ok (.getfield 16, 3) := by decide +kernel
theorem dX10_save_49 : decode cX10_save 49 = .ok (.iload_n 1, 1) := by decide +kernel
theorem dX10_save_50 : decode cX10_save 50 = .ok (.iconst 1, 1) := by decide +kernel
theorem dX10_save_51 : decode cX10_save 51 = .ok (.bastore, 1) := by decide +kernel
theorem dX10_save_52 : decode cX10_save 52 = .ok (.aload_n 0, 1) := by decide +kernel
theorem dX10_save_53 : decode cX10_save 53 = .ok (.invokevirtual 89, 3) := by decide +kernel
theorem dX10_save_56 : decode cX10_save 56 = .ok (.ireturn, 1) := by decide +kernel
theorem dX10_restore_0 : decode cX10_restore 0 = .ok (.iload_n 1, 1) := by decide +kernel
theorem dX10_restore_1 : decode cX10_restore 1 = .ok (.iconst 0, 1) := by decide +kernel
theorem dX10_restore_2 : decode cX10_restore 2 = .ok (.iconst 1, 1) := by decide +kernel
theorem dX10_restore_3 : decode cX10_restore 3 = .ok (.invokestatic 80, 3) := by decide +kernel
theorem dX10_restore_6 : decode cX10_restore 6 = .ok (.ifCond .ne 6, 3) := by decide +kernel
theorem dX10_restore_9 : decode cX10_restore 9 = .ok (.ldc 88, 2) := by decide +kernel
theorem dX10_restore_11 : decode cX10_restore 11 = .ok (.ireturn, 1) := by decide +kernel
theorem dX10_restore_12 : decode cX10_restore 12 = .ok (.aload_n 0, 1) := by decide +kernel
theorem dX10_restore_13 : decode cX10_restore 13 = .ok (.getfield 16, 3) := by decide +kernel
theorem dX10_restore_16 : decode cX10_restore 16 = .ok (.iload_n 1, 1) := by decide +kernel
theorem dX10_restore_17 : decode cX10_restore 17 = .ok (.baload, 1) := by decide +kernel
theorem dX10_restore_18 : decode cX10_restore 18 = .ok (.ifCond .ne 6, 3) := by decide +kernel
theorem dX10_restore_21 : decode cX10_restore 21 = .ok (.ldc 97, 2) := by decide +kernel
theorem dX10_restore_23 : decode cX10_restore 23 = .ok (.ireturn, 1) := by decide +kernel
theorem dX10_restore_24 : decode cX10_restore 24 = .ok (.iconst 0, 1) := by decide +kernel
theorem dX10_restore_25 : decode cX10_restore 25 = .ok (.istore_n 2, 1) := by decide +kernel
theorem dX10_restore_26 : decode cX10_restore 26 = .ok (.iload_n 2, 1) := by decide +kernel
theorem dX10_restore_27 : decode cX10_restore 27 = .ok (.sipush 170, 3) := by decide +kernel
theorem dX10_restore_30 : decode cX10_restore 30 = .ok (.if_icmp .ge 27, 3) := by decide +kernel
theorem dX10_restore_33 : decode cX10_restore 33 = .ok (.aload_n 0, 1) := by decide +kernel
theorem dX10_restore_34 : decode cX10_restore 34 = .ok (.getfield 9, 3) := by decide +kernel
theorem dX10_restore_37 : decode cX10_restore 37 = .ok (.iload_n 2, 1) := by decide +kernel
theorem dX10_restore_38 : decode cX10_restore 38 = .ok (.aload_n 0, 1) := by decide +kernel
theorem dX10_restore_39 : decode cX10_restore 39 = .ok (.getfield 13, 3) := by decide +kernel
theorem dX10_restore_42 : decode cX10_restore 42 = .ok (.sipush 170, 3) := by decide +kernel
theorem dX10_restore_45 : decode cX10_restore 45 = .ok (.iload_n 1, 1) := by decide +kernel
theorem dX10_restore_46 : decode cX10_restore 46 = .ok (.imul, 1) := by decide +kernel
theorem dX10_restore_47 : decode cX10_restore 47 = .ok (.iload_n 2, 1) := by decide +kernel
theorem dX10_restore_48 : decode cX10_restore 48 = .ok (.iadd, 1) := by decide +kernel
theorem dX10_restore_49 : decode cX10_restore 49 = .ok (.iaload, 1) := by decide +kernel
theorem dX10_restore_50 : decode cX10_restore 50 = .ok (.iastore, 1) := by decide +kernel
theorem dX10_restore_51 : decode cX10_restore 51 = .ok (.iinc 2 1, 3) := by decide +kernel
theorem dX10_restore_54 : decode cX10_restore 54 = .ok (.goto (-28), 3) := by decide +kernel
theorem dX10_restore_57 : decode cX10_restore 57 = .ok (.aload_n 0, 1) := by decide +kernel
theorem dX10_restore_58 : decode cX10_restore 58 = .ok (.invokevirtual 89, 3) := by decide +kernel
theorem dX10_restore_61 : decode cX10_restore 61 = .ok (.ireturn, 1) := by decide +kernel
