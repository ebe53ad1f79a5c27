theorem d_X6_feed_2 : decode b_X6_feed 2 = .ok (.iconst 1, 1) := by decide +kernel
theorem d_X6_feed_3 : decode b_X6_feed 3 = .ok (.if_icmp .lt 9, 3) := by decide +kernel
theorem d_X6_feed_6 : decode b_X6_feed 6 = .ok (.iload_n 1, 1) := by decide +kernel
theorem d_X6_feed_7 : decode b_X6_feed 7 = .ok (.bipush 8, 2) := by decide +kernel
theorem d_X6_feed_9 : decode b_X6_feed 9 = .ok (.if_icmp .le 7, 3) := by decide +kernel
theorem d_X6_feed_12 : decode b_X6_feed 12 = .ok (.iconst 1, 1) := by decide +kernel
theorem d_X6_feed_13 : decode b_X6_feed 13 = .ok (.goto 4, 3) := by decide +kernel
theorem d_X6_feed_16 : decode b_X6_feed 16 = .ok (.iconst 0, 1) := by decide +kernel
theorem d_X6_feed_17 : decode b_X6_feed 17 = .ok (.iconst 1, 1) := by decide +kernel
theorem d_X6_feed_18 : decode b_X6_feed 18 = .ok (.invokevirtual 180, 3) := by decide +kernel
theorem d_X6_feed_21 : decode b_X6_feed 21 = .ok (.ifCond .ne 28, 3) := by decide +kernel
theorem d_X6_feed_24 : decode b_X6_feed 24 = .ok (.aload_n 0, 1) := by decide +kernel
theorem d_X6_feed_25 : decode b_X6_feed 25 = .ok (.aload_n 0, 1) := by decide +kernel
theorem d_X6_feed_26 : decode b_X6_feed 26 = .ok (.getfield 184, 3) := by decide +kernel
theorem d_X6_feed_29 : decode b_X6_feed 29 = .ok (.iload_n 1, 1) := by decide +kernel
theorem d_X6_feed_30 : decode b_X6_feed 30 = .ok (.iadd, 1) := by decide +kernel
theorem d_X6_feed_31 : decode b_X6_feed 31 = .ok (.sipush 2048, 3) := by decide +kernel
theorem d_X6_feed_34 : decode b_X6_feed 34 = .ok (.if_icmp .le 7, 3) := by decide +kernel
theorem d_X6_feed_37 : decode b_X6_feed 37 = .ok (.iconst 1, 1) := by decide +kernel
theorem d_X6_feed_38 : decode b_X6_feed 38 = .ok (.goto 4, 3) := by decide +kernel
theorem d_X6_feed_41 : decode b_X6_feed 41 = .ok (.iconst 0, 1) := by decide +kernel
theorem d_X6_feed_42 : decode b_X6_feed 42 = .ok (.iconst 2, 1) := by decide +kernel
theorem d_X6_feed_43 : decode b_X6_feed 43 = .ok (.invokevirtual 180, 3) := by decide +kernel
theorem d_X6_feed_46 : decode b_X6_feed 46 = .ok (.ifCond .eq 5, 3) := by decide +kernel
theorem d_X6_feed_49 : decode b_X6_feed 49 = .ok (.iconst 0, 1) := by decide +kernel
theorem d_X6_feed_50 : decode b_X6_feed 50 = .ok (.ireturn, 1) := by decide +kernel
theorem d_X6_feed_51 : decode b_X6_feed 51 = .ok (.iconst 0, 1) := by decide +kernel
theorem d_X6_feed_52 : decode b_X6_feed 52 = .ok (.istore 4, 2) := by decide +kernel
theorem d_X6_feed_54 : decode b_X6_feed 54 = .ok (.iload 4, 2) := by decide +kernel
theorem d_X6_feed_56 : decode b_X6_feed 56 = .ok (.iload_n 1, 1) := by decide +kernel
theorem d_X6_feed_57 : decode b_X6_feed 57 = .ok (.if_icmp .ge 33, 3) := by decide +kernel
theorem d_X6_feed_60 : decode b_X6_feed 60 = .ok (.aload_n 0, 1) := by decide +kernel
theorem d_X6_feed_61 : decode b_X6_feed 61 = .ok (.getfield 7, 3) := by decide +kernel
theorem d_X6_feed_64 : decode b_X6_feed 64 = .ok (.aload_n 0, 1) := by decide +kernel
theorem d_X6_feed_65 : decode b_X6_feed 65 = .ok (.getfield 184, 3) := by decide +kernel
theorem d_X6_feed_68 : decode b_X6_feed 68 = .ok (.iload 4, 2) := by decide +kernel
theorem d_X6_feed_70 : decode b_X6_feed 70 = .ok (.iadd, 1) := by decide +kernel
theorem d_X6_feed_71 : decode b_X6_feed 71 = .ok (.lload_n 2, 1) := by decide +kernel
theorem d_X6_feed_72 : decode b_X6_feed 72 = .ok (.bipush 8, 2) := by decide +kernel
theorem d_X6_feed_74 : decode b_X6_feed 74 = .ok (.iload 4, 2) := by decide +kernel
theorem d_X6_feed_76 : decode b_X6_feed 76 = .ok (.imul, 1) := by decide +kernel
theorem d_X6_feed_77 : decode b_X6_feed 77 = .ok (.lshr, 1) := by decide +kernel
theorem d_X6_feed_78 : decode b_X6_feed 78 = .ok (.ldc2_w 187, 3) := by decide +kernel
theorem d_X6_feed_81 : decode b_X6_feed 81 = .ok (.land, 1) := by decide +kernel
theorem d_X6_feed_82 : decode b_X6_feed 82 = .ok (.l2i, 1) := by decide +kernel
theorem d_X6_feed_83 : decode b_X6_feed 83 = .ok (.iastore, 1) := by decide +kernel
theorem d_X6_feed_84 : decode b_X6_feed 84 = .ok (.iinc 4 1, 3) := by decide +kernel
theorem d_X6_feed_87 : decode b_X6_feed 87 = .ok (.goto (-33), 3) := by decide +kernel
theorem d_X6_feed_90 : decode b_X6_feed 90 = .ok (.aload_n 0, 1) := by decide +kernel
theorem d_X6_feed_91 : decode b_X6_feed 91 = .ok (.dup, 1) := by decide +kernel
theorem d_X6_feed_92 : decode b_X6_feed 92 = .ok (.getfield 184, 3) := by decide +kernel
theorem d_X6_feed_95 : decode b_X6_feed 95 = .ok (.iload_n 1, 1) := by decide +kernel
theorem d_X6_feed_96 : decode b_X6_feed 96 = .ok (.iadd, 1) := by decide +kernel
theorem d_X6_feed_97 : decode b_X6_feed 97 = .ok (.putfield 184, 3) := by decide +kernel
theorem d_X6_feed_100 : decode b_X6_feed 100 = .ok (.aload_n 0, 1) := by decide +kernel
theorem d_X6_feed_101 : decode b_X6_feed 101 = .ok (.getfield 184, 3) := by decide +kernel
theorem d_X6_feed_104 : decode b_X6_feed 104 = .ok (.ireturn, 1) := by decide +kernel
theorem d_X6_wipe_0 : decode b_X6_wipe 0 = .ok (.aload_n 0, 1) := by decide +kernel
theorem d_X6_wipe_1 : decode b_X6_wipe 1 = .ok (.iconst 0, 1) := by decide +kernel
theorem d_X6_wipe_2 : decode b_X6_wipe 2 = .ok (.putfield 125, 3) := by decide +kernel
theorem d_X6_wipe_5 : decode b_X6_wipe 5 = .ok (.aload_n 0, 1) := by decide +kernel
theorem d_X6_wipe_6 : decode b_X6_wipe 6 = .ok (.getfield 184, 3) := by decide +kernel
theorem d_X6_wipe_9 : decode b_X6_wipe 9 = .ok (.istore_n 1, 1) := by decide +kernel
theorem d_X6_wipe_10 : decode b_X6_wipe 10 = .ok (.aload_n 0, 1) := by decide +kernel
theorem d_X6_wipe_11 : decode b_X6_wipe 11 = .ok (.iconst 0, 1) := by decide +kernel
theorem d_X6_wipe_12 : decode b_X6_wipe 12 = .ok (.putfield 184, 3) := by decide +kernel
theorem d_X6_wipe_15 : decode b_X6_wipe 15 = .ok (.iload_n 1, 1) := by decide +kernel
theorem d_X6_wipe_16 : decode b_X6_wipe 16 = .ok (.ireturn, 1) := by decide +kernel
theorem d_X6_tell_0 : decode b_X6_tell 0 = .ok (.aload_n 0, 1) := by decide +kernel
theorem d_X6_tell_1 : decode b_X6_tell 1 = .ok (.iload_n 1, 1) := by decide +kernel
theorem d_X6_tell_2 : decode b_X6_tell 2 = .ok (.iconst 2, 1) := by decide +kernel
theorem d_X6_tell_3 : decode b_X6_tell 3 = .ok (.invokestatic 189, 3) := by decide +kernel
theorem d_X6_tell_6 : decode b_X6_tell 6 = .ok (.ifCond .ne 11, 3) := by decide +kernel
theorem d_X6_tell_9 : decode b_X6_tell 9 = .ok (.iload_n 2, 1) := by decide +kernel
theorem d_X6_tell_10 : decode b_X6_tell 10 = .ok (.iconst 4, 1) := by decide +kernel
theorem d_X6_tell_11 : decode b_X6_tell 11 = .ok (.invokestatic 189, 3) := by decide +kernel
theorem d_X6_tell_14 : decode b_X6_tell 14 = .ok (.ifCond .eq 7, 3) := by decide +kernel
theorem d_X6_tell_17 : decode b_X6_tell 17 = .ok (.iconst 1, 1) := by decide +kernel
theorem d_X6_tell_18 : decode b_X6_tell 18 = .ok (.goto 4, 3) := by decide +kernel
theorem d_X6_tell_21 : decode b_X6_tell 21 = .ok (.iconst 0, 1) := by decide +kernel
theorem d_X6_tell_22 : decode b_X6_tell 22 = .ok (.iconst 1, 1) := by decide +kernel
theorem d_X6_tell_23 : decode b_X6_tell 23 = .ok (.invokevirtual 180, 3) := by decide +kernel
theorem d_X6_tell_26 : decode b_X6_tell 26 = .ok (.ifCond .eq 4, 3) := by decide +kernel
theorem d_X6_tell_29 : decode b_X6_tell 29 = .ok (.return_, 1) := by decide +kernel
theorem d_X6_tell_30 : decode b_X6_tell 30 = .ok (.iload_n 2, 1) := by decide +kernel
theorem d_X6_tell_31 : decode b_X6_tell 31 = .ok (.iconst 2, 1) := by decide +kernel
theorem d_X6_tell_32 : decode b_X6_tell 32 = .ok (.if_icmp .ge 20, 3) := by decide +kernel
theorem d_X6_tell_35 : decode b_X6_tell 35 = .ok (.aload_n 0, 1) := by decide +kernel
theorem d_X6_tell_36 : decode b_X6_tell 36 = .ok (.getfield 184, 3) := by decide +kernel
theorem d_X6_tell_39 : decode b_X6_tell 39 = .ok (.bipush 32, 2) := by decide +kernel
theorem d_X6_tell_41 : decode b_X6_tell 41 = .ok (.if_icmp .ne 7, 3) := by decide +kernel
theorem d_X6_tell_44 : decode b_X6_tell 44 = .ok (.iconst 1, 1) := by decide +kernel
theorem d_X6_tell_45 : decode b_X6_tell 45 = .ok (.goto 51, 3) := by decide +kernel
theorem d_X6_tell_48 : decode b_X6_tell 48 = .ok (.iconst 0, 1) := by decide +kernel
theorem d_X6_tell_49 : decode b_X6_tell 49 = .ok (.goto 47, 3) := by decide +kernel
theorem d_X6_tell_52 : decode b_X6_tell 52 = .ok (.iload_n 2, 1) := by decide +kernel
theorem d_X6_tell_53 : decode b_X6_tell 53 = .ok (.iconst 2, 1) := by decide +kernel
theorem d_X6_tell_54 : decode b_X6_tell 54 = .ok (.if_icmp .ne 21, 3) := by decide +kernel
theorem d_X6_tell_57 : decode b_X6_tell 57 = .ok (.aload_n 0, 1) := by decide +kernel
theorem d_X6_tell_58 : decode b_X6_tell 58 = .ok (.getfield 184, 3) := by decide +kernel
theorem d_X6_tell_61 : decode b_X6_tell 61 = .ok (.sipush 300, 3) := by decide +kernel
theorem d_X6_tell_64 : decode b_X6_tell 64 = .ok (.if_icmp .gt 7, 3) := by decide +kernel
theorem d_X6_tell_67 : decode b_X6_tell 67 = .ok (.iconst 1, 1) := by decide +kernel
theorem d_X6_tell_68 : decode b_X6_tell 68 = .ok (.goto 28, 3) := by decide +kernel
theorem d_X6_tell_71 : decode b_X6_tell 71 = .ok (.iconst 0, 1) := by decide +kernel
theorem d_X6_tell_72 : decode b_X6_tell 72 = .ok (.goto 24, 3) := by decide +kernel
theorem d_X6_tell_75 : decode b_X6_tell 75 = .ok (.aload_n 0, 1) := by decide +kernel
theorem d_X6_tell_76 : decode b_X6_tell 76 = .ok (.getfield 184, 3) := by decide +kernel
theorem d_X6_tell_79 : decode b_X6_tell 79 = .ok (.ifCond .le 16, 3) := by decide +kernel
theorem d_X6_tell_82 : decode b_X6_tell 82 = .ok (.aload_n 0, 1) := by decide +kernel
theorem d_X6_tell_83 : decode b_X6_tell 83 = .ok (.getfield 184, 3) := by decide +kernel
theorem d_X6_tell_86 : decode b_X6_tell 86 = .ok (.bipush 20, 2) := by decide +kernel
theorem d_X6_tell_88 : decode b_X6_tell 88 = .ok (.if_icmp .gt 7, 3) := by decide +kernel
theorem d_X6_tell_91 : decode b_X6_tell 91 = .ok (.iconst 1, 1) := by decide +kernel
theorem d_X6_tell_92 : decode b_X6_tell 92 = .ok (.goto 4, 3) := by decide +kernel
theorem d_X6_tell_95 : decode b_X6_tell 95 = .ok (.iconst 0, 1) := by decide +kernel
theorem d_X6_tell_96 : decode b_X6_tell 96 = .ok (.istore_n 3, 1) := by decide +kernel
theorem d_X6_tell_97 : decode b_X6_tell 97 = .ok (.aload_n 0, 1) := by decide +kernel
theorem d_X6_tell_98 : decode b_X6_tell 98 = .ok (.iload_n 3, 1) := by decide +kernel
theorem d_X6_tell_99 : decode b_X6_tell 99 = .ok (.ifCond .ne 7, 3) := by decide +kernel
theorem d_X6_tell_102 : decode b_X6_tell 102 = .ok (.iconst 1, 1) := by decide +kernel
theorem d_X6_tell_103 : decode b_X6_tell 103 = .ok (.goto 4, 3) := by decide +kernel
theorem d_X6_tell_106 : decode b_X6_tell 106 = .ok (.iconst 0, 1) := by decide +kernel
theorem d_X6_tell_107 : decode b_X6_tell 107 = .ok (.iconst 1, 1) := by decide +kernel
theorem d_X6_tell_108 : decode b_X6_tell 108 = .ok (.invokevirtual 180, 3) := by decide +kernel
theorem d_X6_tell_111 : decode b_X6_tell 111 = .ok (.ifCond .ne 30, 3) := by decide +kernel
theorem d_X6_tell_114 : decode b_X6_tell 114 = .ok (.aload_n 0, 1) := by decide +kernel
theorem d_X6_tell_115 : decode b_X6_tell 115 = .ok (.iload_n 2, 1) := by decide +kernel
theorem d_X6_tell_116 : decode b_X6_tell 116 = .ok (.iconst 3, 1) := by decide +kernel
theorem d_X6_tell_117 : decode b_X6_tell 117 = .ok (.if_icmp .ge 16, 3) := by decide +kernel
theorem d_X6_tell_120 : decode b_X6_tell 120 = .ok (.aload_n 0, 1) := by decide +kernel
theorem d_X6_tell_121 : decode b_X6_tell 121 = .ok (.getfield 38, 3) := by decide +kernel
theorem d_X6_tell_124 : decode b_X6_tell 124 = .ok (.iload_n 1, 1) := by decide +kernel
theorem d_X6_tell_125 : decode b_X6_tell 125 = .ok (.baload, 1) := by decide +kernel
theorem d_X6_tell_126 : decode b_X6_tell 126 = .ok (.ifCond .eq 7, 3) := by decide +kernel
theorem d_X6_tell_129 : decode b_X6_tell 129 = .ok (.iconst 1, 1) := by decide +kernel
theorem d_X6_tell_130 : decode b_X6_tell 130 = .ok (.goto 4, 3) := by decide +kernel
theorem d_X6_tell_133 : decode b_X6_tell 133 = .ok (.iconst 0, 1) := by decide +kernel
theorem d_X6_tell_134 : decode b_X6_tell 134 = .ok (.iconst 2, 1) := by decide +kernel
theorem d_X6_tell_135 : decode b_X6_tell 135 = .ok (.invokevirtual 180, 3) := by decide +kernel
theorem d_X6_tell_138 : decode b_X6_tell 138 = .ok (.ifCond .eq 4, 3) := by decide +kernel
theorem d_X6_tell_141 : decode b_X6_tell 141 = .ok (.return_, 1) := by decide +kernel
theorem d_X6_tell_142 : decode b_X6_tell 142 = .ok (.iconst 0, 1) := by decide +kernel
theorem d_X6_tell_143 : decode b_X6_tell 143 = .ok (.istore 4, 2) := by decide +kernel
theorem d_X6_tell_145 : decode b_X6_tell 145 = .ok (.iload 4, 2) := by decide +kernel
theorem d_X6_tell_147 : decode b_X6_tell 147 = .ok (.aload_n 0, 1) := by decide +kernel
theorem d_X6_tell_148 : decode b_X6_tell 148 = .ok (.getfield 184, 3) := by decide +kernel
theorem d_X6_tell_151 : decode b_X6_tell 151 = .ok (.if_icmp .ge 105, 3) := by decide +kernel
theorem d_X6_tell_154 : decode b_X6_tell 154 = .ok (.iload_n 2, 1) := by decide +kernel
theorem d_X6_tell_155 : decode b_X6_tell 155 = .ok (.ifCond .ne 22, 3) := by decide +kernel
theorem d_X6_tell_158 : decode b_X6_tell 158 = .ok (.aload_n 0, 1) := by decide +kernel
theorem d_X6_tell_159 : decode b_X6_tell 159 = .ok (.getfield 20, 3) := by decide +kernel
theorem d_X6_tell_162 : decode b_X6_tell 162 = .ok (.bipush 32, 2) := by decide +kernel
theorem d_X6_tell_164 : decode b_X6_tell 164 = .ok (.iload_n 1, 1) := by decide +kernel
theorem d_X6_tell_165 : decode b_X6_tell 165 = .ok (.imul, 1) := by decide +kernel
theorem d_X6_tell_166 : decode b_X6_tell 166 = .ok (.iload 4, 2) := by decide +kernel
theorem d_X6_tell_168 : decode b_X6_tell 168 = .ok (.iadd, 1) := by decide +kernel
theorem d_X6_tell_169 : decode b_X6_tell 169 = .ok (.aload_n 0, 1) := by decide +kernel
theorem d_X6_tell_170 : decode b_X6_tell 170 = .ok (.getfield 7, 3) := by decide +kernel
theorem d_X6_tell_173 : decode b_X6_tell 173 = .ok (.iload 4, 2) := by decide +kernel
theorem d_X6_tell_175 : decode b_X6_tell 175 = .ok (.iaload, 1) := by decide +kernel
theorem d_X6_tell_176 : decode b_X6_tell 176 = .ok (.iastore, 1) := by decide +kernel
theorem d_X6_tell_177 : decode b_X6_tell 177 = .ok (.iload_n 2, 1) := by decide +kernel
theorem d_X6_tell_178 : decode b_X6_tell 178 = .ok (.iconst 1, 1) := by decide +kernel
theorem d_X6_tell_179 : decode b_X6_tell 179 = .ok (.if_icmp .ne 22, 3) := by decide +kernel
theorem d_X6_tell_182 : decode b_X6_tell 182 = .ok (.aload_n 0, 1) := by decide +kernel
theorem d_X6_tell_183 : decode b_X6_tell 183 = .ok (.getfield 23, 3) := by decide +kernel
theorem d_X6_tell_186 : decode b_X6_tell 186 = .ok (.bipush 32, 2) := by decide +kernel
theorem d_X6_tell_188 : decode b_X6_tell 188 = .ok (.iload_n 1, 1) := by decide +kernel
theorem d_X6_tell_189 : decode b_X6_tell 189 = .ok (.imul, 1) := by decide +kernel
theorem d_X6_tell_190 : decode b_X6_tell 190 = .ok (.iload 4, 2) := by decide +kernel
theorem d_X6_tell_192 : decode b_X6_tell 192 = .ok (.iadd, 1) := by decide +kernel
theorem d_X6_tell_193 : decode b_X6_tell 193 = .ok (.aload_n 0, 1) := by decide +kernel
theorem d_X6_tell_194 : decode b_X6_tell 194 = .ok (.getfield 7, 3) := by decide +kernel
theorem d_X6_tell_197 : decode b_X6_tell 197 = .ok (.iload 4, 2) := by decide +kernel
theorem d_X6_tell_199 : decode b_X6_tell 199 = .ok (.iaload, 1) := by decide +kernel
theorem d_X6_tell_200 : decode b_X6_tell 200 = .ok (.iastore, 1) := by decide +kernel
theorem d_X6_tell_201 : decode b_X6_tell 201 = .ok (.iload_n 2, 1) := by decide +kernel
theorem d_X6_tell_202 : decode b_X6_tell 202 = .ok (.iconst 2, 1) := by decide +kernel
theorem d_X6_tell_203 : decode b_X6_tell 203 = .ok (.if_icmp .ne 23, 3) := by decide +kernel
theorem d_X6_tell_206 : decode b_X6_tell 206 = .ok (.aload_n 0, 1) := by decide +kernel
theorem d_X6_tell_207 : decode b_X6_tell 207 = .ok (.getfield 26, 3) := by decide +kernel
theorem d_X6_tell_210 : decode b_X6_tell 210 = .ok (.sipush 300, 3) := by decide +kernel
theorem d_X6_tell_213 : decode b_X6_tell 213 = .ok (.iload_n 1, 1) := by decide +kernel
theorem d_X6_tell_214 : decode b_X6_tell 214 = .ok (.imul, 1) := by decide +kernel
theorem d_X6_tell_215 : decode b_X6_tell 215 = .ok (.iload 4, 2) := by decide +kernel
theorem d_X6_tell_217 : decode b_X6_tell 217 = .ok (.iadd, 1) := by decide +kernel
theorem d_X6_tell_218 : decode b_X6_tell 218 = .ok (.aload_n 0, 1) := by decide +kernel
theorem d_X6_tell_219 : decode b_X6_tell 219 = .ok (.getfield 7, 3) := by decide +kernel
theorem d_X6_tell_222 : decode b_X6_tell 222 = .ok (.iload 4, 2) := by decide +kernel
theorem d_X6_tell_224 : decode b_X6_tell 224 = .ok (.iaload, 1) := by decide +kernel
theorem d_X6_tell_225 : decode b_X6_tell 225 = .ok (.iastore, 1) := by decide +kernel
theorem d_X6_tell_226 : decode b_X6_tell 226 = .ok (.iload_n 2, 1) := by decide +kernel
theorem d_X6_tell_227 : decode b_X6_tell 227 = .ok (.iconst 3, 1) := by decide +kernel
theorem d_X6_tell_228 : decode b_X6_tell 228 = .ok (.if_icmp .ne 22, 3) := by decide +kernel
theorem d_X6_tell_231 : decode b_X6_tell 231 = .ok (.aload_n 0, 1) := by decide +kernel
theorem d_X6_tell_232 : decode b_X6_tell 232 = .ok (.getfield 32, 3) := by decide +kernel
theorem d_X6_tell_235 : decode b_X6_tell 235 = .ok (.bipush 20, 2) := by decide +kernel
theorem d_X6_tell_237 : decode b_X6_tell 237 = .ok (.iload_n 1, 1) := by decide +kernel
theorem d_X6_tell_238 : decode b_X6_tell 238 = .ok (.imul, 1) := by decide +kernel
theorem d_X6_tell_239 : decode b_X6_tell 239 = .ok (.iload 4, 2) := by decide +kernel
theorem d_X6_tell_241 : decode b_X6_tell 241 = .ok (.iadd, 1) := by decide +kernel
theorem d_X6_tell_242 : decode b_X6_tell 242 = .ok (.aload_n 0, 1) := by decide +kernel
theorem d_X6_tell_243 : decode b_X6_tell 243 = .ok (.getfield 7, 3) := by decide +kernel
theorem d_X6_tell_246 : decode b_X6_tell 246 = .ok (.iload 4, 2) := by decide +kernel
theorem d_X6_tell_248 : decode b_X6_tell 248 = .ok (.iaload, 1) := by decide +kernel
theorem d_X6_tell_249 : decode b_X6_tell 249 = .ok (.iastore, 1) := by decide +kernel
theorem d_X6_tell_250 : decode b_X6_tell 250 = .ok (.iinc 4 1, 3) := by decide +kernel
theorem d_X6_tell_253 : decode b_X6_tell 253 = .ok (.goto (-108), 3) := by decide +kernel
theorem d_X6_tell_256 : decode b_X6_tell 256 = .ok (.iload_n 2, 1) := by decide +kernel
theorem d_X6_tell_257 : decode b_X6_tell 257 = .ok (.ifCond .ne 10, 3) := by decide +kernel
theorem d_X6_tell_260 : decode b_X6_tell 260 = .ok (.aload_n 0, 1) := by decide +kernel
theorem d_X6_tell_261 : decode b_X6_tell 261 = .ok (.getfield 13, 3) := by decide +kernel
theorem d_X6_tell_264 : decode b_X6_tell 264 = .ok (.iload_n 1, 1) := by decide +kernel
theorem d_X6_tell_265 : decode b_X6_tell 265 = .ok (.iconst 1, 1) := by decide +kernel
theorem d_X6_tell_266 : decode b_X6_tell 266 = .ok (.bastore, 1) := by decide +kernel
theorem d_X6_tell_267 : decode b_X6_tell 267 = .ok (.iload_n 2, 1) := by decide +kernel
theorem d_X6_tell_268 : decode b_X6_tell 268 = .ok (.iconst 1, 1) := by decide +kernel
theorem d_X6_tell_269 : decode b_X6_tell 269 = .ok (.if_icmp .ne 10, 3) := by decide +kernel
theorem d_X6_tell_272 : decode b_X6_tell 272 = .ok (.aload_n 0, 1) := by decide +kernel
theorem d_X6_tell_273 : decode b_X6_tell 273 = .ok (.getfield 17, 3) := by decide +kernel
theorem d_X6_tell_276 : decode b_X6_tell 276 = .ok (.iload_n 1, 1) := by decide +kernel
theorem d_X6_tell_277 : decode b_X6_tell 277 = .ok (.iconst 1, 1) := by decide +kernel
theorem d_X6_tell_278 : decode b_X6_tell 278 = .ok (.bastore, 1) := by decide +kernel
theorem d_X6_tell_279 : decode b_X6_tell 279 = .ok (.iload_n 2, 1) := by decide +kernel
theorem d_X6_tell_280 : decode b_X6_tell 280 = .ok (.iconst 2, 1) := by decide +kernel
theorem d_X6_tell_281 : decode b_X6_tell 281 = .ok (.if_icmp .ne 13, 3) := by decide +kernel
theorem d_X6_tell_284 : decode b_X6_tell 284 = .ok (.aload_n 0, 1) := by decide +kernel
theorem d_X6_tell_285 : decode b_X6_tell 285 = .ok (.getfield 29, 3) := by decide +kernel
theorem d_X6_tell_288 : decode b_X6_tell 288 = .ok (.iload_n 1, 1) := by decide +kernel
theorem d_X6_tell_289 : decode b_X6_tell 289 = .ok (.aload_n 0, 1) := by decide +kernel
theorem d_X6_tell_290 : decode b_X6_tell 290 = .ok (.getfield 184, 3) := by decide +kernel
theorem d_X6_tell_293 : decode b_X6_tell 293 = .ok (.iastore, 1) := by decide +kernel
theorem d_X6_tell_294 : decode b_X6_tell 294 = .ok (.iload_n 2, 1) := by decide +kernel
theorem d_X6_tell_295 : decode b_X6_tell 295 = .ok (.iconst 3, 1) := by decide +kernel
theorem d_X6_tell_296 : decode b_X6_tell 296 = .ok (.if_icmp .ne 18, 3) := by decide +kernel
theorem d_X6_tell_299 : decode b_X6_tell 299 = .ok (.aload_n 0, 1) := by decide +kernel
theorem d_X6_tell_300 : decode b_X6_tell 300 = .ok (.getfield 35, 3) := by decide +kernel
theorem d_X6_tell_303 : decode b_X6_tell 303 = .ok (.iload_n 1, 1) := by decide +kernel
theorem d_X6_tell_304 : decode b_X6_tell 304 = .ok (.aload_n 0, 1) := by decide +kernel
theorem d_X6_tell_305 : decode b_X6_tell 305 = .ok (.getfield 184, 3) := by decide +kernel
theorem d_X6_tell_308 : decode b_X6_tell 308 = .ok (.iastore, 1) := by decide +kernel
theorem d_X6_tell_309 : decode b_X6_tell 309 = .ok (.aload_n 0, 1) := by decide +kernel
theorem d_X6_tell_310 : decode b_X6_tell 310 = .ok (.iload_n 1, 1) := by decide +kernel
theorem d_X6_tell_311 : decode b_X6_tell 311 = .ok (.invokevirtual 193, 3) := by decide +kernel
theorem d_X6_tell_314 : decode b_X6_tell 314 = .ok (.aload_n 0, 1) := by decide +kernel
theorem d_X6_tell_315 : decode b_X6_tell 315 = .ok (.iconst 0, 1) := by decide +kernel
theorem d_X6_tell_316 : decode b_X6_tell 316 = .ok (.putfield 184, 3) := by decide +kernel
theorem d_X6_tell_319 : decode b_X6_tell 319 = .ok (.return_, 1) := by decide +kernel
theorem d_X6_send_0 : decode b_X6_send 0 = .ok (.iconst 2, 1) := by decide +kernel
theorem d_X6_send_1 : decode b_X6_send 1 = .ok (.iload_n 1, 1) := by decide +kernel
theorem d_X6_send_2 : decode b_X6_send 2 = .ok (.imul, 1) := by decide +kernel
theorem d_X6_send_3 : decode b_X6_send 3 = .ok (.iload_n 2, 1) := by decide +kernel
theorem d_X6_send_4 : decode b_X6_send 4 = .ok (.iadd, 1) := by decide +kernel
theorem d_X6_send_5 : decode b_X6_send 5 = .ok (.istore 4, 2) := by decide +kernel
theorem d_X6_send_7 : decode b_X6_send 7 = .ok (.aload_n 0, 1) := by decide +kernel
theorem d_X6_send_8 : decode b_X6_send 8 = .ok (.getfield 50, 3) := by decide +kernel
theorem d_X6_send_11 : decode b_X6_send 11 = .ok (.sipush 2048, 3) := by decide +kernel
theorem d_X6_send_14 : decode b_X6_send 14 = .ok (.iload 4, 2) := by decide +kernel
theorem d_X6_send_16 : decode b_X6_send 16 = .ok (.imul, 1) := by decide +kernel
theorem d_X6_send_17 : decode b_X6_send 17 = .ok (.aload_n 0, 1) := by decide +kernel
theorem d_X6_send_18 : decode b_X6_send 18 = .ok (.getfield 53, 3) := by decide +kernel
theorem d_X6_send_21 : decode b_X6_send 21 = .ok (.iload 4, 2) := by decide +kernel
theorem d_X6_send_23 : decode b_X6_send 23 = .ok (.iaload, 1) := by decide +kernel
theorem d_X6_send_24 : decode b_X6_send 24 = .ok (.iadd, 1) := by decide +kernel
theorem d_X6_send_25 : decode b_X6_send 25 = .ok (.iload_n 3, 1) := by decide +kernel
theorem d_X6_send_26 : decode b_X6_send 26 = .ok (.iastore, 1) := by decide +kernel
theorem d_X6_send_27 : decode b_X6_send 27 = .ok (.aload_n 0, 1) := by decide +kernel
theorem d_X6_send_28 : decode b_X6_send 28 = .ok (.getfield 53, 3) := by decide +kernel
theorem d_X6_send_31 : decode b_X6_send 31 = .ok (.iload 4, 2) := by decide +kernel
theorem d_X6_send_33 : decode b_X6_send 33 = .ok (.dup2, 1) := by decide +kernel
theorem d_X6_send_34 : decode b_X6_send 34 = .ok (.iaload, 1) := by decide +kernel
theorem d_X6_send_35 : decode b_X6_send 35 = .ok (.iconst 1, 1) := by decide +kernel
theorem d_X6_send_36 : decode b_X6_send 36 = .ok (.iadd, 1) := by decide +kernel
theorem d_X6_send_37 : decode b_X6_send 37 = .ok (.iastore, 1) := by decide +kernel
theorem d_X6_send_38 : decode b_X6_send 38 = .ok (.return_, 1) := by decide +kernel
theorem d_X6_note_0 : decode b_X6_note 0 = .ok (.aload_n 0, 1) := by decide +kernel
theorem d_X6_note_1 : decode b_X6_note 1 = .ok (.getfield 71, 3) := by decide +kernel
theorem d_X6_note_4 : decode b_X6_note 4 = .ok (.sipush 2048, 3) := by decide +kernel
theorem d_X6_note_7 : decode b_X6_note 7 = .ok (.iload_n 1, 1) := by decide +kernel
theorem d_X6_note_8 : decode b_X6_note 8 = .ok (.imul, 1) := by decide +kernel
theorem d_X6_note_9 : decode b_X6_note 9 = .ok (.aload_n 0, 1) := by decide +kernel
theorem d_X6_note_10 : decode b_X6_note 10 = .ok (.getfield 74, 3) := by decide +kernel
theorem d_X6_note_13 : decode b_X6_note 13 = .ok (.iload_n 1, 1) := by decide +kernel
theorem d_X6_note_14 : decode b_X6_note 14 = .ok (.iaload, 1) := by decide +kernel
theorem d_X6_note_15 : decode b_X6_note 15 = .ok (.iadd, 1) := by decide +kernel
theorem d_X6_note_16 : decode b_X6_note 16 = .ok (.iload_n 2, 1) := by decide +kernel
theorem d_X6_note_17 : decode b_X6_note 17 = .ok (.iastore, 1) := by decide +kernel
theorem d_X6_note_18 : decode b_X6_note 18 = .ok (.aload_n 0, 1) := by decide +kernel
theorem d_X6_note_19 : decode b_X6_note 19 = .ok (.getfield 74, 3) := by decide +kernel
theorem d_X6_note_22 : decode b_X6_note 22 = .ok (.iload_n 1, 1) := by decide +kernel
theorem d_X6_note_23 : decode b_X6_note 23 = .ok (.dup2, 1) := by decide +kernel
theorem d_X6_note_24 : decode b_X6_note 24 = .ok (.iaload, 1) := by decide +kernel
theorem d_X6_note_25 : decode b_X6_note 25 = .ok (.iconst 1, 1) := by decide +kernel
theorem d_X6_note_26 : decode b_X6_note 26 = .ok (.iadd, 1) := by decide +kernel
theorem d_X6_note_27 : decode b_X6_note 27 = .ok (.iastore, 1) := by decide +kernel
theorem d_X6_note_28 : decode b_X6_note 28 = .ok (.return_, 1) := by decide +kernel
theorem d_X6_says_0 : decode b_X6_says 0 = .ok (.iload_n 2, 1) := by decide +kernel
theorem d_X6_says_1 : decode b_X6_says 1 = .ok (.bipush 8, 2) := by decide +kernel
theorem d_X6_says_3 : decode b_X6_says 3 = .ok (.if_icmp .ge 7, 3) := by decide +kernel
theorem d_X6_says_6 : decode b_X6_says 6 = .ok (.iconst 0, 1) := by decide +kernel
theorem d_X6_says_7 : decode b_X6_says 7 = .ok (.goto 4, 3) := by decide +kernel
theorem d_X6_says_10 : decode b_X6_says 10 = .ok (.iconst 1, 1) := by decide +kernel
theorem d_X6_says_11 : decode b_X6_says 11 = .ok (.istore 4, 2) := by decide +kernel
theorem d_X6_says_13 : decode b_X6_says 13 = .ok (.aload_n 0, 1) := by decide +kernel
theorem d_X6_says_14 : decode b_X6_says 14 = .ok (.getfield 53, 3) := by decide +kernel
theorem d_X6_says_17 : decode b_X6_says 17 = .ok (.iconst 2, 1) := by decide +kernel
theorem d_X6_says_18 : decode b_X6_says 18 = .ok (.iload_n 1, 1) := by decide +kernel
theorem d_X6_says_19 : decode b_X6_says 19 = .ok (.imul, 1) := by decide +kernel
theorem d_X6_says_20 : decode b_X6_says 20 = .ok (.iload 4, 2) := by decide +kernel
theorem d_X6_says_22 : decode b_X6_says 22 = .ok (.iadd, 1) := by decide +kernel
theorem d_X6_says_23 : decode b_X6_says 23 = .ok (.iaload, 1) := by decide +kernel
theorem d_X6_says_24 : decode b_X6_says 24 = .ok (.istore 5, 2) := by decide +kernel
theorem d_X6_says_26 : decode b_X6_says 26 = .ok (.iload_n 2, 1) := by decide +kernel
theorem d_X6_says_27 : decode b_X6_says 27 = .ok (.iconst 1, 1) := by decide +kernel
theorem d_X6_says_28 : decode b_X6_says 28 = .ok (.if_icmp .ne 15, 3) := by decide +kernel
theorem d_X6_says_31 : decode b_X6_says 31 = .ok (.bipush 32, 2) := by decide +kernel
theorem d_X6_says_33 : decode b_X6_says 33 = .ok (.aload_n 0, 1) := by decide +kernel
theorem d_X6_says_34 : decode b_X6_says 34 = .ok (.getfield 29, 3) := by decide +kernel
theorem d_X6_says_37 : decode b_X6_says 37 = .ok (.iload_n 1, 1) := by decide +kernel
theorem d_X6_says_38 : decode b_X6_says 38 = .ok (.iaload, 1) := by decide +kernel
theorem d_X6_says_39 : decode b_X6_says 39 = .ok (.iadd, 1) := by decide +kernel
theorem d_X6_says_40 : decode b_X6_says 40 = .ok (.goto 20, 3) := by decide +kernel
theorem d_X6_says_43 : decode b_X6_says 43 = .ok (.iload_n 2, 1) := by decide +kernel
theorem d_X6_says_44 : decode b_X6_says 44 = .ok (.bipush 8, 2) := by decide +kernel
theorem d_X6_says_46 : decode b_X6_says 46 = .ok (.if_icmp .ne 12, 3) := by decide +kernel
theorem d_X6_says_49 : decode b_X6_says 49 = .ok (.aload_n 0, 1) := by decide +kernel
theorem d_X6_says_50 : decode b_X6_says 50 = .ok (.getfield 29, 3) := by decide +kernel
theorem d_X6_says_53 : decode b_X6_says 53 = .ok (.iload_n 1, 1) := by decide +kernel
theorem d_X6_says_54 : decode b_X6_says 54 = .ok (.iaload, 1) := by decide +kernel
theorem d_X6_says_55 : decode b_X6_says 55 = .ok (.goto 5, 3) := by decide +kernel
theorem d_X6_says_58 : decode b_X6_says 58 = .ok (.bipush 32, 2) := by decide +kernel
theorem d_X6_says_60 : decode b_X6_says 60 = .ok (.istore 6, 2) := by decide +kernel
theorem d_X6_says_62 : decode b_X6_says 62 = .ok (.aload_n 0, 1) := by decide +kernel
theorem d_X6_says_63 : decode b_X6_says 63 = .ok (.iload_n 1, 1) := by decide +kernel
theorem d_X6_says_64 : decode b_X6_says 64 = .ok (.iload 4, 2) := by decide +kernel
theorem d_X6_says_66 : decode b_X6_says 66 = .ok (.iload_n 2, 1) := by decide +kernel
theorem d_X6_says_67 : decode b_X6_says 67 = .ok (.invokevirtual 196, 3) := by decide +kernel
theorem d_X6_says_70 : decode b_X6_says 70 = .ok (.aload_n 0, 1) := by decide +kernel
theorem d_X6_says_71 : decode b_X6_says 71 = .ok (.iload_n 1, 1) := by decide +kernel
theorem d_X6_says_72 : decode b_X6_says 72 = .ok (.iload 4, 2) := by decide +kernel
theorem d_X6_says_74 : decode b_X6_says 74 = .ok (.iload 6, 2) := by decide +kernel
theorem d_X6_says_76 : decode b_X6_says 76 = .ok (.bipush 16, 2) := by decide +kernel
theorem d_X6_says_78 : decode b_X6_says 78 = .ok (.ishr, 1) := by decide +kernel
theorem d_X6_says_79 : decode b_X6_says 79 = .ok (.invokevirtual 196, 3) := by decide +kernel
theorem d_X6_says_82 : decode b_X6_says 82 = .ok (.aload_n 0, 1) := by decide +kernel
theorem d_X6_says_83 : decode b_X6_says 83 = .ok (.iload_n 1, 1) := by decide +kernel
theorem d_X6_says_84 : decode b_X6_says 84 = .ok (.iload 4, 2) := by decide +kernel
theorem d_X6_says_86 : decode b_X6_says 86 = .ok (.iload 6, 2) := by decide +kernel
theorem d_X6_says_88 : decode b_X6_says 88 = .ok (.bipush 8, 2) := by decide +kernel
theorem d_X6_says_90 : decode b_X6_says 90 = .ok (.ishr, 1) := by decide +kernel
theorem d_X6_says_91 : decode b_X6_says 91 = .ok (.sipush 255, 3) := by decide +kernel
theorem d_X6_says_94 : decode b_X6_says 94 = .ok (.iand, 1) := by decide +kernel
theorem d_X6_says_95 : decode b_X6_says 95 = .ok (.invokevirtual 196, 3) := by decide +kernel
theorem d_X6_says_98 : decode b_X6_says 98 = .ok (.aload_n 0, 1) := by decide +kernel
theorem d_X6_says_99 : decode b_X6_says 99 = .ok (.iload_n 1, 1) := by decide +kernel
theorem d_X6_says_100 : decode b_X6_says 100 = .ok (.iload 4, 2) := by decide +kernel
theorem d_X6_says_102 : decode b_X6_says 102 = .ok (.iload 6, 2) := by decide +kernel
theorem d_X6_says_104 : decode b_X6_says 104 = .ok (.sipush 255, 3) := by decide +kernel
theorem d_X6_says_107 : decode b_X6_says 107 = .ok (.iand, 1) := by decide +kernel
theorem d_X6_says_108 : decode b_X6_says 108 = .ok (.invokevirtual 196, 3) := by decide +kernel
theorem d_X6_says_111 : decode b_X6_says 111 = .ok (.iconst 0, 1) := by decide +kernel
theorem d_X6_says_112 : decode b_X6_says 112 = .ok (.istore 7, 2) := by decide +kernel
theorem d_X6_says_114 : decode b_X6_says 114 = .ok (.iload 7, 2) := by decide +kernel
theorem d_X6_says_116 : decode b_X6_says 116 = .ok (.bipush 32, 2) := by decide +kernel
theorem d_X6_says_118 : decode b_X6_says 118 = .ok (.if_icmp .ge 34, 3) := by decide +kernel
theorem d_X6_says_121 : decode b_X6_says 121 = .ok (.iload_n 2, 1) := by decide +kernel
theorem d_X6_says_122 : decode b_X6_says 122 = .ok (.bipush 8, 2) := by decide +kernel
theorem d_X6_says_124 : decode b_X6_says 124 = .ok (.if_icmp .ge 28, 3) := by decide +kernel
theorem d_X6_says_127 : decode b_X6_says 127 = .ok (.aload_n 0, 1) := by decide +kernel
theorem d_X6_says_128 : decode b_X6_says 128 = .ok (.iload_n 1, 1) := by decide +kernel
theorem d_X6_says_129 : decode b_X6_says 129 = .ok (.iload 4, 2) := by decide +kernel
theorem d_X6_says_131 : decode b_X6_says 131 = .ok (.aload_n 0, 1) := by decide +kernel
theorem d_X6_says_132 : decode b_X6_says 132 = .ok (.getfield 23, 3) := by decide +kernel
theorem d_X6_says_135 : decode b_X6_says 135 = .ok (.bipush 32, 2) := by decide +kernel
theorem d_X6_says_137 : decode b_X6_says 137 = .ok (.iload_n 1, 1) := by decide +kernel
theorem d_X6_says_138 : decode b_X6_says 138 = .ok (.imul, 1) := by decide +kernel
theorem d_X6_says_139 : decode b_X6_says 139 = .ok (.iload 7, 2) := by decide +kernel
theorem d_X6_says_141 : decode b_X6_says 141 = .ok (.iadd, 1) := by decide +kernel
theorem d_X6_says_142 : decode b_X6_says 142 = .ok (.iaload, 1) := by decide +kernel
theorem d_X6_says_143 : decode b_X6_says 143 = .ok (.invokevirtual 196, 3) := by decide +kernel
theorem d_X6_says_146 : decode b_X6_says 146 = .ok (.iinc 7 1, 3) := by decide +kernel
theorem d_X6_says_149 : decode b_X6_says 149 = .ok (.goto (-35), 3) := by decide +kernel
theorem d_X6_says_152 : decode b_X6_says 152 = .ok (.iconst 0, 1) := by decide +kernel
theorem d_X6_says_153 : decode b_X6_says 153 = .ok (.istore 7, 2) := by decide +kernel
theorem d_X6_says_155 : decode b_X6_says 155 = .ok (.iload 7, 2) := by decide +kernel
theorem d_X6_says_157 : decode b_X6_says 157 = .ok (.aload_n 0, 1) := by decide +kernel
theorem d_X6_says_158 : decode b_X6_says 158 = .ok (.getfield 29, 3) := by decide +kernel
theorem d_X6_says_161 : decode b_X6_says 161 = .ok (.iload_n 1, 1) := by decide +kernel
theorem d_X6_says_162 : decode b_X6_says 162 = .ok (.iaload, 1) := by decide +kernel
theorem d_X6_says_163 : decode b_X6_says 163 = .ok (.if_icmp .ge 40, 3) := by decide +kernel
theorem d_X6_says_166 : decode b_X6_says 166 = .ok (.iload_n 2, 1) := by decide +kernel
theorem d_X6_says_167 : decode b_X6_says 167 = .ok (.iconst 1, 1) := by decide +kernel
theorem d_X6_says_168 : decode b_X6_says 168 = .ok (.if_icmp .eq 9, 3) := by decide +kernel
theorem d_X6_says_171 : decode b_X6_says 171 = .ok (.iload_n 2, 1) := by decide +kernel
theorem d_X6_says_172 : decode b_X6_says 172 = .ok (.bipush 8, 2) := by decide +kernel
theorem d_X6_says_174 : decode b_X6_says 174 = .ok (.if_icmp .ne 29, 3) := by decide +kernel
theorem d_X6_says_177 : decode b_X6_says 177 = .ok (.aload_n 0, 1) := by decide +kernel
theorem d_X6_says_178 : decode b_X6_says 178 = .ok (.iload_n 1, 1) := by decide +kernel
theorem d_X6_says_179 : decode b_X6_says 179 = .ok (.iload 4, 2) := by decide +kernel
theorem d_X6_says_181 : decode b_X6_says 181 = .ok (.aload_n 0, 1) := by decide +kernel
theorem d_X6_says_182 : decode b_X6_says 182 = .ok (.getfield 26, 3) := by decide +kernel
theorem d_X6_says_185 : decode b_X6_says 185 = .ok (.sipush 300, 3) := by decide +kernel
theorem d_X6_says_188 : decode b_X6_says 188 = .ok (.iload_n 1, 1) := by decide +kernel
theorem d_X6_says_189 : decode b_X6_says 189 = .ok (.imul, 1) := by decide +kernel
theorem d_X6_says_190 : decode b_X6_says 190 = .ok (.iload 7, 2) := by decide +kernel
theorem d_X6_says_192 : decode b_X6_says 192 = .ok (.iadd, 1) := by decide +kernel
theorem d_X6_says_193 : decode b_X6_says 193 = .ok (.iaload, 1) := by decide +kernel
theorem d_X6_says_194 : decode b_X6_says 194 = .ok (.invokevirtual 196, 3) := by decide +kernel
theorem d_X6_says_197 : decode b_X6_says 197 = .ok (.iinc 7 1, 3) := by decide +kernel
theorem d_X6_says_200 : decode b_X6_says 200 = .ok (.goto (-45), 3) := by decide +kernel
theorem d_X6_says_203 : decode b_X6_says 203 = .ok (.iconst 0, 1) := by decide +kernel
theorem d_X6_says_204 : decode b_X6_says 204 = .ok (.istore 7, 2) := by decide +kernel
theorem d_X6_says_206 : decode b_X6_says 206 = .ok (.iload 7, 2) := by decide +kernel
theorem d_X6_says_208 : decode b_X6_says 208 = .ok (.bipush 32, 2) := by decide +kernel
theorem d_X6_says_210 : decode b_X6_says 210 = .ok (.if_icmp .ge 29, 3) := by decide +kernel
theorem d_X6_says_213 : decode b_X6_says 213 = .ok (.iload_n 2, 1) := by decide +kernel
theorem d_X6_says_214 : decode b_X6_says 214 = .ok (.bipush 20, 2) := by decide +kernel
theorem d_X6_says_216 : decode b_X6_says 216 = .ok (.if_icmp .ne 23, 3) := by decide +kernel
theorem d_X6_says_219 : decode b_X6_says 219 = .ok (.aload_n 0, 1) := by decide +kernel
theorem d_X6_says_220 : decode b_X6_says 220 = .ok (.iload_n 1, 1) := by decide +kernel
theorem d_X6_says_221 : decode b_X6_says 221 = .ok (.iload 4, 2) := by decide +kernel
theorem d_X6_says_223 : decode b_X6_says 223 = .ok (.aload_n 0, 1) := by decide +kernel
theorem d_X6_says_224 : decode b_X6_says 224 = .ok (.getfield 111, 3) := by decide +kernel
theorem d_X6_says_227 : decode b_X6_says 227 = .ok (.iload 7, 2) := by decide +kernel
theorem d_X6_says_229 : decode b_X6_says 229 = .ok (.iaload, 1) := by decide +kernel
theorem d_X6_says_230 : decode b_X6_says 230 = .ok (.invokevirtual 196, 3) := by decide +kernel
theorem d_X6_says_233 : decode b_X6_says 233 = .ok (.iinc 7 1, 3) := by decide +kernel
theorem d_X6_says_236 : decode b_X6_says 236 = .ok (.goto (-30), 3) := by decide +kernel
theorem d_X6_says_239 : decode b_X6_says 239 = .ok (.iload 5, 2) := by decide +kernel
theorem d_X6_says_241 : decode b_X6_says 241 = .ok (.istore 7, 2) := by decide +kernel
theorem d_X6_says_243 : decode b_X6_says 243 = .ok (.iload 7, 2) := by decide +kernel
theorem d_X6_says_245 : decode b_X6_says 245 = .ok (.aload_n 0, 1) := by decide +kernel
theorem d_X6_says_246 : decode b_X6_says 246 = .ok (.getfield 53, 3) := by decide +kernel
theorem d_X6_says_249 : decode b_X6_says 249 = .ok (.iconst 2, 1) := by decide +kernel
theorem d_X6_says_250 : decode b_X6_says 250 = .ok (.iload_n 1, 1) := by decide +kernel
theorem d_X6_says_251 : decode b_X6_says 251 = .ok (.imul, 1) := by decide +kernel
theorem d_X6_says_252 : decode b_X6_says 252 = .ok (.iload 4, 2) := by decide +kernel
theorem d_X6_says_254 : decode b_X6_says 254 = .ok (.iadd, 1) := by decide +kernel
theorem d_X6_says_255 : decode b_X6_says 255 = .ok (.iaload, 1) := by decide +kernel
theorem d_X6_says_256 : decode b_X6_says 256 = .ok (.if_icmp .ge 36, 3) := by decide +kernel
theorem d_X6_says_259 : decode b_X6_says 259 = .ok (.iload_n 3, 1) := by decide +kernel
theorem d_X6_says_260 : decode b_X6_says 260 = .ok (.ifCond .eq 32, 3) := by decide +kernel
theorem d_X6_says_263 : decode b_X6_says 263 = .ok (.aload_n 0, 1) := by decide +kernel
theorem d_X6_says_264 : decode b_X6_says 264 = .ok (.iload_n 1, 1) := by decide +kernel
theorem d_X6_says_265 : decode b_X6_says 265 = .ok (.aload_n 0, 1) := by decide +kernel
theorem d_X6_says_266 : decode b_X6_says 266 = .ok (.getfield 50, 3) := by decide +kernel
theorem d_X6_says_269 : decode b_X6_says 269 = .ok (.sipush 2048, 3) := by decide +kernel
theorem d_X6_says_272 : decode b_X6_says 272 = .ok (.iconst 2, 1) := by decide +kernel
theorem d_X6_says_273 : decode b_X6_says 273 = .ok (.iload_n 1, 1) := by decide +kernel
theorem d_X6_says_274 : decode b_X6_says 274 = .ok (.imul, 1) := by decide +kernel
theorem d_X6_says_275 : decode b_X6_says 275 = .ok (.iload 4, 2) := by decide +kernel
theorem d_X6_says_277 : decode b_X6_says 277 = .ok (.iadd, 1) := by decide +kernel
theorem d_X6_says_278 : decode b_X6_says 278 = .ok (.imul, 1) := by decide +kernel
theorem d_X6_says_279 : decode b_X6_says 279 = .ok (.iload 7, 2) := by decide +kernel
theorem d_X6_says_281 : decode b_X6_says 281 = .ok (.iadd, 1) := by decide +kernel
theorem d_X6_says_282 : decode b_X6_says 282 = .ok (.iaload, 1) := by decide +kernel
theorem d_X6_says_283 : decode b_X6_says 283 = .ok (.invokevirtual 200, 3) := by decide +kernel
theorem d_X6_says_286 : decode b_X6_says 286 = .ok (.iinc 7 1, 3) := by decide +kernel
theorem d_X6_says_289 : decode b_X6_says 289 = .ok (.goto (-46), 3) := by decide +kernel
theorem d_X6_says_292 : decode b_X6_says 292 = .ok (.return_, 1) := by decide +kernel
theorem d_X6_begin_0 : decode b_X6_begin 0 = .ok (.aload_n 0, 1) := by decide +kernel
theorem d_X6_begin_1 : decode b_X6_begin 1 = .ok (.iload_n 1, 1) := by decide +kernel
theorem d_X6_begin_2 : decode b_X6_begin 2 = .ok (.iconst 2, 1) := by decide +kernel
theorem d_X6_begin_3 : decode b_X6_begin 3 = .ok (.invokestatic 189, 3) := by decide +kernel
theorem d_X6_begin_6 : decode b_X6_begin 6 = .ok (.iconst 1, 1) := by decide +kernel
theorem d_X6_begin_7 : decode b_X6_begin 7 = .ok (.invokevirtual 180, 3) := by decide +kernel
theorem d_X6_begin_10 : decode b_X6_begin 10 = .ok (.ifCond .ne 43, 3) := by decide +kernel
theorem d_X6_begin_13 : decode b_X6_begin 13 = .ok (.aload_n 0, 1) := by decide +kernel
theorem d_X6_begin_14 : decode b_X6_begin 14 = .ok (.aload_n 0, 1) := by decide +kernel
theorem d_X6_begin_15 : decode b_X6_begin 15 = .ok (.getfield 38, 3) := by decide +kernel
theorem d_X6_begin_18 : decode b_X6_begin 18 = .ok (.iload_n 1, 1) := by decide +kernel
theorem d_X6_begin_19 : decode b_X6_begin 19 = .ok (.baload, 1) := by decide +kernel
theorem d_X6_begin_20 : decode b_X6_begin 20 = .ok (.ifCond .ne 21, 3) := by decide +kernel
theorem d_X6_begin_23 : decode b_X6_begin 23 = .ok (.aload_n 0, 1) := by decide +kernel
theorem d_X6_begin_24 : decode b_X6_begin 24 = .ok (.getfield 13, 3) := by decide +kernel
theorem d_X6_begin_27 : decode b_X6_begin 27 = .ok (.iload_n 1, 1) := by decide +kernel
theorem d_X6_begin_28 : decode b_X6_begin 28 = .ok (.baload, 1) := by decide +kernel
theorem d_X6_begin_29 : decode b_X6_begin 29 = .ok (.ifCond .eq 12, 3) := by decide +kernel
theorem d_X6_begin_32 : decode b_X6_begin 32 = .ok (.aload_n 0, 1) := by decide +kernel
theorem d_X6_begin_33 : decode b_X6_begin 33 = .ok (.getfield 17, 3) := by decide +kernel
theorem d_X6_begin_36 : decode b_X6_begin 36 = .ok (.iload_n 1, 1) := by decide +kernel
theorem d_X6_begin_37 : decode b_X6_begin 37 = .ok (.baload, 1) := by decide +kernel
theorem d_X6_begin_38 : decode b_X6_begin 38 = .ok (.ifCond .ne 7, 3) := by decide +kernel
theorem d_X6_begin_41 : decode b_X6_begin 41 = .ok (.iconst 1, 1) := by decide +kernel
theorem d_X6_begin_42 : decode b_X6_begin 42 = .ok (.goto 4, 3) := by decide +kernel
theorem d_X6_begin_45 : decode b_X6_begin 45 = .ok (.iconst 0, 1) := by decide +kernel
theorem d_X6_begin_46 : decode b_X6_begin 46 = .ok (.iconst 2, 1) := by decide +kernel
theorem d_X6_begin_47 : decode b_X6_begin 47 = .ok (.invokevirtual 180, 3) := by decide +kernel
theorem d_X6_begin_50 : decode b_X6_begin 50 = .ok (.ifCond .eq 4, 3) := by decide +kernel
theorem d_X6_begin_53 : decode b_X6_begin 53 = .ok (.return_, 1) := by decide +kernel
theorem d_X6_begin_54 : decode b_X6_begin 54 = .ok (.aload_n 0, 1) := by decide +kernel
theorem d_X6_begin_55 : decode b_X6_begin 55 = .ok (.getfield 38, 3) := by decide +kernel
theorem d_X6_begin_58 : decode b_X6_begin 58 = .ok (.iload_n 1, 1) := by decide +kernel
theorem d_X6_begin_59 : decode b_X6_begin 59 = .ok (.iconst 1, 1) := by decide +kernel
theorem d_X6_begin_60 : decode b_X6_begin 60 = .ok (.bastore, 1) := by decide +kernel
theorem d_X6_begin_61 : decode b_X6_begin 61 = .ok (.aload_n 0, 1) := by decide +kernel
theorem d_X6_begin_62 : decode b_X6_begin 62 = .ok (.getfield 41, 3) := by decide +kernel
theorem d_X6_begin_65 : decode b_X6_begin 65 = .ok (.iload_n 1, 1) := by decide +kernel
theorem d_X6_begin_66 : decode b_X6_begin 66 = .ok (.iload_n 1, 1) := by decide +kernel
theorem d_X6_begin_67 : decode b_X6_begin 67 = .ok (.ifCond .ne 7, 3) := by decide +kernel
theorem d_X6_begin_70 : decode b_X6_begin 70 = .ok (.iconst 2, 1) := by decide +kernel
theorem d_X6_begin_71 : decode b_X6_begin 71 = .ok (.goto 4, 3) := by decide +kernel
theorem d_X6_begin_74 : decode b_X6_begin 74 = .ok (.iconst 1, 1) := by decide +kernel
theorem d_X6_begin_75 : decode b_X6_begin 75 = .ok (.iastore, 1) := by decide +kernel
theorem d_X6_begin_76 : decode b_X6_begin 76 = .ok (.iload_n 1, 1) := by decide +kernel
theorem d_X6_begin_77 : decode b_X6_begin 77 = .ok (.ifCond .ne 10, 3) := by decide +kernel
theorem d_X6_begin_80 : decode b_X6_begin 80 = .ok (.aload_n 0, 1) := by decide +kernel
theorem d_X6_begin_81 : decode b_X6_begin 81 = .ok (.iconst 0, 1) := by decide +kernel
theorem d_X6_begin_82 : decode b_X6_begin 82 = .ok (.iconst 1, 1) := by decide +kernel
theorem d_X6_begin_83 : decode b_X6_begin 83 = .ok (.iconst 1, 1) := by decide +kernel
theorem d_X6_begin_84 : decode b_X6_begin 84 = .ok (.invokevirtual 203, 3) := by decide +kernel
theorem d_X6_begin_87 : decode b_X6_begin 87 = .ok (.return_, 1) := by decide +kernel
theorem d_X6_levelOf_0 : decode b_X6_levelOf 0 = .ok (.iload_n 0, 1) := by decide +kernel
theorem d_X6_levelOf_1 : decode b_X6_levelOf 1 = .ok (.iconst 1, 1) := by decide +kernel
theorem d_X6_levelOf_2 : decode b_X6_levelOf 2 = .ok (.if_icmp .eq 8, 3) := by decide +kernel
theorem d_X6_levelOf_5 : decode b_X6_levelOf 5 = .ok (.iload_n 0, 1) := by decide +kernel
theorem d_X6_levelOf_6 : decode b_X6_levelOf 6 = .ok (.iconst 2, 1) := by decide +kernel
theorem d_X6_levelOf_7 : decode b_X6_levelOf 7 = .ok (.if_icmp .ne 7, 3) := by decide +kernel
theorem d_X6_levelOf_10 : decode b_X6_levelOf 10 = .ok (.iconst 0, 1) := by decide +kernel
theorem d_X6_levelOf_11 : decode b_X6_levelOf 11 = .ok (.goto 4, 3) := by decide +kernel
theorem d_X6_levelOf_14 : decode b_X6_levelOf 14 = .ok (.iconst 1, 1) := by decide +kernel
theorem d_X6_levelOf_15 : decode b_X6_levelOf 15 = .ok (.ireturn, 1) := by decide +kernel
theorem d_X6_isSize_0 : decode b_X6_isSize 0 = .ok (.iload_n 0, 1) := by decide +kernel
theorem d_X6_isSize_1 : decode b_X6_isSize 1 = .ok (.iconst 1, 1) := by decide +kernel
theorem d_X6_isSize_2 : decode b_X6_isSize 2 = .ok (.if_icmp .ne 24, 3) := by decide +kernel
theorem d_X6_isSize_5 : decode b_X6_isSize 5 = .ok (.iload_n 1, 1) := by decide +kernel
theorem d_X6_isSize_6 : decode b_X6_isSize 6 = .ok (.bipush 32, 2) := by decide +kernel
theorem d_X6_isSize_8 : decode b_X6_isSize 8 = .ok (.if_icmp .lt 14, 3) := by decide +kernel
theorem d_X6_isSize_11 : decode b_X6_isSize 11 = .ok (.iload_n 1, 1) := by decide +kernel
theorem d_X6_isSize_12 : decode b_X6_isSize 12 = .ok (.sipush 332, 3) := by decide +kernel
theorem d_X6_isSize_15 : decode b_X6_isSize 15 = .ok (.if_icmp .gt 7, 3) := by decide +kernel
theorem d_X6_isSize_18 : decode b_X6_isSize 18 = .ok (.iconst 1, 1) := by decide +kernel
theorem d_X6_isSize_19 : decode b_X6_isSize 19 = .ok (.goto 39, 3) := by decide +kernel
theorem d_X6_isSize_22 : decode b_X6_isSize 22 = .ok (.iconst 0, 1) := by decide +kernel
theorem d_X6_isSize_23 : decode b_X6_isSize 23 = .ok (.goto 35, 3) := by decide +kernel
theorem d_X6_isSize_26 : decode b_X6_isSize 26 = .ok (.iload_n 0, 1) := by decide +kernel
theorem d_X6_isSize_27 : decode b_X6_isSize 27 = .ok (.bipush 8, 2) := by decide +kernel
theorem d_X6_isSize_29 : decode b_X6_isSize 29 = .ok (.if_icmp .ne 18, 3) := by decide +kernel
theorem d_X6_isSize_32 : decode b_X6_isSize 32 = .ok (.iload_n 1, 1) := by decide +kernel
theorem d_X6_isSize_33 : decode b_X6_isSize 33 = .ok (.sipush 300, 3) := by decide +kernel
theorem d_X6_isSize_36 : decode b_X6_isSize 36 = .ok (.if_icmp .gt 7, 3) := by decide +kernel
theorem d_X6_isSize_39 : decode b_X6_isSize 39 = .ok (.iconst 1, 1) := by decide +kernel
theorem d_X6_isSize_40 : decode b_X6_isSize 40 = .ok (.goto 18, 3) := by decide +kernel
theorem d_X6_isSize_43 : decode b_X6_isSize 43 = .ok (.iconst 0, 1) := by decide +kernel
theorem d_X6_isSize_44 : decode b_X6_isSize 44 = .ok (.goto 14, 3) := by decide +kernel
theorem d_X6_isSize_47 : decode b_X6_isSize 47 = .ok (.iload_n 1, 1) := by decide +kernel
theorem d_X6_isSize_48 : decode b_X6_isSize 48 = .ok (.bipush 32, 2) := by decide +kernel
theorem d_X6_isSize_50 : decode b_X6_isSize 50 = .ok (.if_icmp .ne 7, 3) := by decide +kernel
theorem d_X6_isSize_53 : decode b_X6_isSize 53 = .ok (.iconst 1, 1) := by decide +kernel
theorem d_X6_isSize_54 : decode b_X6_isSize 54 = .ok (.goto 4, 3) := by decide +kernel
theorem d_X6_isSize_57 : decode b_X6_isSize 57 = .ok (.iconst 0, 1) := by decide +kernel
theorem d_X6_isSize_58 : decode b_X6_isSize 58 = .ok (.ireturn, 1) := by decide +kernel
theorem d_X6_lookAt_0 : decode b_X6_lookAt 0 = .ok (.iconst 2, 1) := by decide +kernel
theorem d_X6_lookAt_1 : decode b_X6_lookAt 1 = .ok (.iload_n 1, 1) := by decide +kernel
theorem d_X6_lookAt_2 : decode b_X6_lookAt 2 = .ok (.imul, 1) := by decide +kernel
theorem d_X6_lookAt_3 : decode b_X6_lookAt 3 = .ok (.iload_n 2, 1) := by decide +kernel
theorem d_X6_lookAt_4 : decode b_X6_lookAt 4 = .ok (.iadd, 1) := by decide +kernel
theorem d_X6_lookAt_5 : decode b_X6_lookAt 5 = .ok (.istore_n 3, 1) := by decide +kernel
theorem d_X6_lookAt_6 : decode b_X6_lookAt 6 = .ok (.sipush 2048, 3) := by decide +kernel
theorem d_X6_lookAt_9 : decode b_X6_lookAt 9 = .ok (.iload_n 3, 1) := by decide +kernel
theorem d_X6_lookAt_10 : decode b_X6_lookAt 10 = .ok (.imul, 1) := by decide +kernel
theorem d_X6_lookAt_11 : decode b_X6_lookAt 11 = .ok (.istore 4, 2) := by decide +kernel
theorem d_X6_lookAt_13 : decode b_X6_lookAt 13 = .ok (.aload_n 0, 1) := by decide +kernel
theorem d_X6_lookAt_14 : decode b_X6_lookAt 14 = .ok (.getfield 62, 3) := by decide +kernel
theorem d_X6_lookAt_17 : decode b_X6_lookAt 17 = .ok (.iload_n 3, 1) := by decide +kernel
theorem d_X6_lookAt_18 : decode b_X6_lookAt 18 = .ok (.iaload, 1) := by decide +kernel
theorem d_X6_lookAt_19 : decode b_X6_lookAt 19 = .ok (.ifCond .ne 5, 3) := by decide +kernel
theorem d_X6_lookAt_22 : decode b_X6_lookAt 22 = .ok (.iconst 0, 1) := by decide +kernel
theorem d_X6_lookAt_23 : decode b_X6_lookAt 23 = .ok (.ireturn, 1) := by decide +kernel
theorem d_X6_lookAt_24 : decode b_X6_lookAt 24 = .ok (.aload_n 0, 1) := by decide +kernel
theorem d_X6_lookAt_25 : decode b_X6_lookAt 25 = .ok (.getfield 41, 3) := by decide +kernel
theorem d_X6_lookAt_28 : decode b_X6_lookAt 28 = .ok (.iload_n 1, 1) := by decide +kernel
theorem d_X6_lookAt_29 : decode b_X6_lookAt 29 = .ok (.iaload, 1) := by decide +kernel
theorem d_X6_lookAt_30 : decode b_X6_lookAt 30 = .ok (.ifCond .eq 32, 3) := by decide +kernel
theorem d_X6_lookAt_33 : decode b_X6_lookAt 33 = .ok (.aload_n 0, 1) := by decide +kernel
theorem d_X6_lookAt_34 : decode b_X6_lookAt 34 = .ok (.getfield 41, 3) := by decide +kernel
theorem d_X6_lookAt_37 : decode b_X6_lookAt 37 = .ok (.iload_n 1, 1) := by decide +kernel
theorem d_X6_lookAt_38 : decode b_X6_lookAt 38 = .ok (.iaload, 1) := by decide +kernel
theorem d_X6_lookAt_39 : decode b_X6_lookAt 39 = .ok (.invokestatic 207, 3) := by decide +kernel
theorem d_X6_lookAt_42 : decode b_X6_lookAt 42 = .ok (.iload_n 2, 1) := by decide +kernel
theorem d_X6_lookAt_43 : decode b_X6_lookAt 43 = .ok (.if_icmp .ne 19, 3) := by decide +kernel
theorem d_X6_lookAt_46 : decode b_X6_lookAt 46 = .ok (.aload_n 0, 1) := by decide +kernel
theorem d_X6_lookAt_47 : decode b_X6_lookAt 47 = .ok (.getfield 59, 3) := by decide +kernel
theorem d_X6_lookAt_50 : decode b_X6_lookAt 50 = .ok (.iload 4, 2) := by decide +kernel
theorem d_X6_lookAt_52 : decode b_X6_lookAt 52 = .ok (.iaload, 1) := by decide +kernel
theorem d_X6_lookAt_53 : decode b_X6_lookAt 53 = .ok (.aload_n 0, 1) := by decide +kernel
theorem d_X6_lookAt_54 : decode b_X6_lookAt 54 = .ok (.getfield 41, 3) := by decide +kernel
theorem d_X6_lookAt_57 : decode b_X6_lookAt 57 = .ok (.iload_n 1, 1) := by decide +kernel
theorem d_X6_lookAt_58 : decode b_X6_lookAt 58 = .ok (.iaload, 1) := by decide +kernel
theorem d_X6_lookAt_59 : decode b_X6_lookAt 59 = .ok (.if_icmp .eq 7, 3) := by decide +kernel
theorem d_X6_lookAt_62 : decode b_X6_lookAt 62 = .ok (.sipush (-266), 3) := by decide +kernel
theorem d_X6_lookAt_65 : decode b_X6_lookAt 65 = .ok (.ireturn, 1) := by decide +kernel
theorem d_X6_lookAt_66 : decode b_X6_lookAt 66 = .ok (.aload_n 0, 1) := by decide +kernel
theorem d_X6_lookAt_67 : decode b_X6_lookAt 67 = .ok (.getfield 62, 3) := by decide +kernel
theorem d_X6_lookAt_70 : decode b_X6_lookAt 70 = .ok (.iload_n 3, 1) := by decide +kernel
theorem d_X6_lookAt_71 : decode b_X6_lookAt 71 = .ok (.iaload, 1) := by decide +kernel
theorem d_X6_lookAt_72 : decode b_X6_lookAt 72 = .ok (.iconst 4, 1) := by decide +kernel
theorem d_X6_lookAt_73 : decode b_X6_lookAt 73 = .ok (.if_icmp .ge 5, 3) := by decide +kernel
theorem d_X6_lookAt_76 : decode b_X6_lookAt 76 = .ok (.iconst 0, 1) := by decide +kernel
theorem d_X6_lookAt_77 : decode b_X6_lookAt 77 = .ok (.ireturn, 1) := by decide +kernel
theorem d_X6_lookAt_78 : decode b_X6_lookAt 78 = .ok (.aload_n 0, 1) := by decide +kernel
theorem d_X6_lookAt_79 : decode b_X6_lookAt 79 = .ok (.getfield 59, 3) := by decide +kernel
theorem d_X6_lookAt_82 : decode b_X6_lookAt 82 = .ok (.iload 4, 2) := by decide +kernel
theorem d_X6_lookAt_84 : decode b_X6_lookAt 84 = .ok (.iconst 1, 1) := by decide +kernel
theorem d_X6_lookAt_85 : decode b_X6_lookAt 85 = .ok (.iadd, 1) := by decide +kernel
theorem d_X6_lookAt_86 : decode b_X6_lookAt 86 = .ok (.iaload, 1) := by decide +kernel
theorem d_X6_lookAt_87 : decode b_X6_lookAt 87 = .ok (.bipush 16, 2) := by decide +kernel
theorem d_X6_lookAt_89 : decode b_X6_lookAt 89 = .ok (.ishl, 1) := by decide +kernel
theorem d_X6_lookAt_90 : decode b_X6_lookAt 90 = .ok (.aload_n 0, 1) := by decide +kernel
theorem d_X6_lookAt_91 : decode b_X6_lookAt 91 = .ok (.getfield 59, 3) := by decide +kernel
theorem d_X6_lookAt_94 : decode b_X6_lookAt 94 = .ok (.iload 4, 2) := by decide +kernel
theorem d_X6_lookAt_96 : decode b_X6_lookAt 96 = .ok (.iconst 2, 1) := by decide +kernel
theorem d_X6_lookAt_97 : decode b_X6_lookAt 97 = .ok (.iadd, 1) := by decide +kernel
theorem d_X6_lookAt_98 : decode b_X6_lookAt 98 = .ok (.iaload, 1) := by decide +kernel
theorem d_X6_lookAt_99 : decode b_X6_lookAt 99 = .ok (.bipush 8, 2) := by decide +kernel
theorem d_X6_lookAt_101 : decode b_X6_lookAt 101 = .ok (.ishl, 1) := by decide +kernel
theorem d_X6_lookAt_102 : decode b_X6_lookAt 102 = .ok (.ior, 1) := by decide +kernel
theorem d_X6_lookAt_103 : decode b_X6_lookAt 103 = .ok (.aload_n 0, 1) := by decide +kernel
theorem d_X6_lookAt_104 : decode b_X6_lookAt 104 = .ok (.getfield 59, 3) := by decide +kernel
theorem d_X6_lookAt_107 : decode b_X6_lookAt 107 = .ok (.iload 4, 2) := by decide +kernel
theorem d_X6_lookAt_109 : decode b_X6_lookAt 109 = .ok (.iconst 3, 1) := by decide +kernel
theorem d_X6_lookAt_110 : decode b_X6_lookAt 110 = .ok (.iadd, 1) := by decide +kernel
theorem d_X6_lookAt_111 : decode b_X6_lookAt 111 = .ok (.iaload, 1) := by decide +kernel
theorem d_X6_lookAt_112 : decode b_X6_lookAt 112 = .ok (.ior, 1) := by decide +kernel
theorem d_X6_lookAt_113 : decode b_X6_lookAt 113 = .ok (.istore 5, 2) := by decide +kernel
theorem d_X6_lookAt_115 : decode b_X6_lookAt 115 = .ok (.aload_n 0, 1) := by decide +kernel
theorem d_X6_lookAt_116 : decode b_X6_lookAt 116 = .ok (.getfield 41, 3) := by decide +kernel
theorem d_X6_lookAt_119 : decode b_X6_lookAt 119 = .ok (.iload_n 1, 1) := by decide +kernel
theorem d_X6_lookAt_120 : decode b_X6_lookAt 120 = .ok (.iaload, 1) := by decide +kernel
theorem d_X6_lookAt_121 : decode b_X6_lookAt 121 = .ok (.iload 5, 2) := by decide +kernel
theorem d_X6_lookAt_123 : decode b_X6_lookAt 123 = .ok (.invokestatic 211, 3) := by decide +kernel
theorem d_X6_lookAt_126 : decode b_X6_lookAt 126 = .ok (.ifCond .ne 7, 3) := by decide +kernel
theorem d_X6_lookAt_129 : decode b_X6_lookAt 129 = .ok (.sipush (-306), 3) := by decide +kernel
theorem d_X6_lookAt_132 : decode b_X6_lookAt 132 = .ok (.ireturn, 1) := by decide +kernel
theorem d_X6_lookAt_133 : decode b_X6_lookAt 133 = .ok (.aload_n 0, 1) := by decide +kernel
theorem d_X6_lookAt_134 : decode b_X6_lookAt 134 = .ok (.getfield 62, 3) := by decide +kernel
theorem d_X6_lookAt_137 : decode b_X6_lookAt 137 = .ok (.iload_n 3, 1) := by decide +kernel
theorem d_X6_lookAt_138 : decode b_X6_lookAt 138 = .ok (.iaload, 1) := by decide +kernel
theorem d_X6_lookAt_139 : decode b_X6_lookAt 139 = .ok (.iconst 4, 1) := by decide +kernel
theorem d_X6_lookAt_140 : decode b_X6_lookAt 140 = .ok (.iload 5, 2) := by decide +kernel
theorem d_X6_lookAt_142 : decode b_X6_lookAt 142 = .ok (.iadd, 1) := by decide +kernel
theorem d_X6_lookAt_143 : decode b_X6_lookAt 143 = .ok (.if_icmp .ge 7, 3) := by decide +kernel
theorem d_X6_lookAt_146 : decode b_X6_lookAt 146 = .ok (.iconst 0, 1) := by decide +kernel
theorem d_X6_lookAt_147 : decode b_X6_lookAt 147 = .ok (.goto 7, 3) := by decide +kernel
theorem d_X6_lookAt_150 : decode b_X6_lookAt 150 = .ok (.iconst 4, 1) := by decide +kernel
theorem d_X6_lookAt_151 : decode b_X6_lookAt 151 = .ok (.iload 5, 2) := by decide +kernel
theorem d_X6_lookAt_153 : decode b_X6_lookAt 153 = .ok (.iadd, 1) := by decide +kernel
theorem d_X6_lookAt_154 : decode b_X6_lookAt 154 = .ok (.ireturn, 1) := by decide +kernel
theorem d_X6_keepTheirs_0 : decode b_X6_keepTheirs 0 = .ok (.aload_n 0, 1) := by decide +kernel
theorem d_X6_keepTheirs_1 : decode b_X6_keepTheirs 1 = .ok (.getfield 68, 3) := by decide +kernel
theorem d_X6_keepTheirs_4 : decode b_X6_keepTheirs 4 = .ok (.iload_n 1, 1) := by decide +kernel
theorem d_X6_keepTheirs_5 : decode b_X6_keepTheirs 5 = .ok (.iload_n 3, 1) := by decide +kernel
theorem d_X6_keepTheirs_6 : decode b_X6_keepTheirs 6 = .ok (.iastore, 1) := by decide +kernel
theorem d_X6_keepTheirs_7 : decode b_X6_keepTheirs 7 = .ok (.iconst 0, 1) := by decide +kernel
theorem d_X6_keepTheirs_8 : decode b_X6_keepTheirs 8 = .ok (.istore 4, 2) := by decide +kernel
theorem d_X6_keepTheirs_10 : decode b_X6_keepTheirs 10 = .ok (.iload 4, 2) := by decide +kernel
theorem d_X6_keepTheirs_12 : decode b_X6_keepTheirs 12 = .ok (.iload_n 3, 1) := by decide +kernel
theorem d_X6_keepTheirs_13 : decode b_X6_keepTheirs 13 = .ok (.if_icmp .ge 31, 3) := by decide +kernel
theorem d_X6_keepTheirs_16 : decode b_X6_keepTheirs 16 = .ok (.aload_n 0, 1) := by decide +kernel
theorem d_X6_keepTheirs_17 : decode b_X6_keepTheirs 17 = .ok (.getfield 65, 3) := by decide +kernel
theorem d_X6_keepTheirs_20 : decode b_X6_keepTheirs 20 = .ok (.sipush 300, 3) := by decide +kernel
theorem d_X6_keepTheirs_23 : decode b_X6_keepTheirs 23 = .ok (.iload_n 1, 1) := by decide +kernel
theorem d_X6_keepTheirs_24 : decode b_X6_keepTheirs 24 = .ok (.imul, 1) := by decide +kernel
theorem d_X6_keepTheirs_25 : decode b_X6_keepTheirs 25 = .ok (.iload 4, 2) := by decide +kernel
theorem d_X6_keepTheirs_27 : decode b_X6_keepTheirs 27 = .ok (.iadd, 1) := by decide +kernel
theorem d_X6_keepTheirs_28 : decode b_X6_keepTheirs 28 = .ok (.aload_n 0, 1) := by decide +kernel
theorem d_X6_keepTheirs_29 : decode b_X6_keepTheirs 29 = .ok (.getfield 59, 3) := by decide +kernel
theorem d_X6_keepTheirs_32 : decode b_X6_keepTheirs 32 = .ok (.iload_n 2, 1) := by decide +kernel
theorem d_X6_keepTheirs_33 : decode b_X6_keepTheirs 33 = .ok (.iload 4, 2) := by decide +kernel
theorem d_X6_keepTheirs_35 : decode b_X6_keepTheirs 35 = .ok (.iadd, 1) := by decide +kernel
theorem d_X6_keepTheirs_36 : decode b_X6_keepTheirs 36 = .ok (.iaload, 1) := by decide +kernel
theorem d_X6_keepTheirs_37 : decode b_X6_keepTheirs 37 = .ok (.iastore, 1) := by decide +kernel
theorem d_X6_keepTheirs_38 : decode b_X6_keepTheirs 38 = .ok (.iinc 4 1, 3) := by decide +kernel
theorem d_X6_keepTheirs_41 : decode b_X6_keepTheirs 41 = .ok (.goto (-31), 3) := by decide +kernel
theorem d_X6_keepTheirs_44 : decode b_X6_keepTheirs 44 = .ok (.return_, 1) := by decide +kernel
theorem d_X6_done_0 : decode b_X6_done 0 = .ok (.sipush 2048, 3) := by decide +kernel
theorem d_X6_done_3 : decode b_X6_done 3 = .ok (.iconst 2, 1) := by decide +kernel
theorem d_X6_done_4 : decode b_X6_done 4 = .ok (.iload_n 1, 1) := by decide +kernel
theorem d_X6_done_5 : decode b_X6_done 5 = .ok (.imul, 1) := by decide +kernel
theorem d_X6_done_6 : decode b_X6_done 6 = .ok (.iload_n 2, 1) := by decide +kernel
theorem d_X6_done_7 : decode b_X6_done 7 = .ok (.iadd, 1) := by decide +kernel
theorem d_X6_done_8 : decode b_X6_done 8 = .ok (.imul, 1) := by decide +kernel
theorem d_X6_done_9 : decode b_X6_done 9 = .ok (.istore 4, 2) := by decide +kernel
theorem d_X6_done_11 : decode b_X6_done 11 = .ok (.aload_n 0, 1) := by decide +kernel
theorem d_X6_done_12 : decode b_X6_done 12 = .ok (.getfield 41, 3) := by decide +kernel
theorem d_X6_done_15 : decode b_X6_done 15 = .ok (.iload_n 1, 1) := by decide +kernel
theorem d_X6_done_16 : decode b_X6_done 16 = .ok (.iaload, 1) := by decide +kernel
theorem d_X6_done_17 : decode b_X6_done 17 = .ok (.istore 5, 2) := by decide +kernel
theorem d_X6_done_19 : decode b_X6_done 19 = .ok (.iload 5, 2) := by decide +kernel
theorem d_X6_done_21 : decode b_X6_done 21 = .ok (.bipush 20, 2) := by decide +kernel
theorem d_X6_done_23 : decode b_X6_done 23 = .ok (.if_icmp .ne 53, 3) := by decide +kernel
theorem d_X6_done_26 : decode b_X6_done 26 = .ok (.aload_n 0, 1) := by decide +kernel
theorem d_X6_done_27 : decode b_X6_done 27 = .ok (.iload_n 1, 1) := by decide +kernel
theorem d_X6_done_28 : decode b_X6_done 28 = .ok (.iconst 1, 1) := by decide +kernel
theorem d_X6_done_29 : decode b_X6_done 29 = .ok (.iload_n 1, 1) := by decide +kernel
theorem d_X6_done_30 : decode b_X6_done 30 = .ok (.isub, 1) := by decide +kernel
theorem d_X6_done_31 : decode b_X6_done 31 = .ok (.invokevirtual 214, 3) := by decide +kernel
theorem d_X6_done_34 : decode b_X6_done 34 = .ok (.iconst 0, 1) := by decide +kernel
theorem d_X6_done_35 : decode b_X6_done 35 = .ok (.istore 6, 2) := by decide +kernel
theorem d_X6_done_37 : decode b_X6_done 37 = .ok (.iload 6, 2) := by decide +kernel
theorem d_X6_done_39 : decode b_X6_done 39 = .ok (.bipush 32, 2) := by decide +kernel
theorem d_X6_done_41 : decode b_X6_done 41 = .ok (.if_icmp .ge 35, 3) := by decide +kernel
theorem d_X6_done_44 : decode b_X6_done 44 = .ok (.aload_n 0, 1) := by decide +kernel
theorem d_X6_done_45 : decode b_X6_done 45 = .ok (.getfield 59, 3) := by decide +kernel
theorem d_X6_done_48 : decode b_X6_done 48 = .ok (.iload 4, 2) := by decide +kernel
theorem d_X6_done_50 : decode b_X6_done 50 = .ok (.iconst 4, 1) := by decide +kernel
theorem d_X6_done_51 : decode b_X6_done 51 = .ok (.iadd, 1) := by decide +kernel
theorem d_X6_done_52 : decode b_X6_done 52 = .ok (.iload 6, 2) := by decide +kernel
theorem d_X6_done_54 : decode b_X6_done 54 = .ok (.iadd, 1) := by decide +kernel
theorem d_X6_done_55 : decode b_X6_done 55 = .ok (.iaload, 1) := by decide +kernel
theorem d_X6_done_56 : decode b_X6_done 56 = .ok (.aload_n 0, 1) := by decide +kernel
theorem d_X6_done_57 : decode b_X6_done 57 = .ok (.getfield 111, 3) := by decide +kernel
theorem d_X6_done_60 : decode b_X6_done 60 = .ok (.iload 6, 2) := by decide +kernel
theorem d_X6_done_62 : decode b_X6_done 62 = .ok (.iaload, 1) := by decide +kernel
theorem d_X6_done_63 : decode b_X6_done 63 = .ok (.if_icmp .eq 7, 3) := by decide +kernel
theorem d_X6_done_66 : decode b_X6_done 66 = .ok (.sipush 307, 3) := by decide +kernel
theorem d_X6_done_69 : decode b_X6_done 69 = .ok (.ireturn, 1) := by decide +kernel
theorem d_X6_done_70 : decode b_X6_done 70 = .ok (.iinc 6 1, 3) := by decide +kernel
theorem d_X6_done_73 : decode b_X6_done 73 = .ok (.goto (-36), 3) := by decide +kernel
theorem d_X6_done_76 : decode b_X6_done 76 = .ok (.iconst 0, 1) := by decide +kernel
theorem d_X6_done_77 : decode b_X6_done 77 = .ok (.istore 6, 2) := by decide +kernel
theorem d_X6_done_79 : decode b_X6_done 79 = .ok (.iload 6, 2) := by decide +kernel
theorem d_X6_done_81 : decode b_X6_done 81 = .ok (.iload_n 3, 1) := by decide +kernel
theorem d_X6_done_82 : decode b_X6_done 82 = .ok (.if_icmp .ge 35, 3) := by decide +kernel
theorem d_X6_done_85 : decode b_X6_done 85 = .ok (.iload 5, 2) := by decide +kernel
theorem d_X6_done_87 : decode b_X6_done 87 = .ok (.bipush 20, 2) := by decide +kernel
theorem d_X6_done_89 : decode b_X6_done 89 = .ok (.if_icmp .ne 7, 3) := by decide +kernel
theorem d_X6_done_92 : decode b_X6_done 92 = .ok (.iload_n 1, 1) := by decide +kernel
theorem d_X6_done_93 : decode b_X6_done 93 = .ok (.ifCond .ne 24, 3) := by decide +kernel
theorem d_X6_done_96 : decode b_X6_done 96 = .ok (.aload_n 0, 1) := by decide +kernel
theorem d_X6_done_97 : decode b_X6_done 97 = .ok (.iload_n 1, 1) := by decide +kernel
theorem d_X6_done_98 : decode b_X6_done 98 = .ok (.aload_n 0, 1) := by decide +kernel
theorem d_X6_done_99 : decode b_X6_done 99 = .ok (.getfield 59, 3) := by decide +kernel
theorem d_X6_done_102 : decode b_X6_done 102 = .ok (.iload 4, 2) := by decide +kernel
theorem d_X6_done_104 : decode b_X6_done 104 = .ok (.iload 6, 2) := by decide +kernel
theorem d_X6_done_106 : decode b_X6_done 106 = .ok (.iadd, 1) := by decide +kernel
theorem d_X6_done_107 : decode b_X6_done 107 = .ok (.iaload, 1) := by decide +kernel
theorem d_X6_done_108 : decode b_X6_done 108 = .ok (.invokevirtual 200, 3) := by decide +kernel
theorem d_X6_done_111 : decode b_X6_done 111 = .ok (.iinc 6 1, 3) := by decide +kernel
theorem d_X6_done_114 : decode b_X6_done 114 = .ok (.goto (-35), 3) := by decide +kernel
theorem d_X6_done_117 : decode b_X6_done 117 = .ok (.iload 5, 2) := by decide +kernel
theorem d_X6_done_119 : decode b_X6_done 119 = .ok (.iconst 1, 1) := by decide +kernel
theorem d_X6_done_120 : decode b_X6_done 120 = .ok (.if_icmp .ne 67, 3) := by decide +kernel
theorem d_X6_done_123 : decode b_X6_done 123 = .ok (.aload_n 0, 1) := by decide +kernel
theorem d_X6_done_124 : decode b_X6_done 124 = .ok (.iconst 1, 1) := by decide +kernel
theorem d_X6_done_125 : decode b_X6_done 125 = .ok (.iload 4, 2) := by decide +kernel
theorem d_X6_done_127 : decode b_X6_done 127 = .ok (.bipush 36, 2) := by decide +kernel
theorem d_X6_done_129 : decode b_X6_done 129 = .ok (.iadd, 1) := by decide +kernel
theorem d_X6_done_130 : decode b_X6_done 130 = .ok (.iload_n 3, 1) := by decide +kernel
theorem d_X6_done_131 : decode b_X6_done 131 = .ok (.bipush 36, 2) := by decide +kernel
theorem d_X6_done_133 : decode b_X6_done 133 = .ok (.isub, 1) := by decide +kernel
theorem d_X6_done_134 : decode b_X6_done 134 = .ok (.invokevirtual 217, 3) := by decide +kernel
theorem d_X6_done_137 : decode b_X6_done 137 = .ok (.aload_n 0, 1) := by decide +kernel
theorem d_X6_done_138 : decode b_X6_done 138 = .ok (.iconst 1, 1) := by decide +kernel
theorem d_X6_done_139 : decode b_X6_done 139 = .ok (.iconst 2, 1) := by decide +kernel
theorem d_X6_done_140 : decode b_X6_done 140 = .ok (.iconst 1, 1) := by decide +kernel
theorem d_X6_done_141 : decode b_X6_done 141 = .ok (.invokevirtual 203, 3) := by decide +kernel
theorem d_X6_done_144 : decode b_X6_done 144 = .ok (.aload_n 0, 1) := by decide +kernel
theorem d_X6_done_145 : decode b_X6_done 145 = .ok (.iconst 1, 1) := by decide +kernel
theorem d_X6_done_146 : decode b_X6_done 146 = .ok (.invokevirtual 220, 3) := by decide +kernel
theorem d_X6_done_149 : decode b_X6_done 149 = .ok (.aload_n 0, 1) := by decide +kernel
theorem d_X6_done_150 : decode b_X6_done 150 = .ok (.iconst 1, 1) := by decide +kernel
theorem d_X6_done_151 : decode b_X6_done 151 = .ok (.bipush 8, 2) := by decide +kernel
theorem d_X6_done_153 : decode b_X6_done 153 = .ok (.iconst 1, 1) := by decide +kernel
theorem d_X6_done_154 : decode b_X6_done 154 = .ok (.invokevirtual 203, 3) := by decide +kernel
theorem d_X6_done_157 : decode b_X6_done 157 = .ok (.aload_n 0, 1) := by decide +kernel
theorem d_X6_done_158 : decode b_X6_done 158 = .ok (.iconst 1, 1) := by decide +kernel
theorem d_X6_done_159 : decode b_X6_done 159 = .ok (.iconst 1, 1) := by decide +kernel
theorem d_X6_done_160 : decode b_X6_done 160 = .ok (.invokevirtual 214, 3) := by decide +kernel
theorem d_X6_done_163 : decode b_X6_done 163 = .ok (.aload_n 0, 1) := by decide +kernel
theorem d_X6_done_164 : decode b_X6_done 164 = .ok (.iconst 1, 1) := by decide +kernel
theorem d_X6_done_165 : decode b_X6_done 165 = .ok (.bipush 20, 2) := by decide +kernel
theorem d_X6_done_167 : decode b_X6_done 167 = .ok (.iconst 1, 1) := by decide +kernel
theorem d_X6_done_168 : decode b_X6_done 168 = .ok (.invokevirtual 203, 3) := by decide +kernel
theorem d_X6_done_171 : decode b_X6_done 171 = .ok (.aload_n 0, 1) := by decide +kernel
theorem d_X6_done_172 : decode b_X6_done 172 = .ok (.iconst 1, 1) := by decide +kernel
theorem d_X6_done_173 : decode b_X6_done 173 = .ok (.invokevirtual 223, 3) := by decide +kernel
theorem d_X6_done_176 : decode b_X6_done 176 = .ok (.aload_n 0, 1) := by decide +kernel
theorem d_X6_done_177 : decode b_X6_done 177 = .ok (.getfield 41, 3) := by decide +kernel
theorem d_X6_done_180 : decode b_X6_done 180 = .ok (.iconst 1, 1) := by decide +kernel
theorem d_X6_done_181 : decode b_X6_done 181 = .ok (.bipush 20, 2) := by decide +kernel
theorem d_X6_done_183 : decode b_X6_done 183 = .ok (.iastore, 1) := by decide +kernel
theorem d_X6_done_184 : decode b_X6_done 184 = .ok (.goto 92, 3) := by decide +kernel
theorem d_X6_done_187 : decode b_X6_done 187 = .ok (.iload 5, 2) := by decide +kernel
theorem d_X6_done_189 : decode b_X6_done 189 = .ok (.iconst 2, 1) := by decide +kernel
theorem d_X6_done_190 : decode b_X6_done 190 = .ok (.if_icmp .ne 19, 3) := by decide +kernel
theorem d_X6_done_193 : decode b_X6_done 193 = .ok (.aload_n 0, 1) := by decide +kernel
theorem d_X6_done_194 : decode b_X6_done 194 = .ok (.iconst 0, 1) := by decide +kernel
theorem d_X6_done_195 : decode b_X6_done 195 = .ok (.invokevirtual 220, 3) := by decide +kernel
theorem d_X6_done_198 : decode b_X6_done 198 = .ok (.aload_n 0, 1) := by decide +kernel
theorem d_X6_done_199 : decode b_X6_done 199 = .ok (.getfield 41, 3) := by decide +kernel
theorem d_X6_done_202 : decode b_X6_done 202 = .ok (.iconst 0, 1) := by decide +kernel
theorem d_X6_done_203 : decode b_X6_done 203 = .ok (.bipush 8, 2) := by decide +kernel
theorem d_X6_done_205 : decode b_X6_done 205 = .ok (.iastore, 1) := by decide +kernel
theorem d_X6_done_206 : decode b_X6_done 206 = .ok (.goto 70, 3) := by decide +kernel
theorem d_X6_done_209 : decode b_X6_done 209 = .ok (.iload 5, 2) := by decide +kernel
theorem d_X6_done_211 : decode b_X6_done 211 = .ok (.bipush 8, 2) := by decide +kernel
theorem d_X6_done_213 : decode b_X6_done 213 = .ok (.if_icmp .ne 26, 3) := by decide +kernel
theorem d_X6_done_216 : decode b_X6_done 216 = .ok (.aload_n 0, 1) := by decide +kernel
theorem d_X6_done_217 : decode b_X6_done 217 = .ok (.iconst 0, 1) := by decide +kernel
theorem d_X6_done_218 : decode b_X6_done 218 = .ok (.iload 4, 2) := by decide +kernel
theorem d_X6_done_220 : decode b_X6_done 220 = .ok (.iconst 4, 1) := by decide +kernel
theorem d_X6_done_221 : decode b_X6_done 221 = .ok (.iadd, 1) := by decide +kernel
theorem d_X6_done_222 : decode b_X6_done 222 = .ok (.iload_n 3, 1) := by decide +kernel
theorem d_X6_done_223 : decode b_X6_done 223 = .ok (.iconst 4, 1) := by decide +kernel
theorem d_X6_done_224 : decode b_X6_done 224 = .ok (.isub, 1) := by decide +kernel
theorem d_X6_done_225 : decode b_X6_done 225 = .ok (.invokevirtual 217, 3) := by decide +kernel
theorem d_X6_done_228 : decode b_X6_done 228 = .ok (.aload_n 0, 1) := by decide +kernel
theorem d_X6_done_229 : decode b_X6_done 229 = .ok (.getfield 41, 3) := by decide +kernel
theorem d_X6_done_232 : decode b_X6_done 232 = .ok (.iconst 0, 1) := by decide +kernel
theorem d_X6_done_233 : decode b_X6_done 233 = .ok (.bipush 20, 2) := by decide +kernel
theorem d_X6_done_235 : decode b_X6_done 235 = .ok (.iastore, 1) := by decide +kernel
theorem d_X6_done_236 : decode b_X6_done 236 = .ok (.goto 40, 3) := by decide +kernel
theorem d_X6_done_239 : decode b_X6_done 239 = .ok (.aload_n 0, 1) := by decide +kernel
theorem d_X6_done_240 : decode b_X6_done 240 = .ok (.getfield 41, 3) := by decide +kernel
theorem d_X6_done_243 : decode b_X6_done 243 = .ok (.iload_n 1, 1) := by decide +kernel
theorem d_X6_done_244 : decode b_X6_done 244 = .ok (.iconst 0, 1) := by decide +kernel
theorem d_X6_done_245 : decode b_X6_done 245 = .ok (.iastore, 1) := by decide +kernel
theorem d_X6_done_246 : decode b_X6_done 246 = .ok (.aload_n 0, 1) := by decide +kernel
theorem d_X6_done_247 : decode b_X6_done 247 = .ok (.getfield 44, 3) := by decide +kernel
theorem d_X6_done_250 : decode b_X6_done 250 = .ok (.iload_n 1, 1) := by decide +kernel
theorem d_X6_done_251 : decode b_X6_done 251 = .ok (.iconst 1, 1) := by decide +kernel
theorem d_X6_done_252 : decode b_X6_done 252 = .ok (.bastore, 1) := by decide +kernel
theorem d_X6_done_253 : decode b_X6_done 253 = .ok (.iload_n 1, 1) := by decide +kernel
theorem d_X6_done_254 : decode b_X6_done 254 = .ok (.ifCond .ne 22, 3) := by decide +kernel
theorem d_X6_done_257 : decode b_X6_done 257 = .ok (.aload_n 0, 1) := by decide +kernel
theorem d_X6_done_258 : decode b_X6_done 258 = .ok (.iconst 0, 1) := by decide +kernel
theorem d_X6_done_259 : decode b_X6_done 259 = .ok (.iconst 0, 1) := by decide +kernel
theorem d_X6_done_260 : decode b_X6_done 260 = .ok (.invokevirtual 214, 3) := by decide +kernel
theorem d_X6_done_263 : decode b_X6_done 263 = .ok (.aload_n 0, 1) := by decide +kernel
theorem d_X6_done_264 : decode b_X6_done 264 = .ok (.iconst 0, 1) := by decide +kernel
theorem d_X6_done_265 : decode b_X6_done 265 = .ok (.bipush 20, 2) := by decide +kernel
theorem d_X6_done_267 : decode b_X6_done 267 = .ok (.iconst 0, 1) := by decide +kernel
theorem d_X6_done_268 : decode b_X6_done 268 = .ok (.invokevirtual 203, 3) := by decide +kernel
theorem d_X6_done_271 : decode b_X6_done 271 = .ok (.aload_n 0, 1) := by decide +kernel
theorem d_X6_done_272 : decode b_X6_done 272 = .ok (.iconst 0, 1) := by decide +kernel
theorem d_X6_done_273 : decode b_X6_done 273 = .ok (.invokevirtual 223, 3) := by decide +kernel
theorem d_X6_done_276 : decode b_X6_done 276 = .ok (.iconst 0, 1) := by decide +kernel
theorem d_X6_done_277 : decode b_X6_done 277 = .ok (.ireturn, 1) := by decide +kernel
theorem d_X6_comes_0 : decode b_X6_comes 0 = .ok (.iconst 2, 1) := by decide +kernel
theorem d_X6_comes_1 : decode b_X6_comes 1 = .ok (.iload_n 1, 1) := by decide +kernel
theorem d_X6_comes_2 : decode b_X6_comes 2 = .ok (.imul, 1) := by decide +kernel
theorem d_X6_comes_3 : decode b_X6_comes 3 = .ok (.iload_n 2, 1) := by decide +kernel
theorem d_X6_comes_4 : decode b_X6_comes 4 = .ok (.iadd, 1) := by decide +kernel
theorem d_X6_comes_5 : decode b_X6_comes 5 = .ok (.istore 4, 2) := by decide +kernel
theorem d_X6_comes_7 : decode b_X6_comes 7 = .ok (.aload_n 0, 1) := by decide +kernel
theorem d_X6_comes_8 : decode b_X6_comes 8 = .ok (.getfield 59, 3) := by decide +kernel
theorem d_X6_comes_11 : decode b_X6_comes 11 = .ok (.sipush 2048, 3) := by decide +kernel
theorem d_X6_comes_14 : decode b_X6_comes 14 = .ok (.iload 4, 2) := by decide +kernel
theorem d_X6_comes_16 : decode b_X6_comes 16 = .ok (.imul, 1) := by decide +kernel
theorem d_X6_comes_17 : decode b_X6_comes 17 = .ok (.aload_n 0, 1) := by decide +kernel
theorem d_X6_comes_18 : decode b_X6_comes 18 = .ok (.getfield 62, 3) := by decide +kernel
theorem d_X6_comes_21 : decode b_X6_comes 21 = .ok (.iload 4, 2) := by decide +kernel
theorem d_X6_comes_23 : decode b_X6_comes 23 = .ok (.iaload, 1) := by decide +kernel
theorem d_X6_comes_24 : decode b_X6_comes 24 = .ok (.iadd, 1) := by decide +kernel
theorem d_X6_comes_25 : decode b_X6_comes 25 = .ok (.iload_n 3, 1) := by decide +kernel
theorem d_X6_comes_26 : decode b_X6_comes 26 = .ok (.iastore, 1) := by decide +kernel
theorem d_X6_comes_27 : decode b_X6_comes 27 = .ok (.aload_n 0, 1) := by decide +kernel
theorem d_X6_comes_28 : decode b_X6_comes 28 = .ok (.getfield 62, 3) := by decide +kernel
theorem d_X6_comes_31 : decode b_X6_comes 31 = .ok (.iload 4, 2) := by decide +kernel
theorem d_X6_comes_33 : decode b_X6_comes 33 = .ok (.dup2, 1) := by decide +kernel
theorem d_X6_comes_34 : decode b_X6_comes 34 = .ok (.iaload, 1) := by decide +kernel
theorem d_X6_comes_35 : decode b_X6_comes 35 = .ok (.iconst 1, 1) := by decide +kernel
theorem d_X6_comes_36 : decode b_X6_comes 36 = .ok (.iadd, 1) := by decide +kernel
theorem d_X6_comes_37 : decode b_X6_comes 37 = .ok (.iastore, 1) := by decide +kernel
theorem d_X6_comes_38 : decode b_X6_comes 38 = .ok (.return_, 1) := by decide +kernel
theorem d_X6_works_0 : decode b_X6_works 0 = .ok (.iconst 2, 1) := by decide +kernel
theorem d_X6_works_1 : decode b_X6_works 1 = .ok (.iload_n 1, 1) := by decide +kernel
theorem d_X6_works_2 : decode b_X6_works 2 = .ok (.imul, 1) := by decide +kernel
theorem d_X6_works_3 : decode b_X6_works 3 = .ok (.iload_n 2, 1) := by decide +kernel
theorem d_X6_works_4 : decode b_X6_works 4 = .ok (.iadd, 1) := by decide +kernel
theorem d_X6_works_5 : decode b_X6_works 5 = .ok (.istore_n 3, 1) := by decide +kernel
theorem d_X6_works_6 : decode b_X6_works 6 = .ok (.aload_n 0, 1) := by decide +kernel
theorem d_X6_works_7 : decode b_X6_works 7 = .ok (.iload_n 1, 1) := by decide +kernel
theorem d_X6_works_8 : decode b_X6_works 8 = .ok (.iload_n 2, 1) := by decide +kernel
theorem d_X6_works_9 : decode b_X6_works 9 = .ok (.invokevirtual 226, 3) := by decide +kernel
theorem d_X6_works_12 : decode b_X6_works 12 = .ok (.istore 4, 2) := by decide +kernel
theorem d_X6_works_14 : decode b_X6_works 14 = .ok (.iload 4, 2) := by decide +kernel
theorem d_X6_works_16 : decode b_X6_works 16 = .ok (.ifCond .le 97, 3) := by decide +kernel
theorem d_X6_works_19 : decode b_X6_works 19 = .ok (.aload_n 0, 1) := by decide +kernel
theorem d_X6_works_20 : decode b_X6_works 20 = .ok (.iload_n 1, 1) := by decide +kernel
theorem d_X6_works_21 : decode b_X6_works 21 = .ok (.iload_n 2, 1) := by decide +kernel
theorem d_X6_works_22 : decode b_X6_works 22 = .ok (.iload 4, 2) := by decide +kernel
theorem d_X6_works_24 : decode b_X6_works 24 = .ok (.invokevirtual 229, 3) := by decide +kernel
theorem d_X6_works_27 : decode b_X6_works 27 = .ok (.istore 5, 2) := by decide +kernel
theorem d_X6_works_29 : decode b_X6_works 29 = .ok (.iload 5, 2) := by decide +kernel
theorem d_X6_works_31 : decode b_X6_works 31 = .ok (.ifCond .le 11, 3) := by decide +kernel
theorem d_X6_works_34 : decode b_X6_works 34 = .ok (.iload 5, 2) := by decide +kernel
theorem d_X6_works_36 : decode b_X6_works 36 = .ok (.ineg, 1) := by decide +kernel
theorem d_X6_works_37 : decode b_X6_works 37 = .ok (.istore 4, 2) := by decide +kernel
theorem d_X6_works_39 : decode b_X6_works 39 = .ok (.goto (-25), 3) := by decide +kernel
theorem d_X6_works_42 : decode b_X6_works 42 = .ok (.aload_n 0, 1) := by decide +kernel
theorem d_X6_works_43 : decode b_X6_works 43 = .ok (.getfield 62, 3) := by decide +kernel
theorem d_X6_works_46 : decode b_X6_works 46 = .ok (.iload_n 3, 1) := by decide +kernel
theorem d_X6_works_47 : decode b_X6_works 47 = .ok (.dup2, 1) := by decide +kernel
theorem d_X6_works_48 : decode b_X6_works 48 = .ok (.iaload, 1) := by decide +kernel
theorem d_X6_works_49 : decode b_X6_works 49 = .ok (.iload 4, 2) := by decide +kernel
theorem d_X6_works_51 : decode b_X6_works 51 = .ok (.isub, 1) := by decide +kernel
theorem d_X6_works_52 : decode b_X6_works 52 = .ok (.iastore, 1) := by decide +kernel
theorem d_X6_works_53 : decode b_X6_works 53 = .ok (.iconst 0, 1) := by decide +kernel
theorem d_X6_works_54 : decode b_X6_works 54 = .ok (.istore 6, 2) := by decide +kernel
theorem d_X6_works_56 : decode b_X6_works 56 = .ok (.iload 6, 2) := by decide +kernel
theorem d_X6_works_58 : decode b_X6_works 58 = .ok (.aload_n 0, 1) := by decide +kernel
theorem d_X6_works_59 : decode b_X6_works 59 = .ok (.getfield 62, 3) := by decide +kernel
theorem d_X6_works_62 : decode b_X6_works 62 = .ok (.iload_n 3, 1) := by decide +kernel
theorem d_X6_works_63 : decode b_X6_works 63 = .ok (.iaload, 1) := by decide +kernel
theorem d_X6_works_64 : decode b_X6_works 64 = .ok (.if_icmp .ge 38, 3) := by decide +kernel
theorem d_X6_works_67 : decode b_X6_works 67 = .ok (.aload_n 0, 1) := by decide +kernel
theorem d_X6_works_68 : decode b_X6_works 68 = .ok (.getfield 59, 3) := by decide +kernel
theorem d_X6_works_71 : decode b_X6_works 71 = .ok (.sipush 2048, 3) := by decide +kernel
theorem d_X6_works_74 : decode b_X6_works 74 = .ok (.iload_n 3, 1) := by decide +kernel
theorem d_X6_works_75 : decode b_X6_works 75 = .ok (.imul, 1) := by decide +kernel
theorem d_X6_works_76 : decode b_X6_works 76 = .ok (.iload 6, 2) := by decide +kernel
theorem d_X6_works_78 : decode b_X6_works 78 = .ok (.iadd, 1) := by decide +kernel
theorem d_X6_works_79 : decode b_X6_works 79 = .ok (.aload_n 0, 1) := by decide +kernel
theorem d_X6_works_80 : decode b_X6_works 80 = .ok (.getfield 59, 3) := by decide +kernel
theorem d_X6_works_83 : decode b_X6_works 83 = .ok (.sipush 2048, 3) := by decide +kernel
theorem d_X6_works_86 : decode b_X6_works 86 = .ok (.iload_n 3, 1) := by decide +kernel
theorem d_X6_works_87 : decode b_X6_works 87 = .ok (.imul, 1) := by decide +kernel
theorem d_X6_works_88 : decode b_X6_works 88 = .ok (.iload 4, 2) := by decide +kernel
theorem d_X6_works_90 : decode b_X6_works 90 = .ok (.iadd, 1) := by decide +kernel
theorem d_X6_works_91 : decode b_X6_works 91 = .ok (.iload 6, 2) := by decide +kernel
theorem d_X6_works_93 : decode b_X6_works 93 = .ok (.iadd, 1) := by decide +kernel
theorem d_X6_works_94 : decode b_X6_works 94 = .ok (.iaload, 1) := by decide +kernel
theorem d_X6_works_95 : decode b_X6_works 95 = .ok (.iastore, 1) := by decide +kernel
theorem d_X6_works_96 : decode b_X6_works 96 = .ok (.iinc 6 1, 3) := by decide +kernel
theorem d_X6_works_99 : decode b_X6_works 99 = .ok (.goto (-43), 3) := by decide +kernel
theorem d_X6_works_102 : decode b_X6_works 102 = .ok (.aload_n 0, 1) := by decide +kernel
theorem d_X6_works_103 : decode b_X6_works 103 = .ok (.iload_n 1, 1) := by decide +kernel
theorem d_X6_works_104 : decode b_X6_works 104 = .ok (.iload_n 2, 1) := by decide +kernel
theorem d_X6_works_105 : decode b_X6_works 105 = .ok (.invokevirtual 226, 3) := by decide +kernel
theorem d_X6_works_108 : decode b_X6_works 108 = .ok (.istore 4, 2) := by decide +kernel
theorem d_X6_works_110 : decode b_X6_works 110 = .ok (.goto (-96), 3) := by decide +kernel
theorem d_X6_works_113 : decode b_X6_works 113 = .ok (.aload_n 0, 1) := by decide +kernel
theorem d_X6_works_114 : decode b_X6_works 114 = .ok (.getfield 47, 3) := by decide +kernel
theorem d_X6_works_117 : decode b_X6_works 117 = .ok (.iload_n 1, 1) := by decide +kernel
theorem d_X6_works_118 : decode b_X6_works 118 = .ok (.iload 4, 2) := by decide +kernel
theorem d_X6_works_120 : decode b_X6_works 120 = .ok (.ineg, 1) := by decide +kernel
theorem d_X6_works_121 : decode b_X6_works 121 = .ok (.iastore, 1) := by decide +kernel
theorem d_X6_works_122 : decode b_X6_works 122 = .ok (.iload 4, 2) := by decide +kernel
theorem d_X6_works_124 : decode b_X6_works 124 = .ok (.ifCond .ge 30, 3) := by decide +kernel
theorem d_X6_works_127 : decode b_X6_works 127 = .ok (.aload_n 0, 1) := by decide +kernel
theorem d_X6_works_128 : decode b_X6_works 128 = .ok (.getfield 41, 3) := by decide +kernel
theorem d_X6_works_131 : decode b_X6_works 131 = .ok (.iload_n 1, 1) := by decide +kernel
theorem d_X6_works_132 : decode b_X6_works 132 = .ok (.iconst 0, 1) := by decide +kernel
theorem d_X6_works_133 : decode b_X6_works 133 = .ok (.iastore, 1) := by decide +kernel
theorem d_X6_works_134 : decode b_X6_works 134 = .ok (.aload_n 0, 1) := by decide +kernel
theorem d_X6_works_135 : decode b_X6_works 135 = .ok (.getfield 62, 3) := by decide +kernel
theorem d_X6_works_138 : decode b_X6_works 138 = .ok (.iconst 2, 1) := by decide +kernel
theorem d_X6_works_139 : decode b_X6_works 139 = .ok (.iload_n 1, 1) := by decide +kernel
theorem d_X6_works_140 : decode b_X6_works 140 = .ok (.imul, 1) := by decide +kernel
theorem d_X6_works_141 : decode b_X6_works 141 = .ok (.iconst 0, 1) := by decide +kernel
theorem d_X6_works_142 : decode b_X6_works 142 = .ok (.iastore, 1) := by decide +kernel
theorem d_X6_works_143 : decode b_X6_works 143 = .ok (.aload_n 0, 1) := by decide +kernel
theorem d_X6_works_144 : decode b_X6_works 144 = .ok (.getfield 62, 3) := by decide +kernel
theorem d_X6_works_147 : decode b_X6_works 147 = .ok (.iconst 2, 1) := by decide +kernel
theorem d_X6_works_148 : decode b_X6_works 148 = .ok (.iload_n 1, 1) := by decide +kernel
theorem d_X6_works_149 : decode b_X6_works 149 = .ok (.imul, 1) := by decide +kernel
theorem d_X6_works_150 : decode b_X6_works 150 = .ok (.iconst 1, 1) := by decide +kernel
theorem d_X6_works_151 : decode b_X6_works 151 = .ok (.iadd, 1) := by decide +kernel
theorem d_X6_works_152 : decode b_X6_works 152 = .ok (.iconst 0, 1) := by decide +kernel
theorem d_X6_works_153 : decode b_X6_works 153 = .ok (.iastore, 1) := by decide +kernel
theorem d_X6_works_154 : decode b_X6_works 154 = .ok (.iload 4, 2) := by decide +kernel
theorem d_X6_works_156 : decode b_X6_works 156 = .ok (.ineg, 1) := by decide +kernel
theorem d_X6_works_157 : decode b_X6_works 157 = .ok (.ireturn, 1) := by decide +kernel
theorem d_X6_arrive_0 : decode b_X6_arrive 0 = .ok (.iconst 0, 1) := by decide +kernel
theorem d_X6_arrive_1 : decode b_X6_arrive 1 = .ok (.istore 6, 2) := by decide +kernel
theorem d_X6_arrive_3 : decode b_X6_arrive 3 = .ok (.iconst 0, 1) := by decide +kernel
theorem d_X6_arrive_4 : decode b_X6_arrive 4 = .ok (.istore 7, 2) := by decide +kernel
theorem d_X6_arrive_6 : decode b_X6_arrive 6 = .ok (.iload 7, 2) := by decide +kernel
theorem d_X6_arrive_8 : decode b_X6_arrive 8 = .ok (.iload 5, 2) := by decide +kernel
theorem d_X6_arrive_10 : decode b_X6_arrive 10 = .ok (.if_icmp .ge 35, 3) := by decide +kernel
theorem d_X6_arrive_13 : decode b_X6_arrive 13 = .ok (.iload 6, 2) := by decide +kernel
theorem d_X6_arrive_15 : decode b_X6_arrive 15 = .ok (.ifCond .ne 30, 3) := by decide +kernel
theorem d_X6_arrive_18 : decode b_X6_arrive 18 = .ok (.aload_n 0, 1) := by decide +kernel
theorem d_X6_arrive_19 : decode b_X6_arrive 19 = .ok (.iload_n 1, 1) := by decide +kernel
theorem d_X6_arrive_20 : decode b_X6_arrive 20 = .ok (.iload_n 2, 1) := by decide +kernel
theorem d_X6_arrive_21 : decode b_X6_arrive 21 = .ok (.aload_n 3, 1) := by decide +kernel
theorem d_X6_arrive_22 : decode b_X6_arrive 22 = .ok (.iload 4, 2) := by decide +kernel
theorem d_X6_arrive_24 : decode b_X6_arrive 24 = .ok (.iload 7, 2) := by decide +kernel
theorem d_X6_arrive_26 : decode b_X6_arrive 26 = .ok (.iadd, 1) := by decide +kernel
theorem d_X6_arrive_27 : decode b_X6_arrive 27 = .ok (.iaload, 1) := by decide +kernel
theorem d_X6_arrive_28 : decode b_X6_arrive 28 = .ok (.invokevirtual 233, 3) := by decide +kernel
theorem d_X6_arrive_31 : decode b_X6_arrive 31 = .ok (.aload_n 0, 1) := by decide +kernel
theorem d_X6_arrive_32 : decode b_X6_arrive 32 = .ok (.iload_n 1, 1) := by decide +kernel
theorem d_X6_arrive_33 : decode b_X6_arrive 33 = .ok (.iload_n 2, 1) := by decide +kernel
theorem d_X6_arrive_34 : decode b_X6_arrive 34 = .ok (.invokevirtual 236, 3) := by decide +kernel
theorem d_X6_arrive_37 : decode b_X6_arrive 37 = .ok (.istore 6, 2) := by decide +kernel
theorem d_X6_arrive_39 : decode b_X6_arrive 39 = .ok (.iinc 7 1, 3) := by decide +kernel
theorem d_X6_arrive_42 : decode b_X6_arrive 42 = .ok (.goto (-36), 3) := by decide +kernel
theorem d_X6_arrive_45 : decode b_X6_arrive 45 = .ok (.iload 6, 2) := by decide +kernel
theorem d_X6_arrive_47 : decode b_X6_arrive 47 = .ok (.ireturn, 1) := by decide +kernel
theorem d_X6_take_0 : decode b_X6_take 0 = .ok (.aload_n 0, 1) := by decide +kernel
theorem d_X6_take_1 : decode b_X6_take 1 = .ok (.iload_n 1, 1) := by decide +kernel
theorem d_X6_take_2 : decode b_X6_take 2 = .ok (.iconst 2, 1) := by decide +kernel
theorem d_X6_take_3 : decode b_X6_take 3 = .ok (.invokestatic 189, 3) := by decide +kernel
theorem d_X6_take_6 : decode b_X6_take 6 = .ok (.ifCond .ne 11, 3) := by decide +kernel
theorem d_X6_take_9 : decode b_X6_take 9 = .ok (.iload_n 2, 1) := by decide +kernel
theorem d_X6_take_10 : decode b_X6_take 10 = .ok (.iconst 2, 1) := by decide +kernel
theorem d_X6_take_11 : decode b_X6_take 11 = .ok (.invokestatic 189, 3) := by decide +kernel
theorem d_X6_take_14 : decode b_X6_take 14 = .ok (.ifCond .eq 7, 3) := by decide +kernel
theorem d_X6_take_17 : decode b_X6_take 17 = .ok (.iconst 1, 1) := by decide +kernel
theorem d_X6_take_18 : decode b_X6_take 18 = .ok (.goto 4, 3) := by decide +kernel
theorem d_X6_take_21 : decode b_X6_take 21 = .ok (.iconst 0, 1) := by decide +kernel
theorem d_X6_take_22 : decode b_X6_take 22 = .ok (.iconst 1, 1) := by decide +kernel
theorem d_X6_take_23 : decode b_X6_take 23 = .ok (.invokevirtual 180, 3) := by decide +kernel
theorem d_X6_take_26 : decode b_X6_take 26 = .ok (.ifCond .ne 34, 3) := by decide +kernel
theorem d_X6_take_29 : decode b_X6_take 29 = .ok (.aload_n 0, 1) := by decide +kernel
theorem d_X6_take_30 : decode b_X6_take 30 = .ok (.aload_n 0, 1) := by decide +kernel
theorem d_X6_take_31 : decode b_X6_take 31 = .ok (.getfield 38, 3) := by decide +kernel
theorem d_X6_take_34 : decode b_X6_take 34 = .ok (.iload_n 1, 1) := by decide +kernel
theorem d_X6_take_35 : decode b_X6_take 35 = .ok (.baload, 1) := by decide +kernel
theorem d_X6_take_36 : decode b_X6_take 36 = .ok (.ifCond .eq 12, 3) := by decide +kernel
theorem d_X6_take_39 : decode b_X6_take 39 = .ok (.aload_n 0, 1) := by decide +kernel
theorem d_X6_take_40 : decode b_X6_take 40 = .ok (.getfield 47, 3) := by decide +kernel
theorem d_X6_take_43 : decode b_X6_take 43 = .ok (.iload_n 1, 1) := by decide +kernel
theorem d_X6_take_44 : decode b_X6_take 44 = .ok (.iaload, 1) := by decide +kernel
theorem d_X6_take_45 : decode b_X6_take 45 = .ok (.ifCond .le 7, 3) := by decide +kernel
theorem d_X6_take_48 : decode b_X6_take 48 = .ok (.iconst 1, 1) := by decide +kernel
theorem d_X6_take_49 : decode b_X6_take 49 = .ok (.goto 4, 3) := by decide +kernel
theorem d_X6_take_52 : decode b_X6_take 52 = .ok (.iconst 0, 1) := by decide +kernel
theorem d_X6_take_53 : decode b_X6_take 53 = .ok (.iconst 2, 1) := by decide +kernel
theorem d_X6_take_54 : decode b_X6_take 54 = .ok (.invokevirtual 180, 3) := by decide +kernel
theorem d_X6_take_57 : decode b_X6_take 57 = .ok (.ifCond .eq 5, 3) := by decide +kernel
theorem d_X6_take_60 : decode b_X6_take 60 = .ok (.iconst 0, 1) := by decide +kernel
theorem d_X6_take_61 : decode b_X6_take 61 = .ok (.ireturn, 1) := by decide +kernel
theorem d_X6_take_62 : decode b_X6_take 62 = .ok (.aload_n 0, 1) := by decide +kernel
theorem d_X6_take_63 : decode b_X6_take 63 = .ok (.getfield 184, 3) := by decide +kernel
theorem d_X6_take_66 : decode b_X6_take 66 = .ok (.istore_n 3, 1) := by decide +kernel
theorem d_X6_take_67 : decode b_X6_take 67 = .ok (.aload_n 0, 1) := by decide +kernel
theorem d_X6_take_68 : decode b_X6_take 68 = .ok (.iconst 0, 1) := by decide +kernel
theorem d_X6_take_69 : decode b_X6_take 69 = .ok (.putfield 184, 3) := by decide +kernel
theorem d_X6_take_72 : decode b_X6_take 72 = .ok (.aload_n 0, 1) := by decide +kernel
theorem d_X6_take_73 : decode b_X6_take 73 = .ok (.iload_n 1, 1) := by decide +kernel
theorem d_X6_take_74 : decode b_X6_take 74 = .ok (.iload_n 2, 1) := by decide +kernel
theorem d_X6_take_75 : decode b_X6_take 75 = .ok (.aload_n 0, 1) := by decide +kernel
theorem d_X6_take_76 : decode b_X6_take 76 = .ok (.getfield 7, 3) := by decide +kernel
theorem d_X6_take_79 : decode b_X6_take 79 = .ok (.iconst 0, 1) := by decide +kernel
theorem d_X6_take_80 : decode b_X6_take 80 = .ok (.iload_n 3, 1) := by decide +kernel
theorem d_X6_take_81 : decode b_X6_take 81 = .ok (.invokevirtual 239, 3) := by decide +kernel
theorem d_X6_take_84 : decode b_X6_take 84 = .ok (.ireturn, 1) := by decide +kernel
theorem d_X6_carry_0 : decode b_X6_carry 0 = .ok (.aload_n 0, 1) := by decide +kernel
theorem d_X6_carry_1 : decode b_X6_carry 1 = .ok (.iload_n 1, 1) := by decide +kernel
theorem d_X6_carry_2 : decode b_X6_carry 2 = .ok (.iconst 2, 1) := by decide +kernel
theorem d_X6_carry_3 : decode b_X6_carry 3 = .ok (.invokestatic 189, 3) := by decide +kernel
theorem d_X6_carry_6 : decode b_X6_carry 6 = .ok (.ifCond .ne 16, 3) := by decide +kernel
theorem d_X6_carry_9 : decode b_X6_carry 9 = .ok (.iload_n 2, 1) := by decide +kernel
theorem d_X6_carry_10 : decode b_X6_carry 10 = .ok (.iconst 2, 1) := by decide +kernel
theorem d_X6_carry_11 : decode b_X6_carry 11 = .ok (.invokestatic 189, 3) := by decide +kernel
theorem d_X6_carry_14 : decode b_X6_carry 14 = .ok (.ifCond .ne 8, 3) := by decide +kernel
theorem d_X6_carry_17 : decode b_X6_carry 17 = .ok (.iload_n 3, 1) := by decide +kernel
theorem d_X6_carry_18 : decode b_X6_carry 18 = .ok (.iconst 1, 1) := by decide +kernel
theorem d_X6_carry_19 : decode b_X6_carry 19 = .ok (.if_icmp .ge 7, 3) := by decide +kernel
theorem d_X6_carry_22 : decode b_X6_carry 22 = .ok (.iconst 1, 1) := by decide +kernel
theorem d_X6_carry_23 : decode b_X6_carry 23 = .ok (.goto 4, 3) := by decide +kernel
theorem d_X6_carry_26 : decode b_X6_carry 26 = .ok (.iconst 0, 1) := by decide +kernel
theorem d_X6_carry_27 : decode b_X6_carry 27 = .ok (.iconst 1, 1) := by decide +kernel
theorem d_X6_carry_28 : decode b_X6_carry 28 = .ok (.invokevirtual 180, 3) := by decide +kernel
theorem d_X6_carry_31 : decode b_X6_carry 31 = .ok (.ifCond .ne 38, 3) := by decide +kernel
theorem d_X6_carry_34 : decode b_X6_carry 34 = .ok (.aload_n 0, 1) := by decide +kernel
theorem d_X6_carry_35 : decode b_X6_carry 35 = .ok (.aload_n 0, 1) := by decide +kernel
theorem d_X6_carry_36 : decode b_X6_carry 36 = .ok (.getfield 38, 3) := by decide +kernel
theorem d_X6_carry_39 : decode b_X6_carry 39 = .ok (.iconst 1, 1) := by decide +kernel
theorem d_X6_carry_40 : decode b_X6_carry 40 = .ok (.iload_n 1, 1) := by decide +kernel
theorem d_X6_carry_41 : decode b_X6_carry 41 = .ok (.isub, 1) := by decide +kernel
theorem d_X6_carry_42 : decode b_X6_carry 42 = .ok (.baload, 1) := by decide +kernel
theorem d_X6_carry_43 : decode b_X6_carry 43 = .ok (.ifCond .eq 14, 3) := by decide +kernel
theorem d_X6_carry_46 : decode b_X6_carry 46 = .ok (.aload_n 0, 1) := by decide +kernel
theorem d_X6_carry_47 : decode b_X6_carry 47 = .ok (.getfield 47, 3) := by decide +kernel
theorem d_X6_carry_50 : decode b_X6_carry 50 = .ok (.iconst 1, 1) := by decide +kernel
theorem d_X6_carry_51 : decode b_X6_carry 51 = .ok (.iload_n 1, 1) := by decide +kernel
theorem d_X6_carry_52 : decode b_X6_carry 52 = .ok (.isub, 1) := by decide +kernel
theorem d_X6_carry_53 : decode b_X6_carry 53 = .ok (.iaload, 1) := by decide +kernel
theorem d_X6_carry_54 : decode b_X6_carry 54 = .ok (.ifCond .le 7, 3) := by decide +kernel
theorem d_X6_carry_57 : decode b_X6_carry 57 = .ok (.iconst 1, 1) := by decide +kernel
theorem d_X6_carry_58 : decode b_X6_carry 58 = .ok (.goto 4, 3) := by decide +kernel
theorem d_X6_carry_61 : decode b_X6_carry 61 = .ok (.iconst 0, 1) := by decide +kernel
theorem d_X6_carry_62 : decode b_X6_carry 62 = .ok (.iconst 2, 1) := by decide +kernel
theorem d_X6_carry_63 : decode b_X6_carry 63 = .ok (.invokevirtual 180, 3) := by decide +kernel
theorem d_X6_carry_66 : decode b_X6_carry 66 = .ok (.ifCond .eq 5, 3) := by decide +kernel
theorem d_X6_carry_69 : decode b_X6_carry 69 = .ok (.iconst 0, 1) := by decide +kernel
theorem d_X6_carry_70 : decode b_X6_carry 70 = .ok (.ireturn, 1) := by decide +kernel
theorem d_X6_carry_71 : decode b_X6_carry 71 = .ok (.iconst 2, 1) := by decide +kernel
theorem d_X6_carry_72 : decode b_X6_carry 72 = .ok (.iload_n 1, 1) := by decide +kernel
theorem d_X6_carry_73 : decode b_X6_carry 73 = .ok (.imul, 1) := by decide +kernel
theorem d_X6_carry_74 : decode b_X6_carry 74 = .ok (.iload_n 2, 1) := by decide +kernel
theorem d_X6_carry_75 : decode b_X6_carry 75 = .ok (.iadd, 1) := by decide +kernel
theorem d_X6_carry_76 : decode b_X6_carry 76 = .ok (.istore 4, 2) := by decide +kernel
theorem d_X6_carry_78 : decode b_X6_carry 78 = .ok (.aload_n 0, 1) := by decide +kernel
theorem d_X6_carry_79 : decode b_X6_carry 79 = .ok (.getfield 53, 3) := by decide +kernel
theorem d_X6_carry_82 : decode b_X6_carry 82 = .ok (.iload 4, 2) := by decide +kernel
theorem d_X6_carry_84 : decode b_X6_carry 84 = .ok (.iaload, 1) := by decide +kernel
theorem d_X6_carry_85 : decode b_X6_carry 85 = .ok (.aload_n 0, 1) := by decide +kernel
theorem d_X6_carry_86 : decode b_X6_carry 86 = .ok (.getfield 56, 3) := by decide +kernel
theorem d_X6_carry_89 : decode b_X6_carry 89 = .ok (.iload 4, 2) := by decide +kernel
theorem d_X6_carry_91 : decode b_X6_carry 91 = .ok (.iaload, 1) := by decide +kernel
theorem d_X6_carry_92 : decode b_X6_carry 92 = .ok (.isub, 1) := by decide +kernel
theorem d_X6_carry_93 : decode b_X6_carry 93 = .ok (.istore 5, 2) := by decide +kernel
theorem d_X6_carry_95 : decode b_X6_carry 95 = .ok (.iload_n 3, 1) := by decide +kernel
theorem d_X6_carry_96 : decode b_X6_carry 96 = .ok (.iload 5, 2) := by decide +kernel
theorem d_X6_carry_98 : decode b_X6_carry 98 = .ok (.if_icmp .ge 7, 3) := by decide +kernel
theorem d_X6_carry_101 : decode b_X6_carry 101 = .ok (.iload_n 3, 1) := by decide +kernel
theorem d_X6_carry_102 : decode b_X6_carry 102 = .ok (.goto 5, 3) := by decide +kernel
theorem d_X6_carry_105 : decode b_X6_carry 105 = .ok (.iload 5, 2) := by decide +kernel
theorem d_X6_carry_107 : decode b_X6_carry 107 = .ok (.istore 6, 2) := by decide +kernel
theorem d_X6_carry_109 : decode b_X6_carry 109 = .ok (.sipush 2048, 3) := by decide +kernel
theorem d_X6_carry_112 : decode b_X6_carry 112 = .ok (.iload 4, 2) := by decide +kernel
theorem d_X6_carry_114 : decode b_X6_carry 114 = .ok (.imul, 1) := by decide +kernel
theorem d_X6_carry_115 : decode b_X6_carry 115 = .ok (.aload_n 0, 1) := by decide +kernel
theorem d_X6_carry_116 : decode b_X6_carry 116 = .ok (.getfield 56, 3) := by decide +kernel
theorem d_X6_carry_119 : decode b_X6_carry 119 = .ok (.iload 4, 2) := by decide +kernel
theorem d_X6_carry_121 : decode b_X6_carry 121 = .ok (.iaload, 1) := by decide +kernel
theorem d_X6_carry_122 : decode b_X6_carry 122 = .ok (.iadd, 1) := by decide +kernel
theorem d_X6_carry_123 : decode b_X6_carry 123 = .ok (.istore 7, 2) := by decide +kernel
theorem d_X6_carry_125 : decode b_X6_carry 125 = .ok (.aload_n 0, 1) := by decide +kernel
theorem d_X6_carry_126 : decode b_X6_carry 126 = .ok (.getfield 56, 3) := by decide +kernel
theorem d_X6_carry_129 : decode b_X6_carry 129 = .ok (.iload 4, 2) := by decide +kernel
theorem d_X6_carry_131 : decode b_X6_carry 131 = .ok (.dup2, 1) := by decide +kernel
theorem d_X6_carry_132 : decode b_X6_carry 132 = .ok (.iaload, 1) := by decide +kernel
theorem d_X6_carry_133 : decode b_X6_carry 133 = .ok (.iload 6, 2) := by decide +kernel
theorem d_X6_carry_135 : decode b_X6_carry 135 = .ok (.iadd, 1) := by decide +kernel
theorem d_X6_carry_136 : decode b_X6_carry 136 = .ok (.iastore, 1) := by decide +kernel
theorem d_X6_carry_137 : decode b_X6_carry 137 = .ok (.aload_n 0, 1) := by decide +kernel
theorem d_X6_carry_138 : decode b_X6_carry 138 = .ok (.iconst 1, 1) := by decide +kernel
theorem d_X6_carry_139 : decode b_X6_carry 139 = .ok (.iload_n 1, 1) := by decide +kernel
theorem d_X6_carry_140 : decode b_X6_carry 140 = .ok (.isub, 1) := by decide +kernel
theorem d_X6_carry_141 : decode b_X6_carry 141 = .ok (.iload_n 2, 1) := by decide +kernel
theorem d_X6_carry_142 : decode b_X6_carry 142 = .ok (.aload_n 0, 1) := by decide +kernel
theorem d_X6_carry_143 : decode b_X6_carry 143 = .ok (.getfield 50, 3) := by decide +kernel
theorem d_X6_carry_146 : decode b_X6_carry 146 = .ok (.iload 7, 2) := by decide +kernel
theorem d_X6_carry_148 : decode b_X6_carry 148 = .ok (.iload 6, 2) := by decide +kernel
theorem d_X6_carry_150 : decode b_X6_carry 150 = .ok (.invokevirtual 239, 3) := by decide +kernel
theorem d_X6_carry_153 : decode b_X6_carry 153 = .ok (.ireturn, 1) := by decide +kernel
theorem d_X6_sent_0 : decode b_X6_sent 0 = .ok (.aload_n 0, 1) := by decide +kernel
theorem d_X6_sent_1 : decode b_X6_sent 1 = .ok (.iload_n 1, 1) := by decide +kernel
theorem d_X6_sent_2 : decode b_X6_sent 2 = .ok (.iconst 2, 1) := by decide +kernel
theorem d_X6_sent_3 : decode b_X6_sent 3 = .ok (.invokestatic 189, 3) := by decide +kernel
theorem d_X6_sent_6 : decode b_X6_sent 6 = .ok (.ifCond .ne 11, 3) := by decide +kernel
theorem d_X6_sent_9 : decode b_X6_sent 9 = .ok (.iload_n 2, 1) := by decide +kernel
theorem d_X6_sent_10 : decode b_X6_sent 10 = .ok (.iconst 2, 1) := by decide +kernel
theorem d_X6_sent_11 : decode b_X6_sent 11 = .ok (.invokestatic 189, 3) := by decide +kernel
theorem d_X6_sent_14 : decode b_X6_sent 14 = .ok (.ifCond .eq 7, 3) := by decide +kernel
theorem d_X6_sent_17 : decode b_X6_sent 17 = .ok (.iconst 1, 1) := by decide +kernel
theorem d_X6_sent_18 : decode b_X6_sent 18 = .ok (.goto 4, 3) := by decide +kernel
theorem d_X6_sent_21 : decode b_X6_sent 21 = .ok (.iconst 0, 1) := by decide +kernel
theorem d_X6_sent_22 : decode b_X6_sent 22 = .ok (.iconst 1, 1) := by decide +kernel
theorem d_X6_sent_23 : decode b_X6_sent 23 = .ok (.invokevirtual 180, 3) := by decide +kernel
theorem d_X6_sent_26 : decode b_X6_sent 26 = .ok (.ifCond .ne 25, 3) := by decide +kernel
theorem d_X6_sent_29 : decode b_X6_sent 29 = .ok (.aload_n 0, 1) := by decide +kernel
theorem d_X6_sent_30 : decode b_X6_sent 30 = .ok (.iload_n 3, 1) := by decide +kernel
theorem d_X6_sent_31 : decode b_X6_sent 31 = .ok (.aload_n 0, 1) := by decide +kernel
theorem d_X6_sent_32 : decode b_X6_sent 32 = .ok (.getfield 53, 3) := by decide +kernel
theorem d_X6_sent_35 : decode b_X6_sent 35 = .ok (.iconst 2, 1) := by decide +kernel
theorem d_X6_sent_36 : decode b_X6_sent 36 = .ok (.iload_n 1, 1) := by decide +kernel
theorem d_X6_sent_37 : decode b_X6_sent 37 = .ok (.imul, 1) := by decide +kernel
theorem d_X6_sent_38 : decode b_X6_sent 38 = .ok (.iload_n 2, 1) := by decide +kernel
theorem d_X6_sent_39 : decode b_X6_sent 39 = .ok (.iadd, 1) := by decide +kernel
theorem d_X6_sent_40 : decode b_X6_sent 40 = .ok (.iaload, 1) := by decide +kernel
theorem d_X6_sent_41 : decode b_X6_sent 41 = .ok (.invokestatic 189, 3) := by decide +kernel
theorem d_X6_sent_44 : decode b_X6_sent 44 = .ok (.iconst 2, 1) := by decide +kernel
theorem d_X6_sent_45 : decode b_X6_sent 45 = .ok (.invokevirtual 180, 3) := by decide +kernel
theorem d_X6_sent_48 : decode b_X6_sent 48 = .ok (.ifCond .eq 5, 3) := by decide +kernel
theorem d_X6_sent_51 : decode b_X6_sent 51 = .ok (.iconst 0, 1) := by decide +kernel
theorem d_X6_sent_52 : decode b_X6_sent 52 = .ok (.ireturn, 1) := by decide +kernel
theorem d_X6_sent_53 : decode b_X6_sent 53 = .ok (.aload_n 0, 1) := by decide +kernel
theorem d_X6_sent_54 : decode b_X6_sent 54 = .ok (.getfield 50, 3) := by decide +kernel
theorem d_X6_sent_57 : decode b_X6_sent 57 = .ok (.sipush 2048, 3) := by decide +kernel
theorem d_X6_sent_60 : decode b_X6_sent 60 = .ok (.iconst 2, 1) := by decide +kernel
theorem d_X6_sent_61 : decode b_X6_sent 61 = .ok (.iload_n 1, 1) := by decide +kernel
theorem d_X6_sent_62 : decode b_X6_sent 62 = .ok (.imul, 1) := by decide +kernel
theorem d_X6_sent_63 : decode b_X6_sent 63 = .ok (.iload_n 2, 1) := by decide +kernel
theorem d_X6_sent_64 : decode b_X6_sent 64 = .ok (.iadd, 1) := by decide +kernel
theorem d_X6_sent_65 : decode b_X6_sent 65 = .ok (.imul, 1) := by decide +kernel
theorem d_X6_sent_66 : decode b_X6_sent 66 = .ok (.iload_n 3, 1) := by decide +kernel
theorem d_X6_sent_67 : decode b_X6_sent 67 = .ok (.iadd, 1) := by decide +kernel
theorem d_X6_sent_68 : decode b_X6_sent 68 = .ok (.iaload, 1) := by decide +kernel
theorem d_X6_sent_69 : decode b_X6_sent 69 = .ok (.ireturn, 1) := by decide +kernel
theorem d_X6_hasSecrets_0 : decode b_X6_hasSecrets 0 = .ok (.iload_n 2, 1) := by decide +kernel
theorem d_X6_hasSecrets_1 : decode b_X6_hasSecrets 1 = .ok (.ifCond .ne 20, 3) := by decide +kernel
theorem d_X6_hasSecrets_4 : decode b_X6_hasSecrets 4 = .ok (.aload_n 0, 1) := by decide +kernel
theorem d_X6_hasSecrets_5 : decode b_X6_hasSecrets 5 = .ok (.getfield 35, 3) := by decide +kernel
theorem d_X6_hasSecrets_8 : decode b_X6_hasSecrets 8 = .ok (.iload_n 1, 1) := by decide +kernel
theorem d_X6_hasSecrets_9 : decode b_X6_hasSecrets 9 = .ok (.iaload, 1) := by decide +kernel
theorem d_X6_hasSecrets_10 : decode b_X6_hasSecrets 10 = .ok (.ifCond .le 7, 3) := by decide +kernel
theorem d_X6_hasSecrets_13 : decode b_X6_hasSecrets 13 = .ok (.iconst 1, 1) := by decide +kernel
theorem d_X6_hasSecrets_14 : decode b_X6_hasSecrets 14 = .ok (.goto 22, 3) := by decide +kernel
theorem d_X6_hasSecrets_17 : decode b_X6_hasSecrets 17 = .ok (.iconst 0, 1) := by decide +kernel
theorem d_X6_hasSecrets_18 : decode b_X6_hasSecrets 18 = .ok (.goto 18, 3) := by decide +kernel
theorem d_X6_hasSecrets_21 : decode b_X6_hasSecrets 21 = .ok (.iload_n 2, 1) := by decide +kernel
theorem d_X6_hasSecrets_22 : decode b_X6_hasSecrets 22 = .ok (.aload_n 0, 1) := by decide +kernel
theorem d_X6_hasSecrets_23 : decode b_X6_hasSecrets 23 = .ok (.getfield 80, 3) := by decide +kernel
theorem d_X6_hasSecrets_26 : decode b_X6_hasSecrets 26 = .ok (.iload_n 1, 1) := by decide +kernel
theorem d_X6_hasSecrets_27 : decode b_X6_hasSecrets 27 = .ok (.iaload, 1) := by decide +kernel
theorem d_X6_hasSecrets_28 : decode b_X6_hasSecrets 28 = .ok (.if_icmp .gt 7, 3) := by decide +kernel
theorem d_X6_hasSecrets_31 : decode b_X6_hasSecrets 31 = .ok (.iconst 1, 1) := by decide +kernel
theorem d_X6_hasSecrets_32 : decode b_X6_hasSecrets 32 = .ok (.goto 4, 3) := by decide +kernel
theorem d_X6_hasSecrets_35 : decode b_X6_hasSecrets 35 = .ok (.iconst 0, 1) := by decide +kernel
theorem d_X6_hasSecrets_36 : decode b_X6_hasSecrets 36 = .ok (.ireturn, 1) := by decide +kernel
theorem d_X6_secret_0 : decode b_X6_secret 0 = .ok (.aload_n 0, 1) := by decide +kernel
theorem d_X6_secret_1 : decode b_X6_secret 1 = .ok (.iload_n 1, 1) := by decide +kernel
theorem d_X6_secret_2 : decode b_X6_secret 2 = .ok (.iconst 2, 1) := by decide +kernel
theorem d_X6_secret_3 : decode b_X6_secret 3 = .ok (.invokestatic 189, 3) := by decide +kernel
theorem d_X6_secret_6 : decode b_X6_secret 6 = .ok (.ifCond .ne 29, 3) := by decide +kernel
theorem d_X6_secret_9 : decode b_X6_secret 9 = .ok (.iload_n 2, 1) := by decide +kernel
theorem d_X6_secret_10 : decode b_X6_secret 10 = .ok (.iconst 3, 1) := by decide +kernel
theorem d_X6_secret_11 : decode b_X6_secret 11 = .ok (.invokestatic 189, 3) := by decide +kernel
theorem d_X6_secret_14 : decode b_X6_secret 14 = .ok (.ifCond .ne 21, 3) := by decide +kernel
theorem d_X6_secret_17 : decode b_X6_secret 17 = .ok (.iload_n 3, 1) := by decide +kernel
theorem d_X6_secret_18 : decode b_X6_secret 18 = .ok (.iconst 2, 1) := by decide +kernel
theorem d_X6_secret_19 : decode b_X6_secret 19 = .ok (.invokestatic 189, 3) := by decide +kernel
theorem d_X6_secret_22 : decode b_X6_secret 22 = .ok (.ifCond .ne 13, 3) := by decide +kernel
theorem d_X6_secret_25 : decode b_X6_secret 25 = .ok (.iload 4, 2) := by decide +kernel
theorem d_X6_secret_27 : decode b_X6_secret 27 = .ok (.bipush 32, 2) := by decide +kernel
theorem d_X6_secret_29 : decode b_X6_secret 29 = .ok (.invokestatic 189, 3) := by decide +kernel
theorem d_X6_secret_32 : decode b_X6_secret 32 = .ok (.ifCond .eq 7, 3) := by decide +kernel
theorem d_X6_secret_35 : decode b_X6_secret 35 = .ok (.iconst 1, 1) := by decide +kernel
theorem d_X6_secret_36 : decode b_X6_secret 36 = .ok (.goto 4, 3) := by decide +kernel
theorem d_X6_secret_39 : decode b_X6_secret 39 = .ok (.iconst 0, 1) := by decide +kernel
theorem d_X6_secret_40 : decode b_X6_secret 40 = .ok (.iconst 1, 1) := by decide +kernel
theorem d_X6_secret_41 : decode b_X6_secret 41 = .ok (.invokevirtual 180, 3) := by decide +kernel
theorem d_X6_secret_44 : decode b_X6_secret 44 = .ok (.ifCond .ne 25, 3) := by decide +kernel
theorem d_X6_secret_47 : decode b_X6_secret 47 = .ok (.aload_n 0, 1) := by decide +kernel
theorem d_X6_secret_48 : decode b_X6_secret 48 = .ok (.aload_n 0, 1) := by decide +kernel
theorem d_X6_secret_49 : decode b_X6_secret 49 = .ok (.iload_n 1, 1) := by decide +kernel
theorem d_X6_secret_50 : decode b_X6_secret 50 = .ok (.iload_n 2, 1) := by decide +kernel
theorem d_X6_secret_51 : decode b_X6_secret 51 = .ok (.invokevirtual 243, 3) := by decide +kernel
theorem d_X6_secret_54 : decode b_X6_secret 54 = .ok (.ifCond .ne 7, 3) := by decide +kernel
theorem d_X6_secret_57 : decode b_X6_secret 57 = .ok (.iconst 1, 1) := by decide +kernel
theorem d_X6_secret_58 : decode b_X6_secret 58 = .ok (.goto 4, 3) := by decide +kernel
theorem d_X6_secret_61 : decode b_X6_secret 61 = .ok (.iconst 0, 1) := by decide +kernel
theorem d_X6_secret_62 : decode b_X6_secret 62 = .ok (.iconst 2, 1) := by decide +kernel
theorem d_X6_secret_63 : decode b_X6_secret 63 = .ok (.invokevirtual 180, 3) := by decide +kernel
theorem d_X6_secret_66 : decode b_X6_secret 66 = .ok (.ifCond .eq 5, 3) := by decide +kernel
theorem d_X6_secret_69 : decode b_X6_secret 69 = .ok (.iconst 0, 1) := by decide +kernel
theorem d_X6_secret_70 : decode b_X6_secret 70 = .ok (.ireturn, 1) := by decide +kernel
theorem d_X6_secret_71 : decode b_X6_secret 71 = .ok (.aload_n 0, 1) := by decide +kernel
theorem d_X6_secret_72 : decode b_X6_secret 72 = .ok (.getfield 77, 3) := by decide +kernel
theorem d_X6_secret_75 : decode b_X6_secret 75 = .ok (.bipush 32, 2) := by decide +kernel
theorem d_X6_secret_77 : decode b_X6_secret 77 = .ok (.bipush 6, 2) := by decide +kernel
theorem d_X6_secret_79 : decode b_X6_secret 79 = .ok (.iload_n 1, 1) := by decide +kernel
theorem d_X6_secret_80 : decode b_X6_secret 80 = .ok (.imul, 1) := by decide +kernel
theorem d_X6_secret_81 : decode b_X6_secret 81 = .ok (.iconst 2, 1) := by decide +kernel
theorem d_X6_secret_82 : decode b_X6_secret 82 = .ok (.iload_n 2, 1) := by decide +kernel
theorem d_X6_secret_83 : decode b_X6_secret 83 = .ok (.imul, 1) := by decide +kernel
theorem d_X6_secret_84 : decode b_X6_secret 84 = .ok (.iadd, 1) := by decide +kernel
theorem d_X6_secret_85 : decode b_X6_secret 85 = .ok (.iload_n 3, 1) := by decide +kernel
theorem d_X6_secret_86 : decode b_X6_secret 86 = .ok (.iadd, 1) := by decide +kernel
theorem d_X6_secret_87 : decode b_X6_secret 87 = .ok (.imul, 1) := by decide +kernel
theorem d_X6_secret_88 : decode b_X6_secret 88 = .ok (.iload 4, 2) := by decide +kernel
theorem d_X6_secret_90 : decode b_X6_secret 90 = .ok (.iadd, 1) := by decide +kernel
theorem d_X6_secret_91 : decode b_X6_secret 91 = .ok (.iaload, 1) := by decide +kernel
theorem d_X6_secret_92 : decode b_X6_secret 92 = .ok (.ireturn, 1) := by decide +kernel
theorem d_X6_theirs_0 : decode b_X6_theirs 0 = .ok (.aload_n 0, 1) := by decide +kernel
theorem d_X6_theirs_1 : decode b_X6_theirs 1 = .ok (.iload_n 1, 1) := by decide +kernel
theorem d_X6_theirs_2 : decode b_X6_theirs 2 = .ok (.iconst 2, 1) := by decide +kernel
theorem d_X6_theirs_3 : decode b_X6_theirs 3 = .ok (.invokestatic 189, 3) := by decide +kernel
theorem d_X6_theirs_6 : decode b_X6_theirs 6 = .ok (.iconst 1, 1) := by decide +kernel
theorem d_X6_theirs_7 : decode b_X6_theirs 7 = .ok (.invokevirtual 180, 3) := by decide +kernel
theorem d_X6_theirs_10 : decode b_X6_theirs 10 = .ok (.ifCond .ne 21, 3) := by decide +kernel
theorem d_X6_theirs_13 : decode b_X6_theirs 13 = .ok (.aload_n 0, 1) := by decide +kernel
theorem d_X6_theirs_14 : decode b_X6_theirs 14 = .ok (.iload_n 2, 1) := by decide +kernel
theorem d_X6_theirs_15 : decode b_X6_theirs 15 = .ok (.aload_n 0, 1) := by decide +kernel
theorem d_X6_theirs_16 : decode b_X6_theirs 16 = .ok (.getfield 68, 3) := by decide +kernel
theorem d_X6_theirs_19 : decode b_X6_theirs 19 = .ok (.iload_n 1, 1) := by decide +kernel
theorem d_X6_theirs_20 : decode b_X6_theirs 20 = .ok (.iaload, 1) := by decide +kernel
theorem d_X6_theirs_21 : decode b_X6_theirs 21 = .ok (.invokestatic 189, 3) := by decide +kernel
theorem d_X6_theirs_24 : decode b_X6_theirs 24 = .ok (.iconst 2, 1) := by decide +kernel
theorem d_X6_theirs_25 : decode b_X6_theirs 25 = .ok (.invokevirtual 180, 3) := by decide +kernel
theorem d_X6_theirs_28 : decode b_X6_theirs 28 = .ok (.ifCond .eq 5, 3) := by decide +kernel
theorem d_X6_theirs_31 : decode b_X6_theirs 31 = .ok (.iconst 0, 1) := by decide +kernel
theorem d_X6_theirs_32 : decode b_X6_theirs 32 = .ok (.ireturn, 1) := by decide +kernel
theorem d_X6_theirs_33 : decode b_X6_theirs 33 = .ok (.aload_n 0, 1) := by decide +kernel
theorem d_X6_theirs_34 : decode b_X6_theirs 34 = .ok (.getfield 65, 3) := by decide +kernel
theorem d_X6_theirs_37 : decode b_X6_theirs 37 = .ok (.sipush 300, 3) := by decide +kernel
theorem d_X6_theirs_40 : decode b_X6_theirs 40 = .ok (.iload_n 1, 1) := by decide +kernel
theorem d_X6_theirs_41 : decode b_X6_theirs 41 = .ok (.imul, 1) := by decide +kernel
theorem d_X6_theirs_42 : decode b_X6_theirs 42 = .ok (.iload_n 2, 1) := by decide +kernel
theorem d_X6_theirs_43 : decode b_X6_theirs 43 = .ok (.iadd, 1) := by decide +kernel
theorem d_X6_theirs_44 : decode b_X6_theirs 44 = .ok (.iaload, 1) := by decide +kernel
theorem d_X6_theirs_45 : decode b_X6_theirs 45 = .ok (.ireturn, 1) := by decide +kernel
theorem d_X6_look_0 : decode b_X6_look 0 = .ok (.aload_n 0, 1) := by decide +kernel
theorem d_X6_look_1 : decode b_X6_look 1 = .ok (.iload_n 1, 1) := by decide +kernel
theorem d_X6_look_2 : decode b_X6_look 2 = .ok (.iconst 2, 1) := by decide +kernel
theorem d_X6_look_3 : decode b_X6_look 3 = .ok (.invokestatic 189, 3) := by decide +kernel
theorem d_X6_look_6 : decode b_X6_look 6 = .ok (.iconst 1, 1) := by decide +kernel
theorem d_X6_look_7 : decode b_X6_look 7 = .ok (.invokevirtual 180, 3) := by decide +kernel
theorem d_X6_look_10 : decode b_X6_look 10 = .ok (.ifCond .ne 17, 3) := by decide +kernel
theorem d_X6_look_13 : decode b_X6_look 13 = .ok (.aload_n 0, 1) := by decide +kernel
theorem d_X6_look_14 : decode b_X6_look 14 = .ok (.iload_n 2, 1) := by decide +kernel
theorem d_X6_look_15 : decode b_X6_look 15 = .ok (.bipush 12, 2) := by decide +kernel
theorem d_X6_look_17 : decode b_X6_look 17 = .ok (.invokestatic 189, 3) := by decide +kernel
theorem d_X6_look_20 : decode b_X6_look 20 = .ok (.iconst 2, 1) := by decide +kernel
theorem d_X6_look_21 : decode b_X6_look 21 = .ok (.invokevirtual 180, 3) := by decide +kernel
theorem d_X6_look_24 : decode b_X6_look 24 = .ok (.ifCond .eq 5, 3) := by decide +kernel
theorem d_X6_look_27 : decode b_X6_look 27 = .ok (.iconst 0, 1) := by decide +kernel
theorem d_X6_look_28 : decode b_X6_look 28 = .ok (.ireturn, 1) := by decide +kernel
theorem d_X6_look_29 : decode b_X6_look 29 = .ok (.iload_n 2, 1) := by decide +kernel
theorem d_X6_look_30 : decode b_X6_look 30 = .ok (.tableswitch 191 0 10 #[58, 65, 80, 95, 102, 111, 122, 131, 142, 149, 182], 58) := by decide +kernel
theorem d_X6_look_88 : decode b_X6_look 88 = .ok (.aload_n 0, 1) := by decide +kernel
theorem d_X6_look_89 : decode b_X6_look 89 = .ok (.getfield 41, 3) := by decide +kernel
theorem d_X6_look_92 : decode b_X6_look 92 = .ok (.iload_n 1, 1) := by decide +kernel
theorem d_X6_look_93 : decode b_X6_look 93 = .ok (.iaload, 1) := by decide +kernel
theorem d_X6_look_94 : decode b_X6_look 94 = .ok (.ireturn, 1) := by decide +kernel
theorem d_X6_look_95 : decode b_X6_look 95 = .ok (.aload_n 0, 1) := by decide +kernel
theorem d_X6_look_96 : decode b_X6_look 96 = .ok (.getfield 38, 3) := by decide +kernel
theorem d_X6_look_99 : decode b_X6_look 99 = .ok (.iload_n 1, 1) := by decide +kernel
theorem d_X6_look_100 : decode b_X6_look 100 = .ok (.baload, 1) := by decide +kernel
theorem d_X6_look_101 : decode b_X6_look 101 = .ok (.ifCond .eq 7, 3) := by decide +kernel
theorem d_X6_look_104 : decode b_X6_look 104 = .ok (.iconst 1, 1) := by decide +kernel
theorem d_X6_look_105 : decode b_X6_look 105 = .ok (.goto 4, 3) := by decide +kernel
theorem d_X6_look_108 : decode b_X6_look 108 = .ok (.iconst 0, 1) := by decide +kernel
theorem d_X6_look_109 : decode b_X6_look 109 = .ok (.ireturn, 1) := by decide +kernel
theorem d_X6_look_110 : decode b_X6_look 110 = .ok (.aload_n 0, 1) := by decide +kernel
theorem d_X6_look_111 : decode b_X6_look 111 = .ok (.getfield 44, 3) := by decide +kernel
theorem d_X6_look_114 : decode b_X6_look 114 = .ok (.iload_n 1, 1) := by decide +kernel
theorem d_X6_look_115 : decode b_X6_look 115 = .ok (.baload, 1) := by decide +kernel
theorem d_X6_look_116 : decode b_X6_look 116 = .ok (.ifCond .eq 7, 3) := by decide +kernel
theorem d_X6_look_119 : decode b_X6_look 119 = .ok (.iconst 1, 1) := by decide +kernel
theorem d_X6_look_120 : decode b_X6_look 120 = .ok (.goto 4, 3) := by decide +kernel
theorem d_X6_look_123 : decode b_X6_look 123 = .ok (.iconst 0, 1) := by decide +kernel
theorem d_X6_look_124 : decode b_X6_look 124 = .ok (.ireturn, 1) := by decide +kernel
theorem d_X6_look_125 : decode b_X6_look 125 = .ok (.aload_n 0, 1) := by decide +kernel
theorem d_X6_look_126 : decode b_X6_look 126 = .ok (.getfield 47, 3) := by decide +kernel
theorem d_X6_look_129 : decode b_X6_look 129 = .ok (.iload_n 1, 1) := by decide +kernel
theorem d_X6_look_130 : decode b_X6_look 130 = .ok (.iaload, 1) := by decide +kernel
theorem d_X6_look_131 : decode b_X6_look 131 = .ok (.ireturn, 1) := by decide +kernel
theorem d_X6_look_132 : decode b_X6_look 132 = .ok (.aload_n 0, 1) := by decide +kernel
theorem d_X6_look_133 : decode b_X6_look 133 = .ok (.getfield 53, 3) := by decide +kernel
theorem d_X6_look_136 : decode b_X6_look 136 = .ok (.iconst 2, 1) := by decide +kernel
theorem d_X6_look_137 : decode b_X6_look 137 = .ok (.iload_n 1, 1) := by decide +kernel
theorem d_X6_look_138 : decode b_X6_look 138 = .ok (.imul, 1) := by decide +kernel
theorem d_X6_look_139 : decode b_X6_look 139 = .ok (.iaload, 1) := by decide +kernel
theorem d_X6_look_140 : decode b_X6_look 140 = .ok (.ireturn, 1) := by decide +kernel
theorem d_X6_look_141 : decode b_X6_look 141 = .ok (.aload_n 0, 1) := by decide +kernel
theorem d_X6_look_142 : decode b_X6_look 142 = .ok (.getfield 53, 3) := by decide +kernel
theorem d_X6_look_145 : decode b_X6_look 145 = .ok (.iconst 2, 1) := by decide +kernel
theorem d_X6_look_146 : decode b_X6_look 146 = .ok (.iload_n 1, 1) := by decide +kernel
theorem d_X6_look_147 : decode b_X6_look 147 = .ok (.imul, 1) := by decide +kernel
theorem d_X6_look_148 : decode b_X6_look 148 = .ok (.iconst 1, 1) := by decide +kernel
theorem d_X6_look_149 : decode b_X6_look 149 = .ok (.iadd, 1) := by decide +kernel
theorem d_X6_look_150 : decode b_X6_look 150 = .ok (.iaload, 1) := by decide +kernel
theorem d_X6_look_151 : decode b_X6_look 151 = .ok (.ireturn, 1) := by decide +kernel
theorem d_X6_look_152 : decode b_X6_look 152 = .ok (.aload_n 0, 1) := by decide +kernel
theorem d_X6_look_153 : decode b_X6_look 153 = .ok (.getfield 62, 3) := by decide +kernel
theorem d_X6_look_156 : decode b_X6_look 156 = .ok (.iconst 2, 1) := by decide +kernel
theorem d_X6_look_157 : decode b_X6_look 157 = .ok (.iload_n 1, 1) := by decide +kernel
theorem d_X6_look_158 : decode b_X6_look 158 = .ok (.imul, 1) := by decide +kernel
theorem d_X6_look_159 : decode b_X6_look 159 = .ok (.iaload, 1) := by decide +kernel
theorem d_X6_look_160 : decode b_X6_look 160 = .ok (.ireturn, 1) := by decide +kernel
theorem d_X6_look_161 : decode b_X6_look 161 = .ok (.aload_n 0, 1) := by decide +kernel
theorem d_X6_look_162 : decode b_X6_look 162 = .ok (.getfield 62, 3) := by decide +kernel
theorem d_X6_look_165 : decode b_X6_look 165 = .ok (.iconst 2, 1) := by decide +kernel
theorem d_X6_look_166 : decode b_X6_look 166 = .ok (.iload_n 1, 1) := by decide +kernel
theorem d_X6_look_167 : decode b_X6_look 167 = .ok (.imul, 1) := by decide +kernel
theorem d_X6_look_168 : decode b_X6_look 168 = .ok (.iconst 1, 1) := by decide +kernel
theorem d_X6_look_169 : decode b_X6_look 169 = .ok (.iadd, 1) := by decide +kernel
theorem d_X6_look_170 : decode b_X6_look 170 = .ok (.iaload, 1) := by decide +kernel
theorem d_X6_look_171 : decode b_X6_look 171 = .ok (.ireturn, 1) := by decide +kernel
theorem d_X6_look_172 : decode b_X6_look 172 = .ok (.aload_n 0, 1) := by decide +kernel
theorem d_X6_look_173 : decode b_X6_look 173 = .ok (.getfield 68, 3) := by decide +kernel
theorem d_X6_look_176 : decode b_X6_look 176 = .ok (.iload_n 1, 1) := by decide +kernel
theorem d_X6_look_177 : decode b_X6_look 177 = .ok (.iaload, 1) := by decide +kernel
theorem d_X6_look_178 : decode b_X6_look 178 = .ok (.ireturn, 1) := by decide +kernel
theorem d_X6_look_179 : decode b_X6_look 179 = .ok (.aload_n 0, 1) := by decide +kernel
theorem d_X6_look_180 : decode b_X6_look 180 = .ok (.getfield 80, 3) := by decide +kernel
theorem d_X6_look_183 : decode b_X6_look 183 = .ok (.iload_n 1, 1) := by decide +kernel
theorem d_X6_look_184 : decode b_X6_look 184 = .ok (.iaload, 1) := by decide +kernel
theorem d_X6_look_185 : decode b_X6_look 185 = .ok (.ifCond .le 12, 3) := by decide +kernel
theorem d_X6_look_188 : decode b_X6_look 188 = .ok (.aload_n 0, 1) := by decide +kernel
theorem d_X6_look_189 : decode b_X6_look 189 = .ok (.getfield 80, 3) := by decide +kernel
theorem d_X6_look_192 : decode b_X6_look 192 = .ok (.iload_n 1, 1) := by decide +kernel
theorem d_X6_look_193 : decode b_X6_look 193 = .ok (.iaload, 1) := by decide +kernel
theorem d_X6_look_194 : decode b_X6_look 194 = .ok (.goto 17, 3) := by decide +kernel
theorem d_X6_look_197 : decode b_X6_look 197 = .ok (.aload_n 0, 1) := by decide +kernel
theorem d_X6_look_198 : decode b_X6_look 198 = .ok (.getfield 35, 3) := by decide +kernel
theorem d_X6_look_201 : decode b_X6_look 201 = .ok (.iload_n 1, 1) := by decide +kernel
theorem d_X6_look_202 : decode b_X6_look 202 = .ok (.iaload, 1) := by decide +kernel
theorem d_X6_look_203 : decode b_X6_look 203 = .ok (.ifCond .le 7, 3) := by decide +kernel
theorem d_X6_look_206 : decode b_X6_look 206 = .ok (.iconst 0, 1) := by decide +kernel
theorem d_X6_look_207 : decode b_X6_look 207 = .ok (.goto 4, 3) := by decide +kernel
theorem d_X6_look_210 : decode b_X6_look 210 = .ok (.iconst (-1), 1) := by decide +kernel
theorem d_X6_look_211 : decode b_X6_look 211 = .ok (.ireturn, 1) := by decide +kernel
theorem d_X6_look_212 : decode b_X6_look 212 = .ok (.aload_n 0, 1) := by decide +kernel
theorem d_X6_look_213 : decode b_X6_look 213 = .ok (.getfield 56, 3) := by decide +kernel
theorem d_X6_look_216 : decode b_X6_look 216 = .ok (.iconst 2, 1) := by decide +kernel
theorem d_X6_look_217 : decode b_X6_look 217 = .ok (.iload_n 1, 1) := by decide +kernel
theorem d_X6_look_218 : decode b_X6_look 218 = .ok (.imul, 1) := by decide +kernel
theorem d_X6_look_219 : decode b_X6_look 219 = .ok (.iaload, 1) := by decide +kernel
theorem d_X6_look_220 : decode b_X6_look 220 = .ok (.ireturn, 1) := by decide +kernel
theorem d_X6_look_221 : decode b_X6_look 221 = .ok (.aload_n 0, 1) := by decide +kernel
theorem d_X6_look_222 : decode b_X6_look 222 = .ok (.getfield 56, 3) := by decide +kernel
theorem d_X6_look_225 : decode b_X6_look 225 = .ok (.iconst 2, 1) := by decide +kernel
theorem d_X6_look_226 : decode b_X6_look 226 = .ok (.iload_n 1, 1) := by decide +kernel
theorem d_X6_look_227 : decode b_X6_look 227 = .ok (.imul, 1) := by decide +kernel
theorem d_X6_look_228 : decode b_X6_look 228 = .ok (.iconst 1, 1) := by decide +kernel
theorem d_X6_look_229 : decode b_X6_look 229 = .ok (.iadd, 1) := by decide +kernel
theorem d_X6_look_230 : decode b_X6_look 230 = .ok (.iaload, 1) := by decide +kernel
theorem d_X6_look_231 : decode b_X6_look 231 = .ok (.ireturn, 1) := by decide +kernel
