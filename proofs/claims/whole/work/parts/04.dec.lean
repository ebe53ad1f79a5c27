theorem d_X5_init_0 : decode b_X5_init 0 = .ok (.aload_n 0, 1) := by decide +kernel
theorem d_X5_init_1 : decode b_X5_init 1 = .ok (.invokespecial 1, 3) := by decide +kernel
theorem d_X5_init_4 : decode b_X5_init 4 = .ok (.new 7, 3) := by decide +kernel
theorem d_X5_init_7 : decode b_X5_init 7 = .ok (.dup, 1) := by decide +kernel
theorem d_X5_init_8 : decode b_X5_init 8 = .ok (.invokespecial 9, 3) := by decide +kernel
theorem d_X5_init_11 : decode b_X5_init 11 = .ok (.astore_n 1, 1) := by decide +kernel
theorem d_X5_init_12 : decode b_X5_init 12 = .ok (.aload_n 0, 1) := by decide +kernel
theorem d_X5_init_13 : decode b_X5_init 13 = .ok (.new 10, 3) := by decide +kernel
theorem d_X5_init_16 : decode b_X5_init 16 = .ok (.dup, 1) := by decide +kernel
theorem d_X5_init_17 : decode b_X5_init 17 = .ok (.sipush 2048, 3) := by decide +kernel
theorem d_X5_init_20 : decode b_X5_init 20 = .ok (.invokespecial 14, 3) := by decide +kernel
theorem d_X5_init_23 : decode b_X5_init 23 = .ok (.putfield 17, 3) := by decide +kernel
theorem d_X5_init_26 : decode b_X5_init 26 = .ok (.aload_n 0, 1) := by decide +kernel
theorem d_X5_init_27 : decode b_X5_init 27 = .ok (.new 21, 3) := by decide +kernel
theorem d_X5_init_30 : decode b_X5_init 30 = .ok (.dup, 1) := by decide +kernel
theorem d_X5_init_31 : decode b_X5_init 31 = .ok (.iconst 0, 1) := by decide +kernel
theorem d_X5_init_32 : decode b_X5_init 32 = .ok (.aload_n 1, 1) := by decide +kernel
theorem d_X5_init_33 : decode b_X5_init 33 = .ok (.invokespecial 23, 3) := by decide +kernel
theorem d_X5_init_36 : decode b_X5_init 36 = .ok (.putfield 26, 3) := by decide +kernel
theorem d_X5_init_39 : decode b_X5_init 39 = .ok (.aload_n 0, 1) := by decide +kernel
theorem d_X5_init_40 : decode b_X5_init 40 = .ok (.new 21, 3) := by decide +kernel
theorem d_X5_init_43 : decode b_X5_init 43 = .ok (.dup, 1) := by decide +kernel
theorem d_X5_init_44 : decode b_X5_init 44 = .ok (.iconst 1, 1) := by decide +kernel
theorem d_X5_init_45 : decode b_X5_init 45 = .ok (.aload_n 1, 1) := by decide +kernel
theorem d_X5_init_46 : decode b_X5_init 46 = .ok (.invokespecial 23, 3) := by decide +kernel
theorem d_X5_init_49 : decode b_X5_init 49 = .ok (.putfield 30, 3) := by decide +kernel
theorem d_X5_init_52 : decode b_X5_init 52 = .ok (.return_, 1) := by decide +kernel
theorem d_X0_init_0 : decode b_X0_init 0 = .ok (.aload_n 0, 1) := by decide +kernel
theorem d_X0_init_1 : decode b_X0_init 1 = .ok (.invokespecial 5, 3) := by decide +kernel
theorem d_X0_init_4 : decode b_X0_init 4 = .ok (.aload_n 0, 1) := by decide +kernel
theorem d_X0_init_5 : decode b_X0_init 5 = .ok (.new 11, 3) := by decide +kernel
theorem d_X0_init_8 : decode b_X0_init 8 = .ok (.dup, 1) := by decide +kernel
theorem d_X0_init_9 : decode b_X0_init 9 = .ok (.iconst 0, 1) := by decide +kernel
theorem d_X0_init_10 : decode b_X0_init 10 = .ok (.invokespecial 13, 3) := by decide +kernel
theorem d_X0_init_13 : decode b_X0_init 13 = .ok (.putfield 16, 3) := by decide +kernel
theorem d_X0_init_16 : decode b_X0_init 16 = .ok (.aload_n 0, 1) := by decide +kernel
theorem d_X0_init_17 : decode b_X0_init 17 = .ok (.new 11, 3) := by decide +kernel
theorem d_X0_init_20 : decode b_X0_init 20 = .ok (.dup, 1) := by decide +kernel
theorem d_X0_init_21 : decode b_X0_init 21 = .ok (.bipush 20, 2) := by decide +kernel
theorem d_X0_init_23 : decode b_X0_init 23 = .ok (.invokespecial 13, 3) := by decide +kernel
theorem d_X0_init_26 : decode b_X0_init 26 = .ok (.putfield 20, 3) := by decide +kernel
theorem d_X0_init_29 : decode b_X0_init 29 = .ok (.iconst 1, 1) := by decide +kernel
theorem d_X0_init_30 : decode b_X0_init 30 = .ok (.istore_n 1, 1) := by decide +kernel
theorem d_X0_init_31 : decode b_X0_init 31 = .ok (.iload_n 1, 1) := by decide +kernel
theorem d_X0_init_32 : decode b_X0_init 32 = .ok (.bipush 20, 2) := by decide +kernel
theorem d_X0_init_34 : decode b_X0_init 34 = .ok (.if_icmp .gt 17, 3) := by decide +kernel
theorem d_X0_init_37 : decode b_X0_init 37 = .ok (.aload_n 0, 1) := by decide +kernel
theorem d_X0_init_38 : decode b_X0_init 38 = .ok (.getfield 20, 3) := by decide +kernel
theorem d_X0_init_41 : decode b_X0_init 41 = .ok (.iload_n 1, 1) := by decide +kernel
theorem d_X0_init_42 : decode b_X0_init 42 = .ok (.invokevirtual 23, 3) := by decide +kernel
theorem d_X0_init_45 : decode b_X0_init 45 = .ok (.iinc 1 1, 3) := by decide +kernel
theorem d_X0_init_48 : decode b_X0_init 48 = .ok (.goto (-17), 3) := by decide +kernel
theorem d_X0_init_51 : decode b_X0_init 51 = .ok (.aload_n 0, 1) := by decide +kernel
theorem d_X0_init_52 : decode b_X0_init 52 = .ok (.new 11, 3) := by decide +kernel
theorem d_X0_init_55 : decode b_X0_init 55 = .ok (.dup, 1) := by decide +kernel
theorem d_X0_init_56 : decode b_X0_init 56 = .ok (.sipush 768, 3) := by decide +kernel
theorem d_X0_init_59 : decode b_X0_init 59 = .ok (.invokespecial 13, 3) := by decide +kernel
theorem d_X0_init_62 : decode b_X0_init 62 = .ok (.putfield 26, 3) := by decide +kernel
theorem d_X0_init_65 : decode b_X0_init 65 = .ok (.aload_n 0, 1) := by decide +kernel
theorem d_X0_init_66 : decode b_X0_init 66 = .ok (.new 11, 3) := by decide +kernel
theorem d_X0_init_69 : decode b_X0_init 69 = .ok (.dup, 1) := by decide +kernel
theorem d_X0_init_70 : decode b_X0_init 70 = .ok (.bipush 32, 2) := by decide +kernel
theorem d_X0_init_72 : decode b_X0_init 72 = .ok (.invokespecial 13, 3) := by decide +kernel
theorem d_X0_init_75 : decode b_X0_init 75 = .ok (.putfield 29, 3) := by decide +kernel
theorem d_X0_init_78 : decode b_X0_init 78 = .ok (.aload_n 0, 1) := by decide +kernel
theorem d_X0_init_79 : decode b_X0_init 79 = .ok (.bipush 64, 2) := by decide +kernel
theorem d_X0_init_81 : decode b_X0_init 81 = .ok (.newarray .int, 2) := by decide +kernel
theorem d_X0_init_83 : decode b_X0_init 83 = .ok (.putfield 32, 3) := by decide +kernel
theorem d_X0_init_86 : decode b_X0_init 86 = .ok (.aload_n 0, 1) := by decide +kernel
theorem d_X0_init_87 : decode b_X0_init 87 = .ok (.bipush 8, 2) := by decide +kernel
theorem d_X0_init_89 : decode b_X0_init 89 = .ok (.newarray .int, 2) := by decide +kernel
theorem d_X0_init_91 : decode b_X0_init 91 = .ok (.putfield 36, 3) := by decide +kernel
theorem d_X0_init_94 : decode b_X0_init 94 = .ok (.return_, 1) := by decide +kernel
theorem d_X3_init_0 : decode b_X3_init 0 = .ok (.aload_n 0, 1) := by decide +kernel
theorem d_X3_init_1 : decode b_X3_init 1 = .ok (.invokespecial 1, 3) := by decide +kernel
theorem d_X3_init_4 : decode b_X3_init 4 = .ok (.aload_n 0, 1) := by decide +kernel
theorem d_X3_init_5 : decode b_X3_init 5 = .ok (.iload_n 1, 1) := by decide +kernel
theorem d_X3_init_6 : decode b_X3_init 6 = .ok (.iconst 0, 1) := by decide +kernel
theorem d_X3_init_7 : decode b_X3_init 7 = .ok (.invokestatic 7, 3) := by decide +kernel
theorem d_X3_init_10 : decode b_X3_init 10 = .ok (.newarray .int, 2) := by decide +kernel
theorem d_X3_init_12 : decode b_X3_init 12 = .ok (.putfield 13, 3) := by decide +kernel
theorem d_X3_init_15 : decode b_X3_init 15 = .ok (.aload_n 0, 1) := by decide +kernel
theorem d_X3_init_16 : decode b_X3_init 16 = .ok (.iconst 0, 1) := by decide +kernel
theorem d_X3_init_17 : decode b_X3_init 17 = .ok (.putfield 19, 3) := by decide +kernel
theorem d_X3_init_20 : decode b_X3_init 20 = .ok (.return_, 1) := by decide +kernel
theorem d_X3_put_0 : decode b_X3_put 0 = .ok (.aload_n 0, 1) := by decide +kernel
theorem d_X3_put_1 : decode b_X3_put 1 = .ok (.getfield 19, 3) := by decide +kernel
theorem d_X3_put_4 : decode b_X3_put 4 = .ok (.ifCond .lt 39, 3) := by decide +kernel
theorem d_X3_put_7 : decode b_X3_put 7 = .ok (.aload_n 0, 1) := by decide +kernel
theorem d_X3_put_8 : decode b_X3_put 8 = .ok (.getfield 19, 3) := by decide +kernel
theorem d_X3_put_11 : decode b_X3_put 11 = .ok (.aload_n 0, 1) := by decide +kernel
theorem d_X3_put_12 : decode b_X3_put 12 = .ok (.getfield 13, 3) := by decide +kernel
theorem d_X3_put_15 : decode b_X3_put 15 = .ok (.arraylength, 1) := by decide +kernel
theorem d_X3_put_16 : decode b_X3_put 16 = .ok (.if_icmp .ge 27, 3) := by decide +kernel
theorem d_X3_put_19 : decode b_X3_put 19 = .ok (.aload_n 0, 1) := by decide +kernel
theorem d_X3_put_20 : decode b_X3_put 20 = .ok (.getfield 13, 3) := by decide +kernel
theorem d_X3_put_23 : decode b_X3_put 23 = .ok (.aload_n 0, 1) := by decide +kernel
theorem d_X3_put_24 : decode b_X3_put 24 = .ok (.getfield 19, 3) := by decide +kernel
theorem d_X3_put_27 : decode b_X3_put 27 = .ok (.iload_n 1, 1) := by decide +kernel
theorem d_X3_put_28 : decode b_X3_put 28 = .ok (.sipush 255, 3) := by decide +kernel
theorem d_X3_put_31 : decode b_X3_put 31 = .ok (.iand, 1) := by decide +kernel
theorem d_X3_put_32 : decode b_X3_put 32 = .ok (.iastore, 1) := by decide +kernel
theorem d_X3_put_33 : decode b_X3_put 33 = .ok (.aload_n 0, 1) := by decide +kernel
theorem d_X3_put_34 : decode b_X3_put 34 = .ok (.dup, 1) := by decide +kernel
theorem d_X3_put_35 : decode b_X3_put 35 = .ok (.getfield 19, 3) := by decide +kernel
theorem d_X3_put_38 : decode b_X3_put 38 = .ok (.iconst 1, 1) := by decide +kernel
theorem d_X3_put_39 : decode b_X3_put 39 = .ok (.iadd, 1) := by decide +kernel
theorem d_X3_put_40 : decode b_X3_put 40 = .ok (.putfield 19, 3) := by decide +kernel
theorem d_X3_put_43 : decode b_X3_put 43 = .ok (.return_, 1) := by decide +kernel
theorem d_X4_init_0 : decode b_X4_init 0 = .ok (.aload_n 0, 1) := by decide +kernel
theorem d_X4_init_1 : decode b_X4_init 1 = .ok (.invokespecial 3, 3) := by decide +kernel
theorem d_X4_init_4 : decode b_X4_init 4 = .ok (.aload_n 0, 1) := by decide +kernel
theorem d_X4_init_5 : decode b_X4_init 5 = .ok (.iload_n 1, 1) := by decide +kernel
theorem d_X4_init_6 : decode b_X4_init 6 = .ok (.putfield 9, 3) := by decide +kernel
theorem d_X4_init_9 : decode b_X4_init 9 = .ok (.aload_n 0, 1) := by decide +kernel
theorem d_X4_init_10 : decode b_X4_init 10 = .ok (.aload_n 2, 1) := by decide +kernel
theorem d_X4_init_11 : decode b_X4_init 11 = .ok (.putfield 15, 3) := by decide +kernel
theorem d_X4_init_14 : decode b_X4_init 14 = .ok (.aload_n 0, 1) := by decide +kernel
theorem d_X4_init_15 : decode b_X4_init 15 = .ok (.new 19, 3) := by decide +kernel
theorem d_X4_init_18 : decode b_X4_init 18 = .ok (.dup, 1) := by decide +kernel
theorem d_X4_init_19 : decode b_X4_init 19 = .ok (.bipush 32, 2) := by decide +kernel
theorem d_X4_init_21 : decode b_X4_init 21 = .ok (.invokespecial 21, 3) := by decide +kernel
theorem d_X4_init_24 : decode b_X4_init 24 = .ok (.putfield 24, 3) := by decide +kernel
theorem d_X4_init_27 : decode b_X4_init 27 = .ok (.aload_n 0, 1) := by decide +kernel
theorem d_X4_init_28 : decode b_X4_init 28 = .ok (.new 19, 3) := by decide +kernel
theorem d_X4_init_31 : decode b_X4_init 31 = .ok (.dup, 1) := by decide +kernel
theorem d_X4_init_32 : decode b_X4_init 32 = .ok (.bipush 32, 2) := by decide +kernel
theorem d_X4_init_34 : decode b_X4_init 34 = .ok (.invokespecial 21, 3) := by decide +kernel
theorem d_X4_init_37 : decode b_X4_init 37 = .ok (.putfield 28, 3) := by decide +kernel
theorem d_X4_init_40 : decode b_X4_init 40 = .ok (.aload_n 0, 1) := by decide +kernel
theorem d_X4_init_41 : decode b_X4_init 41 = .ok (.new 19, 3) := by decide +kernel
theorem d_X4_init_44 : decode b_X4_init 44 = .ok (.dup, 1) := by decide +kernel
theorem d_X4_init_45 : decode b_X4_init 45 = .ok (.sipush 300, 3) := by decide +kernel
theorem d_X4_init_48 : decode b_X4_init 48 = .ok (.invokespecial 21, 3) := by decide +kernel
theorem d_X4_init_51 : decode b_X4_init 51 = .ok (.putfield 31, 3) := by decide +kernel
theorem d_X4_init_54 : decode b_X4_init 54 = .ok (.aload_n 0, 1) := by decide +kernel
theorem d_X4_init_55 : decode b_X4_init 55 = .ok (.new 19, 3) := by decide +kernel
theorem d_X4_init_58 : decode b_X4_init 58 = .ok (.dup, 1) := by decide +kernel
theorem d_X4_init_59 : decode b_X4_init 59 = .ok (.sipush 300, 3) := by decide +kernel
theorem d_X4_init_62 : decode b_X4_init 62 = .ok (.invokespecial 21, 3) := by decide +kernel
theorem d_X4_init_65 : decode b_X4_init 65 = .ok (.putfield 34, 3) := by decide +kernel
theorem d_X4_init_68 : decode b_X4_init 68 = .ok (.aload_n 0, 1) := by decide +kernel
theorem d_X4_init_69 : decode b_X4_init 69 = .ok (.new 19, 3) := by decide +kernel
theorem d_X4_init_72 : decode b_X4_init 72 = .ok (.dup, 1) := by decide +kernel
theorem d_X4_init_73 : decode b_X4_init 73 = .ok (.sipush 336, 3) := by decide +kernel
theorem d_X4_init_76 : decode b_X4_init 76 = .ok (.invokespecial 21, 3) := by decide +kernel
theorem d_X4_init_79 : decode b_X4_init 79 = .ok (.putfield 37, 3) := by decide +kernel
theorem d_X4_init_82 : decode b_X4_init 82 = .ok (.aload_n 0, 1) := by decide +kernel
theorem d_X4_init_83 : decode b_X4_init 83 = .ok (.new 19, 3) := by decide +kernel
theorem d_X4_init_86 : decode b_X4_init 86 = .ok (.dup, 1) := by decide +kernel
theorem d_X4_init_87 : decode b_X4_init 87 = .ok (.sipush 748, 3) := by decide +kernel
theorem d_X4_init_90 : decode b_X4_init 90 = .ok (.invokespecial 21, 3) := by decide +kernel
theorem d_X4_init_93 : decode b_X4_init 93 = .ok (.putfield 40, 3) := by decide +kernel
theorem d_X4_init_96 : decode b_X4_init 96 = .ok (.aload_n 0, 1) := by decide +kernel
theorem d_X4_init_97 : decode b_X4_init 97 = .ok (.new 19, 3) := by decide +kernel
theorem d_X4_init_100 : decode b_X4_init 100 = .ok (.dup, 1) := by decide +kernel
theorem d_X4_init_101 : decode b_X4_init 101 = .ok (.bipush 32, 2) := by decide +kernel
theorem d_X4_init_103 : decode b_X4_init 103 = .ok (.invokespecial 21, 3) := by decide +kernel
theorem d_X4_init_106 : decode b_X4_init 106 = .ok (.putfield 43, 3) := by decide +kernel
theorem d_X4_init_109 : decode b_X4_init 109 = .ok (.aload_n 0, 1) := by decide +kernel
theorem d_X4_init_110 : decode b_X4_init 110 = .ok (.new 19, 3) := by decide +kernel
theorem d_X4_init_113 : decode b_X4_init 113 = .ok (.dup, 1) := by decide +kernel
theorem d_X4_init_114 : decode b_X4_init 114 = .ok (.bipush 32, 2) := by decide +kernel
theorem d_X4_init_116 : decode b_X4_init 116 = .ok (.invokespecial 21, 3) := by decide +kernel
theorem d_X4_init_119 : decode b_X4_init 119 = .ok (.putfield 46, 3) := by decide +kernel
theorem d_X4_init_122 : decode b_X4_init 122 = .ok (.aload_n 0, 1) := by decide +kernel
theorem d_X4_init_123 : decode b_X4_init 123 = .ok (.new 49, 3) := by decide +kernel
theorem d_X4_init_126 : decode b_X4_init 126 = .ok (.dup, 1) := by decide +kernel
theorem d_X4_init_127 : decode b_X4_init 127 = .ok (.sipush 336, 3) := by decide +kernel
theorem d_X4_init_130 : decode b_X4_init 130 = .ok (.invokespecial 51, 3) := by decide +kernel
theorem d_X4_init_133 : decode b_X4_init 133 = .ok (.putfield 52, 3) := by decide +kernel
theorem d_X4_init_136 : decode b_X4_init 136 = .ok (.aload_n 0, 1) := by decide +kernel
theorem d_X4_init_137 : decode b_X4_init 137 = .ok (.new 49, 3) := by decide +kernel
theorem d_X4_init_140 : decode b_X4_init 140 = .ok (.dup, 1) := by decide +kernel
theorem d_X4_init_141 : decode b_X4_init 141 = .ok (.sipush 340, 3) := by decide +kernel
theorem d_X4_init_144 : decode b_X4_init 144 = .ok (.invokespecial 51, 3) := by decide +kernel
theorem d_X4_init_147 : decode b_X4_init 147 = .ok (.putfield 56, 3) := by decide +kernel
theorem d_X4_init_150 : decode b_X4_init 150 = .ok (.aload_n 0, 1) := by decide +kernel
theorem d_X4_init_151 : decode b_X4_init 151 = .ok (.new 59, 3) := by decide +kernel
theorem d_X4_init_154 : decode b_X4_init 154 = .ok (.dup, 1) := by decide +kernel
theorem d_X4_init_155 : decode b_X4_init 155 = .ok (.invokespecial 61, 3) := by decide +kernel
theorem d_X4_init_158 : decode b_X4_init 158 = .ok (.putfield 62, 3) := by decide +kernel
theorem d_X4_init_161 : decode b_X4_init 161 = .ok (.aload_n 0, 1) := by decide +kernel
theorem d_X4_init_162 : decode b_X4_init 162 = .ok (.new 59, 3) := by decide +kernel
theorem d_X4_init_165 : decode b_X4_init 165 = .ok (.dup, 1) := by decide +kernel
theorem d_X4_init_166 : decode b_X4_init 166 = .ok (.invokespecial 61, 3) := by decide +kernel
theorem d_X4_init_169 : decode b_X4_init 169 = .ok (.putfield 66, 3) := by decide +kernel
theorem d_X4_init_172 : decode b_X4_init 172 = .ok (.aload_n 0, 1) := by decide +kernel
theorem d_X4_init_173 : decode b_X4_init 173 = .ok (.new 59, 3) := by decide +kernel
theorem d_X4_init_176 : decode b_X4_init 176 = .ok (.dup, 1) := by decide +kernel
theorem d_X4_init_177 : decode b_X4_init 177 = .ok (.invokespecial 61, 3) := by decide +kernel
theorem d_X4_init_180 : decode b_X4_init 180 = .ok (.putfield 69, 3) := by decide +kernel
theorem d_X4_init_183 : decode b_X4_init 183 = .ok (.aload_n 0, 1) := by decide +kernel
theorem d_X4_init_184 : decode b_X4_init 184 = .ok (.iconst 0, 1) := by decide +kernel
theorem d_X4_init_185 : decode b_X4_init 185 = .ok (.putfield 72, 3) := by decide +kernel
theorem d_X4_init_188 : decode b_X4_init 188 = .ok (.aload_n 0, 1) := by decide +kernel
theorem d_X4_init_189 : decode b_X4_init 189 = .ok (.iconst 0, 1) := by decide +kernel
theorem d_X4_init_190 : decode b_X4_init 190 = .ok (.putfield 76, 3) := by decide +kernel
theorem d_X4_init_193 : decode b_X4_init 193 = .ok (.aload_n 0, 1) := by decide +kernel
theorem d_X4_init_194 : decode b_X4_init 194 = .ok (.iconst 0, 1) := by decide +kernel
theorem d_X4_init_195 : decode b_X4_init 195 = .ok (.putfield 79, 3) := by decide +kernel
theorem d_X4_init_198 : decode b_X4_init 198 = .ok (.aload_n 0, 1) := by decide +kernel
theorem d_X4_init_199 : decode b_X4_init 199 = .ok (.iconst 0, 1) := by decide +kernel
theorem d_X4_init_200 : decode b_X4_init 200 = .ok (.putfield 82, 3) := by decide +kernel
theorem d_X4_init_203 : decode b_X4_init 203 = .ok (.aload_n 0, 1) := by decide +kernel
theorem d_X4_init_204 : decode b_X4_init 204 = .ok (.iconst 0, 1) := by decide +kernel
theorem d_X4_init_205 : decode b_X4_init 205 = .ok (.putfield 85, 3) := by decide +kernel
theorem d_X4_init_208 : decode b_X4_init 208 = .ok (.return_, 1) := by decide +kernel
theorem d_X1_init_0 : decode b_X1_init 0 = .ok (.aload_n 0, 1) := by decide +kernel
theorem d_X1_init_1 : decode b_X1_init 1 = .ok (.invokespecial 1, 3) := by decide +kernel
theorem d_X1_init_4 : decode b_X1_init 4 = .ok (.aload_n 0, 1) := by decide +kernel
theorem d_X1_init_5 : decode b_X1_init 5 = .ok (.new 7, 3) := by decide +kernel
theorem d_X1_init_8 : decode b_X1_init 8 = .ok (.dup, 1) := by decide +kernel
theorem d_X1_init_9 : decode b_X1_init 9 = .ok (.iload_n 1, 1) := by decide +kernel
theorem d_X1_init_10 : decode b_X1_init 10 = .ok (.invokespecial 9, 3) := by decide +kernel
theorem d_X1_init_13 : decode b_X1_init 13 = .ok (.putfield 12, 3) := by decide +kernel
theorem d_X1_init_16 : decode b_X1_init 16 = .ok (.aload_n 0, 1) := by decide +kernel
theorem d_X1_init_17 : decode b_X1_init 17 = .ok (.iconst 0, 1) := by decide +kernel
theorem d_X1_init_18 : decode b_X1_init 18 = .ok (.putfield 18, 3) := by decide +kernel
theorem d_X1_init_21 : decode b_X1_init 21 = .ok (.return_, 1) := by decide +kernel
theorem d_X2_init_0 : decode b_X2_init 0 = .ok (.aload_n 0, 1) := by decide +kernel
theorem d_X2_init_1 : decode b_X2_init 1 = .ok (.invokespecial 3, 3) := by decide +kernel
theorem d_X2_init_4 : decode b_X2_init 4 = .ok (.aload_n 0, 1) := by decide +kernel
theorem d_X2_init_5 : decode b_X2_init 5 = .ok (.new 9, 3) := by decide +kernel
theorem d_X2_init_8 : decode b_X2_init 8 = .ok (.dup, 1) := by decide +kernel
theorem d_X2_init_9 : decode b_X2_init 9 = .ok (.bipush 32, 2) := by decide +kernel
theorem d_X2_init_11 : decode b_X2_init 11 = .ok (.invokespecial 11, 3) := by decide +kernel
theorem d_X2_init_14 : decode b_X2_init 14 = .ok (.putfield 14, 3) := by decide +kernel
theorem d_X2_init_17 : decode b_X2_init 17 = .ok (.aload_n 0, 1) := by decide +kernel
theorem d_X2_init_18 : decode b_X2_init 18 = .ok (.new 9, 3) := by decide +kernel
theorem d_X2_init_21 : decode b_X2_init 21 = .ok (.dup, 1) := by decide +kernel
theorem d_X2_init_22 : decode b_X2_init 22 = .ok (.bipush 32, 2) := by decide +kernel
theorem d_X2_init_24 : decode b_X2_init 24 = .ok (.invokespecial 11, 3) := by decide +kernel
theorem d_X2_init_27 : decode b_X2_init 27 = .ok (.putfield 20, 3) := by decide +kernel
theorem d_X2_init_30 : decode b_X2_init 30 = .ok (.aload_n 0, 1) := by decide +kernel
theorem d_X2_init_31 : decode b_X2_init 31 = .ok (.new 9, 3) := by decide +kernel
theorem d_X2_init_34 : decode b_X2_init 34 = .ok (.dup, 1) := by decide +kernel
theorem d_X2_init_35 : decode b_X2_init 35 = .ok (.bipush 32, 2) := by decide +kernel
theorem d_X2_init_37 : decode b_X2_init 37 = .ok (.invokespecial 11, 3) := by decide +kernel
theorem d_X2_init_40 : decode b_X2_init 40 = .ok (.putfield 23, 3) := by decide +kernel
theorem d_X2_init_43 : decode b_X2_init 43 = .ok (.return_, 1) := by decide +kernel
theorem d_X5_wipe_0 : decode b_X5_wipe 0 = .ok (.aload_n 0, 1) := by decide +kernel
theorem d_X5_wipe_1 : decode b_X5_wipe 1 = .ok (.getfield 17, 3) := by decide +kernel
theorem d_X5_wipe_4 : decode b_X5_wipe 4 = .ok (.getfield 40, 3) := by decide +kernel
theorem d_X5_wipe_7 : decode b_X5_wipe 7 = .ok (.istore_n 1, 1) := by decide +kernel
theorem d_X5_wipe_8 : decode b_X5_wipe 8 = .ok (.aload_n 0, 1) := by decide +kernel
theorem d_X5_wipe_9 : decode b_X5_wipe 9 = .ok (.getfield 17, 3) := by decide +kernel
theorem d_X5_wipe_12 : decode b_X5_wipe 12 = .ok (.invokevirtual 52, 3) := by decide +kernel
theorem d_X5_wipe_15 : decode b_X5_wipe 15 = .ok (.iload_n 1, 1) := by decide +kernel
theorem d_X5_wipe_16 : decode b_X5_wipe 16 = .ok (.ireturn, 1) := by decide +kernel
theorem d_X3_clear_0 : decode b_X3_clear 0 = .ok (.aload_n 0, 1) := by decide +kernel
theorem d_X3_clear_1 : decode b_X3_clear 1 = .ok (.iconst 0, 1) := by decide +kernel
theorem d_X3_clear_2 : decode b_X3_clear 2 = .ok (.putfield 19, 3) := by decide +kernel
theorem d_X3_clear_5 : decode b_X3_clear 5 = .ok (.return_, 1) := by decide +kernel
theorem d_X5_feed_0 : decode b_X5_feed 0 = .ok (.iload_n 1, 1) := by decide +kernel
theorem d_X5_feed_1 : decode b_X5_feed 1 = .ok (.iconst 1, 1) := by decide +kernel
theorem d_X5_feed_2 : decode b_X5_feed 2 = .ok (.if_icmp .lt 9, 3) := by decide +kernel
theorem d_X5_feed_5 : decode b_X5_feed 5 = .ok (.iload_n 1, 1) := by decide +kernel
theorem d_X5_feed_6 : decode b_X5_feed 6 = .ok (.bipush 8, 2) := by decide +kernel
theorem d_X5_feed_8 : decode b_X5_feed 8 = .ok (.if_icmp .le 13, 3) := by decide +kernel
theorem d_X5_feed_11 : decode b_X5_feed 11 = .ok (.new 33, 3) := by decide +kernel
theorem d_X5_feed_14 : decode b_X5_feed 14 = .ok (.dup, 1) := by decide +kernel
theorem d_X5_feed_15 : decode b_X5_feed 15 = .ok (.ldc 35, 2) := by decide +kernel
theorem d_X5_feed_17 : decode b_X5_feed 17 = .ok (.invokespecial 37, 3) := by decide +kernel
theorem d_X5_feed_20 : decode b_X5_feed 20 = .ok (.athrow, 1) := by decide +kernel
theorem d_X5_feed_21 : decode b_X5_feed 21 = .ok (.aload_n 0, 1) := by decide +kernel
theorem d_X5_feed_22 : decode b_X5_feed 22 = .ok (.getfield 17, 3) := by decide +kernel
theorem d_X5_feed_25 : decode b_X5_feed 25 = .ok (.getfield 40, 3) := by decide +kernel
theorem d_X5_feed_28 : decode b_X5_feed 28 = .ok (.iload_n 1, 1) := by decide +kernel
theorem d_X5_feed_29 : decode b_X5_feed 29 = .ok (.iadd, 1) := by decide +kernel
theorem d_X5_feed_30 : decode b_X5_feed 30 = .ok (.sipush 2048, 3) := by decide +kernel
theorem d_X5_feed_33 : decode b_X5_feed 33 = .ok (.if_icmp .le 13, 3) := by decide +kernel
theorem d_X5_feed_36 : decode b_X5_feed 36 = .ok (.new 44, 3) := by decide +kernel
theorem d_X5_feed_39 : decode b_X5_feed 39 = .ok (.dup, 1) := by decide +kernel
theorem d_X5_feed_40 : decode b_X5_feed 40 = .ok (.ldc 46, 2) := by decide +kernel
theorem d_X5_feed_42 : decode b_X5_feed 42 = .ok (.invokespecial 48, 3) := by decide +kernel
theorem d_X5_feed_45 : decode b_X5_feed 45 = .ok (.athrow, 1) := by decide +kernel
theorem d_X5_feed_46 : decode b_X5_feed 46 = .ok (.iconst 0, 1) := by decide +kernel
theorem d_X5_feed_47 : decode b_X5_feed 47 = .ok (.istore 4, 2) := by decide +kernel
theorem d_X5_feed_49 : decode b_X5_feed 49 = .ok (.iload 4, 2) := by decide +kernel
theorem d_X5_feed_51 : decode b_X5_feed 51 = .ok (.iload_n 1, 1) := by decide +kernel
theorem d_X5_feed_52 : decode b_X5_feed 52 = .ok (.if_icmp .ge 24, 3) := by decide +kernel
theorem d_X5_feed_55 : decode b_X5_feed 55 = .ok (.aload_n 0, 1) := by decide +kernel
theorem d_X5_feed_56 : decode b_X5_feed 56 = .ok (.getfield 17, 3) := by decide +kernel
theorem d_X5_feed_59 : decode b_X5_feed 59 = .ok (.lload_n 2, 1) := by decide +kernel
theorem d_X5_feed_60 : decode b_X5_feed 60 = .ok (.bipush 8, 2) := by decide +kernel
theorem d_X5_feed_62 : decode b_X5_feed 62 = .ok (.iload 4, 2) := by decide +kernel
theorem d_X5_feed_64 : decode b_X5_feed 64 = .ok (.imul, 1) := by decide +kernel
theorem d_X5_feed_65 : decode b_X5_feed 65 = .ok (.lushr, 1) := by decide +kernel
theorem d_X5_feed_66 : decode b_X5_feed 66 = .ok (.l2i, 1) := by decide +kernel
theorem d_X5_feed_67 : decode b_X5_feed 67 = .ok (.invokevirtual 49, 3) := by decide +kernel
theorem d_X5_feed_70 : decode b_X5_feed 70 = .ok (.iinc 4 1, 3) := by decide +kernel
theorem d_X5_feed_73 : decode b_X5_feed 73 = .ok (.goto (-24), 3) := by decide +kernel
theorem d_X5_feed_76 : decode b_X5_feed 76 = .ok (.aload_n 0, 1) := by decide +kernel
theorem d_X5_feed_77 : decode b_X5_feed 77 = .ok (.getfield 17, 3) := by decide +kernel
theorem d_X5_feed_80 : decode b_X5_feed 80 = .ok (.getfield 40, 3) := by decide +kernel
theorem d_X5_feed_83 : decode b_X5_feed 83 = .ok (.ireturn, 1) := by decide +kernel
theorem d_X5_tell_0 : decode b_X5_tell 0 = .ok (.iload_n 1, 1) := by decide +kernel
theorem d_X5_tell_1 : decode b_X5_tell 1 = .ok (.invokestatic 55, 3) := by decide +kernel
theorem d_X5_tell_4 : decode b_X5_tell 4 = .ok (.ifCond .eq 17, 3) := by decide +kernel
theorem d_X5_tell_7 : decode b_X5_tell 7 = .ok (.iload_n 2, 1) := by decide +kernel
theorem d_X5_tell_8 : decode b_X5_tell 8 = .ok (.aload_n 0, 1) := by decide +kernel
theorem d_X5_tell_9 : decode b_X5_tell 9 = .ok (.getfield 17, 3) := by decide +kernel
theorem d_X5_tell_12 : decode b_X5_tell 12 = .ok (.getfield 40, 3) := by decide +kernel
theorem d_X5_tell_15 : decode b_X5_tell 15 = .ok (.invokestatic 59, 3) := by decide +kernel
theorem d_X5_tell_18 : decode b_X5_tell 18 = .ok (.ifCond .ne 13, 3) := by decide +kernel
theorem d_X5_tell_21 : decode b_X5_tell 21 = .ok (.new 33, 3) := by decide +kernel
theorem d_X5_tell_24 : decode b_X5_tell 24 = .ok (.dup, 1) := by decide +kernel
theorem d_X5_tell_25 : decode b_X5_tell 25 = .ok (.ldc 63, 2) := by decide +kernel
theorem d_X5_tell_27 : decode b_X5_tell 27 = .ok (.invokespecial 37, 3) := by decide +kernel
theorem d_X5_tell_30 : decode b_X5_tell 30 = .ok (.athrow, 1) := by decide +kernel
theorem d_X5_tell_31 : decode b_X5_tell 31 = .ok (.aload_n 0, 1) := by decide +kernel
theorem d_X5_tell_32 : decode b_X5_tell 32 = .ok (.iload_n 1, 1) := by decide +kernel
theorem d_X5_tell_33 : decode b_X5_tell 33 = .ok (.invokevirtual 65, 3) := by decide +kernel
theorem d_X5_tell_36 : decode b_X5_tell 36 = .ok (.astore_n 3, 1) := by decide +kernel
theorem d_X5_tell_37 : decode b_X5_tell 37 = .ok (.aload_n 3, 1) := by decide +kernel
theorem d_X5_tell_38 : decode b_X5_tell 38 = .ok (.getfield 69, 3) := by decide +kernel
theorem d_X5_tell_41 : decode b_X5_tell 41 = .ok (.ifCond .eq 18, 3) := by decide +kernel
theorem d_X5_tell_44 : decode b_X5_tell 44 = .ok (.iload_n 2, 1) := by decide +kernel
theorem d_X5_tell_45 : decode b_X5_tell 45 = .ok (.iconst 3, 1) := by decide +kernel
theorem d_X5_tell_46 : decode b_X5_tell 46 = .ok (.if_icmp .eq 13, 3) := by decide +kernel
theorem d_X5_tell_49 : decode b_X5_tell 49 = .ok (.new 44, 3) := by decide +kernel
theorem d_X5_tell_52 : decode b_X5_tell 52 = .ok (.dup, 1) := by decide +kernel
theorem d_X5_tell_53 : decode b_X5_tell 53 = .ok (.ldc 73, 2) := by decide +kernel
theorem d_X5_tell_55 : decode b_X5_tell 55 = .ok (.invokespecial 48, 3) := by decide +kernel
theorem d_X5_tell_58 : decode b_X5_tell 58 = .ok (.athrow, 1) := by decide +kernel
theorem d_X5_tell_59 : decode b_X5_tell 59 = .ok (.aload_n 3, 1) := by decide +kernel
theorem d_X5_tell_60 : decode b_X5_tell 60 = .ok (.iload_n 2, 1) := by decide +kernel
theorem d_X5_tell_61 : decode b_X5_tell 61 = .ok (.aload_n 0, 1) := by decide +kernel
theorem d_X5_tell_62 : decode b_X5_tell 62 = .ok (.getfield 17, 3) := by decide +kernel
theorem d_X5_tell_65 : decode b_X5_tell 65 = .ok (.invokevirtual 75, 3) := by decide +kernel
theorem d_X5_tell_68 : decode b_X5_tell 68 = .ok (.aload_n 0, 1) := by decide +kernel
theorem d_X5_tell_69 : decode b_X5_tell 69 = .ok (.getfield 17, 3) := by decide +kernel
theorem d_X5_tell_72 : decode b_X5_tell 72 = .ok (.invokevirtual 52, 3) := by decide +kernel
theorem d_X5_tell_75 : decode b_X5_tell 75 = .ok (.return_, 1) := by decide +kernel
theorem d_X5_isSide_0 : decode b_X5_isSide 0 = .ok (.iload_n 0, 1) := by decide +kernel
theorem d_X5_isSide_1 : decode b_X5_isSide 1 = .ok (.ifCond .eq 8, 3) := by decide +kernel
theorem d_X5_isSide_4 : decode b_X5_isSide 4 = .ok (.iload_n 0, 1) := by decide +kernel
theorem d_X5_isSide_5 : decode b_X5_isSide 5 = .ok (.iconst 1, 1) := by decide +kernel
theorem d_X5_isSide_6 : decode b_X5_isSide 6 = .ok (.if_icmp .ne 7, 3) := by decide +kernel
theorem d_X5_isSide_9 : decode b_X5_isSide 9 = .ok (.iconst 1, 1) := by decide +kernel
theorem d_X5_isSide_10 : decode b_X5_isSide 10 = .ok (.goto 4, 3) := by decide +kernel
theorem d_X5_isSide_13 : decode b_X5_isSide 13 = .ok (.iconst 0, 1) := by decide +kernel
theorem d_X5_isSide_14 : decode b_X5_isSide 14 = .ok (.ireturn, 1) := by decide +kernel
theorem d_X5_canBeTold_0 : decode b_X5_canBeTold 0 = .ok (.iload_n 0, 1) := by decide +kernel
theorem d_X5_canBeTold_1 : decode b_X5_canBeTold 1 = .ok (.tableswitch 73 0 3 #[31, 31, 43, 56], 31) := by decide +kernel
theorem d_X5_canBeTold_32 : decode b_X5_canBeTold 32 = .ok (.iload_n 1, 1) := by decide +kernel
theorem d_X5_canBeTold_33 : decode b_X5_canBeTold 33 = .ok (.bipush 32, 2) := by decide +kernel
theorem d_X5_canBeTold_35 : decode b_X5_canBeTold 35 = .ok (.if_icmp .ne 7, 3) := by decide +kernel
theorem d_X5_canBeTold_38 : decode b_X5_canBeTold 38 = .ok (.iconst 1, 1) := by decide +kernel
theorem d_X5_canBeTold_39 : decode b_X5_canBeTold 39 = .ok (.goto 4, 3) := by decide +kernel
theorem d_X5_canBeTold_42 : decode b_X5_canBeTold 42 = .ok (.iconst 0, 1) := by decide +kernel
theorem d_X5_canBeTold_43 : decode b_X5_canBeTold 43 = .ok (.ireturn, 1) := by decide +kernel
theorem d_X5_canBeTold_44 : decode b_X5_canBeTold 44 = .ok (.iload_n 1, 1) := by decide +kernel
theorem d_X5_canBeTold_45 : decode b_X5_canBeTold 45 = .ok (.sipush 300, 3) := by decide +kernel
theorem d_X5_canBeTold_48 : decode b_X5_canBeTold 48 = .ok (.if_icmp .gt 7, 3) := by decide +kernel
theorem d_X5_canBeTold_51 : decode b_X5_canBeTold 51 = .ok (.iconst 1, 1) := by decide +kernel
theorem d_X5_canBeTold_52 : decode b_X5_canBeTold 52 = .ok (.goto 4, 3) := by decide +kernel
theorem d_X5_canBeTold_55 : decode b_X5_canBeTold 55 = .ok (.iconst 0, 1) := by decide +kernel
theorem d_X5_canBeTold_56 : decode b_X5_canBeTold 56 = .ok (.ireturn, 1) := by decide +kernel
theorem d_X5_canBeTold_57 : decode b_X5_canBeTold 57 = .ok (.iload_n 1, 1) := by decide +kernel
theorem d_X5_canBeTold_58 : decode b_X5_canBeTold 58 = .ok (.iconst 1, 1) := by decide +kernel
theorem d_X5_canBeTold_59 : decode b_X5_canBeTold 59 = .ok (.if_icmp .lt 13, 3) := by decide +kernel
theorem d_X5_canBeTold_62 : decode b_X5_canBeTold 62 = .ok (.iload_n 1, 1) := by decide +kernel
theorem d_X5_canBeTold_63 : decode b_X5_canBeTold 63 = .ok (.bipush 20, 2) := by decide +kernel
theorem d_X5_canBeTold_65 : decode b_X5_canBeTold 65 = .ok (.if_icmp .gt 7, 3) := by decide +kernel
theorem d_X5_canBeTold_68 : decode b_X5_canBeTold 68 = .ok (.iconst 1, 1) := by decide +kernel
theorem d_X5_canBeTold_69 : decode b_X5_canBeTold 69 = .ok (.goto 4, 3) := by decide +kernel
theorem d_X5_canBeTold_72 : decode b_X5_canBeTold 72 = .ok (.iconst 0, 1) := by decide +kernel
theorem d_X5_canBeTold_73 : decode b_X5_canBeTold 73 = .ok (.ireturn, 1) := by decide +kernel
theorem d_X5_canBeTold_74 : decode b_X5_canBeTold 74 = .ok (.iconst 0, 1) := by decide +kernel
theorem d_X5_canBeTold_75 : decode b_X5_canBeTold 75 = .ok (.ireturn, 1) := by decide +kernel
theorem d_X5_pick_0 : decode b_X5_pick 0 = .ok (.iload_n 1, 1) := by decide +kernel
theorem d_X5_pick_1 : decode b_X5_pick 1 = .ok (.ifCond .ne 10, 3) := by decide +kernel
theorem d_X5_pick_4 : decode b_X5_pick 4 = .ok (.aload_n 0, 1) := by decide +kernel
theorem d_X5_pick_5 : decode b_X5_pick 5 = .ok (.getfield 26, 3) := by decide +kernel
theorem d_X5_pick_8 : decode b_X5_pick 8 = .ok (.goto 7, 3) := by decide +kernel
theorem d_X5_pick_11 : decode b_X5_pick 11 = .ok (.aload_n 0, 1) := by decide +kernel
theorem d_X5_pick_12 : decode b_X5_pick 12 = .ok (.getfield 30, 3) := by decide +kernel
theorem d_X5_pick_15 : decode b_X5_pick 15 = .ok (.areturn, 1) := by decide +kernel
theorem d_X4_learn_0 : decode b_X4_learn 0 = .ok (.iload_n 1, 1) := by decide +kernel
theorem d_X4_learn_1 : decode b_X4_learn 1 = .ok (.tableswitch 60 0 2 #[27, 38, 49], 27) := by decide +kernel
theorem d_X4_learn_28 : decode b_X4_learn 28 = .ok (.aload_n 0, 1) := by decide +kernel
theorem d_X4_learn_29 : decode b_X4_learn 29 = .ok (.getfield 24, 3) := by decide +kernel
theorem d_X4_learn_32 : decode b_X4_learn 32 = .ok (.aload_n 2, 1) := by decide +kernel
theorem d_X4_learn_33 : decode b_X4_learn 33 = .ok (.invokevirtual 99, 3) := by decide +kernel
theorem d_X4_learn_36 : decode b_X4_learn 36 = .ok (.goto 30, 3) := by decide +kernel
theorem d_X4_learn_39 : decode b_X4_learn 39 = .ok (.aload_n 0, 1) := by decide +kernel
theorem d_X4_learn_40 : decode b_X4_learn 40 = .ok (.getfield 28, 3) := by decide +kernel
theorem d_X4_learn_43 : decode b_X4_learn 43 = .ok (.aload_n 2, 1) := by decide +kernel
theorem d_X4_learn_44 : decode b_X4_learn 44 = .ok (.invokevirtual 99, 3) := by decide +kernel
theorem d_X4_learn_47 : decode b_X4_learn 47 = .ok (.goto 19, 3) := by decide +kernel
theorem d_X4_learn_50 : decode b_X4_learn 50 = .ok (.aload_n 0, 1) := by decide +kernel
theorem d_X4_learn_51 : decode b_X4_learn 51 = .ok (.getfield 31, 3) := by decide +kernel
theorem d_X4_learn_54 : decode b_X4_learn 54 = .ok (.aload_n 2, 1) := by decide +kernel
theorem d_X4_learn_55 : decode b_X4_learn 55 = .ok (.invokevirtual 99, 3) := by decide +kernel
theorem d_X4_learn_58 : decode b_X4_learn 58 = .ok (.goto 8, 3) := by decide +kernel
theorem d_X4_learn_61 : decode b_X4_learn 61 = .ok (.aload_n 0, 1) := by decide +kernel
theorem d_X4_learn_62 : decode b_X4_learn 62 = .ok (.aload_n 2, 1) := by decide +kernel
theorem d_X4_learn_63 : decode b_X4_learn 63 = .ok (.invokevirtual 103, 3) := by decide +kernel
theorem d_X4_learn_66 : decode b_X4_learn 66 = .ok (.return_, 1) := by decide +kernel
theorem d_X3_become_0 : decode b_X3_become 0 = .ok (.aload_n 0, 1) := by decide +kernel
theorem d_X3_become_1 : decode b_X3_become 1 = .ok (.iconst 0, 1) := by decide +kernel
theorem d_X3_become_2 : decode b_X3_become 2 = .ok (.putfield 19, 3) := by decide +kernel
theorem d_X3_become_5 : decode b_X3_become 5 = .ok (.aload_n 0, 1) := by decide +kernel
theorem d_X3_become_6 : decode b_X3_become 6 = .ok (.aload_n 1, 1) := by decide +kernel
theorem d_X3_become_7 : decode b_X3_become 7 = .ok (.iconst 0, 1) := by decide +kernel
theorem d_X3_become_8 : decode b_X3_become 8 = .ok (.invokevirtual 23, 3) := by decide +kernel
theorem d_X3_become_11 : decode b_X3_become 11 = .ok (.return_, 1) := by decide +kernel
theorem d_X3_putFrom_0 : decode b_X3_putFrom 0 = .ok (.iload_n 2, 1) := by decide +kernel
theorem d_X3_putFrom_1 : decode b_X3_putFrom 1 = .ok (.ifCond .ge 4, 3) := by decide +kernel
theorem d_X3_putFrom_4 : decode b_X3_putFrom 4 = .ok (.return_, 1) := by decide +kernel
theorem d_X3_putFrom_5 : decode b_X3_putFrom 5 = .ok (.iload_n 2, 1) := by decide +kernel
theorem d_X3_putFrom_6 : decode b_X3_putFrom 6 = .ok (.istore_n 3, 1) := by decide +kernel
theorem d_X3_putFrom_7 : decode b_X3_putFrom 7 = .ok (.iload_n 3, 1) := by decide +kernel
theorem d_X3_putFrom_8 : decode b_X3_putFrom 8 = .ok (.aload_n 1, 1) := by decide +kernel
theorem d_X3_putFrom_9 : decode b_X3_putFrom 9 = .ok (.getfield 19, 3) := by decide +kernel
theorem d_X3_putFrom_12 : decode b_X3_putFrom 12 = .ok (.if_icmp .ge 55, 3) := by decide +kernel
theorem d_X3_putFrom_15 : decode b_X3_putFrom 15 = .ok (.iload_n 3, 1) := by decide +kernel
theorem d_X3_putFrom_16 : decode b_X3_putFrom 16 = .ok (.aload_n 1, 1) := by decide +kernel
theorem d_X3_putFrom_17 : decode b_X3_putFrom 17 = .ok (.getfield 13, 3) := by decide +kernel
theorem d_X3_putFrom_20 : decode b_X3_putFrom 20 = .ok (.arraylength, 1) := by decide +kernel
theorem d_X3_putFrom_21 : decode b_X3_putFrom 21 = .ok (.if_icmp .ge 46, 3) := by decide +kernel
theorem d_X3_putFrom_24 : decode b_X3_putFrom 24 = .ok (.aload_n 0, 1) := by decide +kernel
theorem d_X3_putFrom_25 : decode b_X3_putFrom 25 = .ok (.getfield 19, 3) := by decide +kernel
theorem d_X3_putFrom_28 : decode b_X3_putFrom 28 = .ok (.aload_n 0, 1) := by decide +kernel
theorem d_X3_putFrom_29 : decode b_X3_putFrom 29 = .ok (.getfield 13, 3) := by decide +kernel
theorem d_X3_putFrom_32 : decode b_X3_putFrom 32 = .ok (.arraylength, 1) := by decide +kernel
theorem d_X3_putFrom_33 : decode b_X3_putFrom 33 = .ok (.if_icmp .ge 34, 3) := by decide +kernel
theorem d_X3_putFrom_36 : decode b_X3_putFrom 36 = .ok (.aload_n 0, 1) := by decide +kernel
theorem d_X3_putFrom_37 : decode b_X3_putFrom 37 = .ok (.getfield 13, 3) := by decide +kernel
theorem d_X3_putFrom_40 : decode b_X3_putFrom 40 = .ok (.aload_n 0, 1) := by decide +kernel
theorem d_X3_putFrom_41 : decode b_X3_putFrom 41 = .ok (.getfield 19, 3) := by decide +kernel
theorem d_X3_putFrom_44 : decode b_X3_putFrom 44 = .ok (.aload_n 1, 1) := by decide +kernel
theorem d_X3_putFrom_45 : decode b_X3_putFrom 45 = .ok (.getfield 13, 3) := by decide +kernel
theorem d_X3_putFrom_48 : decode b_X3_putFrom 48 = .ok (.iload_n 3, 1) := by decide +kernel
theorem d_X3_putFrom_49 : decode b_X3_putFrom 49 = .ok (.iaload, 1) := by decide +kernel
theorem d_X3_putFrom_50 : decode b_X3_putFrom 50 = .ok (.iastore, 1) := by decide +kernel
theorem d_X3_putFrom_51 : decode b_X3_putFrom 51 = .ok (.aload_n 0, 1) := by decide +kernel
theorem d_X3_putFrom_52 : decode b_X3_putFrom 52 = .ok (.dup, 1) := by decide +kernel
theorem d_X3_putFrom_53 : decode b_X3_putFrom 53 = .ok (.getfield 19, 3) := by decide +kernel
theorem d_X3_putFrom_56 : decode b_X3_putFrom 56 = .ok (.iconst 1, 1) := by decide +kernel
theorem d_X3_putFrom_57 : decode b_X3_putFrom 57 = .ok (.iadd, 1) := by decide +kernel
theorem d_X3_putFrom_58 : decode b_X3_putFrom 58 = .ok (.putfield 19, 3) := by decide +kernel
theorem d_X3_putFrom_61 : decode b_X3_putFrom 61 = .ok (.iinc 3 1, 3) := by decide +kernel
theorem d_X3_putFrom_64 : decode b_X3_putFrom 64 = .ok (.goto (-57), 3) := by decide +kernel
theorem d_X3_putFrom_67 : decode b_X3_putFrom 67 = .ok (.return_, 1) := by decide +kernel
theorem d_X4_makeFirst_0 : decode b_X4_makeFirst 0 = .ok (.aload_n 0, 1) := by decide +kernel
theorem d_X4_makeFirst_1 : decode b_X4_makeFirst 1 = .ok (.getfield 15, 3) := by decide +kernel
theorem d_X4_makeFirst_4 : decode b_X4_makeFirst 4 = .ok (.aload_n 0, 1) := by decide +kernel
theorem d_X4_makeFirst_5 : decode b_X4_makeFirst 5 = .ok (.getfield 15, 3) := by decide +kernel
theorem d_X4_makeFirst_8 : decode b_X4_makeFirst 8 = .ok (.getfield 182, 3) := by decide +kernel
theorem d_X4_makeFirst_11 : decode b_X4_makeFirst 11 = .ok (.aload_n 1, 1) := by decide +kernel
theorem d_X4_makeFirst_12 : decode b_X4_makeFirst 12 = .ok (.aload_n 0, 1) := by decide +kernel
theorem d_X4_makeFirst_13 : decode b_X4_makeFirst 13 = .ok (.getfield 62, 3) := by decide +kernel
theorem d_X4_makeFirst_16 : decode b_X4_makeFirst 16 = .ok (.getfield 165, 3) := by decide +kernel
theorem d_X4_makeFirst_19 : decode b_X4_makeFirst 19 = .ok (.invokevirtual 187, 3) := by decide +kernel
theorem d_X4_makeFirst_22 : decode b_X4_makeFirst 22 = .ok (.aload_n 0, 1) := by decide +kernel
theorem d_X4_makeFirst_23 : decode b_X4_makeFirst 23 = .ok (.getfield 15, 3) := by decide +kernel
theorem d_X4_makeFirst_26 : decode b_X4_makeFirst 26 = .ok (.aload_n 0, 1) := by decide +kernel
theorem d_X4_makeFirst_27 : decode b_X4_makeFirst 27 = .ok (.getfield 62, 3) := by decide +kernel
theorem d_X4_makeFirst_30 : decode b_X4_makeFirst 30 = .ok (.getfield 165, 3) := by decide +kernel
theorem d_X4_makeFirst_33 : decode b_X4_makeFirst 33 = .ok (.iconst 4, 1) := by decide +kernel
theorem d_X4_makeFirst_34 : decode b_X4_makeFirst 34 = .ok (.aload_n 0, 1) := by decide +kernel
theorem d_X4_makeFirst_35 : decode b_X4_makeFirst 35 = .ok (.getfield 15, 3) := by decide +kernel
theorem d_X4_makeFirst_38 : decode b_X4_makeFirst 38 = .ok (.getfield 191, 3) := by decide +kernel
theorem d_X4_makeFirst_41 : decode b_X4_makeFirst 41 = .ok (.aload_n 0, 1) := by decide +kernel
theorem d_X4_makeFirst_42 : decode b_X4_makeFirst 42 = .ok (.getfield 62, 3) := by decide +kernel
theorem d_X4_makeFirst_45 : decode b_X4_makeFirst 45 = .ok (.getfield 194, 3) := by decide +kernel
theorem d_X4_makeFirst_48 : decode b_X4_makeFirst 48 = .ok (.invokevirtual 197, 3) := by decide +kernel
theorem d_X4_makeFirst_51 : decode b_X4_makeFirst 51 = .ok (.aload_n 0, 1) := by decide +kernel
theorem d_X4_makeFirst_52 : decode b_X4_makeFirst 52 = .ok (.getfield 15, 3) := by decide +kernel
theorem d_X4_makeFirst_55 : decode b_X4_makeFirst 55 = .ok (.aload_n 0, 1) := by decide +kernel
theorem d_X4_makeFirst_56 : decode b_X4_makeFirst 56 = .ok (.getfield 62, 3) := by decide +kernel
theorem d_X4_makeFirst_59 : decode b_X4_makeFirst 59 = .ok (.getfield 165, 3) := by decide +kernel
theorem d_X4_makeFirst_62 : decode b_X4_makeFirst 62 = .ok (.iconst 5, 1) := by decide +kernel
theorem d_X4_makeFirst_63 : decode b_X4_makeFirst 63 = .ok (.aload_n 0, 1) := by decide +kernel
theorem d_X4_makeFirst_64 : decode b_X4_makeFirst 64 = .ok (.getfield 15, 3) := by decide +kernel
theorem d_X4_makeFirst_67 : decode b_X4_makeFirst 67 = .ok (.getfield 191, 3) := by decide +kernel
theorem d_X4_makeFirst_70 : decode b_X4_makeFirst 70 = .ok (.aload_n 0, 1) := by decide +kernel
theorem d_X4_makeFirst_71 : decode b_X4_makeFirst 71 = .ok (.getfield 62, 3) := by decide +kernel
theorem d_X4_makeFirst_74 : decode b_X4_makeFirst 74 = .ok (.getfield 201, 3) := by decide +kernel
theorem d_X4_makeFirst_77 : decode b_X4_makeFirst 77 = .ok (.invokevirtual 197, 3) := by decide +kernel
theorem d_X4_makeFirst_80 : decode b_X4_makeFirst 80 = .ok (.return_, 1) := by decide +kernel
theorem d_X0_mac_0 : decode b_X0_mac 0 = .ok (.aload_n 0, 1) := by decide +kernel
theorem d_X0_mac_1 : decode b_X0_mac 1 = .ok (.aload_n 1, 1) := by decide +kernel
theorem d_X0_mac_2 : decode b_X0_mac 2 = .ok (.bipush 54, 2) := by decide +kernel
theorem d_X0_mac_4 : decode b_X0_mac 4 = .ok (.invokevirtual 46, 3) := by decide +kernel
theorem d_X0_mac_7 : decode b_X0_mac 7 = .ok (.aload_n 0, 1) := by decide +kernel
theorem d_X0_mac_8 : decode b_X0_mac 8 = .ok (.getfield 26, 3) := by decide +kernel
theorem d_X0_mac_11 : decode b_X0_mac 11 = .ok (.aload_n 2, 1) := by decide +kernel
theorem d_X0_mac_12 : decode b_X0_mac 12 = .ok (.iconst 0, 1) := by decide +kernel
theorem d_X0_mac_13 : decode b_X0_mac 13 = .ok (.invokevirtual 50, 3) := by decide +kernel
theorem d_X0_mac_16 : decode b_X0_mac 16 = .ok (.aload_n 0, 1) := by decide +kernel
theorem d_X0_mac_17 : decode b_X0_mac 17 = .ok (.aload_n 0, 1) := by decide +kernel
theorem d_X0_mac_18 : decode b_X0_mac 18 = .ok (.getfield 29, 3) := by decide +kernel
theorem d_X0_mac_21 : decode b_X0_mac 21 = .ok (.invokevirtual 43, 3) := by decide +kernel
theorem d_X0_mac_24 : decode b_X0_mac 24 = .ok (.aload_n 0, 1) := by decide +kernel
theorem d_X0_mac_25 : decode b_X0_mac 25 = .ok (.aload_n 1, 1) := by decide +kernel
theorem d_X0_mac_26 : decode b_X0_mac 26 = .ok (.bipush 92, 2) := by decide +kernel
theorem d_X0_mac_28 : decode b_X0_mac 28 = .ok (.invokevirtual 46, 3) := by decide +kernel
theorem d_X0_mac_31 : decode b_X0_mac 31 = .ok (.aload_n 0, 1) := by decide +kernel
theorem d_X0_mac_32 : decode b_X0_mac 32 = .ok (.getfield 26, 3) := by decide +kernel
theorem d_X0_mac_35 : decode b_X0_mac 35 = .ok (.aload_n 0, 1) := by decide +kernel
theorem d_X0_mac_36 : decode b_X0_mac 36 = .ok (.getfield 29, 3) := by decide +kernel
theorem d_X0_mac_39 : decode b_X0_mac 39 = .ok (.iconst 0, 1) := by decide +kernel
theorem d_X0_mac_40 : decode b_X0_mac 40 = .ok (.invokevirtual 50, 3) := by decide +kernel
theorem d_X0_mac_43 : decode b_X0_mac 43 = .ok (.aload_n 0, 1) := by decide +kernel
theorem d_X0_mac_44 : decode b_X0_mac 44 = .ok (.aload_n 3, 1) := by decide +kernel
theorem d_X0_mac_45 : decode b_X0_mac 45 = .ok (.invokevirtual 43, 3) := by decide +kernel
theorem d_X0_mac_48 : decode b_X0_mac 48 = .ok (.return_, 1) := by decide +kernel
theorem d_X0_openText_0 : decode b_X0_openText 0 = .ok (.aload_n 0, 1) := by decide +kernel
theorem d_X0_openText_1 : decode b_X0_openText 1 = .ok (.getfield 26, 3) := by decide +kernel
theorem d_X0_openText_4 : decode b_X0_openText 4 = .ok (.invokevirtual 89, 3) := by decide +kernel
theorem d_X0_openText_7 : decode b_X0_openText 7 = .ok (.iconst 0, 1) := by decide +kernel
theorem d_X0_openText_8 : decode b_X0_openText 8 = .ok (.istore_n 3, 1) := by decide +kernel
theorem d_X0_openText_9 : decode b_X0_openText 9 = .ok (.iload_n 3, 1) := by decide +kernel
theorem d_X0_openText_10 : decode b_X0_openText 10 = .ok (.bipush 64, 2) := by decide +kernel
theorem d_X0_openText_12 : decode b_X0_openText 12 = .ok (.if_icmp .ge 23, 3) := by decide +kernel
theorem d_X0_openText_15 : decode b_X0_openText 15 = .ok (.aload_n 0, 1) := by decide +kernel
theorem d_X0_openText_16 : decode b_X0_openText 16 = .ok (.getfield 26, 3) := by decide +kernel
theorem d_X0_openText_19 : decode b_X0_openText 19 = .ok (.aload_n 1, 1) := by decide +kernel
theorem d_X0_openText_20 : decode b_X0_openText 20 = .ok (.iload_n 3, 1) := by decide +kernel
theorem d_X0_openText_21 : decode b_X0_openText 21 = .ok (.invokevirtual 92, 3) := by decide +kernel
theorem d_X0_openText_24 : decode b_X0_openText 24 = .ok (.iload_n 2, 1) := by decide +kernel
theorem d_X0_openText_25 : decode b_X0_openText 25 = .ok (.ixor, 1) := by decide +kernel
theorem d_X0_openText_26 : decode b_X0_openText 26 = .ok (.invokevirtual 23, 3) := by decide +kernel
theorem d_X0_openText_29 : decode b_X0_openText 29 = .ok (.iinc 3 1, 3) := by decide +kernel
theorem d_X0_openText_32 : decode b_X0_openText 32 = .ok (.goto (-23), 3) := by decide +kernel
theorem d_X0_openText_35 : decode b_X0_openText 35 = .ok (.return_, 1) := by decide +kernel
theorem d_X3_at_0 : decode b_X3_at 0 = .ok (.iload_n 1, 1) := by decide +kernel
theorem d_X3_at_1 : decode b_X3_at 1 = .ok (.ifCond .lt 29, 3) := by decide +kernel
theorem d_X3_at_4 : decode b_X3_at 4 = .ok (.iload_n 1, 1) := by decide +kernel
theorem d_X3_at_5 : decode b_X3_at 5 = .ok (.aload_n 0, 1) := by decide +kernel
theorem d_X3_at_6 : decode b_X3_at 6 = .ok (.getfield 19, 3) := by decide +kernel
theorem d_X3_at_9 : decode b_X3_at 9 = .ok (.if_icmp .ge 21, 3) := by decide +kernel
theorem d_X3_at_12 : decode b_X3_at 12 = .ok (.iload_n 1, 1) := by decide +kernel
theorem d_X3_at_13 : decode b_X3_at 13 = .ok (.aload_n 0, 1) := by decide +kernel
theorem d_X3_at_14 : decode b_X3_at 14 = .ok (.getfield 13, 3) := by decide +kernel
theorem d_X3_at_17 : decode b_X3_at 17 = .ok (.arraylength, 1) := by decide +kernel
theorem d_X3_at_18 : decode b_X3_at 18 = .ok (.if_icmp .ge 12, 3) := by decide +kernel
theorem d_X3_at_21 : decode b_X3_at 21 = .ok (.aload_n 0, 1) := by decide +kernel
theorem d_X3_at_22 : decode b_X3_at 22 = .ok (.getfield 13, 3) := by decide +kernel
theorem d_X3_at_25 : decode b_X3_at 25 = .ok (.iload_n 1, 1) := by decide +kernel
theorem d_X3_at_26 : decode b_X3_at 26 = .ok (.iaload, 1) := by decide +kernel
theorem d_X3_at_27 : decode b_X3_at 27 = .ok (.goto 4, 3) := by decide +kernel
theorem d_X3_at_30 : decode b_X3_at 30 = .ok (.iconst 0, 1) := by decide +kernel
theorem d_X3_at_31 : decode b_X3_at 31 = .ok (.ireturn, 1) := by decide +kernel
theorem d_X0_closeText_0 : decode b_X0_closeText 0 = .ok (.bipush 8, 2) := by decide +kernel
theorem d_X0_closeText_2 : decode b_X0_closeText 2 = .ok (.aload_n 0, 1) := by decide +kernel
theorem d_X0_closeText_3 : decode b_X0_closeText 3 = .ok (.getfield 26, 3) := by decide +kernel
theorem d_X0_closeText_6 : decode b_X0_closeText 6 = .ok (.getfield 71, 3) := by decide +kernel
theorem d_X0_closeText_9 : decode b_X0_closeText 9 = .ok (.imul, 1) := by decide +kernel
theorem d_X0_closeText_10 : decode b_X0_closeText 10 = .ok (.istore_n 2, 1) := by decide +kernel
theorem d_X0_closeText_11 : decode b_X0_closeText 11 = .ok (.bipush 55, 2) := by decide +kernel
theorem d_X0_closeText_13 : decode b_X0_closeText 13 = .ok (.aload_n 0, 1) := by decide +kernel
theorem d_X0_closeText_14 : decode b_X0_closeText 14 = .ok (.getfield 26, 3) := by decide +kernel
theorem d_X0_closeText_17 : decode b_X0_closeText 17 = .ok (.getfield 71, 3) := by decide +kernel
theorem d_X0_closeText_20 : decode b_X0_closeText 20 = .ok (.isub, 1) := by decide +kernel
theorem d_X0_closeText_21 : decode b_X0_closeText 21 = .ok (.bipush 64, 2) := by decide +kernel
theorem d_X0_closeText_23 : decode b_X0_closeText 23 = .ok (.invokestatic 96, 3) := by decide +kernel
theorem d_X0_closeText_26 : decode b_X0_closeText 26 = .ok (.istore_n 3, 1) := by decide +kernel
theorem d_X0_closeText_27 : decode b_X0_closeText 27 = .ok (.aload_n 0, 1) := by decide +kernel
theorem d_X0_closeText_28 : decode b_X0_closeText 28 = .ok (.getfield 26, 3) := by decide +kernel
theorem d_X0_closeText_31 : decode b_X0_closeText 31 = .ok (.sipush 128, 3) := by decide +kernel
theorem d_X0_closeText_34 : decode b_X0_closeText 34 = .ok (.invokevirtual 23, 3) := by decide +kernel
theorem d_X0_closeText_37 : decode b_X0_closeText 37 = .ok (.iconst 0, 1) := by decide +kernel
theorem d_X0_closeText_38 : decode b_X0_closeText 38 = .ok (.istore 4, 2) := by decide +kernel
theorem d_X0_closeText_40 : decode b_X0_closeText 40 = .ok (.iload 4, 2) := by decide +kernel
theorem d_X0_closeText_42 : decode b_X0_closeText 42 = .ok (.iload_n 3, 1) := by decide +kernel
theorem d_X0_closeText_43 : decode b_X0_closeText 43 = .ok (.iconst 4, 1) := by decide +kernel
theorem d_X0_closeText_44 : decode b_X0_closeText 44 = .ok (.iadd, 1) := by decide +kernel
theorem d_X0_closeText_45 : decode b_X0_closeText 45 = .ok (.if_icmp .ge 17, 3) := by decide +kernel
theorem d_X0_closeText_48 : decode b_X0_closeText 48 = .ok (.aload_n 0, 1) := by decide +kernel
theorem d_X0_closeText_49 : decode b_X0_closeText 49 = .ok (.getfield 26, 3) := by decide +kernel
theorem d_X0_closeText_52 : decode b_X0_closeText 52 = .ok (.iconst 0, 1) := by decide +kernel
theorem d_X0_closeText_53 : decode b_X0_closeText 53 = .ok (.invokevirtual 23, 3) := by decide +kernel
theorem d_X0_closeText_56 : decode b_X0_closeText 56 = .ok (.iinc 4 1, 3) := by decide +kernel
theorem d_X0_closeText_59 : decode b_X0_closeText 59 = .ok (.goto (-19), 3) := by decide +kernel
theorem d_X0_closeText_62 : decode b_X0_closeText 62 = .ok (.bipush 24, 2) := by decide +kernel
theorem d_X0_closeText_64 : decode b_X0_closeText 64 = .ok (.istore 4, 2) := by decide +kernel
theorem d_X0_closeText_66 : decode b_X0_closeText 66 = .ok (.iload 4, 2) := by decide +kernel
theorem d_X0_closeText_68 : decode b_X0_closeText 68 = .ok (.ifCond .lt 20, 3) := by decide +kernel
theorem d_X0_closeText_71 : decode b_X0_closeText 71 = .ok (.aload_n 0, 1) := by decide +kernel
theorem d_X0_closeText_72 : decode b_X0_closeText 72 = .ok (.getfield 26, 3) := by decide +kernel
theorem d_X0_closeText_75 : decode b_X0_closeText 75 = .ok (.iload_n 2, 1) := by decide +kernel
theorem d_X0_closeText_76 : decode b_X0_closeText 76 = .ok (.iload 4, 2) := by decide +kernel
theorem d_X0_closeText_78 : decode b_X0_closeText 78 = .ok (.iushr, 1) := by decide +kernel
theorem d_X0_closeText_79 : decode b_X0_closeText 79 = .ok (.invokevirtual 23, 3) := by decide +kernel
theorem d_X0_closeText_82 : decode b_X0_closeText 82 = .ok (.iinc 4 (-8), 3) := by decide +kernel
theorem d_X0_closeText_85 : decode b_X0_closeText 85 = .ok (.goto (-19), 3) := by decide +kernel
theorem d_X0_closeText_88 : decode b_X0_closeText 88 = .ok (.aload_n 0, 1) := by decide +kernel
theorem d_X0_closeText_89 : decode b_X0_closeText 89 = .ok (.invokevirtual 102, 3) := by decide +kernel
theorem d_X0_closeText_92 : decode b_X0_closeText 92 = .ok (.iconst 0, 1) := by decide +kernel
theorem d_X0_closeText_93 : decode b_X0_closeText 93 = .ok (.istore 4, 2) := by decide +kernel
theorem d_X0_closeText_95 : decode b_X0_closeText 95 = .ok (.iload 4, 2) := by decide +kernel
theorem d_X0_closeText_97 : decode b_X0_closeText 97 = .ok (.bipush 64, 2) := by decide +kernel
theorem d_X0_closeText_99 : decode b_X0_closeText 99 = .ok (.iadd, 1) := by decide +kernel
theorem d_X0_closeText_100 : decode b_X0_closeText 100 = .ok (.aload_n 0, 1) := by decide +kernel
theorem d_X0_closeText_101 : decode b_X0_closeText 101 = .ok (.getfield 26, 3) := by decide +kernel
theorem d_X0_closeText_104 : decode b_X0_closeText 104 = .ok (.getfield 71, 3) := by decide +kernel
theorem d_X0_closeText_107 : decode b_X0_closeText 107 = .ok (.if_icmp .gt 19, 3) := by decide +kernel
theorem d_X0_closeText_110 : decode b_X0_closeText 110 = .ok (.aload_n 0, 1) := by decide +kernel
theorem d_X0_closeText_111 : decode b_X0_closeText 111 = .ok (.iload 4, 2) := by decide +kernel
theorem d_X0_closeText_113 : decode b_X0_closeText 113 = .ok (.invokevirtual 105, 3) := by decide +kernel
theorem d_X0_closeText_116 : decode b_X0_closeText 116 = .ok (.aload_n 0, 1) := by decide +kernel
theorem d_X0_closeText_117 : decode b_X0_closeText 117 = .ok (.invokevirtual 108, 3) := by decide +kernel
theorem d_X0_closeText_120 : decode b_X0_closeText 120 = .ok (.iinc 4 64, 3) := by decide +kernel
theorem d_X0_closeText_123 : decode b_X0_closeText 123 = .ok (.goto (-28), 3) := by decide +kernel
theorem d_X0_closeText_126 : decode b_X0_closeText 126 = .ok (.aload_n 1, 1) := by decide +kernel
theorem d_X0_closeText_127 : decode b_X0_closeText 127 = .ok (.invokevirtual 89, 3) := by decide +kernel
theorem d_X0_closeText_130 : decode b_X0_closeText 130 = .ok (.iconst 0, 1) := by decide +kernel
theorem d_X0_closeText_131 : decode b_X0_closeText 131 = .ok (.istore 4, 2) := by decide +kernel
theorem d_X0_closeText_133 : decode b_X0_closeText 133 = .ok (.iload 4, 2) := by decide +kernel
theorem d_X0_closeText_135 : decode b_X0_closeText 135 = .ok (.bipush 32, 2) := by decide +kernel
theorem d_X0_closeText_137 : decode b_X0_closeText 137 = .ok (.if_icmp .ge 33, 3) := by decide +kernel
theorem d_X0_closeText_140 : decode b_X0_closeText 140 = .ok (.aload_n 1, 1) := by decide +kernel
theorem d_X0_closeText_141 : decode b_X0_closeText 141 = .ok (.aload_n 0, 1) := by decide +kernel
theorem d_X0_closeText_142 : decode b_X0_closeText 142 = .ok (.getfield 36, 3) := by decide +kernel
theorem d_X0_closeText_145 : decode b_X0_closeText 145 = .ok (.iload 4, 2) := by decide +kernel
theorem d_X0_closeText_147 : decode b_X0_closeText 147 = .ok (.iconst 2, 1) := by decide +kernel
theorem d_X0_closeText_148 : decode b_X0_closeText 148 = .ok (.iushr, 1) := by decide +kernel
theorem d_X0_closeText_149 : decode b_X0_closeText 149 = .ok (.iaload, 1) := by decide +kernel
theorem d_X0_closeText_150 : decode b_X0_closeText 150 = .ok (.bipush 24, 2) := by decide +kernel
theorem d_X0_closeText_152 : decode b_X0_closeText 152 = .ok (.bipush 8, 2) := by decide +kernel
theorem d_X0_closeText_154 : decode b_X0_closeText 154 = .ok (.iload 4, 2) := by decide +kernel
theorem d_X0_closeText_156 : decode b_X0_closeText 156 = .ok (.iconst 3, 1) := by decide +kernel
theorem d_X0_closeText_157 : decode b_X0_closeText 157 = .ok (.iand, 1) := by decide +kernel
theorem d_X0_closeText_158 : decode b_X0_closeText 158 = .ok (.imul, 1) := by decide +kernel
theorem d_X0_closeText_159 : decode b_X0_closeText 159 = .ok (.isub, 1) := by decide +kernel
theorem d_X0_closeText_160 : decode b_X0_closeText 160 = .ok (.iushr, 1) := by decide +kernel
theorem d_X0_closeText_161 : decode b_X0_closeText 161 = .ok (.invokevirtual 23, 3) := by decide +kernel
theorem d_X0_closeText_164 : decode b_X0_closeText 164 = .ok (.iinc 4 1, 3) := by decide +kernel
theorem d_X0_closeText_167 : decode b_X0_closeText 167 = .ok (.goto (-34), 3) := by decide +kernel
theorem d_X0_closeText_170 : decode b_X0_closeText 170 = .ok (.return_, 1) := by decide +kernel
theorem d_X0_startSums_0 : decode b_X0_startSums 0 = .ok (.iconst 0, 1) := by decide +kernel
theorem d_X0_startSums_1 : decode b_X0_startSums 1 = .ok (.istore_n 1, 1) := by decide +kernel
theorem d_X0_startSums_2 : decode b_X0_startSums 2 = .ok (.iload_n 1, 1) := by decide +kernel
theorem d_X0_startSums_3 : decode b_X0_startSums 3 = .ok (.bipush 8, 2) := by decide +kernel
theorem d_X0_startSums_5 : decode b_X0_startSums 5 = .ok (.if_icmp .ge 20, 3) := by decide +kernel
theorem d_X0_startSums_8 : decode b_X0_startSums 8 = .ok (.aload_n 0, 1) := by decide +kernel
theorem d_X0_startSums_9 : decode b_X0_startSums 9 = .ok (.getfield 36, 3) := by decide +kernel
theorem d_X0_startSums_12 : decode b_X0_startSums 12 = .ok (.iload_n 1, 1) := by decide +kernel
theorem d_X0_startSums_13 : decode b_X0_startSums 13 = .ok (.getstatic 111, 3) := by decide +kernel
theorem d_X0_startSums_16 : decode b_X0_startSums 16 = .ok (.iload_n 1, 1) := by decide +kernel
theorem d_X0_startSums_17 : decode b_X0_startSums 17 = .ok (.iaload, 1) := by decide +kernel
theorem d_X0_startSums_18 : decode b_X0_startSums 18 = .ok (.iastore, 1) := by decide +kernel
theorem d_X0_startSums_19 : decode b_X0_startSums 19 = .ok (.iinc 1 1, 3) := by decide +kernel
theorem d_X0_startSums_22 : decode b_X0_startSums 22 = .ok (.goto (-20), 3) := by decide +kernel
theorem d_X0_startSums_25 : decode b_X0_startSums 25 = .ok (.return_, 1) := by decide +kernel
theorem d_X0_spread_0 : decode b_X0_spread 0 = .ok (.aload_n 0, 1) := by decide +kernel
theorem d_X0_spread_1 : decode b_X0_spread 1 = .ok (.getfield 26, 3) := by decide +kernel
theorem d_X0_spread_4 : decode b_X0_spread 4 = .ok (.getfield 114, 3) := by decide +kernel
theorem d_X0_spread_7 : decode b_X0_spread 7 = .ok (.astore_n 2, 1) := by decide +kernel
theorem d_X0_spread_8 : decode b_X0_spread 8 = .ok (.iload_n 1, 1) := by decide +kernel
theorem d_X0_spread_9 : decode b_X0_spread 9 = .ok (.ifCond .lt 12, 3) := by decide +kernel
theorem d_X0_spread_12 : decode b_X0_spread 12 = .ok (.iload_n 1, 1) := by decide +kernel
theorem d_X0_spread_13 : decode b_X0_spread 13 = .ok (.aload_n 2, 1) := by decide +kernel
theorem d_X0_spread_14 : decode b_X0_spread 14 = .ok (.arraylength, 1) := by decide +kernel
theorem d_X0_spread_15 : decode b_X0_spread 15 = .ok (.bipush 64, 2) := by decide +kernel
theorem d_X0_spread_17 : decode b_X0_spread 17 = .ok (.isub, 1) := by decide +kernel
theorem d_X0_spread_18 : decode b_X0_spread 18 = .ok (.if_icmp .le 4, 3) := by decide +kernel
theorem d_X0_spread_21 : decode b_X0_spread 21 = .ok (.return_, 1) := by decide +kernel
theorem d_X0_spread_22 : decode b_X0_spread 22 = .ok (.iconst 0, 1) := by decide +kernel
theorem d_X0_spread_23 : decode b_X0_spread 23 = .ok (.istore_n 3, 1) := by decide +kernel
theorem d_X0_spread_24 : decode b_X0_spread 24 = .ok (.iload_n 3, 1) := by decide +kernel
theorem d_X0_spread_25 : decode b_X0_spread 25 = .ok (.bipush 16, 2) := by decide +kernel
theorem d_X0_spread_27 : decode b_X0_spread 27 = .ok (.if_icmp .ge 56, 3) := by decide +kernel
theorem d_X0_spread_30 : decode b_X0_spread 30 = .ok (.iload_n 1, 1) := by decide +kernel
theorem d_X0_spread_31 : decode b_X0_spread 31 = .ok (.iconst 4, 1) := by decide +kernel
theorem d_X0_spread_32 : decode b_X0_spread 32 = .ok (.iload_n 3, 1) := by decide +kernel
theorem d_X0_spread_33 : decode b_X0_spread 33 = .ok (.imul, 1) := by decide +kernel
theorem d_X0_spread_34 : decode b_X0_spread 34 = .ok (.iadd, 1) := by decide +kernel
theorem d_X0_spread_35 : decode b_X0_spread 35 = .ok (.istore 4, 2) := by decide +kernel
theorem d_X0_spread_37 : decode b_X0_spread 37 = .ok (.aload_n 0, 1) := by decide +kernel
theorem d_X0_spread_38 : decode b_X0_spread 38 = .ok (.getfield 32, 3) := by decide +kernel
theorem d_X0_spread_41 : decode b_X0_spread 41 = .ok (.iload_n 3, 1) := by decide +kernel
theorem d_X0_spread_42 : decode b_X0_spread 42 = .ok (.aload_n 2, 1) := by decide +kernel
theorem d_X0_spread_43 : decode b_X0_spread 43 = .ok (.iload 4, 2) := by decide +kernel
theorem d_X0_spread_45 : decode b_X0_spread 45 = .ok (.iaload, 1) := by decide +kernel
theorem d_X0_spread_46 : decode b_X0_spread 46 = .ok (.bipush 24, 2) := by decide +kernel
theorem d_X0_spread_48 : decode b_X0_spread 48 = .ok (.ishl, 1) := by decide +kernel
theorem d_X0_spread_49 : decode b_X0_spread 49 = .ok (.aload_n 2, 1) := by decide +kernel
theorem d_X0_spread_50 : decode b_X0_spread 50 = .ok (.iload 4, 2) := by decide +kernel
theorem d_X0_spread_52 : decode b_X0_spread 52 = .ok (.iconst 1, 1) := by decide +kernel
theorem d_X0_spread_53 : decode b_X0_spread 53 = .ok (.iadd, 1) := by decide +kernel
theorem d_X0_spread_54 : decode b_X0_spread 54 = .ok (.iaload, 1) := by decide +kernel
theorem d_X0_spread_55 : decode b_X0_spread 55 = .ok (.bipush 16, 2) := by decide +kernel
theorem d_X0_spread_57 : decode b_X0_spread 57 = .ok (.ishl, 1) := by decide +kernel
theorem d_X0_spread_58 : decode b_X0_spread 58 = .ok (.ior, 1) := by decide +kernel
theorem d_X0_spread_59 : decode b_X0_spread 59 = .ok (.aload_n 2, 1) := by decide +kernel
theorem d_X0_spread_60 : decode b_X0_spread 60 = .ok (.iload 4, 2) := by decide +kernel
theorem d_X0_spread_62 : decode b_X0_spread 62 = .ok (.iconst 2, 1) := by decide +kernel
theorem d_X0_spread_63 : decode b_X0_spread 63 = .ok (.iadd, 1) := by decide +kernel
theorem d_X0_spread_64 : decode b_X0_spread 64 = .ok (.iaload, 1) := by decide +kernel
theorem d_X0_spread_65 : decode b_X0_spread 65 = .ok (.bipush 8, 2) := by decide +kernel
theorem d_X0_spread_67 : decode b_X0_spread 67 = .ok (.ishl, 1) := by decide +kernel
theorem d_X0_spread_68 : decode b_X0_spread 68 = .ok (.ior, 1) := by decide +kernel
theorem d_X0_spread_69 : decode b_X0_spread 69 = .ok (.aload_n 2, 1) := by decide +kernel
theorem d_X0_spread_70 : decode b_X0_spread 70 = .ok (.iload 4, 2) := by decide +kernel
theorem d_X0_spread_72 : decode b_X0_spread 72 = .ok (.iconst 3, 1) := by decide +kernel
theorem d_X0_spread_73 : decode b_X0_spread 73 = .ok (.iadd, 1) := by decide +kernel
theorem d_X0_spread_74 : decode b_X0_spread 74 = .ok (.iaload, 1) := by decide +kernel
theorem d_X0_spread_75 : decode b_X0_spread 75 = .ok (.ior, 1) := by decide +kernel
theorem d_X0_spread_76 : decode b_X0_spread 76 = .ok (.iastore, 1) := by decide +kernel
theorem d_X0_spread_77 : decode b_X0_spread 77 = .ok (.iinc 3 1, 3) := by decide +kernel
theorem d_X0_spread_80 : decode b_X0_spread 80 = .ok (.goto (-56), 3) := by decide +kernel
theorem d_X0_spread_83 : decode b_X0_spread 83 = .ok (.bipush 16, 2) := by decide +kernel
theorem d_X0_spread_85 : decode b_X0_spread 85 = .ok (.istore_n 3, 1) := by decide +kernel
theorem d_X0_spread_86 : decode b_X0_spread 86 = .ok (.iload_n 3, 1) := by decide +kernel
theorem d_X0_spread_87 : decode b_X0_spread 87 = .ok (.bipush 64, 2) := by decide +kernel
theorem d_X0_spread_89 : decode b_X0_spread 89 = .ok (.if_icmp .ge 122, 3) := by decide +kernel
theorem d_X0_spread_92 : decode b_X0_spread 92 = .ok (.aload_n 0, 1) := by decide +kernel
theorem d_X0_spread_93 : decode b_X0_spread 93 = .ok (.getfield 32, 3) := by decide +kernel
theorem d_X0_spread_96 : decode b_X0_spread 96 = .ok (.iload_n 3, 1) := by decide +kernel
theorem d_X0_spread_97 : decode b_X0_spread 97 = .ok (.bipush 15, 2) := by decide +kernel
theorem d_X0_spread_99 : decode b_X0_spread 99 = .ok (.isub, 1) := by decide +kernel
theorem d_X0_spread_100 : decode b_X0_spread 100 = .ok (.iaload, 1) := by decide +kernel
theorem d_X0_spread_101 : decode b_X0_spread 101 = .ok (.istore 4, 2) := by decide +kernel
theorem d_X0_spread_103 : decode b_X0_spread 103 = .ok (.aload_n 0, 1) := by decide +kernel
theorem d_X0_spread_104 : decode b_X0_spread 104 = .ok (.getfield 32, 3) := by decide +kernel
theorem d_X0_spread_107 : decode b_X0_spread 107 = .ok (.iload_n 3, 1) := by decide +kernel
theorem d_X0_spread_108 : decode b_X0_spread 108 = .ok (.iconst 2, 1) := by decide +kernel
theorem d_X0_spread_109 : decode b_X0_spread 109 = .ok (.isub, 1) := by decide +kernel
theorem d_X0_spread_110 : decode b_X0_spread 110 = .ok (.iaload, 1) := by decide +kernel
theorem d_X0_spread_111 : decode b_X0_spread 111 = .ok (.istore 5, 2) := by decide +kernel
theorem d_X0_spread_113 : decode b_X0_spread 113 = .ok (.iload 4, 2) := by decide +kernel
theorem d_X0_spread_115 : decode b_X0_spread 115 = .ok (.bipush 7, 2) := by decide +kernel
theorem d_X0_spread_117 : decode b_X0_spread 117 = .ok (.iushr, 1) := by decide +kernel
theorem d_X0_spread_118 : decode b_X0_spread 118 = .ok (.iload 4, 2) := by decide +kernel
theorem d_X0_spread_120 : decode b_X0_spread 120 = .ok (.bipush 25, 2) := by decide +kernel
theorem d_X0_spread_122 : decode b_X0_spread 122 = .ok (.ishl, 1) := by decide +kernel
theorem d_X0_spread_123 : decode b_X0_spread 123 = .ok (.ior, 1) := by decide +kernel
theorem d_X0_spread_124 : decode b_X0_spread 124 = .ok (.iload 4, 2) := by decide +kernel
theorem d_X0_spread_126 : decode b_X0_spread 126 = .ok (.bipush 18, 2) := by decide +kernel
theorem d_X0_spread_128 : decode b_X0_spread 128 = .ok (.iushr, 1) := by decide +kernel
theorem d_X0_spread_129 : decode b_X0_spread 129 = .ok (.iload 4, 2) := by decide +kernel
theorem d_X0_spread_131 : decode b_X0_spread 131 = .ok (.bipush 14, 2) := by decide +kernel
theorem d_X0_spread_133 : decode b_X0_spread 133 = .ok (.ishl, 1) := by decide +kernel
theorem d_X0_spread_134 : decode b_X0_spread 134 = .ok (.ior, 1) := by decide +kernel
theorem d_X0_spread_135 : decode b_X0_spread 135 = .ok (.ixor, 1) := by decide +kernel
theorem d_X0_spread_136 : decode b_X0_spread 136 = .ok (.iload 4, 2) := by decide +kernel
theorem d_X0_spread_138 : decode b_X0_spread 138 = .ok (.iconst 3, 1) := by decide +kernel
theorem d_X0_spread_139 : decode b_X0_spread 139 = .ok (.iushr, 1) := by decide +kernel
theorem d_X0_spread_140 : decode b_X0_spread 140 = .ok (.ixor, 1) := by decide +kernel
theorem d_X0_spread_141 : decode b_X0_spread 141 = .ok (.istore 6, 2) := by decide +kernel
theorem d_X0_spread_143 : decode b_X0_spread 143 = .ok (.iload 5, 2) := by decide +kernel
theorem d_X0_spread_145 : decode b_X0_spread 145 = .ok (.bipush 17, 2) := by decide +kernel
theorem d_X0_spread_147 : decode b_X0_spread 147 = .ok (.iushr, 1) := by decide +kernel
theorem d_X0_spread_148 : decode b_X0_spread 148 = .ok (.iload 5, 2) := by decide +kernel
theorem d_X0_spread_150 : decode b_X0_spread 150 = .ok (.bipush 15, 2) := by decide +kernel
theorem d_X0_spread_152 : decode b_X0_spread 152 = .ok (.ishl, 1) := by decide +kernel
theorem d_X0_spread_153 : decode b_X0_spread 153 = .ok (.ior, 1) := by decide +kernel
theorem d_X0_spread_154 : decode b_X0_spread 154 = .ok (.iload 5, 2) := by decide +kernel
theorem d_X0_spread_156 : decode b_X0_spread 156 = .ok (.bipush 19, 2) := by decide +kernel
theorem d_X0_spread_158 : decode b_X0_spread 158 = .ok (.iushr, 1) := by decide +kernel
theorem d_X0_spread_159 : decode b_X0_spread 159 = .ok (.iload 5, 2) := by decide +kernel
theorem d_X0_spread_161 : decode b_X0_spread 161 = .ok (.bipush 13, 2) := by decide +kernel
theorem d_X0_spread_163 : decode b_X0_spread 163 = .ok (.ishl, 1) := by decide +kernel
theorem d_X0_spread_164 : decode b_X0_spread 164 = .ok (.ior, 1) := by decide +kernel
theorem d_X0_spread_165 : decode b_X0_spread 165 = .ok (.ixor, 1) := by decide +kernel
theorem d_X0_spread_166 : decode b_X0_spread 166 = .ok (.iload 5, 2) := by decide +kernel
theorem d_X0_spread_168 : decode b_X0_spread 168 = .ok (.bipush 10, 2) := by decide +kernel
theorem d_X0_spread_170 : decode b_X0_spread 170 = .ok (.iushr, 1) := by decide +kernel
theorem d_X0_spread_171 : decode b_X0_spread 171 = .ok (.ixor, 1) := by decide +kernel
theorem d_X0_spread_172 : decode b_X0_spread 172 = .ok (.istore 7, 2) := by decide +kernel
theorem d_X0_spread_174 : decode b_X0_spread 174 = .ok (.aload_n 0, 1) := by decide +kernel
theorem d_X0_spread_175 : decode b_X0_spread 175 = .ok (.getfield 32, 3) := by decide +kernel
theorem d_X0_spread_178 : decode b_X0_spread 178 = .ok (.iload_n 3, 1) := by decide +kernel
theorem d_X0_spread_179 : decode b_X0_spread 179 = .ok (.aload_n 0, 1) := by decide +kernel
theorem d_X0_spread_180 : decode b_X0_spread 180 = .ok (.getfield 32, 3) := by decide +kernel
theorem d_X0_spread_183 : decode b_X0_spread 183 = .ok (.iload_n 3, 1) := by decide +kernel
theorem d_X0_spread_184 : decode b_X0_spread 184 = .ok (.bipush 16, 2) := by decide +kernel
theorem d_X0_spread_186 : decode b_X0_spread 186 = .ok (.isub, 1) := by decide +kernel
theorem d_X0_spread_187 : decode b_X0_spread 187 = .ok (.iaload, 1) := by decide +kernel
theorem d_X0_spread_188 : decode b_X0_spread 188 = .ok (.iload 6, 2) := by decide +kernel
theorem d_X0_spread_190 : decode b_X0_spread 190 = .ok (.iadd, 1) := by decide +kernel
theorem d_X0_spread_191 : decode b_X0_spread 191 = .ok (.aload_n 0, 1) := by decide +kernel
theorem d_X0_spread_192 : decode b_X0_spread 192 = .ok (.getfield 32, 3) := by decide +kernel
theorem d_X0_spread_195 : decode b_X0_spread 195 = .ok (.iload_n 3, 1) := by decide +kernel
theorem d_X0_spread_196 : decode b_X0_spread 196 = .ok (.bipush 7, 2) := by decide +kernel
theorem d_X0_spread_198 : decode b_X0_spread 198 = .ok (.isub, 1) := by decide +kernel
theorem d_X0_spread_199 : decode b_X0_spread 199 = .ok (.iaload, 1) := by decide +kernel
theorem d_X0_spread_200 : decode b_X0_spread 200 = .ok (.iadd, 1) := by decide +kernel
theorem d_X0_spread_201 : decode b_X0_spread 201 = .ok (.iload 7, 2) := by decide +kernel
theorem d_X0_spread_203 : decode b_X0_spread 203 = .ok (.iadd, 1) := by decide +kernel
theorem d_X0_spread_204 : decode b_X0_spread 204 = .ok (.iastore, 1) := by decide +kernel
theorem d_X0_spread_205 : decode b_X0_spread 205 = .ok (.iinc 3 1, 3) := by decide +kernel
theorem d_X0_spread_208 : decode b_X0_spread 208 = .ok (.goto (-122), 3) := by decide +kernel
theorem d_X0_spread_211 : decode b_X0_spread 211 = .ok (.return_, 1) := by decide +kernel
theorem d_X0_stir_0 : decode b_X0_stir 0 = .ok (.aload_n 0, 1) := by decide +kernel
theorem d_X0_stir_1 : decode b_X0_stir 1 = .ok (.getfield 36, 3) := by decide +kernel
theorem d_X0_stir_4 : decode b_X0_stir 4 = .ok (.iconst 0, 1) := by decide +kernel
theorem d_X0_stir_5 : decode b_X0_stir 5 = .ok (.iaload, 1) := by decide +kernel
theorem d_X0_stir_6 : decode b_X0_stir 6 = .ok (.istore_n 1, 1) := by decide +kernel
theorem d_X0_stir_7 : decode b_X0_stir 7 = .ok (.aload_n 0, 1) := by decide +kernel
theorem d_X0_stir_8 : decode b_X0_stir 8 = .ok (.getfield 36, 3) := by decide +kernel
theorem d_X0_stir_11 : decode b_X0_stir 11 = .ok (.iconst 1, 1) := by decide +kernel
theorem d_X0_stir_12 : decode b_X0_stir 12 = .ok (.iaload, 1) := by decide +kernel
theorem d_X0_stir_13 : decode b_X0_stir 13 = .ok (.istore_n 2, 1) := by decide +kernel
theorem d_X0_stir_14 : decode b_X0_stir 14 = .ok (.aload_n 0, 1) := by decide +kernel
theorem d_X0_stir_15 : decode b_X0_stir 15 = .ok (.getfield 36, 3) := by decide +kernel
theorem d_X0_stir_18 : decode b_X0_stir 18 = .ok (.iconst 2, 1) := by decide +kernel
theorem d_X0_stir_19 : decode b_X0_stir 19 = .ok (.iaload, 1) := by decide +kernel
theorem d_X0_stir_20 : decode b_X0_stir 20 = .ok (.istore_n 3, 1) := by decide +kernel
theorem d_X0_stir_21 : decode b_X0_stir 21 = .ok (.aload_n 0, 1) := by decide +kernel
theorem d_X0_stir_22 : decode b_X0_stir 22 = .ok (.getfield 36, 3) := by decide +kernel
theorem d_X0_stir_25 : decode b_X0_stir 25 = .ok (.iconst 3, 1) := by decide +kernel
theorem d_X0_stir_26 : decode b_X0_stir 26 = .ok (.iaload, 1) := by decide +kernel
theorem d_X0_stir_27 : decode b_X0_stir 27 = .ok (.istore 4, 2) := by decide +kernel
theorem d_X0_stir_29 : decode b_X0_stir 29 = .ok (.aload_n 0, 1) := by decide +kernel
theorem d_X0_stir_30 : decode b_X0_stir 30 = .ok (.getfield 36, 3) := by decide +kernel
theorem d_X0_stir_33 : decode b_X0_stir 33 = .ok (.iconst 4, 1) := by decide +kernel
theorem d_X0_stir_34 : decode b_X0_stir 34 = .ok (.iaload, 1) := by decide +kernel
theorem d_X0_stir_35 : decode b_X0_stir 35 = .ok (.istore 5, 2) := by decide +kernel
theorem d_X0_stir_37 : decode b_X0_stir 37 = .ok (.aload_n 0, 1) := by decide +kernel
theorem d_X0_stir_38 : decode b_X0_stir 38 = .ok (.getfield 36, 3) := by decide +kernel
theorem d_X0_stir_41 : decode b_X0_stir 41 = .ok (.iconst 5, 1) := by decide +kernel
theorem d_X0_stir_42 : decode b_X0_stir 42 = .ok (.iaload, 1) := by decide +kernel
theorem d_X0_stir_43 : decode b_X0_stir 43 = .ok (.istore 6, 2) := by decide +kernel
theorem d_X0_stir_45 : decode b_X0_stir 45 = .ok (.aload_n 0, 1) := by decide +kernel
theorem d_X0_stir_46 : decode b_X0_stir 46 = .ok (.getfield 36, 3) := by decide +kernel
theorem d_X0_stir_49 : decode b_X0_stir 49 = .ok (.bipush 6, 2) := by decide +kernel
theorem d_X0_stir_51 : decode b_X0_stir 51 = .ok (.iaload, 1) := by decide +kernel
theorem d_X0_stir_52 : decode b_X0_stir 52 = .ok (.istore 7, 2) := by decide +kernel
theorem d_X0_stir_54 : decode b_X0_stir 54 = .ok (.aload_n 0, 1) := by decide +kernel
theorem d_X0_stir_55 : decode b_X0_stir 55 = .ok (.getfield 36, 3) := by decide +kernel
theorem d_X0_stir_58 : decode b_X0_stir 58 = .ok (.bipush 7, 2) := by decide +kernel
theorem d_X0_stir_60 : decode b_X0_stir 60 = .ok (.iaload, 1) := by decide +kernel
theorem d_X0_stir_61 : decode b_X0_stir 61 = .ok (.istore 8, 2) := by decide +kernel
theorem d_X0_stir_63 : decode b_X0_stir 63 = .ok (.iconst 0, 1) := by decide +kernel
theorem d_X0_stir_64 : decode b_X0_stir 64 = .ok (.istore 9, 2) := by decide +kernel
theorem d_X0_stir_66 : decode b_X0_stir 66 = .ok (.iload 9, 2) := by decide +kernel
theorem d_X0_stir_68 : decode b_X0_stir 68 = .ok (.bipush 64, 2) := by decide +kernel
theorem d_X0_stir_70 : decode b_X0_stir 70 = .ok (.if_icmp .ge 168, 3) := by decide +kernel
theorem d_X0_stir_73 : decode b_X0_stir 73 = .ok (.iload 5, 2) := by decide +kernel
theorem d_X0_stir_75 : decode b_X0_stir 75 = .ok (.bipush 6, 2) := by decide +kernel
theorem d_X0_stir_77 : decode b_X0_stir 77 = .ok (.iushr, 1) := by decide +kernel
theorem d_X0_stir_78 : decode b_X0_stir 78 = .ok (.iload 5, 2) := by decide +kernel
theorem d_X0_stir_80 : decode b_X0_stir 80 = .ok (.bipush 26, 2) := by decide +kernel
theorem d_X0_stir_82 : decode b_X0_stir 82 = .ok (.ishl, 1) := by decide +kernel
theorem d_X0_stir_83 : decode b_X0_stir 83 = .ok (.ior, 1) := by decide +kernel
theorem d_X0_stir_84 : decode b_X0_stir 84 = .ok (.iload 5, 2) := by decide +kernel
theorem d_X0_stir_86 : decode b_X0_stir 86 = .ok (.bipush 11, 2) := by decide +kernel
theorem d_X0_stir_88 : decode b_X0_stir 88 = .ok (.iushr, 1) := by decide +kernel
theorem d_X0_stir_89 : decode b_X0_stir 89 = .ok (.iload 5, 2) := by decide +kernel
theorem d_X0_stir_91 : decode b_X0_stir 91 = .ok (.bipush 21, 2) := by decide +kernel
theorem d_X0_stir_93 : decode b_X0_stir 93 = .ok (.ishl, 1) := by decide +kernel
theorem d_X0_stir_94 : decode b_X0_stir 94 = .ok (.ior, 1) := by decide +kernel
theorem d_X0_stir_95 : decode b_X0_stir 95 = .ok (.ixor, 1) := by decide +kernel
theorem d_X0_stir_96 : decode b_X0_stir 96 = .ok (.iload 5, 2) := by decide +kernel
theorem d_X0_stir_98 : decode b_X0_stir 98 = .ok (.bipush 25, 2) := by decide +kernel
theorem d_X0_stir_100 : decode b_X0_stir 100 = .ok (.iushr, 1) := by decide +kernel
theorem d_X0_stir_101 : decode b_X0_stir 101 = .ok (.iload 5, 2) := by decide +kernel
theorem d_X0_stir_103 : decode b_X0_stir 103 = .ok (.bipush 7, 2) := by decide +kernel
theorem d_X0_stir_105 : decode b_X0_stir 105 = .ok (.ishl, 1) := by decide +kernel
theorem d_X0_stir_106 : decode b_X0_stir 106 = .ok (.ior, 1) := by decide +kernel
theorem d_X0_stir_107 : decode b_X0_stir 107 = .ok (.ixor, 1) := by decide +kernel
theorem d_X0_stir_108 : decode b_X0_stir 108 = .ok (.istore 10, 2) := by decide +kernel
theorem d_X0_stir_110 : decode b_X0_stir 110 = .ok (.iload 5, 2) := by decide +kernel
theorem d_X0_stir_112 : decode b_X0_stir 112 = .ok (.iload 6, 2) := by decide +kernel
theorem d_X0_stir_114 : decode b_X0_stir 114 = .ok (.iand, 1) := by decide +kernel
theorem d_X0_stir_115 : decode b_X0_stir 115 = .ok (.iload 5, 2) := by decide +kernel
theorem d_X0_stir_117 : decode b_X0_stir 117 = .ok (.iconst (-1), 1) := by decide +kernel
theorem d_X0_stir_118 : decode b_X0_stir 118 = .ok (.ixor, 1) := by decide +kernel
theorem d_X0_stir_119 : decode b_X0_stir 119 = .ok (.iload 7, 2) := by decide +kernel
theorem d_X0_stir_121 : decode b_X0_stir 121 = .ok (.iand, 1) := by decide +kernel
theorem d_X0_stir_122 : decode b_X0_stir 122 = .ok (.ixor, 1) := by decide +kernel
theorem d_X0_stir_123 : decode b_X0_stir 123 = .ok (.istore 11, 2) := by decide +kernel
theorem d_X0_stir_125 : decode b_X0_stir 125 = .ok (.iload 8, 2) := by decide +kernel
theorem d_X0_stir_127 : decode b_X0_stir 127 = .ok (.iload 10, 2) := by decide +kernel
theorem d_X0_stir_129 : decode b_X0_stir 129 = .ok (.iadd, 1) := by decide +kernel
theorem d_X0_stir_130 : decode b_X0_stir 130 = .ok (.iload 11, 2) := by decide +kernel
theorem d_X0_stir_132 : decode b_X0_stir 132 = .ok (.iadd, 1) := by decide +kernel
theorem d_X0_stir_133 : decode b_X0_stir 133 = .ok (.getstatic 117, 3) := by decide +kernel
theorem d_X0_stir_136 : decode b_X0_stir 136 = .ok (.iload 9, 2) := by decide +kernel
theorem d_X0_stir_138 : decode b_X0_stir 138 = .ok (.iaload, 1) := by decide +kernel
theorem d_X0_stir_139 : decode b_X0_stir 139 = .ok (.iadd, 1) := by decide +kernel
theorem d_X0_stir_140 : decode b_X0_stir 140 = .ok (.aload_n 0, 1) := by decide +kernel
theorem d_X0_stir_141 : decode b_X0_stir 141 = .ok (.getfield 32, 3) := by decide +kernel
theorem d_X0_stir_144 : decode b_X0_stir 144 = .ok (.iload 9, 2) := by decide +kernel
theorem d_X0_stir_146 : decode b_X0_stir 146 = .ok (.iaload, 1) := by decide +kernel
theorem d_X0_stir_147 : decode b_X0_stir 147 = .ok (.iadd, 1) := by decide +kernel
theorem d_X0_stir_148 : decode b_X0_stir 148 = .ok (.istore 12, 2) := by decide +kernel
theorem d_X0_stir_150 : decode b_X0_stir 150 = .ok (.iload_n 1, 1) := by decide +kernel
theorem d_X0_stir_151 : decode b_X0_stir 151 = .ok (.iconst 2, 1) := by decide +kernel
theorem d_X0_stir_152 : decode b_X0_stir 152 = .ok (.iushr, 1) := by decide +kernel
theorem d_X0_stir_153 : decode b_X0_stir 153 = .ok (.iload_n 1, 1) := by decide +kernel
theorem d_X0_stir_154 : decode b_X0_stir 154 = .ok (.bipush 30, 2) := by decide +kernel
theorem d_X0_stir_156 : decode b_X0_stir 156 = .ok (.ishl, 1) := by decide +kernel
theorem d_X0_stir_157 : decode b_X0_stir 157 = .ok (.ior, 1) := by decide +kernel
theorem d_X0_stir_158 : decode b_X0_stir 158 = .ok (.iload_n 1, 1) := by decide +kernel
theorem d_X0_stir_159 : decode b_X0_stir 159 = .ok (.bipush 13, 2) := by decide +kernel
theorem d_X0_stir_161 : decode b_X0_stir 161 = .ok (.iushr, 1) := by decide +kernel
theorem d_X0_stir_162 : decode b_X0_stir 162 = .ok (.iload_n 1, 1) := by decide +kernel
theorem d_X0_stir_163 : decode b_X0_stir 163 = .ok (.bipush 19, 2) := by decide +kernel
theorem d_X0_stir_165 : decode b_X0_stir 165 = .ok (.ishl, 1) := by decide +kernel
theorem d_X0_stir_166 : decode b_X0_stir 166 = .ok (.ior, 1) := by decide +kernel
theorem d_X0_stir_167 : decode b_X0_stir 167 = .ok (.ixor, 1) := by decide +kernel
theorem d_X0_stir_168 : decode b_X0_stir 168 = .ok (.iload_n 1, 1) := by decide +kernel
theorem d_X0_stir_169 : decode b_X0_stir 169 = .ok (.bipush 22, 2) := by decide +kernel
theorem d_X0_stir_171 : decode b_X0_stir 171 = .ok (.iushr, 1) := by decide +kernel
theorem d_X0_stir_172 : decode b_X0_stir 172 = .ok (.iload_n 1, 1) := by decide +kernel
theorem d_X0_stir_173 : decode b_X0_stir 173 = .ok (.bipush 10, 2) := by decide +kernel
theorem d_X0_stir_175 : decode b_X0_stir 175 = .ok (.ishl, 1) := by decide +kernel
theorem d_X0_stir_176 : decode b_X0_stir 176 = .ok (.ior, 1) := by decide +kernel
theorem d_X0_stir_177 : decode b_X0_stir 177 = .ok (.ixor, 1) := by decide +kernel
theorem d_X0_stir_178 : decode b_X0_stir 178 = .ok (.istore 13, 2) := by decide +kernel
theorem d_X0_stir_180 : decode b_X0_stir 180 = .ok (.iload_n 1, 1) := by decide +kernel
theorem d_X0_stir_181 : decode b_X0_stir 181 = .ok (.iload_n 2, 1) := by decide +kernel
theorem d_X0_stir_182 : decode b_X0_stir 182 = .ok (.iand, 1) := by decide +kernel
theorem d_X0_stir_183 : decode b_X0_stir 183 = .ok (.iload_n 1, 1) := by decide +kernel
theorem d_X0_stir_184 : decode b_X0_stir 184 = .ok (.iload_n 3, 1) := by decide +kernel
theorem d_X0_stir_185 : decode b_X0_stir 185 = .ok (.iand, 1) := by decide +kernel
theorem d_X0_stir_186 : decode b_X0_stir 186 = .ok (.ixor, 1) := by decide +kernel
theorem d_X0_stir_187 : decode b_X0_stir 187 = .ok (.iload_n 2, 1) := by decide +kernel
theorem d_X0_stir_188 : decode b_X0_stir 188 = .ok (.iload_n 3, 1) := by decide +kernel
theorem d_X0_stir_189 : decode b_X0_stir 189 = .ok (.iand, 1) := by decide +kernel
theorem d_X0_stir_190 : decode b_X0_stir 190 = .ok (.ixor, 1) := by decide +kernel
theorem d_X0_stir_191 : decode b_X0_stir 191 = .ok (.istore 14, 2) := by decide +kernel
theorem d_X0_stir_193 : decode b_X0_stir 193 = .ok (.iload 13, 2) := by decide +kernel
theorem d_X0_stir_195 : decode b_X0_stir 195 = .ok (.iload 14, 2) := by decide +kernel
theorem d_X0_stir_197 : decode b_X0_stir 197 = .ok (.iadd, 1) := by decide +kernel
theorem d_X0_stir_198 : decode b_X0_stir 198 = .ok (.istore 15, 2) := by decide +kernel
theorem d_X0_stir_200 : decode b_X0_stir 200 = .ok (.iload 7, 2) := by decide +kernel
theorem d_X0_stir_202 : decode b_X0_stir 202 = .ok (.istore 8, 2) := by decide +kernel
theorem d_X0_stir_204 : decode b_X0_stir 204 = .ok (.iload 6, 2) := by decide +kernel
theorem d_X0_stir_206 : decode b_X0_stir 206 = .ok (.istore 7, 2) := by decide +kernel
theorem d_X0_stir_208 : decode b_X0_stir 208 = .ok (.iload 5, 2) := by decide +kernel
theorem d_X0_stir_210 : decode b_X0_stir 210 = .ok (.istore 6, 2) := by decide +kernel
theorem d_X0_stir_212 : decode b_X0_stir 212 = .ok (.iload 4, 2) := by decide +kernel
theorem d_X0_stir_214 : decode b_X0_stir 214 = .ok (.iload 12, 2) := by decide +kernel
theorem d_X0_stir_216 : decode b_X0_stir 216 = .ok (.iadd, 1) := by decide +kernel
theorem d_X0_stir_217 : decode b_X0_stir 217 = .ok (.istore 5, 2) := by decide +kernel
theorem d_X0_stir_219 : decode b_X0_stir 219 = .ok (.iload_n 3, 1) := by decide +kernel
theorem d_X0_stir_220 : decode b_X0_stir 220 = .ok (.istore 4, 2) := by decide +kernel
theorem d_X0_stir_222 : decode b_X0_stir 222 = .ok (.iload_n 2, 1) := by decide +kernel
theorem d_X0_stir_223 : decode b_X0_stir 223 = .ok (.istore_n 3, 1) := by decide +kernel
theorem d_X0_stir_224 : decode b_X0_stir 224 = .ok (.iload_n 1, 1) := by decide +kernel
theorem d_X0_stir_225 : decode b_X0_stir 225 = .ok (.istore_n 2, 1) := by decide +kernel
theorem d_X0_stir_226 : decode b_X0_stir 226 = .ok (.iload 12, 2) := by decide +kernel
theorem d_X0_stir_228 : decode b_X0_stir 228 = .ok (.iload 15, 2) := by decide +kernel
theorem d_X0_stir_230 : decode b_X0_stir 230 = .ok (.iadd, 1) := by decide +kernel
theorem d_X0_stir_231 : decode b_X0_stir 231 = .ok (.istore_n 1, 1) := by decide +kernel
theorem d_X0_stir_232 : decode b_X0_stir 232 = .ok (.iinc 9 1, 3) := by decide +kernel
theorem d_X0_stir_235 : decode b_X0_stir 235 = .ok (.goto (-169), 3) := by decide +kernel
theorem d_X0_stir_238 : decode b_X0_stir 238 = .ok (.aload_n 0, 1) := by decide +kernel
theorem d_X0_stir_239 : decode b_X0_stir 239 = .ok (.getfield 36, 3) := by decide +kernel
theorem d_X0_stir_242 : decode b_X0_stir 242 = .ok (.iconst 0, 1) := by decide +kernel
theorem d_X0_stir_243 : decode b_X0_stir 243 = .ok (.dup2, 1) := by decide +kernel
theorem d_X0_stir_244 : decode b_X0_stir 244 = .ok (.iaload, 1) := by decide +kernel
theorem d_X0_stir_245 : decode b_X0_stir 245 = .ok (.iload_n 1, 1) := by decide +kernel
theorem d_X0_stir_246 : decode b_X0_stir 246 = .ok (.iadd, 1) := by decide +kernel
theorem d_X0_stir_247 : decode b_X0_stir 247 = .ok (.iastore, 1) := by decide +kernel
theorem d_X0_stir_248 : decode b_X0_stir 248 = .ok (.aload_n 0, 1) := by decide +kernel
theorem d_X0_stir_249 : decode b_X0_stir 249 = .ok (.getfield 36, 3) := by decide +kernel
theorem d_X0_stir_252 : decode b_X0_stir 252 = .ok (.iconst 1, 1) := by decide +kernel
theorem d_X0_stir_253 : decode b_X0_stir 253 = .ok (.dup2, 1) := by decide +kernel
theorem d_X0_stir_254 : decode b_X0_stir 254 = .ok (.iaload, 1) := by decide +kernel
theorem d_X0_stir_255 : decode b_X0_stir 255 = .ok (.iload_n 2, 1) := by decide +kernel
theorem d_X0_stir_256 : decode b_X0_stir 256 = .ok (.iadd, 1) := by decide +kernel
theorem d_X0_stir_257 : decode b_X0_stir 257 = .ok (.iastore, 1) := by decide +kernel
theorem d_X0_stir_258 : decode b_X0_stir 258 = .ok (.aload_n 0, 1) := by decide +kernel
theorem d_X0_stir_259 : decode b_X0_stir 259 = .ok (.getfield 36, 3) := by decide +kernel
theorem d_X0_stir_262 : decode b_X0_stir 262 = .ok (.iconst 2, 1) := by decide +kernel
theorem d_X0_stir_263 : decode b_X0_stir 263 = .ok (.dup2, 1) := by decide +kernel
theorem d_X0_stir_264 : decode b_X0_stir 264 = .ok (.iaload, 1) := by decide +kernel
theorem d_X0_stir_265 : decode b_X0_stir 265 = .ok (.iload_n 3, 1) := by decide +kernel
theorem d_X0_stir_266 : decode b_X0_stir 266 = .ok (.iadd, 1) := by decide +kernel
theorem d_X0_stir_267 : decode b_X0_stir 267 = .ok (.iastore, 1) := by decide +kernel
theorem d_X0_stir_268 : decode b_X0_stir 268 = .ok (.aload_n 0, 1) := by decide +kernel
theorem d_X0_stir_269 : decode b_X0_stir 269 = .ok (.getfield 36, 3) := by decide +kernel
theorem d_X0_stir_272 : decode b_X0_stir 272 = .ok (.iconst 3, 1) := by decide +kernel
theorem d_X0_stir_273 : decode b_X0_stir 273 = .ok (.dup2, 1) := by decide +kernel
theorem d_X0_stir_274 : decode b_X0_stir 274 = .ok (.iaload, 1) := by decide +kernel
theorem d_X0_stir_275 : decode b_X0_stir 275 = .ok (.iload 4, 2) := by decide +kernel
theorem d_X0_stir_277 : decode b_X0_stir 277 = .ok (.iadd, 1) := by decide +kernel
theorem d_X0_stir_278 : decode b_X0_stir 278 = .ok (.iastore, 1) := by decide +kernel
theorem d_X0_stir_279 : decode b_X0_stir 279 = .ok (.aload_n 0, 1) := by decide +kernel
theorem d_X0_stir_280 : decode b_X0_stir 280 = .ok (.getfield 36, 3) := by decide +kernel
theorem d_X0_stir_283 : decode b_X0_stir 283 = .ok (.iconst 4, 1) := by decide +kernel
theorem d_X0_stir_284 : decode b_X0_stir 284 = .ok (.dup2, 1) := by decide +kernel
theorem d_X0_stir_285 : decode b_X0_stir 285 = .ok (.iaload, 1) := by decide +kernel
theorem d_X0_stir_286 : decode b_X0_stir 286 = .ok (.iload 5, 2) := by decide +kernel
theorem d_X0_stir_288 : decode b_X0_stir 288 = .ok (.iadd, 1) := by decide +kernel
theorem d_X0_stir_289 : decode b_X0_stir 289 = .ok (.iastore, 1) := by decide +kernel
theorem d_X0_stir_290 : decode b_X0_stir 290 = .ok (.aload_n 0, 1) := by decide +kernel
theorem d_X0_stir_291 : decode b_X0_stir 291 = .ok (.getfield 36, 3) := by decide +kernel
theorem d_X0_stir_294 : decode b_X0_stir 294 = .ok (.iconst 5, 1) := by decide +kernel
theorem d_X0_stir_295 : decode b_X0_stir 295 = .ok (.dup2, 1) := by decide +kernel
theorem d_X0_stir_296 : decode b_X0_stir 296 = .ok (.iaload, 1) := by decide +kernel
theorem d_X0_stir_297 : decode b_X0_stir 297 = .ok (.iload 6, 2) := by decide +kernel
theorem d_X0_stir_299 : decode b_X0_stir 299 = .ok (.iadd, 1) := by decide +kernel
theorem d_X0_stir_300 : decode b_X0_stir 300 = .ok (.iastore, 1) := by decide +kernel
theorem d_X0_stir_301 : decode b_X0_stir 301 = .ok (.aload_n 0, 1) := by decide +kernel
theorem d_X0_stir_302 : decode b_X0_stir 302 = .ok (.getfield 36, 3) := by decide +kernel
theorem d_X0_stir_305 : decode b_X0_stir 305 = .ok (.bipush 6, 2) := by decide +kernel
theorem d_X0_stir_307 : decode b_X0_stir 307 = .ok (.dup2, 1) := by decide +kernel
theorem d_X0_stir_308 : decode b_X0_stir 308 = .ok (.iaload, 1) := by decide +kernel
theorem d_X0_stir_309 : decode b_X0_stir 309 = .ok (.iload 7, 2) := by decide +kernel
theorem d_X0_stir_311 : decode b_X0_stir 311 = .ok (.iadd, 1) := by decide +kernel
theorem d_X0_stir_312 : decode b_X0_stir 312 = .ok (.iastore, 1) := by decide +kernel
theorem d_X0_stir_313 : decode b_X0_stir 313 = .ok (.aload_n 0, 1) := by decide +kernel
theorem d_X0_stir_314 : decode b_X0_stir 314 = .ok (.getfield 36, 3) := by decide +kernel
theorem d_X0_stir_317 : decode b_X0_stir 317 = .ok (.bipush 7, 2) := by decide +kernel
theorem d_X0_stir_319 : decode b_X0_stir 319 = .ok (.dup2, 1) := by decide +kernel
theorem d_X0_stir_320 : decode b_X0_stir 320 = .ok (.iaload, 1) := by decide +kernel
theorem d_X0_stir_321 : decode b_X0_stir 321 = .ok (.iload 8, 2) := by decide +kernel
theorem d_X0_stir_323 : decode b_X0_stir 323 = .ok (.iadd, 1) := by decide +kernel
theorem d_X0_stir_324 : decode b_X0_stir 324 = .ok (.iastore, 1) := by decide +kernel
theorem d_X0_stir_325 : decode b_X0_stir 325 = .ok (.return_, 1) := by decide +kernel
theorem d_X0_label_0 : decode b_X0_label 0 = .ok (.aload_n 0, 1) := by decide +kernel
theorem d_X0_label_1 : decode b_X0_label 1 = .ok (.aload_n 1, 1) := by decide +kernel
theorem d_X0_label_2 : decode b_X0_label 2 = .ok (.bipush 54, 2) := by decide +kernel
theorem d_X0_label_4 : decode b_X0_label 4 = .ok (.invokevirtual 46, 3) := by decide +kernel
theorem d_X0_label_7 : decode b_X0_label 7 = .ok (.aload_n 0, 1) := by decide +kernel
theorem d_X0_label_8 : decode b_X0_label 8 = .ok (.iload_n 2, 1) := by decide +kernel
theorem d_X0_label_9 : decode b_X0_label 9 = .ok (.invokestatic 53, 3) := by decide +kernel
theorem d_X0_label_12 : decode b_X0_label 12 = .ok (.aload_n 3, 1) := by decide +kernel
theorem d_X0_label_13 : decode b_X0_label 13 = .ok (.invokevirtual 57, 3) := by decide +kernel
theorem d_X0_label_16 : decode b_X0_label 16 = .ok (.aload_n 0, 1) := by decide +kernel
theorem d_X0_label_17 : decode b_X0_label 17 = .ok (.aload_n 0, 1) := by decide +kernel
theorem d_X0_label_18 : decode b_X0_label 18 = .ok (.getfield 29, 3) := by decide +kernel
theorem d_X0_label_21 : decode b_X0_label 21 = .ok (.invokevirtual 43, 3) := by decide +kernel
theorem d_X0_label_24 : decode b_X0_label 24 = .ok (.aload_n 0, 1) := by decide +kernel
theorem d_X0_label_25 : decode b_X0_label 25 = .ok (.aload_n 1, 1) := by decide +kernel
theorem d_X0_label_26 : decode b_X0_label 26 = .ok (.bipush 92, 2) := by decide +kernel
theorem d_X0_label_28 : decode b_X0_label 28 = .ok (.invokevirtual 46, 3) := by decide +kernel
theorem d_X0_label_31 : decode b_X0_label 31 = .ok (.aload_n 0, 1) := by decide +kernel
theorem d_X0_label_32 : decode b_X0_label 32 = .ok (.getfield 26, 3) := by decide +kernel
theorem d_X0_label_35 : decode b_X0_label 35 = .ok (.aload_n 0, 1) := by decide +kernel
theorem d_X0_label_36 : decode b_X0_label 36 = .ok (.getfield 29, 3) := by decide +kernel
theorem d_X0_label_39 : decode b_X0_label 39 = .ok (.iconst 0, 1) := by decide +kernel
theorem d_X0_label_40 : decode b_X0_label 40 = .ok (.invokevirtual 50, 3) := by decide +kernel
theorem d_X0_label_43 : decode b_X0_label 43 = .ok (.aload_n 0, 1) := by decide +kernel
theorem d_X0_label_44 : decode b_X0_label 44 = .ok (.aload 4, 2) := by decide +kernel
theorem d_X0_label_46 : decode b_X0_label 46 = .ok (.invokevirtual 43, 3) := by decide +kernel
theorem d_X0_label_49 : decode b_X0_label 49 = .ok (.return_, 1) := by decide +kernel
theorem d_X0_nameOf_0 : decode b_X0_nameOf 0 = .ok (.iload_n 0, 1) := by decide +kernel
theorem d_X0_nameOf_1 : decode b_X0_nameOf 1 = .ok (.tableswitch 57 4 9 #[39, 42, 45, 48, 51, 54], 39) := by decide +kernel
theorem d_X0_nameOf_40 : decode b_X0_nameOf 40 = .ok (.ldc 75, 2) := by decide +kernel
theorem d_X0_nameOf_42 : decode b_X0_nameOf 42 = .ok (.areturn, 1) := by decide +kernel
theorem d_X0_nameOf_43 : decode b_X0_nameOf 43 = .ok (.ldc 77, 2) := by decide +kernel
theorem d_X0_nameOf_45 : decode b_X0_nameOf 45 = .ok (.areturn, 1) := by decide +kernel
theorem d_X0_nameOf_46 : decode b_X0_nameOf 46 = .ok (.ldc 79, 2) := by decide +kernel
theorem d_X0_nameOf_48 : decode b_X0_nameOf 48 = .ok (.areturn, 1) := by decide +kernel
theorem d_X0_nameOf_49 : decode b_X0_nameOf 49 = .ok (.ldc 81, 2) := by decide +kernel
theorem d_X0_nameOf_51 : decode b_X0_nameOf 51 = .ok (.areturn, 1) := by decide +kernel
theorem d_X0_nameOf_52 : decode b_X0_nameOf 52 = .ok (.ldc 83, 2) := by decide +kernel
theorem d_X0_nameOf_54 : decode b_X0_nameOf 54 = .ok (.areturn, 1) := by decide +kernel
theorem d_X0_nameOf_55 : decode b_X0_nameOf 55 = .ok (.ldc 85, 2) := by decide +kernel
theorem d_X0_nameOf_57 : decode b_X0_nameOf 57 = .ok (.areturn, 1) := by decide +kernel
theorem d_X0_nameOf_58 : decode b_X0_nameOf 58 = .ok (.ldc 87, 2) := by decide +kernel
theorem d_X0_nameOf_60 : decode b_X0_nameOf 60 = .ok (.areturn, 1) := by decide +kernel
theorem d_X0_putLabel_0 : decode b_X0_putLabel 0 = .ok (.aload_n 0, 1) := by decide +kernel
theorem d_X0_putLabel_1 : decode b_X0_putLabel 1 = .ok (.getfield 26, 3) := by decide +kernel
theorem d_X0_putLabel_4 : decode b_X0_putLabel 4 = .ok (.iconst 0, 1) := by decide +kernel
theorem d_X0_putLabel_5 : decode b_X0_putLabel 5 = .ok (.invokevirtual 23, 3) := by decide +kernel
theorem d_X0_putLabel_8 : decode b_X0_putLabel 8 = .ok (.aload_n 0, 1) := by decide +kernel
theorem d_X0_putLabel_9 : decode b_X0_putLabel 9 = .ok (.getfield 26, 3) := by decide +kernel
theorem d_X0_putLabel_12 : decode b_X0_putLabel 12 = .ok (.bipush 32, 2) := by decide +kernel
theorem d_X0_putLabel_14 : decode b_X0_putLabel 14 = .ok (.invokevirtual 23, 3) := by decide +kernel
theorem d_X0_putLabel_17 : decode b_X0_putLabel 17 = .ok (.aload_n 0, 1) := by decide +kernel
theorem d_X0_putLabel_18 : decode b_X0_putLabel 18 = .ok (.getfield 26, 3) := by decide +kernel
theorem d_X0_putLabel_21 : decode b_X0_putLabel 21 = .ok (.aload_n 1, 1) := by decide +kernel
theorem d_X0_putLabel_22 : decode b_X0_putLabel 22 = .ok (.invokevirtual 61, 3) := by decide +kernel
theorem d_X0_putLabel_25 : decode b_X0_putLabel 25 = .ok (.invokevirtual 23, 3) := by decide +kernel
theorem d_X0_putLabel_28 : decode b_X0_putLabel 28 = .ok (.iconst 0, 1) := by decide +kernel
theorem d_X0_putLabel_29 : decode b_X0_putLabel 29 = .ok (.istore_n 3, 1) := by decide +kernel
theorem d_X0_putLabel_30 : decode b_X0_putLabel 30 = .ok (.iload_n 3, 1) := by decide +kernel
theorem d_X0_putLabel_31 : decode b_X0_putLabel 31 = .ok (.aload_n 1, 1) := by decide +kernel
theorem d_X0_putLabel_32 : decode b_X0_putLabel 32 = .ok (.invokevirtual 61, 3) := by decide +kernel
theorem d_X0_putLabel_35 : decode b_X0_putLabel 35 = .ok (.if_icmp .ge 21, 3) := by decide +kernel
theorem d_X0_putLabel_38 : decode b_X0_putLabel 38 = .ok (.aload_n 0, 1) := by decide +kernel
theorem d_X0_putLabel_39 : decode b_X0_putLabel 39 = .ok (.getfield 26, 3) := by decide +kernel
theorem d_X0_putLabel_42 : decode b_X0_putLabel 42 = .ok (.aload_n 1, 1) := by decide +kernel
theorem d_X0_putLabel_43 : decode b_X0_putLabel 43 = .ok (.iload_n 3, 1) := by decide +kernel
theorem d_X0_putLabel_44 : decode b_X0_putLabel 44 = .ok (.invokevirtual 67, 3) := by decide +kernel
theorem d_X0_putLabel_47 : decode b_X0_putLabel 47 = .ok (.invokevirtual 23, 3) := by decide +kernel
theorem d_X0_putLabel_50 : decode b_X0_putLabel 50 = .ok (.iinc 3 1, 3) := by decide +kernel
theorem d_X0_putLabel_53 : decode b_X0_putLabel 53 = .ok (.goto (-23), 3) := by decide +kernel
theorem d_X0_putLabel_56 : decode b_X0_putLabel 56 = .ok (.aload_n 0, 1) := by decide +kernel
theorem d_X0_putLabel_57 : decode b_X0_putLabel 57 = .ok (.getfield 26, 3) := by decide +kernel
theorem d_X0_putLabel_60 : decode b_X0_putLabel 60 = .ok (.aload_n 2, 1) := by decide +kernel
theorem d_X0_putLabel_61 : decode b_X0_putLabel 61 = .ok (.getfield 71, 3) := by decide +kernel
theorem d_X0_putLabel_64 : decode b_X0_putLabel 64 = .ok (.invokevirtual 23, 3) := by decide +kernel
theorem d_X0_putLabel_67 : decode b_X0_putLabel 67 = .ok (.aload_n 0, 1) := by decide +kernel
theorem d_X0_putLabel_68 : decode b_X0_putLabel 68 = .ok (.getfield 26, 3) := by decide +kernel
theorem d_X0_putLabel_71 : decode b_X0_putLabel 71 = .ok (.aload_n 2, 1) := by decide +kernel
theorem d_X0_putLabel_72 : decode b_X0_putLabel 72 = .ok (.iconst 0, 1) := by decide +kernel
theorem d_X0_putLabel_73 : decode b_X0_putLabel 73 = .ok (.invokevirtual 50, 3) := by decide +kernel
theorem d_X0_putLabel_76 : decode b_X0_putLabel 76 = .ok (.aload_n 0, 1) := by decide +kernel
theorem d_X0_putLabel_77 : decode b_X0_putLabel 77 = .ok (.getfield 26, 3) := by decide +kernel
theorem d_X0_putLabel_80 : decode b_X0_putLabel 80 = .ok (.iconst 1, 1) := by decide +kernel
theorem d_X0_putLabel_81 : decode b_X0_putLabel 81 = .ok (.invokevirtual 23, 3) := by decide +kernel
theorem d_X0_putLabel_84 : decode b_X0_putLabel 84 = .ok (.return_, 1) := by decide +kernel
theorem d_X5_begin_0 : decode b_X5_begin 0 = .ok (.iload_n 1, 1) := by decide +kernel
theorem d_X5_begin_1 : decode b_X5_begin 1 = .ok (.invokestatic 55, 3) := by decide +kernel
theorem d_X5_begin_4 : decode b_X5_begin 4 = .ok (.ifCond .ne 13, 3) := by decide +kernel
theorem d_X5_begin_7 : decode b_X5_begin 7 = .ok (.new 33, 3) := by decide +kernel
theorem d_X5_begin_10 : decode b_X5_begin 10 = .ok (.dup, 1) := by decide +kernel
theorem d_X5_begin_11 : decode b_X5_begin 11 = .ok (.ldc 79, 2) := by decide +kernel
theorem d_X5_begin_13 : decode b_X5_begin 13 = .ok (.invokespecial 37, 3) := by decide +kernel
theorem d_X5_begin_16 : decode b_X5_begin 16 = .ok (.athrow, 1) := by decide +kernel
theorem d_X5_begin_17 : decode b_X5_begin 17 = .ok (.aload_n 0, 1) := by decide +kernel
theorem d_X5_begin_18 : decode b_X5_begin 18 = .ok (.iload_n 1, 1) := by decide +kernel
theorem d_X5_begin_19 : decode b_X5_begin 19 = .ok (.invokevirtual 65, 3) := by decide +kernel
theorem d_X5_begin_22 : decode b_X5_begin 22 = .ok (.astore_n 2, 1) := by decide +kernel
theorem d_X5_begin_23 : decode b_X5_begin 23 = .ok (.aload_n 2, 1) := by decide +kernel
theorem d_X5_begin_24 : decode b_X5_begin 24 = .ok (.getfield 69, 3) := by decide +kernel
theorem d_X5_begin_27 : decode b_X5_begin 27 = .ok (.ifCond .ne 23, 3) := by decide +kernel
theorem d_X5_begin_30 : decode b_X5_begin 30 = .ok (.aload_n 2, 1) := by decide +kernel
theorem d_X5_begin_31 : decode b_X5_begin 31 = .ok (.getfield 81, 3) := by decide +kernel
theorem d_X5_begin_34 : decode b_X5_begin 34 = .ok (.getfield 40, 3) := by decide +kernel
theorem d_X5_begin_37 : decode b_X5_begin 37 = .ok (.ifCond .eq 13, 3) := by decide +kernel
theorem d_X5_begin_40 : decode b_X5_begin 40 = .ok (.aload_n 2, 1) := by decide +kernel
theorem d_X5_begin_41 : decode b_X5_begin 41 = .ok (.getfield 84, 3) := by decide +kernel
theorem d_X5_begin_44 : decode b_X5_begin 44 = .ok (.getfield 40, 3) := by decide +kernel
theorem d_X5_begin_47 : decode b_X5_begin 47 = .ok (.ifCond .ne 13, 3) := by decide +kernel
theorem d_X5_begin_50 : decode b_X5_begin 50 = .ok (.new 44, 3) := by decide +kernel
theorem d_X5_begin_53 : decode b_X5_begin 53 = .ok (.dup, 1) := by decide +kernel
theorem d_X5_begin_54 : decode b_X5_begin 54 = .ok (.ldc 87, 2) := by decide +kernel
theorem d_X5_begin_56 : decode b_X5_begin 56 = .ok (.invokespecial 48, 3) := by decide +kernel
theorem d_X5_begin_59 : decode b_X5_begin 59 = .ok (.athrow, 1) := by decide +kernel
theorem d_X5_begin_60 : decode b_X5_begin 60 = .ok (.aload_n 2, 1) := by decide +kernel
theorem d_X5_begin_61 : decode b_X5_begin 61 = .ok (.invokevirtual 89, 3) := by decide +kernel
theorem d_X5_begin_64 : decode b_X5_begin 64 = .ok (.return_, 1) := by decide +kernel
theorem d_X4_start_0 : decode b_X4_start 0 = .ok (.aload_n 0, 1) := by decide +kernel
theorem d_X4_start_1 : decode b_X4_start 1 = .ok (.iconst 1, 1) := by decide +kernel
theorem d_X4_start_2 : decode b_X4_start 2 = .ok (.putfield 76, 3) := by decide +kernel
theorem d_X4_start_5 : decode b_X4_start 5 = .ok (.aload_n 0, 1) := by decide +kernel
theorem d_X4_start_6 : decode b_X4_start 6 = .ok (.getfield 9, 3) := by decide +kernel
theorem d_X4_start_9 : decode b_X4_start 9 = .ok (.ifCond .ne 15, 3) := by decide +kernel
theorem d_X4_start_12 : decode b_X4_start 12 = .ok (.aload_n 0, 1) := by decide +kernel
theorem d_X4_start_13 : decode b_X4_start 13 = .ok (.invokevirtual 106, 3) := by decide +kernel
theorem d_X4_start_16 : decode b_X4_start 16 = .ok (.aload_n 0, 1) := by decide +kernel
theorem d_X4_start_17 : decode b_X4_start 17 = .ok (.iconst 2, 1) := by decide +kernel
theorem d_X4_start_18 : decode b_X4_start 18 = .ok (.putfield 85, 3) := by decide +kernel
theorem d_X4_start_21 : decode b_X4_start 21 = .ok (.goto 8, 3) := by decide +kernel
theorem d_X4_start_24 : decode b_X4_start 24 = .ok (.aload_n 0, 1) := by decide +kernel
theorem d_X4_start_25 : decode b_X4_start 25 = .ok (.iconst 1, 1) := by decide +kernel
theorem d_X4_start_26 : decode b_X4_start 26 = .ok (.putfield 85, 3) := by decide +kernel
theorem d_X4_start_29 : decode b_X4_start 29 = .ok (.return_, 1) := by decide +kernel
theorem d_X4_sayHello_0 : decode b_X4_sayHello 0 = .ok (.aload_n 0, 1) := by decide +kernel
theorem d_X4_sayHello_1 : decode b_X4_sayHello 1 = .ok (.getfield 37, 3) := by decide +kernel
theorem d_X4_sayHello_4 : decode b_X4_sayHello 4 = .ok (.aload_n 0, 1) := by decide +kernel
theorem d_X4_sayHello_5 : decode b_X4_sayHello 5 = .ok (.getfield 28, 3) := by decide +kernel
theorem d_X4_sayHello_8 : decode b_X4_sayHello 8 = .ok (.invokevirtual 99, 3) := by decide +kernel
theorem d_X4_sayHello_11 : decode b_X4_sayHello 11 = .ok (.aload_n 0, 1) := by decide +kernel
theorem d_X4_sayHello_12 : decode b_X4_sayHello 12 = .ok (.getfield 37, 3) := by decide +kernel
theorem d_X4_sayHello_15 : decode b_X4_sayHello 15 = .ok (.aload_n 0, 1) := by decide +kernel
theorem d_X4_sayHello_16 : decode b_X4_sayHello 16 = .ok (.getfield 31, 3) := by decide +kernel
theorem d_X4_sayHello_19 : decode b_X4_sayHello 19 = .ok (.iconst 0, 1) := by decide +kernel
theorem d_X4_sayHello_20 : decode b_X4_sayHello 20 = .ok (.invokevirtual 150, 3) := by decide +kernel
theorem d_X4_sayHello_23 : decode b_X4_sayHello 23 = .ok (.aload_n 0, 1) := by decide +kernel
theorem d_X4_sayHello_24 : decode b_X4_sayHello 24 = .ok (.iconst 1, 1) := by decide +kernel
theorem d_X4_sayHello_25 : decode b_X4_sayHello 25 = .ok (.aload_n 0, 1) := by decide +kernel
theorem d_X4_sayHello_26 : decode b_X4_sayHello 26 = .ok (.getfield 37, 3) := by decide +kernel
theorem d_X4_sayHello_29 : decode b_X4_sayHello 29 = .ok (.invokevirtual 154, 3) := by decide +kernel
theorem d_X4_sayHello_32 : decode b_X4_sayHello 32 = .ok (.aload_n 0, 1) := by decide +kernel
theorem d_X4_sayHello_33 : decode b_X4_sayHello 33 = .ok (.getfield 37, 3) := by decide +kernel
theorem d_X4_sayHello_36 : decode b_X4_sayHello 36 = .ok (.invokevirtual 124, 3) := by decide +kernel
theorem d_X4_sayHello_39 : decode b_X4_sayHello 39 = .ok (.return_, 1) := by decide +kernel
theorem d_X4_say_0 : decode b_X4_say 0 = .ok (.aload_n 0, 1) := by decide +kernel
theorem d_X4_say_1 : decode b_X4_say 1 = .ok (.iload_n 1, 1) := by decide +kernel
theorem d_X4_say_2 : decode b_X4_say 2 = .ok (.invokestatic 88, 3) := by decide +kernel
theorem d_X4_say_5 : decode b_X4_say 5 = .ok (.invokevirtual 172, 3) := by decide +kernel
theorem d_X4_say_8 : decode b_X4_say 8 = .ok (.getfield 176, 3) := by decide +kernel
theorem d_X4_say_11 : decode b_X4_say 11 = .ok (.iload_n 1, 1) := by decide +kernel
theorem d_X4_say_12 : decode b_X4_say 12 = .ok (.aload_n 2, 1) := by decide +kernel
theorem d_X4_say_13 : decode b_X4_say 13 = .ok (.invokevirtual 179, 3) := by decide +kernel
theorem d_X4_say_16 : decode b_X4_say 16 = .ok (.aload_n 0, 1) := by decide +kernel
theorem d_X4_say_17 : decode b_X4_say 17 = .ok (.getfield 40, 3) := by decide +kernel
theorem d_X4_say_20 : decode b_X4_say 20 = .ok (.iload_n 1, 1) := by decide +kernel
theorem d_X4_say_21 : decode b_X4_say 21 = .ok (.aload_n 2, 1) := by decide +kernel
theorem d_X4_say_22 : decode b_X4_say 22 = .ok (.invokevirtual 179, 3) := by decide +kernel
theorem d_X4_say_25 : decode b_X4_say 25 = .ok (.return_, 1) := by decide +kernel
theorem d_X4_levelOf_0 : decode b_X4_levelOf 0 = .ok (.iload_n 0, 1) := by decide +kernel
theorem d_X4_levelOf_1 : decode b_X4_levelOf 1 = .ok (.lookupswitch 47 #[(1, 43), (2, 43), (8, 45), (20, 45)], 43) := by decide +kernel
theorem d_X4_levelOf_44 : decode b_X4_levelOf 44 = .ok (.iconst 0, 1) := by decide +kernel
theorem d_X4_levelOf_45 : decode b_X4_levelOf 45 = .ok (.ireturn, 1) := by decide +kernel
theorem d_X4_levelOf_46 : decode b_X4_levelOf 46 = .ok (.iconst 1, 1) := by decide +kernel
theorem d_X4_levelOf_47 : decode b_X4_levelOf 47 = .ok (.ireturn, 1) := by decide +kernel
theorem d_X4_levelOf_48 : decode b_X4_levelOf 48 = .ok (.iconst (-1), 1) := by decide +kernel
theorem d_X4_levelOf_49 : decode b_X4_levelOf 49 = .ok (.ireturn, 1) := by decide +kernel
theorem d_X4_lineAt_0 : decode b_X4_lineAt 0 = .ok (.iload_n 1, 1) := by decide +kernel
theorem d_X4_lineAt_1 : decode b_X4_lineAt 1 = .ok (.ifCond .ne 10, 3) := by decide +kernel
theorem d_X4_lineAt_4 : decode b_X4_lineAt 4 = .ok (.aload_n 0, 1) := by decide +kernel
theorem d_X4_lineAt_5 : decode b_X4_lineAt 5 = .ok (.getfield 52, 3) := by decide +kernel
theorem d_X4_lineAt_8 : decode b_X4_lineAt 8 = .ok (.goto 7, 3) := by decide +kernel
theorem d_X4_lineAt_11 : decode b_X4_lineAt 11 = .ok (.aload_n 0, 1) := by decide +kernel
theorem d_X4_lineAt_12 : decode b_X4_lineAt 12 = .ok (.getfield 56, 3) := by decide +kernel
theorem d_X4_lineAt_15 : decode b_X4_lineAt 15 = .ok (.areturn, 1) := by decide +kernel
theorem d_X3_putMessage_0 : decode b_X3_putMessage 0 = .ok (.aload_n 0, 1) := by decide +kernel
theorem d_X3_putMessage_1 : decode b_X3_putMessage 1 = .ok (.iload_n 1, 1) := by decide +kernel
theorem d_X3_putMessage_2 : decode b_X3_putMessage 2 = .ok (.invokevirtual 27, 3) := by decide +kernel
theorem d_X3_putMessage_5 : decode b_X3_putMessage 5 = .ok (.aload_n 0, 1) := by decide +kernel
theorem d_X3_putMessage_6 : decode b_X3_putMessage 6 = .ok (.aload_n 2, 1) := by decide +kernel
theorem d_X3_putMessage_7 : decode b_X3_putMessage 7 = .ok (.getfield 19, 3) := by decide +kernel
theorem d_X3_putMessage_10 : decode b_X3_putMessage 10 = .ok (.bipush 16, 2) := by decide +kernel
theorem d_X3_putMessage_12 : decode b_X3_putMessage 12 = .ok (.iushr, 1) := by decide +kernel
theorem d_X3_putMessage_13 : decode b_X3_putMessage 13 = .ok (.invokevirtual 27, 3) := by decide +kernel
theorem d_X3_putMessage_16 : decode b_X3_putMessage 16 = .ok (.aload_n 0, 1) := by decide +kernel
theorem d_X3_putMessage_17 : decode b_X3_putMessage 17 = .ok (.aload_n 2, 1) := by decide +kernel
theorem d_X3_putMessage_18 : decode b_X3_putMessage 18 = .ok (.getfield 19, 3) := by decide +kernel
theorem d_X3_putMessage_21 : decode b_X3_putMessage 21 = .ok (.bipush 8, 2) := by decide +kernel
theorem d_X3_putMessage_23 : decode b_X3_putMessage 23 = .ok (.iushr, 1) := by decide +kernel
theorem d_X3_putMessage_24 : decode b_X3_putMessage 24 = .ok (.invokevirtual 27, 3) := by decide +kernel
theorem d_X3_putMessage_27 : decode b_X3_putMessage 27 = .ok (.aload_n 0, 1) := by decide +kernel
theorem d_X3_putMessage_28 : decode b_X3_putMessage 28 = .ok (.aload_n 2, 1) := by decide +kernel
theorem d_X3_putMessage_29 : decode b_X3_putMessage 29 = .ok (.getfield 19, 3) := by decide +kernel
theorem d_X3_putMessage_32 : decode b_X3_putMessage 32 = .ok (.invokevirtual 27, 3) := by decide +kernel
theorem d_X3_putMessage_35 : decode b_X3_putMessage 35 = .ok (.aload_n 0, 1) := by decide +kernel
theorem d_X3_putMessage_36 : decode b_X3_putMessage 36 = .ok (.aload_n 2, 1) := by decide +kernel
theorem d_X3_putMessage_37 : decode b_X3_putMessage 37 = .ok (.iconst 0, 1) := by decide +kernel
theorem d_X3_putMessage_38 : decode b_X3_putMessage 38 = .ok (.invokevirtual 23, 3) := by decide +kernel
theorem d_X3_putMessage_41 : decode b_X3_putMessage 41 = .ok (.return_, 1) := by decide +kernel
theorem d_X5_take_0 : decode b_X5_take 0 = .ok (.iload_n 1, 1) := by decide +kernel
theorem d_X5_take_1 : decode b_X5_take 1 = .ok (.invokestatic 55, 3) := by decide +kernel
theorem d_X5_take_4 : decode b_X5_take 4 = .ok (.ifCond .eq 10, 3) := by decide +kernel
theorem d_X5_take_7 : decode b_X5_take 7 = .ok (.iload_n 2, 1) := by decide +kernel
theorem d_X5_take_8 : decode b_X5_take 8 = .ok (.invokestatic 92, 3) := by decide +kernel
theorem d_X5_take_11 : decode b_X5_take 11 = .ok (.ifCond .ne 13, 3) := by decide +kernel
theorem d_X5_take_14 : decode b_X5_take 14 = .ok (.new 33, 3) := by decide +kernel
theorem d_X5_take_17 : decode b_X5_take 17 = .ok (.dup, 1) := by decide +kernel
theorem d_X5_take_18 : decode b_X5_take 18 = .ok (.ldc 95, 2) := by decide +kernel
theorem d_X5_take_20 : decode b_X5_take 20 = .ok (.invokespecial 37, 3) := by decide +kernel
theorem d_X5_take_23 : decode b_X5_take 23 = .ok (.athrow, 1) := by decide +kernel
theorem d_X5_take_24 : decode b_X5_take 24 = .ok (.aload_n 0, 1) := by decide +kernel
theorem d_X5_take_25 : decode b_X5_take 25 = .ok (.iload_n 1, 1) := by decide +kernel
theorem d_X5_take_26 : decode b_X5_take 26 = .ok (.invokevirtual 65, 3) := by decide +kernel
theorem d_X5_take_29 : decode b_X5_take 29 = .ok (.astore_n 3, 1) := by decide +kernel
theorem d_X5_take_30 : decode b_X5_take 30 = .ok (.aload_n 3, 1) := by decide +kernel
theorem d_X5_take_31 : decode b_X5_take 31 = .ok (.invokevirtual 97, 3) := by decide +kernel
theorem d_X5_take_34 : decode b_X5_take 34 = .ok (.ifCond .ne 13, 3) := by decide +kernel
theorem d_X5_take_37 : decode b_X5_take 37 = .ok (.new 44, 3) := by decide +kernel
theorem d_X5_take_40 : decode b_X5_take 40 = .ok (.dup, 1) := by decide +kernel
theorem d_X5_take_41 : decode b_X5_take 41 = .ok (.ldc 101, 2) := by decide +kernel
theorem d_X5_take_43 : decode b_X5_take 43 = .ok (.invokespecial 48, 3) := by decide +kernel
theorem d_X5_take_46 : decode b_X5_take 46 = .ok (.athrow, 1) := by decide +kernel
theorem d_X5_take_47 : decode b_X5_take 47 = .ok (.aload_n 3, 1) := by decide +kernel
theorem d_X5_take_48 : decode b_X5_take 48 = .ok (.iload_n 2, 1) := by decide +kernel
theorem d_X5_take_49 : decode b_X5_take 49 = .ok (.aload_n 0, 1) := by decide +kernel
theorem d_X5_take_50 : decode b_X5_take 50 = .ok (.getfield 17, 3) := by decide +kernel
theorem d_X5_take_53 : decode b_X5_take 53 = .ok (.iconst 0, 1) := by decide +kernel
theorem d_X5_take_54 : decode b_X5_take 54 = .ok (.aload_n 0, 1) := by decide +kernel
theorem d_X5_take_55 : decode b_X5_take 55 = .ok (.getfield 17, 3) := by decide +kernel
theorem d_X5_take_58 : decode b_X5_take 58 = .ok (.getfield 40, 3) := by decide +kernel
theorem d_X5_take_61 : decode b_X5_take 61 = .ok (.invokevirtual 103, 3) := by decide +kernel
theorem d_X5_take_64 : decode b_X5_take 64 = .ok (.istore 4, 2) := by decide +kernel
theorem d_X5_take_66 : decode b_X5_take 66 = .ok (.aload_n 0, 1) := by decide +kernel
theorem d_X5_take_67 : decode b_X5_take 67 = .ok (.getfield 17, 3) := by decide +kernel
theorem d_X5_take_70 : decode b_X5_take 70 = .ok (.invokevirtual 52, 3) := by decide +kernel
theorem d_X5_take_73 : decode b_X5_take 73 = .ok (.iload 4, 2) := by decide +kernel
theorem d_X5_take_75 : decode b_X5_take 75 = .ok (.ireturn, 1) := by decide +kernel
theorem d_X5_isLevel_0 : decode b_X5_isLevel 0 = .ok (.iload_n 0, 1) := by decide +kernel
theorem d_X5_isLevel_1 : decode b_X5_isLevel 1 = .ok (.ifCond .eq 8, 3) := by decide +kernel
theorem d_X5_isLevel_4 : decode b_X5_isLevel 4 = .ok (.iload_n 0, 1) := by decide +kernel
theorem d_X5_isLevel_5 : decode b_X5_isLevel 5 = .ok (.iconst 1, 1) := by decide +kernel
theorem d_X5_isLevel_6 : decode b_X5_isLevel 6 = .ok (.if_icmp .ne 7, 3) := by decide +kernel
theorem d_X5_isLevel_9 : decode b_X5_isLevel 9 = .ok (.iconst 1, 1) := by decide +kernel
theorem d_X5_isLevel_10 : decode b_X5_isLevel 10 = .ok (.goto 4, 3) := by decide +kernel
theorem d_X5_isLevel_13 : decode b_X5_isLevel 13 = .ok (.iconst 0, 1) := by decide +kernel
theorem d_X5_isLevel_14 : decode b_X5_isLevel 14 = .ok (.ireturn, 1) := by decide +kernel
theorem d_X4_isOpen_0 : decode b_X4_isOpen 0 = .ok (.aload_n 0, 1) := by decide +kernel
theorem d_X4_isOpen_1 : decode b_X4_isOpen 1 = .ok (.getfield 76, 3) := by decide +kernel
theorem d_X4_isOpen_4 : decode b_X4_isOpen 4 = .ok (.ifCond .eq 14, 3) := by decide +kernel
theorem d_X4_isOpen_7 : decode b_X4_isOpen 7 = .ok (.aload_n 0, 1) := by decide +kernel
theorem d_X4_isOpen_8 : decode b_X4_isOpen 8 = .ok (.getfield 82, 3) := by decide +kernel
theorem d_X4_isOpen_11 : decode b_X4_isOpen 11 = .ok (.ifCond .ne 7, 3) := by decide +kernel
theorem d_X4_isOpen_14 : decode b_X4_isOpen 14 = .ok (.iconst 1, 1) := by decide +kernel
theorem d_X4_isOpen_15 : decode b_X4_isOpen 15 = .ok (.goto 4, 3) := by decide +kernel
theorem d_X4_isOpen_18 : decode b_X4_isOpen 18 = .ok (.iconst 0, 1) := by decide +kernel
theorem d_X4_isOpen_19 : decode b_X4_isOpen 19 = .ok (.ireturn, 1) := by decide +kernel
theorem d_X4_hear_0 : decode b_X4_hear 0 = .ok (.iconst 0, 1) := by decide +kernel
theorem d_X4_hear_1 : decode b_X4_hear 1 = .ok (.istore 5, 2) := by decide +kernel
theorem d_X4_hear_3 : decode b_X4_hear 3 = .ok (.iload 5, 2) := by decide +kernel
theorem d_X4_hear_5 : decode b_X4_hear 5 = .ok (.iload 4, 2) := by decide +kernel
theorem d_X4_hear_7 : decode b_X4_hear 7 = .ok (.if_icmp .ge 65, 3) := by decide +kernel
theorem d_X4_hear_10 : decode b_X4_hear 10 = .ok (.aload_n 0, 1) := by decide +kernel
theorem d_X4_hear_11 : decode b_X4_hear 11 = .ok (.getfield 82, 3) := by decide +kernel
theorem d_X4_hear_14 : decode b_X4_hear 14 = .ok (.ifCond .ne 58, 3) := by decide +kernel
theorem d_X4_hear_17 : decode b_X4_hear 17 = .ok (.aload_n 0, 1) := by decide +kernel
theorem d_X4_hear_18 : decode b_X4_hear 18 = .ok (.getfield 37, 3) := by decide +kernel
theorem d_X4_hear_21 : decode b_X4_hear 21 = .ok (.aload_n 2, 1) := by decide +kernel
theorem d_X4_hear_22 : decode b_X4_hear 22 = .ok (.iload_n 3, 1) := by decide +kernel
theorem d_X4_hear_23 : decode b_X4_hear 23 = .ok (.iload 5, 2) := by decide +kernel
theorem d_X4_hear_25 : decode b_X4_hear 25 = .ok (.iadd, 1) := by decide +kernel
theorem d_X4_hear_26 : decode b_X4_hear 26 = .ok (.invokevirtual 109, 3) := by decide +kernel
theorem d_X4_hear_29 : decode b_X4_hear 29 = .ok (.invokevirtual 112, 3) := by decide +kernel
theorem d_X4_hear_32 : decode b_X4_hear 32 = .ok (.aload_n 0, 1) := by decide +kernel
theorem d_X4_hear_33 : decode b_X4_hear 33 = .ok (.aload_n 0, 1) := by decide +kernel
theorem d_X4_hear_34 : decode b_X4_hear 34 = .ok (.iload_n 1, 1) := by decide +kernel
theorem d_X4_hear_35 : decode b_X4_hear 35 = .ok (.invokevirtual 115, 3) := by decide +kernel
theorem d_X4_hear_38 : decode b_X4_hear 38 = .ok (.putfield 82, 3) := by decide +kernel
theorem d_X4_hear_41 : decode b_X4_hear 41 = .ok (.aload_n 0, 1) := by decide +kernel
theorem d_X4_hear_42 : decode b_X4_hear 42 = .ok (.getfield 82, 3) := by decide +kernel
theorem d_X4_hear_45 : decode b_X4_hear 45 = .ok (.ifCond .ne 21, 3) := by decide +kernel
theorem d_X4_hear_48 : decode b_X4_hear 48 = .ok (.aload_n 0, 1) := by decide +kernel
theorem d_X4_hear_49 : decode b_X4_hear 49 = .ok (.invokevirtual 118, 3) := by decide +kernel
theorem d_X4_hear_52 : decode b_X4_hear 52 = .ok (.ifCond .eq 14, 3) := by decide +kernel
theorem d_X4_hear_55 : decode b_X4_hear 55 = .ok (.aload_n 0, 1) := by decide +kernel
theorem d_X4_hear_56 : decode b_X4_hear 56 = .ok (.invokevirtual 121, 3) := by decide +kernel
theorem d_X4_hear_59 : decode b_X4_hear 59 = .ok (.aload_n 0, 1) := by decide +kernel
theorem d_X4_hear_60 : decode b_X4_hear 60 = .ok (.getfield 37, 3) := by decide +kernel
theorem d_X4_hear_63 : decode b_X4_hear 63 = .ok (.invokevirtual 124, 3) := by decide +kernel
theorem d_X4_hear_66 : decode b_X4_hear 66 = .ok (.iinc 5 1, 3) := by decide +kernel
theorem d_X4_hear_69 : decode b_X4_hear 69 = .ok (.goto (-66), 3) := by decide +kernel
theorem d_X4_hear_72 : decode b_X4_hear 72 = .ok (.aload_n 0, 1) := by decide +kernel
theorem d_X4_hear_73 : decode b_X4_hear 73 = .ok (.getfield 82, 3) := by decide +kernel
theorem d_X4_hear_76 : decode b_X4_hear 76 = .ok (.ifCond .eq 15, 3) := by decide +kernel
theorem d_X4_hear_79 : decode b_X4_hear 79 = .ok (.aload_n 0, 1) := by decide +kernel
theorem d_X4_hear_80 : decode b_X4_hear 80 = .ok (.getfield 37, 3) := by decide +kernel
theorem d_X4_hear_83 : decode b_X4_hear 83 = .ok (.invokevirtual 124, 3) := by decide +kernel
theorem d_X4_hear_86 : decode b_X4_hear 86 = .ok (.aload_n 0, 1) := by decide +kernel
theorem d_X4_hear_87 : decode b_X4_hear 87 = .ok (.iconst 0, 1) := by decide +kernel
theorem d_X4_hear_88 : decode b_X4_hear 88 = .ok (.putfield 85, 3) := by decide +kernel
theorem d_X4_hear_91 : decode b_X4_hear 91 = .ok (.aload_n 0, 1) := by decide +kernel
theorem d_X4_hear_92 : decode b_X4_hear 92 = .ok (.getfield 82, 3) := by decide +kernel
theorem d_X4_hear_95 : decode b_X4_hear 95 = .ok (.ireturn, 1) := by decide +kernel
theorem d_X4_faultAt_0 : decode b_X4_faultAt 0 = .ok (.iload_n 1, 1) := by decide +kernel
theorem d_X4_faultAt_1 : decode b_X4_faultAt 1 = .ok (.aload_n 0, 1) := by decide +kernel
theorem d_X4_faultAt_2 : decode b_X4_faultAt 2 = .ok (.getfield 85, 3) := by decide +kernel
theorem d_X4_faultAt_5 : decode b_X4_faultAt 5 = .ok (.invokestatic 88, 3) := by decide +kernel
theorem d_X4_faultAt_8 : decode b_X4_faultAt 8 = .ok (.if_icmp .ne 18, 3) := by decide +kernel
theorem d_X4_faultAt_11 : decode b_X4_faultAt 11 = .ok (.aload_n 0, 1) := by decide +kernel
theorem d_X4_faultAt_12 : decode b_X4_faultAt 12 = .ok (.getfield 37, 3) := by decide +kernel
theorem d_X4_faultAt_15 : decode b_X4_faultAt 15 = .ok (.iconst 0, 1) := by decide +kernel
theorem d_X4_faultAt_16 : decode b_X4_faultAt 16 = .ok (.invokevirtual 109, 3) := by decide +kernel
theorem d_X4_faultAt_19 : decode b_X4_faultAt 19 = .ok (.aload_n 0, 1) := by decide +kernel
theorem d_X4_faultAt_20 : decode b_X4_faultAt 20 = .ok (.getfield 85, 3) := by decide +kernel
theorem d_X4_faultAt_23 : decode b_X4_faultAt 23 = .ok (.if_icmp .eq 7, 3) := by decide +kernel
theorem d_X4_faultAt_26 : decode b_X4_faultAt 26 = .ok (.sipush 266, 3) := by decide +kernel
theorem d_X4_faultAt_29 : decode b_X4_faultAt 29 = .ok (.ireturn, 1) := by decide +kernel
theorem d_X4_faultAt_30 : decode b_X4_faultAt 30 = .ok (.aload_n 0, 1) := by decide +kernel
theorem d_X4_faultAt_31 : decode b_X4_faultAt 31 = .ok (.getfield 37, 3) := by decide +kernel
theorem d_X4_faultAt_34 : decode b_X4_faultAt 34 = .ok (.getfield 92, 3) := by decide +kernel
theorem d_X4_faultAt_37 : decode b_X4_faultAt 37 = .ok (.iconst 4, 1) := by decide +kernel
theorem d_X4_faultAt_38 : decode b_X4_faultAt 38 = .ok (.if_icmp .lt 21, 3) := by decide +kernel
theorem d_X4_faultAt_41 : decode b_X4_faultAt 41 = .ok (.aload_n 0, 1) := by decide +kernel
theorem d_X4_faultAt_42 : decode b_X4_faultAt 42 = .ok (.getfield 85, 3) := by decide +kernel
theorem d_X4_faultAt_45 : decode b_X4_faultAt 45 = .ok (.aload_n 0, 1) := by decide +kernel
theorem d_X4_faultAt_46 : decode b_X4_faultAt 46 = .ok (.invokevirtual 127, 3) := by decide +kernel
theorem d_X4_faultAt_49 : decode b_X4_faultAt 49 = .ok (.invokestatic 131, 3) := by decide +kernel
theorem d_X4_faultAt_52 : decode b_X4_faultAt 52 = .ok (.ifCond .ne 7, 3) := by decide +kernel
theorem d_X4_faultAt_55 : decode b_X4_faultAt 55 = .ok (.sipush 306, 3) := by decide +kernel
theorem d_X4_faultAt_58 : decode b_X4_faultAt 58 = .ok (.ireturn, 1) := by decide +kernel
theorem d_X4_faultAt_59 : decode b_X4_faultAt 59 = .ok (.iconst 0, 1) := by decide +kernel
theorem d_X4_faultAt_60 : decode b_X4_faultAt 60 = .ok (.ireturn, 1) := by decide +kernel
theorem d_X4_bodySize_0 : decode b_X4_bodySize 0 = .ok (.aload_n 0, 1) := by decide +kernel
theorem d_X4_bodySize_1 : decode b_X4_bodySize 1 = .ok (.getfield 37, 3) := by decide +kernel
theorem d_X4_bodySize_4 : decode b_X4_bodySize 4 = .ok (.iconst 1, 1) := by decide +kernel
theorem d_X4_bodySize_5 : decode b_X4_bodySize 5 = .ok (.invokevirtual 109, 3) := by decide +kernel
theorem d_X4_bodySize_8 : decode b_X4_bodySize 8 = .ok (.bipush 16, 2) := by decide +kernel
theorem d_X4_bodySize_10 : decode b_X4_bodySize 10 = .ok (.ishl, 1) := by decide +kernel
theorem d_X4_bodySize_11 : decode b_X4_bodySize 11 = .ok (.aload_n 0, 1) := by decide +kernel
theorem d_X4_bodySize_12 : decode b_X4_bodySize 12 = .ok (.getfield 37, 3) := by decide +kernel
theorem d_X4_bodySize_15 : decode b_X4_bodySize 15 = .ok (.iconst 2, 1) := by decide +kernel
theorem d_X4_bodySize_16 : decode b_X4_bodySize 16 = .ok (.invokevirtual 109, 3) := by decide +kernel
theorem d_X4_bodySize_19 : decode b_X4_bodySize 19 = .ok (.bipush 8, 2) := by decide +kernel
theorem d_X4_bodySize_21 : decode b_X4_bodySize 21 = .ok (.ishl, 1) := by decide +kernel
theorem d_X4_bodySize_22 : decode b_X4_bodySize 22 = .ok (.ior, 1) := by decide +kernel
theorem d_X4_bodySize_23 : decode b_X4_bodySize 23 = .ok (.aload_n 0, 1) := by decide +kernel
theorem d_X4_bodySize_24 : decode b_X4_bodySize 24 = .ok (.getfield 37, 3) := by decide +kernel
theorem d_X4_bodySize_27 : decode b_X4_bodySize 27 = .ok (.iconst 3, 1) := by decide +kernel
theorem d_X4_bodySize_28 : decode b_X4_bodySize 28 = .ok (.invokevirtual 109, 3) := by decide +kernel
theorem d_X4_bodySize_31 : decode b_X4_bodySize 31 = .ok (.ior, 1) := by decide +kernel
theorem d_X4_bodySize_32 : decode b_X4_bodySize 32 = .ok (.ireturn, 1) := by decide +kernel
theorem d_X4_isSizeOf_0 : decode b_X4_isSizeOf 0 = .ok (.iload_n 0, 1) := by decide +kernel
theorem d_X4_isSizeOf_1 : decode b_X4_isSizeOf 1 = .ok (.lookupswitch 59 #[(1, 27), (8, 46)], 27) := by decide +kernel
theorem d_X4_isSizeOf_28 : decode b_X4_isSizeOf 28 = .ok (.iload_n 1, 1) := by decide +kernel
theorem d_X4_isSizeOf_29 : decode b_X4_isSizeOf 29 = .ok (.bipush 32, 2) := by decide +kernel
theorem d_X4_isSizeOf_31 : decode b_X4_isSizeOf 31 = .ok (.if_icmp .lt 14, 3) := by decide +kernel
theorem d_X4_isSizeOf_34 : decode b_X4_isSizeOf 34 = .ok (.iload_n 1, 1) := by decide +kernel
theorem d_X4_isSizeOf_35 : decode b_X4_isSizeOf 35 = .ok (.sipush 332, 3) := by decide +kernel
theorem d_X4_isSizeOf_38 : decode b_X4_isSizeOf 38 = .ok (.if_icmp .gt 7, 3) := by decide +kernel
theorem d_X4_isSizeOf_41 : decode b_X4_isSizeOf 41 = .ok (.iconst 1, 1) := by decide +kernel
theorem d_X4_isSizeOf_42 : decode b_X4_isSizeOf 42 = .ok (.goto 4, 3) := by decide +kernel
theorem d_X4_isSizeOf_45 : decode b_X4_isSizeOf 45 = .ok (.iconst 0, 1) := by decide +kernel
theorem d_X4_isSizeOf_46 : decode b_X4_isSizeOf 46 = .ok (.ireturn, 1) := by decide +kernel
theorem d_X4_isSizeOf_47 : decode b_X4_isSizeOf 47 = .ok (.iload_n 1, 1) := by decide +kernel
theorem d_X4_isSizeOf_48 : decode b_X4_isSizeOf 48 = .ok (.sipush 300, 3) := by decide +kernel
theorem d_X4_isSizeOf_51 : decode b_X4_isSizeOf 51 = .ok (.if_icmp .gt 7, 3) := by decide +kernel
theorem d_X4_isSizeOf_54 : decode b_X4_isSizeOf 54 = .ok (.iconst 1, 1) := by decide +kernel
theorem d_X4_isSizeOf_55 : decode b_X4_isSizeOf 55 = .ok (.goto 4, 3) := by decide +kernel
theorem d_X4_isSizeOf_58 : decode b_X4_isSizeOf 58 = .ok (.iconst 0, 1) := by decide +kernel
theorem d_X4_isSizeOf_59 : decode b_X4_isSizeOf 59 = .ok (.ireturn, 1) := by decide +kernel
theorem d_X4_isSizeOf_60 : decode b_X4_isSizeOf 60 = .ok (.iload_n 1, 1) := by decide +kernel
theorem d_X4_isSizeOf_61 : decode b_X4_isSizeOf 61 = .ok (.bipush 32, 2) := by decide +kernel
theorem d_X4_isSizeOf_63 : decode b_X4_isSizeOf 63 = .ok (.if_icmp .ne 7, 3) := by decide +kernel
theorem d_X4_isSizeOf_66 : decode b_X4_isSizeOf 66 = .ok (.iconst 1, 1) := by decide +kernel
theorem d_X4_isSizeOf_67 : decode b_X4_isSizeOf 67 = .ok (.goto 4, 3) := by decide +kernel
theorem d_X4_isSizeOf_70 : decode b_X4_isSizeOf 70 = .ok (.iconst 0, 1) := by decide +kernel
theorem d_X4_isSizeOf_71 : decode b_X4_isSizeOf 71 = .ok (.ireturn, 1) := by decide +kernel
theorem d_X4_isWhole_0 : decode b_X4_isWhole 0 = .ok (.aload_n 0, 1) := by decide +kernel
theorem d_X4_isWhole_1 : decode b_X4_isWhole 1 = .ok (.getfield 37, 3) := by decide +kernel
theorem d_X4_isWhole_4 : decode b_X4_isWhole 4 = .ok (.getfield 92, 3) := by decide +kernel
theorem d_X4_isWhole_7 : decode b_X4_isWhole 7 = .ok (.iconst 4, 1) := by decide +kernel
theorem d_X4_isWhole_8 : decode b_X4_isWhole 8 = .ok (.if_icmp .lt 23, 3) := by decide +kernel
theorem d_X4_isWhole_11 : decode b_X4_isWhole 11 = .ok (.aload_n 0, 1) := by decide +kernel
theorem d_X4_isWhole_12 : decode b_X4_isWhole 12 = .ok (.getfield 37, 3) := by decide +kernel
theorem d_X4_isWhole_15 : decode b_X4_isWhole 15 = .ok (.getfield 92, 3) := by decide +kernel
theorem d_X4_isWhole_18 : decode b_X4_isWhole 18 = .ok (.iconst 4, 1) := by decide +kernel
theorem d_X4_isWhole_19 : decode b_X4_isWhole 19 = .ok (.aload_n 0, 1) := by decide +kernel
theorem d_X4_isWhole_20 : decode b_X4_isWhole 20 = .ok (.invokevirtual 127, 3) := by decide +kernel
theorem d_X4_isWhole_23 : decode b_X4_isWhole 23 = .ok (.iadd, 1) := by decide +kernel
theorem d_X4_isWhole_24 : decode b_X4_isWhole 24 = .ok (.if_icmp .ne 7, 3) := by decide +kernel
theorem d_X4_isWhole_27 : decode b_X4_isWhole 27 = .ok (.iconst 1, 1) := by decide +kernel
theorem d_X4_isWhole_28 : decode b_X4_isWhole 28 = .ok (.goto 4, 3) := by decide +kernel
theorem d_X4_isWhole_31 : decode b_X4_isWhole 31 = .ok (.iconst 0, 1) := by decide +kernel
theorem d_X4_isWhole_32 : decode b_X4_isWhole 32 = .ok (.ireturn, 1) := by decide +kernel
theorem d_X4_readMessage_0 : decode b_X4_readMessage 0 = .ok (.aload_n 0, 1) := by decide +kernel
theorem d_X4_readMessage_1 : decode b_X4_readMessage 1 = .ok (.getfield 85, 3) := by decide +kernel
theorem d_X4_readMessage_4 : decode b_X4_readMessage 4 = .ok (.lookupswitch 57 #[(1, 36), (2, 43), (8, 50)], 36) := by decide +kernel
theorem d_X4_readMessage_40 : decode b_X4_readMessage 40 = .ok (.aload_n 0, 1) := by decide +kernel
theorem d_X4_readMessage_41 : decode b_X4_readMessage 41 = .ok (.invokevirtual 135, 3) := by decide +kernel
theorem d_X4_readMessage_44 : decode b_X4_readMessage 44 = .ok (.goto 21, 3) := by decide +kernel
theorem d_X4_readMessage_47 : decode b_X4_readMessage 47 = .ok (.aload_n 0, 1) := by decide +kernel
theorem d_X4_readMessage_48 : decode b_X4_readMessage 48 = .ok (.invokevirtual 138, 3) := by decide +kernel
theorem d_X4_readMessage_51 : decode b_X4_readMessage 51 = .ok (.goto 14, 3) := by decide +kernel
theorem d_X4_readMessage_54 : decode b_X4_readMessage 54 = .ok (.aload_n 0, 1) := by decide +kernel
theorem d_X4_readMessage_55 : decode b_X4_readMessage 55 = .ok (.invokevirtual 141, 3) := by decide +kernel
theorem d_X4_readMessage_58 : decode b_X4_readMessage 58 = .ok (.goto 7, 3) := by decide +kernel
theorem d_X4_readMessage_61 : decode b_X4_readMessage 61 = .ok (.aload_n 0, 1) := by decide +kernel
theorem d_X4_readMessage_62 : decode b_X4_readMessage 62 = .ok (.invokevirtual 144, 3) := by decide +kernel
theorem d_X4_readMessage_65 : decode b_X4_readMessage 65 = .ok (.return_, 1) := by decide +kernel
theorem d_X4_readHello_0 : decode b_X4_readHello 0 = .ok (.aload_n 0, 1) := by decide +kernel
theorem d_X4_readHello_1 : decode b_X4_readHello 1 = .ok (.bipush 36, 2) := by decide +kernel
theorem d_X4_readHello_3 : decode b_X4_readHello 3 = .ok (.invokevirtual 147, 3) := by decide +kernel
theorem d_X4_readHello_6 : decode b_X4_readHello 6 = .ok (.aload_n 0, 1) := by decide +kernel
theorem d_X4_readHello_7 : decode b_X4_readHello 7 = .ok (.getfield 40, 3) := by decide +kernel
theorem d_X4_readHello_10 : decode b_X4_readHello 10 = .ok (.aload_n 0, 1) := by decide +kernel
theorem d_X4_readHello_11 : decode b_X4_readHello 11 = .ok (.getfield 37, 3) := by decide +kernel
theorem d_X4_readHello_14 : decode b_X4_readHello 14 = .ok (.iconst 0, 1) := by decide +kernel
theorem d_X4_readHello_15 : decode b_X4_readHello 15 = .ok (.invokevirtual 150, 3) := by decide +kernel
theorem d_X4_readHello_18 : decode b_X4_readHello 18 = .ok (.aload_n 0, 1) := by decide +kernel
theorem d_X4_readHello_19 : decode b_X4_readHello 19 = .ok (.iconst 2, 1) := by decide +kernel
theorem d_X4_readHello_20 : decode b_X4_readHello 20 = .ok (.aload_n 0, 1) := by decide +kernel
theorem d_X4_readHello_21 : decode b_X4_readHello 21 = .ok (.getfield 28, 3) := by decide +kernel
theorem d_X4_readHello_24 : decode b_X4_readHello 24 = .ok (.invokevirtual 154, 3) := by decide +kernel
theorem d_X4_readHello_27 : decode b_X4_readHello 27 = .ok (.aload_n 0, 1) := by decide +kernel
theorem d_X4_readHello_28 : decode b_X4_readHello 28 = .ok (.aload_n 0, 1) := by decide +kernel
theorem d_X4_readHello_29 : decode b_X4_readHello 29 = .ok (.getfield 66, 3) := by decide +kernel
theorem d_X4_readHello_32 : decode b_X4_readHello 32 = .ok (.bipush 6, 2) := by decide +kernel
theorem d_X4_readHello_34 : decode b_X4_readHello 34 = .ok (.aload_n 0, 1) := by decide +kernel
theorem d_X4_readHello_35 : decode b_X4_readHello 35 = .ok (.getfield 24, 3) := by decide +kernel
theorem d_X4_readHello_38 : decode b_X4_readHello 38 = .ok (.invokevirtual 158, 3) := by decide +kernel
theorem d_X4_readHello_41 : decode b_X4_readHello 41 = .ok (.aload_n 0, 1) := by decide +kernel
theorem d_X4_readHello_42 : decode b_X4_readHello 42 = .ok (.bipush 8, 2) := by decide +kernel
theorem d_X4_readHello_44 : decode b_X4_readHello 44 = .ok (.aload_n 0, 1) := by decide +kernel
theorem d_X4_readHello_45 : decode b_X4_readHello 45 = .ok (.getfield 31, 3) := by decide +kernel
theorem d_X4_readHello_48 : decode b_X4_readHello 48 = .ok (.invokevirtual 154, 3) := by decide +kernel
theorem d_X4_readHello_51 : decode b_X4_readHello 51 = .ok (.aload_n 0, 1) := by decide +kernel
theorem d_X4_readHello_52 : decode b_X4_readHello 52 = .ok (.iconst 1, 1) := by decide +kernel
theorem d_X4_readHello_53 : decode b_X4_readHello 53 = .ok (.invokevirtual 162, 3) := by decide +kernel
theorem d_X4_readHello_56 : decode b_X4_readHello 56 = .ok (.aload_n 0, 1) := by decide +kernel
theorem d_X4_readHello_57 : decode b_X4_readHello 57 = .ok (.bipush 20, 2) := by decide +kernel
theorem d_X4_readHello_59 : decode b_X4_readHello 59 = .ok (.aload_n 0, 1) := by decide +kernel
theorem d_X4_readHello_60 : decode b_X4_readHello 60 = .ok (.getfield 46, 3) := by decide +kernel
theorem d_X4_readHello_63 : decode b_X4_readHello 63 = .ok (.invokevirtual 154, 3) := by decide +kernel
theorem d_X4_readHello_66 : decode b_X4_readHello 66 = .ok (.aload_n 0, 1) := by decide +kernel
theorem d_X4_readHello_67 : decode b_X4_readHello 67 = .ok (.aload_n 0, 1) := by decide +kernel
theorem d_X4_readHello_68 : decode b_X4_readHello 68 = .ok (.getfield 69, 3) := by decide +kernel
theorem d_X4_readHello_71 : decode b_X4_readHello 71 = .ok (.bipush 8, 2) := by decide +kernel
theorem d_X4_readHello_73 : decode b_X4_readHello 73 = .ok (.aload_n 0, 1) := by decide +kernel
theorem d_X4_readHello_74 : decode b_X4_readHello 74 = .ok (.getfield 66, 3) := by decide +kernel
theorem d_X4_readHello_77 : decode b_X4_readHello 77 = .ok (.getfield 165, 3) := by decide +kernel
theorem d_X4_readHello_80 : decode b_X4_readHello 80 = .ok (.invokevirtual 158, 3) := by decide +kernel
theorem d_X4_readHello_83 : decode b_X4_readHello 83 = .ok (.aload_n 0, 1) := by decide +kernel
theorem d_X4_readHello_84 : decode b_X4_readHello 84 = .ok (.bipush 20, 2) := by decide +kernel
theorem d_X4_readHello_86 : decode b_X4_readHello 86 = .ok (.putfield 85, 3) := by decide +kernel
theorem d_X4_readHello_89 : decode b_X4_readHello 89 = .ok (.return_, 1) := by decide +kernel
theorem d_X4_keepOthers_0 : decode b_X4_keepOthers 0 = .ok (.aload_n 0, 1) := by decide +kernel
theorem d_X4_keepOthers_1 : decode b_X4_keepOthers 1 = .ok (.getfield 34, 3) := by decide +kernel
theorem d_X4_keepOthers_4 : decode b_X4_keepOthers 4 = .ok (.invokevirtual 124, 3) := by decide +kernel
theorem d_X4_keepOthers_7 : decode b_X4_keepOthers 7 = .ok (.aload_n 0, 1) := by decide +kernel
theorem d_X4_keepOthers_8 : decode b_X4_keepOthers 8 = .ok (.getfield 34, 3) := by decide +kernel
theorem d_X4_keepOthers_11 : decode b_X4_keepOthers 11 = .ok (.aload_n 0, 1) := by decide +kernel
theorem d_X4_keepOthers_12 : decode b_X4_keepOthers 12 = .ok (.getfield 37, 3) := by decide +kernel
theorem d_X4_keepOthers_15 : decode b_X4_keepOthers 15 = .ok (.iload_n 1, 1) := by decide +kernel
theorem d_X4_keepOthers_16 : decode b_X4_keepOthers 16 = .ok (.invokevirtual 150, 3) := by decide +kernel
theorem d_X4_keepOthers_19 : decode b_X4_keepOthers 19 = .ok (.aload_n 0, 1) := by decide +kernel
theorem d_X4_keepOthers_20 : decode b_X4_keepOthers 20 = .ok (.iconst 1, 1) := by decide +kernel
theorem d_X4_keepOthers_21 : decode b_X4_keepOthers 21 = .ok (.putfield 72, 3) := by decide +kernel
theorem d_X4_keepOthers_24 : decode b_X4_keepOthers 24 = .ok (.return_, 1) := by decide +kernel
theorem d_X4_makeSecrets_0 : decode b_X4_makeSecrets 0 = .ok (.aload_n 0, 1) := by decide +kernel
theorem d_X4_makeSecrets_1 : decode b_X4_makeSecrets 1 = .ok (.getfield 15, 3) := by decide +kernel
theorem d_X4_makeSecrets_4 : decode b_X4_makeSecrets 4 = .ok (.aload_n 0, 1) := by decide +kernel
theorem d_X4_makeSecrets_5 : decode b_X4_makeSecrets 5 = .ok (.getfield 40, 3) := by decide +kernel
theorem d_X4_makeSecrets_8 : decode b_X4_makeSecrets 8 = .ok (.aload_n 0, 1) := by decide +kernel
theorem d_X4_makeSecrets_9 : decode b_X4_makeSecrets 9 = .ok (.getfield 43, 3) := by decide +kernel
theorem d_X4_makeSecrets_12 : decode b_X4_makeSecrets 12 = .ok (.invokevirtual 204, 3) := by decide +kernel
theorem d_X4_makeSecrets_15 : decode b_X4_makeSecrets 15 = .ok (.aload_n 0, 1) := by decide +kernel
theorem d_X4_makeSecrets_16 : decode b_X4_makeSecrets 16 = .ok (.getfield 15, 3) := by decide +kernel
theorem d_X4_makeSecrets_19 : decode b_X4_makeSecrets 19 = .ok (.aload_n 3, 1) := by decide +kernel
theorem d_X4_makeSecrets_20 : decode b_X4_makeSecrets 20 = .ok (.aload_n 0, 1) := by decide +kernel
theorem d_X4_makeSecrets_21 : decode b_X4_makeSecrets 21 = .ok (.getfield 43, 3) := by decide +kernel
theorem d_X4_makeSecrets_24 : decode b_X4_makeSecrets 24 = .ok (.aload_n 1, 1) := by decide +kernel
theorem d_X4_makeSecrets_25 : decode b_X4_makeSecrets 25 = .ok (.getfield 165, 3) := by decide +kernel
theorem d_X4_makeSecrets_28 : decode b_X4_makeSecrets 28 = .ok (.invokevirtual 187, 3) := by decide +kernel
theorem d_X4_makeSecrets_31 : decode b_X4_makeSecrets 31 = .ok (.aload_n 0, 1) := by decide +kernel
theorem d_X4_makeSecrets_32 : decode b_X4_makeSecrets 32 = .ok (.getfield 15, 3) := by decide +kernel
theorem d_X4_makeSecrets_35 : decode b_X4_makeSecrets 35 = .ok (.aload_n 1, 1) := by decide +kernel
theorem d_X4_makeSecrets_36 : decode b_X4_makeSecrets 36 = .ok (.getfield 165, 3) := by decide +kernel
theorem d_X4_makeSecrets_39 : decode b_X4_makeSecrets 39 = .ok (.iload_n 2, 1) := by decide +kernel
theorem d_X4_makeSecrets_40 : decode b_X4_makeSecrets 40 = .ok (.aload_n 0, 1) := by decide +kernel
theorem d_X4_makeSecrets_41 : decode b_X4_makeSecrets 41 = .ok (.getfield 43, 3) := by decide +kernel
theorem d_X4_makeSecrets_44 : decode b_X4_makeSecrets 44 = .ok (.aload_n 1, 1) := by decide +kernel
theorem d_X4_makeSecrets_45 : decode b_X4_makeSecrets 45 = .ok (.getfield 194, 3) := by decide +kernel
theorem d_X4_makeSecrets_48 : decode b_X4_makeSecrets 48 = .ok (.invokevirtual 197, 3) := by decide +kernel
theorem d_X4_makeSecrets_51 : decode b_X4_makeSecrets 51 = .ok (.aload_n 0, 1) := by decide +kernel
theorem d_X4_makeSecrets_52 : decode b_X4_makeSecrets 52 = .ok (.getfield 15, 3) := by decide +kernel
theorem d_X4_makeSecrets_55 : decode b_X4_makeSecrets 55 = .ok (.aload_n 1, 1) := by decide +kernel
theorem d_X4_makeSecrets_56 : decode b_X4_makeSecrets 56 = .ok (.getfield 165, 3) := by decide +kernel
theorem d_X4_makeSecrets_59 : decode b_X4_makeSecrets 59 = .ok (.iload_n 2, 1) := by decide +kernel
theorem d_X4_makeSecrets_60 : decode b_X4_makeSecrets 60 = .ok (.iconst 1, 1) := by decide +kernel
theorem d_X4_makeSecrets_61 : decode b_X4_makeSecrets 61 = .ok (.iadd, 1) := by decide +kernel
theorem d_X4_makeSecrets_62 : decode b_X4_makeSecrets 62 = .ok (.aload_n 0, 1) := by decide +kernel
theorem d_X4_makeSecrets_63 : decode b_X4_makeSecrets 63 = .ok (.getfield 43, 3) := by decide +kernel
theorem d_X4_makeSecrets_66 : decode b_X4_makeSecrets 66 = .ok (.aload_n 1, 1) := by decide +kernel
theorem d_X4_makeSecrets_67 : decode b_X4_makeSecrets 67 = .ok (.getfield 201, 3) := by decide +kernel
theorem d_X4_makeSecrets_70 : decode b_X4_makeSecrets 70 = .ok (.invokevirtual 197, 3) := by decide +kernel
theorem d_X4_makeSecrets_73 : decode b_X4_makeSecrets 73 = .ok (.return_, 1) := by decide +kernel
theorem d_X0_digest_0 : decode b_X0_digest 0 = .ok (.aload_n 0, 1) := by decide +kernel
theorem d_X0_digest_1 : decode b_X0_digest 1 = .ok (.getfield 26, 3) := by decide +kernel
theorem d_X0_digest_4 : decode b_X0_digest 4 = .ok (.aload_n 1, 1) := by decide +kernel
theorem d_X0_digest_5 : decode b_X0_digest 5 = .ok (.invokevirtual 39, 3) := by decide +kernel
theorem d_X0_digest_8 : decode b_X0_digest 8 = .ok (.aload_n 0, 1) := by decide +kernel
theorem d_X0_digest_9 : decode b_X0_digest 9 = .ok (.aload_n 2, 1) := by decide +kernel
theorem d_X0_digest_10 : decode b_X0_digest 10 = .ok (.invokevirtual 43, 3) := by decide +kernel
theorem d_X0_digest_13 : decode b_X0_digest 13 = .ok (.return_, 1) := by decide +kernel
theorem d_X4_makeProof_0 : decode b_X4_makeProof 0 = .ok (.aload_n 0, 1) := by decide +kernel
theorem d_X4_makeProof_1 : decode b_X4_makeProof 1 = .ok (.getfield 15, 3) := by decide +kernel
theorem d_X4_makeProof_4 : decode b_X4_makeProof 4 = .ok (.aload_n 0, 1) := by decide +kernel
theorem d_X4_makeProof_5 : decode b_X4_makeProof 5 = .ok (.getfield 66, 3) := by decide +kernel
theorem d_X4_makeProof_8 : decode b_X4_makeProof 8 = .ok (.iload_n 1, 1) := by decide +kernel
theorem d_X4_makeProof_9 : decode b_X4_makeProof 9 = .ok (.invokevirtual 208, 3) := by decide +kernel
theorem d_X4_makeProof_12 : decode b_X4_makeProof 12 = .ok (.bipush 10, 2) := by decide +kernel
theorem d_X4_makeProof_14 : decode b_X4_makeProof 14 = .ok (.aload_n 0, 1) := by decide +kernel
theorem d_X4_makeProof_15 : decode b_X4_makeProof 15 = .ok (.getfield 15, 3) := by decide +kernel
theorem d_X4_makeProof_18 : decode b_X4_makeProof 18 = .ok (.getfield 191, 3) := by decide +kernel
theorem d_X4_makeProof_21 : decode b_X4_makeProof 21 = .ok (.aload_n 0, 1) := by decide +kernel
theorem d_X4_makeProof_22 : decode b_X4_makeProof 22 = .ok (.getfield 46, 3) := by decide +kernel
theorem d_X4_makeProof_25 : decode b_X4_makeProof 25 = .ok (.invokevirtual 197, 3) := by decide +kernel
theorem d_X4_makeProof_28 : decode b_X4_makeProof 28 = .ok (.aload_n 0, 1) := by decide +kernel
theorem d_X4_makeProof_29 : decode b_X4_makeProof 29 = .ok (.getfield 15, 3) := by decide +kernel
theorem d_X4_makeProof_32 : decode b_X4_makeProof 32 = .ok (.aload_n 0, 1) := by decide +kernel
theorem d_X4_makeProof_33 : decode b_X4_makeProof 33 = .ok (.getfield 40, 3) := by decide +kernel
theorem d_X4_makeProof_36 : decode b_X4_makeProof 36 = .ok (.aload_n 0, 1) := by decide +kernel
theorem d_X4_makeProof_37 : decode b_X4_makeProof 37 = .ok (.getfield 43, 3) := by decide +kernel
theorem d_X4_makeProof_40 : decode b_X4_makeProof 40 = .ok (.invokevirtual 204, 3) := by decide +kernel
theorem d_X4_makeProof_43 : decode b_X4_makeProof 43 = .ok (.aload_n 0, 1) := by decide +kernel
theorem d_X4_makeProof_44 : decode b_X4_makeProof 44 = .ok (.getfield 15, 3) := by decide +kernel
theorem d_X4_makeProof_47 : decode b_X4_makeProof 47 = .ok (.aload_n 0, 1) := by decide +kernel
theorem d_X4_makeProof_48 : decode b_X4_makeProof 48 = .ok (.getfield 46, 3) := by decide +kernel
theorem d_X4_makeProof_51 : decode b_X4_makeProof 51 = .ok (.aload_n 0, 1) := by decide +kernel
theorem d_X4_makeProof_52 : decode b_X4_makeProof 52 = .ok (.getfield 43, 3) := by decide +kernel
theorem d_X4_makeProof_55 : decode b_X4_makeProof 55 = .ok (.aload_n 0, 1) := by decide +kernel
theorem d_X4_makeProof_56 : decode b_X4_makeProof 56 = .ok (.getfield 46, 3) := by decide +kernel
theorem d_X4_makeProof_59 : decode b_X4_makeProof 59 = .ok (.invokevirtual 187, 3) := by decide +kernel
theorem d_X4_makeProof_62 : decode b_X4_makeProof 62 = .ok (.return_, 1) := by decide +kernel
theorem d_X2_secretOf_0 : decode b_X2_secretOf 0 = .ok (.iload_n 1, 1) := by decide +kernel
theorem d_X2_secretOf_1 : decode b_X2_secretOf 1 = .ok (.ifCond .ne 10, 3) := by decide +kernel
theorem d_X2_secretOf_4 : decode b_X2_secretOf 4 = .ok (.aload_n 0, 1) := by decide +kernel
theorem d_X2_secretOf_5 : decode b_X2_secretOf 5 = .ok (.getfield 20, 3) := by decide +kernel
theorem d_X2_secretOf_8 : decode b_X2_secretOf 8 = .ok (.goto 7, 3) := by decide +kernel
theorem d_X2_secretOf_11 : decode b_X2_secretOf 11 = .ok (.aload_n 0, 1) := by decide +kernel
theorem d_X2_secretOf_12 : decode b_X2_secretOf 12 = .ok (.getfield 23, 3) := by decide +kernel
theorem d_X2_secretOf_15 : decode b_X2_secretOf 15 = .ok (.areturn, 1) := by decide +kernel
theorem d_X4_readAnswer_0 : decode b_X4_readAnswer 0 = .ok (.aload_n 0, 1) := by decide +kernel
theorem d_X4_readAnswer_1 : decode b_X4_readAnswer 1 = .ok (.getfield 40, 3) := by decide +kernel
theorem d_X4_readAnswer_4 : decode b_X4_readAnswer 4 = .ok (.aload_n 0, 1) := by decide +kernel
theorem d_X4_readAnswer_5 : decode b_X4_readAnswer 5 = .ok (.getfield 37, 3) := by decide +kernel
theorem d_X4_readAnswer_8 : decode b_X4_readAnswer 8 = .ok (.iconst 0, 1) := by decide +kernel
theorem d_X4_readAnswer_9 : decode b_X4_readAnswer 9 = .ok (.invokevirtual 150, 3) := by decide +kernel
theorem d_X4_readAnswer_12 : decode b_X4_readAnswer 12 = .ok (.aload_n 0, 1) := by decide +kernel
theorem d_X4_readAnswer_13 : decode b_X4_readAnswer 13 = .ok (.aload_n 0, 1) := by decide +kernel
theorem d_X4_readAnswer_14 : decode b_X4_readAnswer 14 = .ok (.getfield 66, 3) := by decide +kernel
theorem d_X4_readAnswer_17 : decode b_X4_readAnswer 17 = .ok (.bipush 6, 2) := by decide +kernel
theorem d_X4_readAnswer_19 : decode b_X4_readAnswer 19 = .ok (.aload_n 0, 1) := by decide +kernel
theorem d_X4_readAnswer_20 : decode b_X4_readAnswer 20 = .ok (.getfield 24, 3) := by decide +kernel
theorem d_X4_readAnswer_23 : decode b_X4_readAnswer 23 = .ok (.invokevirtual 158, 3) := by decide +kernel
theorem d_X4_readAnswer_26 : decode b_X4_readAnswer 26 = .ok (.aload_n 0, 1) := by decide +kernel
theorem d_X4_readAnswer_27 : decode b_X4_readAnswer 27 = .ok (.bipush 8, 2) := by decide +kernel
theorem d_X4_readAnswer_29 : decode b_X4_readAnswer 29 = .ok (.putfield 85, 3) := by decide +kernel
theorem d_X4_readAnswer_32 : decode b_X4_readAnswer 32 = .ok (.return_, 1) := by decide +kernel
theorem d_X4_readParameters_0 : decode b_X4_readParameters 0 = .ok (.aload_n 0, 1) := by decide +kernel
theorem d_X4_readParameters_1 : decode b_X4_readParameters 1 = .ok (.iconst 4, 1) := by decide +kernel
theorem d_X4_readParameters_2 : decode b_X4_readParameters 2 = .ok (.invokevirtual 147, 3) := by decide +kernel
theorem d_X4_readParameters_5 : decode b_X4_readParameters 5 = .ok (.aload_n 0, 1) := by decide +kernel
theorem d_X4_readParameters_6 : decode b_X4_readParameters 6 = .ok (.getfield 40, 3) := by decide +kernel
theorem d_X4_readParameters_9 : decode b_X4_readParameters 9 = .ok (.aload_n 0, 1) := by decide +kernel
theorem d_X4_readParameters_10 : decode b_X4_readParameters 10 = .ok (.getfield 37, 3) := by decide +kernel
theorem d_X4_readParameters_13 : decode b_X4_readParameters 13 = .ok (.iconst 0, 1) := by decide +kernel
theorem d_X4_readParameters_14 : decode b_X4_readParameters 14 = .ok (.invokevirtual 150, 3) := by decide +kernel
theorem d_X4_readParameters_17 : decode b_X4_readParameters 17 = .ok (.aload_n 0, 1) := by decide +kernel
theorem d_X4_readParameters_18 : decode b_X4_readParameters 18 = .ok (.bipush 20, 2) := by decide +kernel
theorem d_X4_readParameters_20 : decode b_X4_readParameters 20 = .ok (.putfield 85, 3) := by decide +kernel
theorem d_X4_readParameters_23 : decode b_X4_readParameters 23 = .ok (.return_, 1) := by decide +kernel
theorem d_X4_readDone_0 : decode b_X4_readDone 0 = .ok (.aload_n 0, 1) := by decide +kernel
theorem d_X4_readDone_1 : decode b_X4_readDone 1 = .ok (.iconst 1, 1) := by decide +kernel
theorem d_X4_readDone_2 : decode b_X4_readDone 2 = .ok (.aload_n 0, 1) := by decide +kernel
theorem d_X4_readDone_3 : decode b_X4_readDone 3 = .ok (.getfield 9, 3) := by decide +kernel
theorem d_X4_readDone_6 : decode b_X4_readDone 6 = .ok (.isub, 1) := by decide +kernel
theorem d_X4_readDone_7 : decode b_X4_readDone 7 = .ok (.invokevirtual 162, 3) := by decide +kernel
theorem d_X4_readDone_10 : decode b_X4_readDone 10 = .ok (.aload_n 0, 1) := by decide +kernel
theorem d_X4_readDone_11 : decode b_X4_readDone 11 = .ok (.getfield 37, 3) := by decide +kernel
theorem d_X4_readDone_14 : decode b_X4_readDone 14 = .ok (.iconst 4, 1) := by decide +kernel
theorem d_X4_readDone_15 : decode b_X4_readDone 15 = .ok (.aload_n 0, 1) := by decide +kernel
theorem d_X4_readDone_16 : decode b_X4_readDone 16 = .ok (.getfield 46, 3) := by decide +kernel
theorem d_X4_readDone_19 : decode b_X4_readDone 19 = .ok (.invokevirtual 168, 3) := by decide +kernel
theorem d_X4_readDone_22 : decode b_X4_readDone 22 = .ok (.ifCond .ne 11, 3) := by decide +kernel
theorem d_X4_readDone_25 : decode b_X4_readDone 25 = .ok (.aload_n 0, 1) := by decide +kernel
theorem d_X4_readDone_26 : decode b_X4_readDone 26 = .ok (.sipush 307, 3) := by decide +kernel
theorem d_X4_readDone_29 : decode b_X4_readDone 29 = .ok (.putfield 82, 3) := by decide +kernel
theorem d_X4_readDone_32 : decode b_X4_readDone 32 = .ok (.return_, 1) := by decide +kernel
theorem d_X4_readDone_33 : decode b_X4_readDone 33 = .ok (.aload_n 0, 1) := by decide +kernel
theorem d_X4_readDone_34 : decode b_X4_readDone 34 = .ok (.getfield 9, 3) := by decide +kernel
theorem d_X4_readDone_37 : decode b_X4_readDone 37 = .ok (.ifCond .ne 47, 3) := by decide +kernel
theorem d_X4_readDone_40 : decode b_X4_readDone 40 = .ok (.aload_n 0, 1) := by decide +kernel
theorem d_X4_readDone_41 : decode b_X4_readDone 41 = .ok (.getfield 40, 3) := by decide +kernel
theorem d_X4_readDone_44 : decode b_X4_readDone 44 = .ok (.aload_n 0, 1) := by decide +kernel
theorem d_X4_readDone_45 : decode b_X4_readDone 45 = .ok (.getfield 37, 3) := by decide +kernel
theorem d_X4_readDone_48 : decode b_X4_readDone 48 = .ok (.iconst 0, 1) := by decide +kernel
theorem d_X4_readDone_49 : decode b_X4_readDone 49 = .ok (.invokevirtual 150, 3) := by decide +kernel
theorem d_X4_readDone_52 : decode b_X4_readDone 52 = .ok (.aload_n 0, 1) := by decide +kernel
theorem d_X4_readDone_53 : decode b_X4_readDone 53 = .ok (.aload_n 0, 1) := by decide +kernel
theorem d_X4_readDone_54 : decode b_X4_readDone 54 = .ok (.getfield 69, 3) := by decide +kernel
theorem d_X4_readDone_57 : decode b_X4_readDone 57 = .ok (.bipush 8, 2) := by decide +kernel
theorem d_X4_readDone_59 : decode b_X4_readDone 59 = .ok (.aload_n 0, 1) := by decide +kernel
theorem d_X4_readDone_60 : decode b_X4_readDone 60 = .ok (.getfield 66, 3) := by decide +kernel
theorem d_X4_readDone_63 : decode b_X4_readDone 63 = .ok (.getfield 165, 3) := by decide +kernel
theorem d_X4_readDone_66 : decode b_X4_readDone 66 = .ok (.invokevirtual 158, 3) := by decide +kernel
theorem d_X4_readDone_69 : decode b_X4_readDone 69 = .ok (.aload_n 0, 1) := by decide +kernel
theorem d_X4_readDone_70 : decode b_X4_readDone 70 = .ok (.iconst 0, 1) := by decide +kernel
theorem d_X4_readDone_71 : decode b_X4_readDone 71 = .ok (.invokevirtual 162, 3) := by decide +kernel
theorem d_X4_readDone_74 : decode b_X4_readDone 74 = .ok (.aload_n 0, 1) := by decide +kernel
theorem d_X4_readDone_75 : decode b_X4_readDone 75 = .ok (.bipush 20, 2) := by decide +kernel
theorem d_X4_readDone_77 : decode b_X4_readDone 77 = .ok (.aload_n 0, 1) := by decide +kernel
theorem d_X4_readDone_78 : decode b_X4_readDone 78 = .ok (.getfield 46, 3) := by decide +kernel
theorem d_X4_readDone_81 : decode b_X4_readDone 81 = .ok (.invokevirtual 154, 3) := by decide +kernel
theorem d_X4_readDone_84 : decode b_X4_readDone 84 = .ok (.aload_n 0, 1) := by decide +kernel
theorem d_X4_readDone_85 : decode b_X4_readDone 85 = .ok (.iconst 1, 1) := by decide +kernel
theorem d_X4_readDone_86 : decode b_X4_readDone 86 = .ok (.putfield 79, 3) := by decide +kernel
theorem d_X4_readDone_89 : decode b_X4_readDone 89 = .ok (.aload_n 0, 1) := by decide +kernel
theorem d_X4_readDone_90 : decode b_X4_readDone 90 = .ok (.iconst 0, 1) := by decide +kernel
theorem d_X4_readDone_91 : decode b_X4_readDone 91 = .ok (.putfield 85, 3) := by decide +kernel
theorem d_X4_readDone_94 : decode b_X4_readDone 94 = .ok (.return_, 1) := by decide +kernel
theorem d_X3_isSameFrom_0 : decode b_X3_isSameFrom 0 = .ok (.aload_n 0, 1) := by decide +kernel
theorem d_X3_isSameFrom_1 : decode b_X3_isSameFrom 1 = .ok (.getfield 19, 3) := by decide +kernel
theorem d_X3_isSameFrom_4 : decode b_X3_isSameFrom 4 = .ok (.iload_n 1, 1) := by decide +kernel
theorem d_X3_isSameFrom_5 : decode b_X3_isSameFrom 5 = .ok (.isub, 1) := by decide +kernel
theorem d_X3_isSameFrom_6 : decode b_X3_isSameFrom 6 = .ok (.aload_n 2, 1) := by decide +kernel
theorem d_X3_isSameFrom_7 : decode b_X3_isSameFrom 7 = .ok (.getfield 19, 3) := by decide +kernel
theorem d_X3_isSameFrom_10 : decode b_X3_isSameFrom 10 = .ok (.if_icmp .eq 5, 3) := by decide +kernel
theorem d_X3_isSameFrom_13 : decode b_X3_isSameFrom 13 = .ok (.iconst 0, 1) := by decide +kernel
theorem d_X3_isSameFrom_14 : decode b_X3_isSameFrom 14 = .ok (.ireturn, 1) := by decide +kernel
theorem d_X3_isSameFrom_15 : decode b_X3_isSameFrom 15 = .ok (.iconst 0, 1) := by decide +kernel
theorem d_X3_isSameFrom_16 : decode b_X3_isSameFrom 16 = .ok (.istore_n 3, 1) := by decide +kernel
theorem d_X3_isSameFrom_17 : decode b_X3_isSameFrom 17 = .ok (.iload_n 3, 1) := by decide +kernel
theorem d_X3_isSameFrom_18 : decode b_X3_isSameFrom 18 = .ok (.aload_n 2, 1) := by decide +kernel
theorem d_X3_isSameFrom_19 : decode b_X3_isSameFrom 19 = .ok (.getfield 19, 3) := by decide +kernel
theorem d_X3_isSameFrom_22 : decode b_X3_isSameFrom 22 = .ok (.if_icmp .ge 26, 3) := by decide +kernel
theorem d_X3_isSameFrom_25 : decode b_X3_isSameFrom 25 = .ok (.aload_n 0, 1) := by decide +kernel
theorem d_X3_isSameFrom_26 : decode b_X3_isSameFrom 26 = .ok (.iload_n 1, 1) := by decide +kernel
theorem d_X3_isSameFrom_27 : decode b_X3_isSameFrom 27 = .ok (.iload_n 3, 1) := by decide +kernel
theorem d_X3_isSameFrom_28 : decode b_X3_isSameFrom 28 = .ok (.iadd, 1) := by decide +kernel
theorem d_X3_isSameFrom_29 : decode b_X3_isSameFrom 29 = .ok (.invokevirtual 31, 3) := by decide +kernel
theorem d_X3_isSameFrom_32 : decode b_X3_isSameFrom 32 = .ok (.aload_n 2, 1) := by decide +kernel
theorem d_X3_isSameFrom_33 : decode b_X3_isSameFrom 33 = .ok (.iload_n 3, 1) := by decide +kernel
theorem d_X3_isSameFrom_34 : decode b_X3_isSameFrom 34 = .ok (.invokevirtual 31, 3) := by decide +kernel
theorem d_X3_isSameFrom_37 : decode b_X3_isSameFrom 37 = .ok (.if_icmp .eq 5, 3) := by decide +kernel
theorem d_X3_isSameFrom_40 : decode b_X3_isSameFrom 40 = .ok (.iconst 0, 1) := by decide +kernel
theorem d_X3_isSameFrom_41 : decode b_X3_isSameFrom 41 = .ok (.ireturn, 1) := by decide +kernel
theorem d_X3_isSameFrom_42 : decode b_X3_isSameFrom 42 = .ok (.iinc 3 1, 3) := by decide +kernel
theorem d_X3_isSameFrom_45 : decode b_X3_isSameFrom 45 = .ok (.goto (-28), 3) := by decide +kernel
theorem d_X3_isSameFrom_48 : decode b_X3_isSameFrom 48 = .ok (.iconst 1, 1) := by decide +kernel
theorem d_X3_isSameFrom_49 : decode b_X3_isSameFrom 49 = .ok (.ireturn, 1) := by decide +kernel
theorem d_X5_carry_0 : decode b_X5_carry 0 = .ok (.iload_n 1, 1) := by decide +kernel
theorem d_X5_carry_1 : decode b_X5_carry 1 = .ok (.invokestatic 55, 3) := by decide +kernel
theorem d_X5_carry_4 : decode b_X5_carry 4 = .ok (.ifCond .eq 15, 3) := by decide +kernel
theorem d_X5_carry_7 : decode b_X5_carry 7 = .ok (.iload_n 2, 1) := by decide +kernel
theorem d_X5_carry_8 : decode b_X5_carry 8 = .ok (.invokestatic 92, 3) := by decide +kernel
theorem d_X5_carry_11 : decode b_X5_carry 11 = .ok (.ifCond .eq 8, 3) := by decide +kernel
theorem d_X5_carry_14 : decode b_X5_carry 14 = .ok (.iload_n 3, 1) := by decide +kernel
theorem d_X5_carry_15 : decode b_X5_carry 15 = .ok (.iconst 1, 1) := by decide +kernel
theorem d_X5_carry_16 : decode b_X5_carry 16 = .ok (.if_icmp .ge 13, 3) := by decide +kernel
theorem d_X5_carry_19 : decode b_X5_carry 19 = .ok (.new 33, 3) := by decide +kernel
theorem d_X5_carry_22 : decode b_X5_carry 22 = .ok (.dup, 1) := by decide +kernel
theorem d_X5_carry_23 : decode b_X5_carry 23 = .ok (.ldc 107, 2) := by decide +kernel
theorem d_X5_carry_25 : decode b_X5_carry 25 = .ok (.invokespecial 37, 3) := by decide +kernel
theorem d_X5_carry_28 : decode b_X5_carry 28 = .ok (.athrow, 1) := by decide +kernel
theorem d_X5_carry_29 : decode b_X5_carry 29 = .ok (.aload_n 0, 1) := by decide +kernel
theorem d_X5_carry_30 : decode b_X5_carry 30 = .ok (.iconst 1, 1) := by decide +kernel
theorem d_X5_carry_31 : decode b_X5_carry 31 = .ok (.iload_n 1, 1) := by decide +kernel
theorem d_X5_carry_32 : decode b_X5_carry 32 = .ok (.isub, 1) := by decide +kernel
theorem d_X5_carry_33 : decode b_X5_carry 33 = .ok (.invokevirtual 65, 3) := by decide +kernel
theorem d_X5_carry_36 : decode b_X5_carry 36 = .ok (.astore 4, 2) := by decide +kernel
theorem d_X5_carry_38 : decode b_X5_carry 38 = .ok (.aload 4, 2) := by decide +kernel
theorem d_X5_carry_40 : decode b_X5_carry 40 = .ok (.invokevirtual 97, 3) := by decide +kernel
theorem d_X5_carry_43 : decode b_X5_carry 43 = .ok (.ifCond .ne 13, 3) := by decide +kernel
theorem d_X5_carry_46 : decode b_X5_carry 46 = .ok (.new 44, 3) := by decide +kernel
theorem d_X5_carry_49 : decode b_X5_carry 49 = .ok (.dup, 1) := by decide +kernel
theorem d_X5_carry_50 : decode b_X5_carry 50 = .ok (.ldc 109, 2) := by decide +kernel
theorem d_X5_carry_52 : decode b_X5_carry 52 = .ok (.invokespecial 48, 3) := by decide +kernel
theorem d_X5_carry_55 : decode b_X5_carry 55 = .ok (.athrow, 1) := by decide +kernel
theorem d_X5_carry_56 : decode b_X5_carry 56 = .ok (.aload_n 0, 1) := by decide +kernel
theorem d_X5_carry_57 : decode b_X5_carry 57 = .ok (.iload_n 1, 1) := by decide +kernel
theorem d_X5_carry_58 : decode b_X5_carry 58 = .ok (.invokevirtual 65, 3) := by decide +kernel
theorem d_X5_carry_61 : decode b_X5_carry 61 = .ok (.iload_n 2, 1) := by decide +kernel
theorem d_X5_carry_62 : decode b_X5_carry 62 = .ok (.invokevirtual 111, 3) := by decide +kernel
theorem d_X5_carry_65 : decode b_X5_carry 65 = .ok (.astore 5, 2) := by decide +kernel
theorem d_X5_carry_67 : decode b_X5_carry 67 = .ok (.aload 5, 2) := by decide +kernel
theorem d_X5_carry_69 : decode b_X5_carry 69 = .ok (.getfield 115, 3) := by decide +kernel
theorem d_X5_carry_72 : decode b_X5_carry 72 = .ok (.istore 6, 2) := by decide +kernel
theorem d_X5_carry_74 : decode b_X5_carry 74 = .ok (.iload_n 3, 1) := by decide +kernel
theorem d_X5_carry_75 : decode b_X5_carry 75 = .ok (.aload 5, 2) := by decide +kernel
theorem d_X5_carry_77 : decode b_X5_carry 77 = .ok (.getfield 120, 3) := by decide +kernel
theorem d_X5_carry_80 : decode b_X5_carry 80 = .ok (.getfield 40, 3) := by decide +kernel
theorem d_X5_carry_83 : decode b_X5_carry 83 = .ok (.iload 6, 2) := by decide +kernel
theorem d_X5_carry_85 : decode b_X5_carry 85 = .ok (.isub, 1) := by decide +kernel
theorem d_X5_carry_86 : decode b_X5_carry 86 = .ok (.invokestatic 123, 3) := by decide +kernel
theorem d_X5_carry_89 : decode b_X5_carry 89 = .ok (.istore 7, 2) := by decide +kernel
theorem d_X5_carry_91 : decode b_X5_carry 91 = .ok (.aload 5, 2) := by decide +kernel
theorem d_X5_carry_93 : decode b_X5_carry 93 = .ok (.iload 6, 2) := by decide +kernel
theorem d_X5_carry_95 : decode b_X5_carry 95 = .ok (.iload 7, 2) := by decide +kernel
theorem d_X5_carry_97 : decode b_X5_carry 97 = .ok (.iadd, 1) := by decide +kernel
theorem d_X5_carry_98 : decode b_X5_carry 98 = .ok (.putfield 115, 3) := by decide +kernel
theorem d_X5_carry_101 : decode b_X5_carry 101 = .ok (.aload 4, 2) := by decide +kernel
theorem d_X5_carry_103 : decode b_X5_carry 103 = .ok (.iload_n 2, 1) := by decide +kernel
theorem d_X5_carry_104 : decode b_X5_carry 104 = .ok (.aload 5, 2) := by decide +kernel
theorem d_X5_carry_106 : decode b_X5_carry 106 = .ok (.getfield 120, 3) := by decide +kernel
theorem d_X5_carry_109 : decode b_X5_carry 109 = .ok (.iload 6, 2) := by decide +kernel
theorem d_X5_carry_111 : decode b_X5_carry 111 = .ok (.iload 7, 2) := by decide +kernel
theorem d_X5_carry_113 : decode b_X5_carry 113 = .ok (.invokevirtual 103, 3) := by decide +kernel
theorem d_X5_carry_116 : decode b_X5_carry 116 = .ok (.ireturn, 1) := by decide +kernel
theorem d_X5_sent_0 : decode b_X5_sent 0 = .ok (.iload_n 1, 1) := by decide +kernel
theorem d_X5_sent_1 : decode b_X5_sent 1 = .ok (.invokestatic 55, 3) := by decide +kernel
theorem d_X5_sent_4 : decode b_X5_sent 4 = .ok (.ifCond .eq 10, 3) := by decide +kernel
theorem d_X5_sent_7 : decode b_X5_sent 7 = .ok (.iload_n 2, 1) := by decide +kernel
theorem d_X5_sent_8 : decode b_X5_sent 8 = .ok (.invokestatic 92, 3) := by decide +kernel
theorem d_X5_sent_11 : decode b_X5_sent 11 = .ok (.ifCond .ne 13, 3) := by decide +kernel
theorem d_X5_sent_14 : decode b_X5_sent 14 = .ok (.new 33, 3) := by decide +kernel
theorem d_X5_sent_17 : decode b_X5_sent 17 = .ok (.dup, 1) := by decide +kernel
theorem d_X5_sent_18 : decode b_X5_sent 18 = .ok (.ldc 95, 2) := by decide +kernel
theorem d_X5_sent_20 : decode b_X5_sent 20 = .ok (.invokespecial 37, 3) := by decide +kernel
theorem d_X5_sent_23 : decode b_X5_sent 23 = .ok (.athrow, 1) := by decide +kernel
theorem d_X5_sent_24 : decode b_X5_sent 24 = .ok (.aload_n 0, 1) := by decide +kernel
theorem d_X5_sent_25 : decode b_X5_sent 25 = .ok (.iload_n 1, 1) := by decide +kernel
theorem d_X5_sent_26 : decode b_X5_sent 26 = .ok (.invokevirtual 65, 3) := by decide +kernel
theorem d_X5_sent_29 : decode b_X5_sent 29 = .ok (.iload_n 2, 1) := by decide +kernel
theorem d_X5_sent_30 : decode b_X5_sent 30 = .ok (.invokevirtual 111, 3) := by decide +kernel
theorem d_X5_sent_33 : decode b_X5_sent 33 = .ok (.getfield 120, 3) := by decide +kernel
theorem d_X5_sent_36 : decode b_X5_sent 36 = .ok (.astore 4, 2) := by decide +kernel
theorem d_X5_sent_38 : decode b_X5_sent 38 = .ok (.aload 4, 2) := by decide +kernel
theorem d_X5_sent_40 : decode b_X5_sent 40 = .ok (.iload_n 3, 1) := by decide +kernel
theorem d_X5_sent_41 : decode b_X5_sent 41 = .ok (.invokevirtual 129, 3) := by decide +kernel
theorem d_X5_sent_44 : decode b_X5_sent 44 = .ok (.ifCond .ne 13, 3) := by decide +kernel
theorem d_X5_sent_47 : decode b_X5_sent 47 = .ok (.new 132, 3) := by decide +kernel
theorem d_X5_sent_50 : decode b_X5_sent 50 = .ok (.dup, 1) := by decide +kernel
theorem d_X5_sent_51 : decode b_X5_sent 51 = .ok (.ldc 134, 2) := by decide +kernel
theorem d_X5_sent_53 : decode b_X5_sent 53 = .ok (.invokespecial 136, 3) := by decide +kernel
theorem d_X5_sent_56 : decode b_X5_sent 56 = .ok (.athrow, 1) := by decide +kernel
theorem d_X5_sent_57 : decode b_X5_sent 57 = .ok (.aload 4, 2) := by decide +kernel
theorem d_X5_sent_59 : decode b_X5_sent 59 = .ok (.iload_n 3, 1) := by decide +kernel
theorem d_X5_sent_60 : decode b_X5_sent 60 = .ok (.invokevirtual 137, 3) := by decide +kernel
theorem d_X5_sent_63 : decode b_X5_sent 63 = .ok (.ireturn, 1) := by decide +kernel
theorem d_X3_has_0 : decode b_X3_has 0 = .ok (.iload_n 1, 1) := by decide +kernel
theorem d_X3_has_1 : decode b_X3_has 1 = .ok (.ifCond .lt 24, 3) := by decide +kernel
theorem d_X3_has_4 : decode b_X3_has 4 = .ok (.iload_n 1, 1) := by decide +kernel
theorem d_X3_has_5 : decode b_X3_has 5 = .ok (.aload_n 0, 1) := by decide +kernel
theorem d_X3_has_6 : decode b_X3_has 6 = .ok (.getfield 19, 3) := by decide +kernel
theorem d_X3_has_9 : decode b_X3_has 9 = .ok (.if_icmp .ge 16, 3) := by decide +kernel
theorem d_X3_has_12 : decode b_X3_has 12 = .ok (.iload_n 1, 1) := by decide +kernel
theorem d_X3_has_13 : decode b_X3_has 13 = .ok (.aload_n 0, 1) := by decide +kernel
theorem d_X3_has_14 : decode b_X3_has 14 = .ok (.getfield 13, 3) := by decide +kernel
theorem d_X3_has_17 : decode b_X3_has 17 = .ok (.arraylength, 1) := by decide +kernel
theorem d_X3_has_18 : decode b_X3_has 18 = .ok (.if_icmp .ge 7, 3) := by decide +kernel
theorem d_X3_has_21 : decode b_X3_has 21 = .ok (.iconst 1, 1) := by decide +kernel
theorem d_X3_has_22 : decode b_X3_has 22 = .ok (.goto 4, 3) := by decide +kernel
theorem d_X3_has_25 : decode b_X3_has 25 = .ok (.iconst 0, 1) := by decide +kernel
theorem d_X3_has_26 : decode b_X3_has 26 = .ok (.ireturn, 1) := by decide +kernel
theorem d_X5_secret_0 : decode b_X5_secret 0 = .ok (.iload_n 1, 1) := by decide +kernel
theorem d_X5_secret_1 : decode b_X5_secret 1 = .ok (.invokestatic 55, 3) := by decide +kernel
theorem d_X5_secret_4 : decode b_X5_secret 4 = .ok (.ifCond .eq 31, 3) := by decide +kernel
theorem d_X5_secret_7 : decode b_X5_secret 7 = .ok (.iload_n 2, 1) := by decide +kernel
theorem d_X5_secret_8 : decode b_X5_secret 8 = .ok (.ifCond .lt 27, 3) := by decide +kernel
theorem d_X5_secret_11 : decode b_X5_secret 11 = .ok (.iload_n 2, 1) := by decide +kernel
theorem d_X5_secret_12 : decode b_X5_secret 12 = .ok (.iconst 2, 1) := by decide +kernel
theorem d_X5_secret_13 : decode b_X5_secret 13 = .ok (.if_icmp .gt 22, 3) := by decide +kernel
theorem d_X5_secret_16 : decode b_X5_secret 16 = .ok (.iload_n 3, 1) := by decide +kernel
theorem d_X5_secret_17 : decode b_X5_secret 17 = .ok (.invokestatic 55, 3) := by decide +kernel
theorem d_X5_secret_20 : decode b_X5_secret 20 = .ok (.ifCond .eq 15, 3) := by decide +kernel
theorem d_X5_secret_23 : decode b_X5_secret 23 = .ok (.iload 4, 2) := by decide +kernel
theorem d_X5_secret_25 : decode b_X5_secret 25 = .ok (.ifCond .lt 10, 3) := by decide +kernel
theorem d_X5_secret_28 : decode b_X5_secret 28 = .ok (.iload 4, 2) := by decide +kernel
theorem d_X5_secret_30 : decode b_X5_secret 30 = .ok (.bipush 32, 2) := by decide +kernel
theorem d_X5_secret_32 : decode b_X5_secret 32 = .ok (.if_icmp .lt 13, 3) := by decide +kernel
theorem d_X5_secret_35 : decode b_X5_secret 35 = .ok (.new 33, 3) := by decide +kernel
theorem d_X5_secret_38 : decode b_X5_secret 38 = .ok (.dup, 1) := by decide +kernel
theorem d_X5_secret_39 : decode b_X5_secret 39 = .ok (.ldc 141, 2) := by decide +kernel
theorem d_X5_secret_41 : decode b_X5_secret 41 = .ok (.invokespecial 37, 3) := by decide +kernel
theorem d_X5_secret_44 : decode b_X5_secret 44 = .ok (.athrow, 1) := by decide +kernel
theorem d_X5_secret_45 : decode b_X5_secret 45 = .ok (.aload_n 0, 1) := by decide +kernel
theorem d_X5_secret_46 : decode b_X5_secret 46 = .ok (.iload_n 1, 1) := by decide +kernel
theorem d_X5_secret_47 : decode b_X5_secret 47 = .ok (.invokevirtual 65, 3) := by decide +kernel
theorem d_X5_secret_50 : decode b_X5_secret 50 = .ok (.iload_n 2, 1) := by decide +kernel
theorem d_X5_secret_51 : decode b_X5_secret 51 = .ok (.invokevirtual 143, 3) := by decide +kernel
theorem d_X5_secret_54 : decode b_X5_secret 54 = .ok (.iload_n 3, 1) := by decide +kernel
theorem d_X5_secret_55 : decode b_X5_secret 55 = .ok (.invokevirtual 147, 3) := by decide +kernel
theorem d_X5_secret_58 : decode b_X5_secret 58 = .ok (.astore 5, 2) := by decide +kernel
theorem d_X5_secret_60 : decode b_X5_secret 60 = .ok (.aload 5, 2) := by decide +kernel
theorem d_X5_secret_62 : decode b_X5_secret 62 = .ok (.iload 4, 2) := by decide +kernel
theorem d_X5_secret_64 : decode b_X5_secret 64 = .ok (.invokevirtual 129, 3) := by decide +kernel
theorem d_X5_secret_67 : decode b_X5_secret 67 = .ok (.ifCond .ne 13, 3) := by decide +kernel
theorem d_X5_secret_70 : decode b_X5_secret 70 = .ok (.new 132, 3) := by decide +kernel
theorem d_X5_secret_73 : decode b_X5_secret 73 = .ok (.dup, 1) := by decide +kernel
theorem d_X5_secret_74 : decode b_X5_secret 74 = .ok (.ldc 153, 2) := by decide +kernel
theorem d_X5_secret_76 : decode b_X5_secret 76 = .ok (.invokespecial 136, 3) := by decide +kernel
theorem d_X5_secret_79 : decode b_X5_secret 79 = .ok (.athrow, 1) := by decide +kernel
theorem d_X5_secret_80 : decode b_X5_secret 80 = .ok (.aload 5, 2) := by decide +kernel
theorem d_X5_secret_82 : decode b_X5_secret 82 = .ok (.iload 4, 2) := by decide +kernel
theorem d_X5_secret_84 : decode b_X5_secret 84 = .ok (.invokevirtual 137, 3) := by decide +kernel
theorem d_X5_secret_87 : decode b_X5_secret 87 = .ok (.ireturn, 1) := by decide +kernel
theorem d_X4_pairAt_0 : decode b_X4_pairAt 0 = .ok (.iload_n 1, 1) := by decide +kernel
theorem d_X4_pairAt_1 : decode b_X4_pairAt 1 = .ok (.ifCond .ne 10, 3) := by decide +kernel
theorem d_X4_pairAt_4 : decode b_X4_pairAt 4 = .ok (.aload_n 0, 1) := by decide +kernel
theorem d_X4_pairAt_5 : decode b_X4_pairAt 5 = .ok (.getfield 62, 3) := by decide +kernel
theorem d_X4_pairAt_8 : decode b_X4_pairAt 8 = .ok (.goto 19, 3) := by decide +kernel
theorem d_X4_pairAt_11 : decode b_X4_pairAt 11 = .ok (.iload_n 1, 1) := by decide +kernel
theorem d_X4_pairAt_12 : decode b_X4_pairAt 12 = .ok (.iconst 1, 1) := by decide +kernel
theorem d_X4_pairAt_13 : decode b_X4_pairAt 13 = .ok (.if_icmp .ne 10, 3) := by decide +kernel
theorem d_X4_pairAt_16 : decode b_X4_pairAt 16 = .ok (.aload_n 0, 1) := by decide +kernel
theorem d_X4_pairAt_17 : decode b_X4_pairAt 17 = .ok (.getfield 66, 3) := by decide +kernel
theorem d_X4_pairAt_20 : decode b_X4_pairAt 20 = .ok (.goto 7, 3) := by decide +kernel
theorem d_X4_pairAt_23 : decode b_X4_pairAt 23 = .ok (.aload_n 0, 1) := by decide +kernel
theorem d_X4_pairAt_24 : decode b_X4_pairAt 24 = .ok (.getfield 69, 3) := by decide +kernel
theorem d_X4_pairAt_27 : decode b_X4_pairAt 27 = .ok (.areturn, 1) := by decide +kernel
theorem d_X5_theirs_0 : decode b_X5_theirs 0 = .ok (.iload_n 1, 1) := by decide +kernel
theorem d_X5_theirs_1 : decode b_X5_theirs 1 = .ok (.invokestatic 55, 3) := by decide +kernel
theorem d_X5_theirs_4 : decode b_X5_theirs 4 = .ok (.ifCond .ne 13, 3) := by decide +kernel
theorem d_X5_theirs_7 : decode b_X5_theirs 7 = .ok (.new 33, 3) := by decide +kernel
theorem d_X5_theirs_10 : decode b_X5_theirs 10 = .ok (.dup, 1) := by decide +kernel
theorem d_X5_theirs_11 : decode b_X5_theirs 11 = .ok (.ldc 79, 2) := by decide +kernel
theorem d_X5_theirs_13 : decode b_X5_theirs 13 = .ok (.invokespecial 37, 3) := by decide +kernel
theorem d_X5_theirs_16 : decode b_X5_theirs 16 = .ok (.athrow, 1) := by decide +kernel
theorem d_X5_theirs_17 : decode b_X5_theirs 17 = .ok (.aload_n 0, 1) := by decide +kernel
theorem d_X5_theirs_18 : decode b_X5_theirs 18 = .ok (.iload_n 1, 1) := by decide +kernel
theorem d_X5_theirs_19 : decode b_X5_theirs 19 = .ok (.invokevirtual 65, 3) := by decide +kernel
theorem d_X5_theirs_22 : decode b_X5_theirs 22 = .ok (.getfield 155, 3) := by decide +kernel
theorem d_X5_theirs_25 : decode b_X5_theirs 25 = .ok (.astore_n 3, 1) := by decide +kernel
theorem d_X5_theirs_26 : decode b_X5_theirs 26 = .ok (.aload_n 3, 1) := by decide +kernel
theorem d_X5_theirs_27 : decode b_X5_theirs 27 = .ok (.iload_n 2, 1) := by decide +kernel
theorem d_X5_theirs_28 : decode b_X5_theirs 28 = .ok (.invokevirtual 129, 3) := by decide +kernel
theorem d_X5_theirs_31 : decode b_X5_theirs 31 = .ok (.ifCond .ne 13, 3) := by decide +kernel
theorem d_X5_theirs_34 : decode b_X5_theirs 34 = .ok (.new 132, 3) := by decide +kernel
theorem d_X5_theirs_37 : decode b_X5_theirs 37 = .ok (.dup, 1) := by decide +kernel
theorem d_X5_theirs_38 : decode b_X5_theirs 38 = .ok (.ldc 158, 2) := by decide +kernel
theorem d_X5_theirs_40 : decode b_X5_theirs 40 = .ok (.invokespecial 136, 3) := by decide +kernel
theorem d_X5_theirs_43 : decode b_X5_theirs 43 = .ok (.athrow, 1) := by decide +kernel
theorem d_X5_theirs_44 : decode b_X5_theirs 44 = .ok (.aload_n 3, 1) := by decide +kernel
theorem d_X5_theirs_45 : decode b_X5_theirs 45 = .ok (.iload_n 2, 1) := by decide +kernel
theorem d_X5_theirs_46 : decode b_X5_theirs 46 = .ok (.invokevirtual 137, 3) := by decide +kernel
theorem d_X5_theirs_49 : decode b_X5_theirs 49 = .ok (.ireturn, 1) := by decide +kernel
theorem d_X5_look_0 : decode b_X5_look 0 = .ok (.iload_n 1, 1) := by decide +kernel
theorem d_X5_look_1 : decode b_X5_look 1 = .ok (.invokestatic 55, 3) := by decide +kernel
theorem d_X5_look_4 : decode b_X5_look 4 = .ok (.ifCond .ne 13, 3) := by decide +kernel
theorem d_X5_look_7 : decode b_X5_look 7 = .ok (.new 33, 3) := by decide +kernel
theorem d_X5_look_10 : decode b_X5_look 10 = .ok (.dup, 1) := by decide +kernel
theorem d_X5_look_11 : decode b_X5_look 11 = .ok (.ldc 79, 2) := by decide +kernel
theorem d_X5_look_13 : decode b_X5_look 13 = .ok (.invokespecial 37, 3) := by decide +kernel
theorem d_X5_look_16 : decode b_X5_look 16 = .ok (.athrow, 1) := by decide +kernel
theorem d_X5_look_17 : decode b_X5_look 17 = .ok (.iload_n 2, 1) := by decide +kernel
theorem d_X5_look_18 : decode b_X5_look 18 = .ok (.ifCond .lt 9, 3) := by decide +kernel
theorem d_X5_look_21 : decode b_X5_look 21 = .ok (.iload_n 2, 1) := by decide +kernel
theorem d_X5_look_22 : decode b_X5_look 22 = .ok (.bipush 11, 2) := by decide +kernel
theorem d_X5_look_24 : decode b_X5_look 24 = .ok (.if_icmp .le 13, 3) := by decide +kernel
theorem d_X5_look_27 : decode b_X5_look 27 = .ok (.new 132, 3) := by decide +kernel
theorem d_X5_look_30 : decode b_X5_look 30 = .ok (.dup, 1) := by decide +kernel
theorem d_X5_look_31 : decode b_X5_look 31 = .ok (.ldc 160, 2) := by decide +kernel
theorem d_X5_look_33 : decode b_X5_look 33 = .ok (.invokespecial 136, 3) := by decide +kernel
theorem d_X5_look_36 : decode b_X5_look 36 = .ok (.athrow, 1) := by decide +kernel
theorem d_X5_look_37 : decode b_X5_look 37 = .ok (.aload_n 0, 1) := by decide +kernel
theorem d_X5_look_38 : decode b_X5_look 38 = .ok (.iload_n 1, 1) := by decide +kernel
theorem d_X5_look_39 : decode b_X5_look 39 = .ok (.invokevirtual 65, 3) := by decide +kernel
theorem d_X5_look_42 : decode b_X5_look 42 = .ok (.astore_n 3, 1) := by decide +kernel
theorem d_X5_look_43 : decode b_X5_look 43 = .ok (.iload_n 2, 1) := by decide +kernel
theorem d_X5_look_44 : decode b_X5_look 44 = .ok (.tableswitch 139 0 9 #[56, 61, 74, 87, 92, 92, 106, 106, 115, 134], 56) := by decide +kernel
theorem d_X5_look_100 : decode b_X5_look 100 = .ok (.aload_n 3, 1) := by decide +kernel
theorem d_X5_look_101 : decode b_X5_look 101 = .ok (.getfield 162, 3) := by decide +kernel
theorem d_X5_look_104 : decode b_X5_look 104 = .ok (.ireturn, 1) := by decide +kernel
theorem d_X5_look_105 : decode b_X5_look 105 = .ok (.aload_n 3, 1) := by decide +kernel
theorem d_X5_look_106 : decode b_X5_look 106 = .ok (.getfield 69, 3) := by decide +kernel
theorem d_X5_look_109 : decode b_X5_look 109 = .ok (.ifCond .eq 7, 3) := by decide +kernel
theorem d_X5_look_112 : decode b_X5_look 112 = .ok (.iconst 1, 1) := by decide +kernel
theorem d_X5_look_113 : decode b_X5_look 113 = .ok (.goto 4, 3) := by decide +kernel
theorem d_X5_look_116 : decode b_X5_look 116 = .ok (.iconst 0, 1) := by decide +kernel
theorem d_X5_look_117 : decode b_X5_look 117 = .ok (.ireturn, 1) := by decide +kernel
theorem d_X5_look_118 : decode b_X5_look 118 = .ok (.aload_n 3, 1) := by decide +kernel
theorem d_X5_look_119 : decode b_X5_look 119 = .ok (.getfield 165, 3) := by decide +kernel
theorem d_X5_look_122 : decode b_X5_look 122 = .ok (.ifCond .eq 7, 3) := by decide +kernel
theorem d_X5_look_125 : decode b_X5_look 125 = .ok (.iconst 1, 1) := by decide +kernel
theorem d_X5_look_126 : decode b_X5_look 126 = .ok (.goto 4, 3) := by decide +kernel
theorem d_X5_look_129 : decode b_X5_look 129 = .ok (.iconst 0, 1) := by decide +kernel
theorem d_X5_look_130 : decode b_X5_look 130 = .ok (.ireturn, 1) := by decide +kernel
theorem d_X5_look_131 : decode b_X5_look 131 = .ok (.aload_n 3, 1) := by decide +kernel
theorem d_X5_look_132 : decode b_X5_look 132 = .ok (.getfield 168, 3) := by decide +kernel
theorem d_X5_look_135 : decode b_X5_look 135 = .ok (.ireturn, 1) := by decide +kernel
theorem d_X5_look_136 : decode b_X5_look 136 = .ok (.aload_n 3, 1) := by decide +kernel
theorem d_X5_look_137 : decode b_X5_look 137 = .ok (.iload_n 2, 1) := by decide +kernel
theorem d_X5_look_138 : decode b_X5_look 138 = .ok (.iconst 4, 1) := by decide +kernel
theorem d_X5_look_139 : decode b_X5_look 139 = .ok (.isub, 1) := by decide +kernel
theorem d_X5_look_140 : decode b_X5_look 140 = .ok (.invokevirtual 111, 3) := by decide +kernel
theorem d_X5_look_143 : decode b_X5_look 143 = .ok (.getfield 120, 3) := by decide +kernel
theorem d_X5_look_146 : decode b_X5_look 146 = .ok (.getfield 40, 3) := by decide +kernel
theorem d_X5_look_149 : decode b_X5_look 149 = .ok (.ireturn, 1) := by decide +kernel
theorem d_X5_look_150 : decode b_X5_look 150 = .ok (.aload_n 3, 1) := by decide +kernel
theorem d_X5_look_151 : decode b_X5_look 151 = .ok (.iload_n 2, 1) := by decide +kernel
theorem d_X5_look_152 : decode b_X5_look 152 = .ok (.bipush 6, 2) := by decide +kernel
theorem d_X5_look_154 : decode b_X5_look 154 = .ok (.isub, 1) := by decide +kernel
theorem d_X5_look_155 : decode b_X5_look 155 = .ok (.invokevirtual 171, 3) := by decide +kernel
theorem d_X5_look_158 : decode b_X5_look 158 = .ok (.ireturn, 1) := by decide +kernel
theorem d_X5_look_159 : decode b_X5_look 159 = .ok (.aload_n 3, 1) := by decide +kernel
theorem d_X5_look_160 : decode b_X5_look 160 = .ok (.getfield 174, 3) := by decide +kernel
theorem d_X5_look_163 : decode b_X5_look 163 = .ok (.ifCond .eq 13, 3) := by decide +kernel
theorem d_X5_look_166 : decode b_X5_look 166 = .ok (.aload_n 3, 1) := by decide +kernel
theorem d_X5_look_167 : decode b_X5_look 167 = .ok (.getfield 155, 3) := by decide +kernel
theorem d_X5_look_170 : decode b_X5_look 170 = .ok (.getfield 40, 3) := by decide +kernel
theorem d_X5_look_173 : decode b_X5_look 173 = .ok (.goto 4, 3) := by decide +kernel
theorem d_X5_look_176 : decode b_X5_look 176 = .ok (.iconst (-1), 1) := by decide +kernel
theorem d_X5_look_177 : decode b_X5_look 177 = .ok (.ireturn, 1) := by decide +kernel
theorem d_X5_look_178 : decode b_X5_look 178 = .ok (.aload_n 3, 1) := by decide +kernel
theorem d_X5_look_179 : decode b_X5_look 179 = .ok (.invokevirtual 177, 3) := by decide +kernel
theorem d_X5_look_182 : decode b_X5_look 182 = .ok (.ireturn, 1) := by decide +kernel
theorem d_X5_look_183 : decode b_X5_look 183 = .ok (.aload_n 3, 1) := by decide +kernel
theorem d_X5_look_184 : decode b_X5_look 184 = .ok (.iload_n 2, 1) := by decide +kernel
theorem d_X5_look_185 : decode b_X5_look 185 = .ok (.bipush 10, 2) := by decide +kernel
theorem d_X5_look_187 : decode b_X5_look 187 = .ok (.isub, 1) := by decide +kernel
theorem d_X5_look_188 : decode b_X5_look 188 = .ok (.invokevirtual 111, 3) := by decide +kernel
theorem d_X5_look_191 : decode b_X5_look 191 = .ok (.getfield 115, 3) := by decide +kernel
theorem d_X5_look_194 : decode b_X5_look 194 = .ok (.ireturn, 1) := by decide +kernel
theorem d_X4_waitingAt_0 : decode b_X4_waitingAt 0 = .ok (.iload_n 1, 1) := by decide +kernel
theorem d_X4_waitingAt_1 : decode b_X4_waitingAt 1 = .ok (.aload_n 0, 1) := by decide +kernel
theorem d_X4_waitingAt_2 : decode b_X4_waitingAt 2 = .ok (.getfield 85, 3) := by decide +kernel
theorem d_X4_waitingAt_5 : decode b_X4_waitingAt 5 = .ok (.invokestatic 88, 3) := by decide +kernel
theorem d_X4_waitingAt_8 : decode b_X4_waitingAt 8 = .ok (.if_icmp .ne 13, 3) := by decide +kernel
theorem d_X4_waitingAt_11 : decode b_X4_waitingAt 11 = .ok (.aload_n 0, 1) := by decide +kernel
theorem d_X4_waitingAt_12 : decode b_X4_waitingAt 12 = .ok (.getfield 37, 3) := by decide +kernel
theorem d_X4_waitingAt_15 : decode b_X4_waitingAt 15 = .ok (.getfield 92, 3) := by decide +kernel
theorem d_X4_waitingAt_18 : decode b_X4_waitingAt 18 = .ok (.goto 4, 3) := by decide +kernel
theorem d_X4_waitingAt_21 : decode b_X4_waitingAt 21 = .ok (.iconst 0, 1) := by decide +kernel
theorem d_X4_waitingAt_22 : decode b_X4_waitingAt 22 = .ok (.ireturn, 1) := by decide +kernel
theorem d_X4_highestLevel_0 : decode b_X4_highestLevel 0 = .ok (.aload_n 0, 1) := by decide +kernel
theorem d_X4_highestLevel_1 : decode b_X4_highestLevel 1 = .ok (.getfield 69, 3) := by decide +kernel
theorem d_X4_highestLevel_4 : decode b_X4_highestLevel 4 = .ok (.invokevirtual 95, 3) := by decide +kernel
theorem d_X4_highestLevel_7 : decode b_X4_highestLevel 7 = .ok (.ifCond .eq 5, 3) := by decide +kernel
theorem d_X4_highestLevel_10 : decode b_X4_highestLevel 10 = .ok (.iconst 2, 1) := by decide +kernel
theorem d_X4_highestLevel_11 : decode b_X4_highestLevel 11 = .ok (.ireturn, 1) := by decide +kernel
theorem d_X4_highestLevel_12 : decode b_X4_highestLevel 12 = .ok (.aload_n 0, 1) := by decide +kernel
theorem d_X4_highestLevel_13 : decode b_X4_highestLevel 13 = .ok (.getfield 66, 3) := by decide +kernel
theorem d_X4_highestLevel_16 : decode b_X4_highestLevel 16 = .ok (.invokevirtual 95, 3) := by decide +kernel
theorem d_X4_highestLevel_19 : decode b_X4_highestLevel 19 = .ok (.ifCond .eq 5, 3) := by decide +kernel
theorem d_X4_highestLevel_22 : decode b_X4_highestLevel 22 = .ok (.iconst 1, 1) := by decide +kernel
theorem d_X4_highestLevel_23 : decode b_X4_highestLevel 23 = .ok (.ireturn, 1) := by decide +kernel
theorem d_X4_highestLevel_24 : decode b_X4_highestLevel 24 = .ok (.aload_n 0, 1) := by decide +kernel
theorem d_X4_highestLevel_25 : decode b_X4_highestLevel 25 = .ok (.getfield 62, 3) := by decide +kernel
theorem d_X4_highestLevel_28 : decode b_X4_highestLevel 28 = .ok (.invokevirtual 95, 3) := by decide +kernel
theorem d_X4_highestLevel_31 : decode b_X4_highestLevel 31 = .ok (.ifCond .eq 7, 3) := by decide +kernel
theorem d_X4_highestLevel_34 : decode b_X4_highestLevel 34 = .ok (.iconst 0, 1) := by decide +kernel
theorem d_X4_highestLevel_35 : decode b_X4_highestLevel 35 = .ok (.goto 4, 3) := by decide +kernel
theorem d_X4_highestLevel_38 : decode b_X4_highestLevel 38 = .ok (.iconst (-1), 1) := by decide +kernel
theorem d_X4_highestLevel_39 : decode b_X4_highestLevel 39 = .ok (.ireturn, 1) := by decide +kernel
theorem d_X2_isMade_0 : decode b_X2_isMade 0 = .ok (.aload_n 0, 1) := by decide +kernel
theorem d_X2_isMade_1 : decode b_X2_isMade 1 = .ok (.getfield 20, 3) := by decide +kernel
theorem d_X2_isMade_4 : decode b_X2_isMade 4 = .ok (.getfield 26, 3) := by decide +kernel
theorem d_X2_isMade_7 : decode b_X2_isMade 7 = .ok (.ifCond .le 7, 3) := by decide +kernel
theorem d_X2_isMade_10 : decode b_X2_isMade 10 = .ok (.iconst 1, 1) := by decide +kernel
theorem d_X2_isMade_11 : decode b_X2_isMade 11 = .ok (.goto 4, 3) := by decide +kernel
theorem d_X2_isMade_14 : decode b_X2_isMade 14 = .ok (.iconst 0, 1) := by decide +kernel
theorem d_X2_isMade_15 : decode b_X2_isMade 15 = .ok (.ireturn, 1) := by decide +kernel
