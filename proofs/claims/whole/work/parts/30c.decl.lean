theorem d_L_feed_0 : decode b_L_feed 0 = .ok (.aload 4, 2) := by decide +kernel
theorem d_L_feed_2 : decode b_L_feed 2 = .ok (.iconst 0, 1) := by decide +kernel
theorem d_L_feed_3 : decode b_L_feed 3 = .ok (.aload_n 0, 1) := by decide +kernel
theorem d_L_feed_4 : decode b_L_feed 4 = .ok (.iload_n 1, 1) := by decide +kernel
theorem d_L_feed_5 : decode b_L_feed 5 = .ok (.lload_n 2, 1) := by decide +kernel
theorem d_L_feed_6 : decode b_L_feed 6 = .ok (.invokevirtual 7, 3) := by decide +kernel
theorem d_L_feed_9 : decode b_L_feed 9 = .ok (.i2l, 1) := by decide +kernel
theorem d_L_feed_10 : decode b_L_feed 10 = .ok (.lastore, 1) := by decide +kernel
theorem d_L_feed_11 : decode b_L_feed 11 = .ok (.goto 11, 3) := by decide +kernel
theorem d_L_feed_14 : decode b_L_feed 14 = .ok (.astore 5, 2) := by decide +kernel
theorem d_L_feed_16 : decode b_L_feed 16 = .ok (.iconst 1, 1) := by decide +kernel
theorem d_L_feed_17 : decode b_L_feed 17 = .ok (.ireturn, 1) := by decide +kernel
theorem d_L_feed_18 : decode b_L_feed 18 = .ok (.astore 5, 2) := by decide +kernel
theorem d_L_feed_20 : decode b_L_feed 20 = .ok (.iconst 2, 1) := by decide +kernel
theorem d_L_feed_21 : decode b_L_feed 21 = .ok (.ireturn, 1) := by decide +kernel
theorem d_L_feed_22 : decode b_L_feed 22 = .ok (.iconst 0, 1) := by decide +kernel
theorem d_L_feed_23 : decode b_L_feed 23 = .ok (.ireturn, 1) := by decide +kernel
theorem d_L_tell_0 : decode b_L_tell 0 = .ok (.aload_n 0, 1) := by decide +kernel
theorem d_L_tell_1 : decode b_L_tell 1 = .ok (.iload_n 1, 1) := by decide +kernel
theorem d_L_tell_2 : decode b_L_tell 2 = .ok (.iload_n 2, 1) := by decide +kernel
theorem d_L_tell_3 : decode b_L_tell 3 = .ok (.invokevirtual 17, 3) := by decide +kernel
theorem d_L_tell_6 : decode b_L_tell 6 = .ok (.goto 9, 3) := by decide +kernel
theorem d_L_tell_9 : decode b_L_tell 9 = .ok (.astore_n 3, 1) := by decide +kernel
theorem d_L_tell_10 : decode b_L_tell 10 = .ok (.iconst 1, 1) := by decide +kernel
theorem d_L_tell_11 : decode b_L_tell 11 = .ok (.ireturn, 1) := by decide +kernel
theorem d_L_tell_12 : decode b_L_tell 12 = .ok (.astore_n 3, 1) := by decide +kernel
theorem d_L_tell_13 : decode b_L_tell 13 = .ok (.iconst 2, 1) := by decide +kernel
theorem d_L_tell_14 : decode b_L_tell 14 = .ok (.ireturn, 1) := by decide +kernel
theorem d_L_tell_15 : decode b_L_tell 15 = .ok (.iconst 0, 1) := by decide +kernel
theorem d_L_tell_16 : decode b_L_tell 16 = .ok (.ireturn, 1) := by decide +kernel
theorem d_L_begin_0 : decode b_L_begin 0 = .ok (.aload_n 0, 1) := by decide +kernel
theorem d_L_begin_1 : decode b_L_begin 1 = .ok (.iload_n 1, 1) := by decide +kernel
theorem d_L_begin_2 : decode b_L_begin 2 = .ok (.invokevirtual 21, 3) := by decide +kernel
theorem d_L_begin_5 : decode b_L_begin 5 = .ok (.goto 9, 3) := by decide +kernel
theorem d_L_begin_8 : decode b_L_begin 8 = .ok (.astore_n 2, 1) := by decide +kernel
theorem d_L_begin_9 : decode b_L_begin 9 = .ok (.iconst 1, 1) := by decide +kernel
theorem d_L_begin_10 : decode b_L_begin 10 = .ok (.ireturn, 1) := by decide +kernel
theorem d_L_begin_11 : decode b_L_begin 11 = .ok (.astore_n 2, 1) := by decide +kernel
theorem d_L_begin_12 : decode b_L_begin 12 = .ok (.iconst 2, 1) := by decide +kernel
theorem d_L_begin_13 : decode b_L_begin 13 = .ok (.ireturn, 1) := by decide +kernel
theorem d_L_begin_14 : decode b_L_begin 14 = .ok (.iconst 0, 1) := by decide +kernel
theorem d_L_begin_15 : decode b_L_begin 15 = .ok (.ireturn, 1) := by decide +kernel
theorem d_L_take_0 : decode b_L_take 0 = .ok (.aload_n 3, 1) := by decide +kernel
theorem d_L_take_1 : decode b_L_take 1 = .ok (.iconst 0, 1) := by decide +kernel
theorem d_L_take_2 : decode b_L_take 2 = .ok (.aload_n 0, 1) := by decide +kernel
theorem d_L_take_3 : decode b_L_take 3 = .ok (.iload_n 1, 1) := by decide +kernel
theorem d_L_take_4 : decode b_L_take 4 = .ok (.iload_n 2, 1) := by decide +kernel
theorem d_L_take_5 : decode b_L_take 5 = .ok (.invokevirtual 25, 3) := by decide +kernel
theorem d_L_take_8 : decode b_L_take 8 = .ok (.i2l, 1) := by decide +kernel
theorem d_L_take_9 : decode b_L_take 9 = .ok (.lastore, 1) := by decide +kernel
theorem d_L_take_10 : decode b_L_take 10 = .ok (.goto 11, 3) := by decide +kernel
theorem d_L_take_13 : decode b_L_take 13 = .ok (.astore 4, 2) := by decide +kernel
theorem d_L_take_15 : decode b_L_take 15 = .ok (.iconst 1, 1) := by decide +kernel
theorem d_L_take_16 : decode b_L_take 16 = .ok (.ireturn, 1) := by decide +kernel
theorem d_L_take_17 : decode b_L_take 17 = .ok (.astore 4, 2) := by decide +kernel
theorem d_L_take_19 : decode b_L_take 19 = .ok (.iconst 2, 1) := by decide +kernel
theorem d_L_take_20 : decode b_L_take 20 = .ok (.ireturn, 1) := by decide +kernel
theorem d_L_take_21 : decode b_L_take 21 = .ok (.iconst 0, 1) := by decide +kernel
theorem d_L_take_22 : decode b_L_take 22 = .ok (.ireturn, 1) := by decide +kernel
theorem d_L_carry_0 : decode b_L_carry 0 = .ok (.aload 4, 2) := by decide +kernel
theorem d_L_carry_2 : decode b_L_carry 2 = .ok (.iconst 0, 1) := by decide +kernel
theorem d_L_carry_3 : decode b_L_carry 3 = .ok (.aload_n 0, 1) := by decide +kernel
theorem d_L_carry_4 : decode b_L_carry 4 = .ok (.iload_n 1, 1) := by decide +kernel
theorem d_L_carry_5 : decode b_L_carry 5 = .ok (.iload_n 2, 1) := by decide +kernel
theorem d_L_carry_6 : decode b_L_carry 6 = .ok (.iload_n 3, 1) := by decide +kernel
theorem d_L_carry_7 : decode b_L_carry 7 = .ok (.invokevirtual 29, 3) := by decide +kernel
theorem d_L_carry_10 : decode b_L_carry 10 = .ok (.i2l, 1) := by decide +kernel
theorem d_L_carry_11 : decode b_L_carry 11 = .ok (.lastore, 1) := by decide +kernel
theorem d_L_carry_12 : decode b_L_carry 12 = .ok (.goto 11, 3) := by decide +kernel
theorem d_L_carry_15 : decode b_L_carry 15 = .ok (.astore 5, 2) := by decide +kernel
theorem d_L_carry_17 : decode b_L_carry 17 = .ok (.iconst 1, 1) := by decide +kernel
theorem d_L_carry_18 : decode b_L_carry 18 = .ok (.ireturn, 1) := by decide +kernel
theorem d_L_carry_19 : decode b_L_carry 19 = .ok (.astore 5, 2) := by decide +kernel
theorem d_L_carry_21 : decode b_L_carry 21 = .ok (.iconst 2, 1) := by decide +kernel
theorem d_L_carry_22 : decode b_L_carry 22 = .ok (.ireturn, 1) := by decide +kernel
theorem d_L_carry_23 : decode b_L_carry 23 = .ok (.iconst 0, 1) := by decide +kernel
theorem d_L_carry_24 : decode b_L_carry 24 = .ok (.ireturn, 1) := by decide +kernel
theorem d_L_sent_0 : decode b_L_sent 0 = .ok (.aload 4, 2) := by decide +kernel
theorem d_L_sent_2 : decode b_L_sent 2 = .ok (.iconst 0, 1) := by decide +kernel
theorem d_L_sent_3 : decode b_L_sent 3 = .ok (.aload_n 0, 1) := by decide +kernel
theorem d_L_sent_4 : decode b_L_sent 4 = .ok (.iload_n 1, 1) := by decide +kernel
theorem d_L_sent_5 : decode b_L_sent 5 = .ok (.iload_n 2, 1) := by decide +kernel
theorem d_L_sent_6 : decode b_L_sent 6 = .ok (.iload_n 3, 1) := by decide +kernel
theorem d_L_sent_7 : decode b_L_sent 7 = .ok (.invokevirtual 33, 3) := by decide +kernel
theorem d_L_sent_10 : decode b_L_sent 10 = .ok (.i2l, 1) := by decide +kernel
theorem d_L_sent_11 : decode b_L_sent 11 = .ok (.lastore, 1) := by decide +kernel
theorem d_L_sent_12 : decode b_L_sent 12 = .ok (.goto 11, 3) := by decide +kernel
theorem d_L_sent_15 : decode b_L_sent 15 = .ok (.astore 5, 2) := by decide +kernel
theorem d_L_sent_17 : decode b_L_sent 17 = .ok (.iconst 1, 1) := by decide +kernel
theorem d_L_sent_18 : decode b_L_sent 18 = .ok (.ireturn, 1) := by decide +kernel
theorem d_L_sent_19 : decode b_L_sent 19 = .ok (.astore 5, 2) := by decide +kernel
theorem d_L_sent_21 : decode b_L_sent 21 = .ok (.iconst 2, 1) := by decide +kernel
theorem d_L_sent_22 : decode b_L_sent 22 = .ok (.ireturn, 1) := by decide +kernel
theorem d_L_sent_23 : decode b_L_sent 23 = .ok (.iconst 0, 1) := by decide +kernel
theorem d_L_sent_24 : decode b_L_sent 24 = .ok (.ireturn, 1) := by decide +kernel
theorem d_L_secret_0 : decode b_L_secret 0 = .ok (.aload 5, 2) := by decide +kernel
theorem d_L_secret_2 : decode b_L_secret 2 = .ok (.iconst 0, 1) := by decide +kernel
theorem d_L_secret_3 : decode b_L_secret 3 = .ok (.aload_n 0, 1) := by decide +kernel
theorem d_L_secret_4 : decode b_L_secret 4 = .ok (.iload_n 1, 1) := by decide +kernel
theorem d_L_secret_5 : decode b_L_secret 5 = .ok (.iload_n 2, 1) := by decide +kernel
theorem d_L_secret_6 : decode b_L_secret 6 = .ok (.iload_n 3, 1) := by decide +kernel
theorem d_L_secret_7 : decode b_L_secret 7 = .ok (.iload 4, 2) := by decide +kernel
theorem d_L_secret_9 : decode b_L_secret 9 = .ok (.invokevirtual 38, 3) := by decide +kernel
theorem d_L_secret_12 : decode b_L_secret 12 = .ok (.i2l, 1) := by decide +kernel
theorem d_L_secret_13 : decode b_L_secret 13 = .ok (.lastore, 1) := by decide +kernel
theorem d_L_secret_14 : decode b_L_secret 14 = .ok (.goto 11, 3) := by decide +kernel
theorem d_L_secret_17 : decode b_L_secret 17 = .ok (.astore 6, 2) := by decide +kernel
theorem d_L_secret_19 : decode b_L_secret 19 = .ok (.iconst 1, 1) := by decide +kernel
theorem d_L_secret_20 : decode b_L_secret 20 = .ok (.ireturn, 1) := by decide +kernel
theorem d_L_secret_21 : decode b_L_secret 21 = .ok (.astore 6, 2) := by decide +kernel
theorem d_L_secret_23 : decode b_L_secret 23 = .ok (.iconst 2, 1) := by decide +kernel
theorem d_L_secret_24 : decode b_L_secret 24 = .ok (.ireturn, 1) := by decide +kernel
theorem d_L_secret_25 : decode b_L_secret 25 = .ok (.iconst 0, 1) := by decide +kernel
theorem d_L_secret_26 : decode b_L_secret 26 = .ok (.ireturn, 1) := by decide +kernel
theorem d_L_theirs_0 : decode b_L_theirs 0 = .ok (.aload_n 3, 1) := by decide +kernel
theorem d_L_theirs_1 : decode b_L_theirs 1 = .ok (.iconst 0, 1) := by decide +kernel
theorem d_L_theirs_2 : decode b_L_theirs 2 = .ok (.aload_n 0, 1) := by decide +kernel
theorem d_L_theirs_3 : decode b_L_theirs 3 = .ok (.iload_n 1, 1) := by decide +kernel
theorem d_L_theirs_4 : decode b_L_theirs 4 = .ok (.iload_n 2, 1) := by decide +kernel
theorem d_L_theirs_5 : decode b_L_theirs 5 = .ok (.invokevirtual 42, 3) := by decide +kernel
theorem d_L_theirs_8 : decode b_L_theirs 8 = .ok (.i2l, 1) := by decide +kernel
theorem d_L_theirs_9 : decode b_L_theirs 9 = .ok (.lastore, 1) := by decide +kernel
theorem d_L_theirs_10 : decode b_L_theirs 10 = .ok (.goto 11, 3) := by decide +kernel
theorem d_L_theirs_13 : decode b_L_theirs 13 = .ok (.astore 4, 2) := by decide +kernel
theorem d_L_theirs_15 : decode b_L_theirs 15 = .ok (.iconst 1, 1) := by decide +kernel
theorem d_L_theirs_16 : decode b_L_theirs 16 = .ok (.ireturn, 1) := by decide +kernel
theorem d_L_theirs_17 : decode b_L_theirs 17 = .ok (.astore 4, 2) := by decide +kernel
theorem d_L_theirs_19 : decode b_L_theirs 19 = .ok (.iconst 2, 1) := by decide +kernel
theorem d_L_theirs_20 : decode b_L_theirs 20 = .ok (.ireturn, 1) := by decide +kernel
theorem d_L_theirs_21 : decode b_L_theirs 21 = .ok (.iconst 0, 1) := by decide +kernel
theorem d_L_theirs_22 : decode b_L_theirs 22 = .ok (.ireturn, 1) := by decide +kernel
theorem d_L_look_0 : decode b_L_look 0 = .ok (.aload_n 3, 1) := by decide +kernel
theorem d_L_look_1 : decode b_L_look 1 = .ok (.iconst 0, 1) := by decide +kernel
theorem d_L_look_2 : decode b_L_look 2 = .ok (.aload_n 0, 1) := by decide +kernel
theorem d_L_look_3 : decode b_L_look 3 = .ok (.iload_n 1, 1) := by decide +kernel
theorem d_L_look_4 : decode b_L_look 4 = .ok (.iload_n 2, 1) := by decide +kernel
theorem d_L_look_5 : decode b_L_look 5 = .ok (.invokevirtual 45, 3) := by decide +kernel
theorem d_L_look_8 : decode b_L_look 8 = .ok (.i2l, 1) := by decide +kernel
theorem d_L_look_9 : decode b_L_look 9 = .ok (.lastore, 1) := by decide +kernel
theorem d_L_look_10 : decode b_L_look 10 = .ok (.goto 11, 3) := by decide +kernel
theorem d_L_look_13 : decode b_L_look 13 = .ok (.astore 4, 2) := by decide +kernel
theorem d_L_look_15 : decode b_L_look 15 = .ok (.iconst 1, 1) := by decide +kernel
theorem d_L_look_16 : decode b_L_look 16 = .ok (.ireturn, 1) := by decide +kernel
theorem d_L_look_17 : decode b_L_look 17 = .ok (.astore 4, 2) := by decide +kernel
theorem d_L_look_19 : decode b_L_look 19 = .ok (.iconst 2, 1) := by decide +kernel
theorem d_L_look_20 : decode b_L_look 20 = .ok (.ireturn, 1) := by decide +kernel
theorem d_L_look_21 : decode b_L_look 21 = .ok (.iconst 0, 1) := by decide +kernel
theorem d_L_look_22 : decode b_L_look 22 = .ok (.ireturn, 1) := by decide +kernel
theorem d_L_law_0 : decode code 0 = .ok (.new 8, 3) := by decide +kernel
theorem d_L_law_3 : decode code 3 = .ok (.dup, 1) := by decide +kernel
theorem d_L_law_4 : decode code 4 = .ok (.invokespecial 48, 3) := by decide +kernel
theorem d_L_law_7 : decode code 7 = .ok (.astore_n 1, 1) := by decide +kernel
theorem d_L_law_8 : decode code 8 = .ok (.new 49, 3) := by decide +kernel
theorem d_L_law_11 : decode code 11 = .ok (.dup, 1) := by decide +kernel
theorem d_L_law_12 : decode code 12 = .ok (.invokespecial 51, 3) := by decide +kernel
theorem d_L_law_15 : decode code 15 = .ok (.astore_n 2, 1) := by decide +kernel
theorem d_L_law_16 : decode code 16 = .ok (.iconst 1, 1) := by decide +kernel
theorem d_L_law_17 : decode code 17 = .ok (.newarray .long, 2) := by decide +kernel
theorem d_L_law_19 : decode code 19 = .ok (.astore_n 3, 1) := by decide +kernel
theorem d_L_law_20 : decode code 20 = .ok (.iconst 0, 1) := by decide +kernel
theorem d_L_law_21 : decode code 21 = .ok (.istore 4, 2) := by decide +kernel
theorem d_L_law_23 : decode code 23 = .ok (.iload 4, 2) := by decide +kernel
theorem d_L_law_25 : decode code 25 = .ok (.aload_n 0, 1) := by decide +kernel
theorem d_L_law_26 : decode code 26 = .ok (.arraylength, 1) := by decide +kernel
theorem d_L_law_27 : decode code 27 = .ok (.iconst 5, 1) := by decide +kernel
theorem d_L_law_28 : decode code 28 = .ok (.isub, 1) := by decide +kernel
theorem d_L_law_29 : decode code 29 = .ok (.if_icmp .gt 722, 3) := by decide +kernel
theorem d_L_law_32 : decode code 32 = .ok (.aload_n 0, 1) := by decide +kernel
theorem d_L_law_33 : decode code 33 = .ok (.iload 4, 2) := by decide +kernel
theorem d_L_law_35 : decode code 35 = .ok (.iaload, 1) := by decide +kernel
theorem d_L_law_36 : decode code 36 = .ok (.bipush 15, 2) := by decide +kernel
theorem d_L_law_38 : decode code 38 = .ok (.iand, 1) := by decide +kernel
theorem d_L_law_39 : decode code 39 = .ok (.tableswitch 706 0 9 #[53, 153, 166, 214, 250, 318, 398, 478, 570, 638], 53) := by decide +kernel
theorem d_L_law_92 : decode code 92 = .ok (.aload_n 1, 1) := by decide +kernel
theorem d_L_law_93 : decode code 93 = .ok (.aload_n 0, 1) := by decide +kernel
theorem d_L_law_94 : decode code 94 = .ok (.iload 4, 2) := by decide +kernel
theorem d_L_law_96 : decode code 96 = .ok (.iconst 1, 1) := by decide +kernel
theorem d_L_law_97 : decode code 97 = .ok (.iadd, 1) := by decide +kernel
theorem d_L_law_98 : decode code 98 = .ok (.iaload, 1) := by decide +kernel
theorem d_L_law_99 : decode code 99 = .ok (.aload_n 0, 1) := by decide +kernel
theorem d_L_law_100 : decode code 100 = .ok (.iload 4, 2) := by decide +kernel
theorem d_L_law_102 : decode code 102 = .ok (.iconst 2, 1) := by decide +kernel
theorem d_L_law_103 : decode code 103 = .ok (.iadd, 1) := by decide +kernel
theorem d_L_law_104 : decode code 104 = .ok (.iaload, 1) := by decide +kernel
theorem d_L_law_105 : decode code 105 = .ok (.i2l, 1) := by decide +kernel
theorem d_L_law_106 : decode code 106 = .ok (.bipush 32, 2) := by decide +kernel
theorem d_L_law_108 : decode code 108 = .ok (.lshl, 1) := by decide +kernel
theorem d_L_law_109 : decode code 109 = .ok (.aload_n 0, 1) := by decide +kernel
theorem d_L_law_110 : decode code 110 = .ok (.iload 4, 2) := by decide +kernel
theorem d_L_law_112 : decode code 112 = .ok (.iconst 3, 1) := by decide +kernel
theorem d_L_law_113 : decode code 113 = .ok (.iadd, 1) := by decide +kernel
theorem d_L_law_114 : decode code 114 = .ok (.iaload, 1) := by decide +kernel
theorem d_L_law_115 : decode code 115 = .ok (.i2l, 1) := by decide +kernel
theorem d_L_law_116 : decode code 116 = .ok (.ldc2_w 52, 3) := by decide +kernel
theorem d_L_law_119 : decode code 119 = .ok (.land, 1) := by decide +kernel
theorem d_L_law_120 : decode code 120 = .ok (.lor, 1) := by decide +kernel
theorem d_L_law_121 : decode code 121 = .ok (.aload_n 3, 1) := by decide +kernel
theorem d_L_law_122 : decode code 122 = .ok (.invokestatic 54, 3) := by decide +kernel
theorem d_L_law_125 : decode code 125 = .ok (.istore 5, 2) := by decide +kernel
theorem d_L_law_127 : decode code 127 = .ok (.aload_n 2, 1) := by decide +kernel
theorem d_L_law_128 : decode code 128 = .ok (.aload_n 0, 1) := by decide +kernel
theorem d_L_law_129 : decode code 129 = .ok (.iload 4, 2) := by decide +kernel
theorem d_L_law_131 : decode code 131 = .ok (.iconst 1, 1) := by decide +kernel
theorem d_L_law_132 : decode code 132 = .ok (.iadd, 1) := by decide +kernel
theorem d_L_law_133 : decode code 133 = .ok (.iaload, 1) := by decide +kernel
theorem d_L_law_134 : decode code 134 = .ok (.aload_n 0, 1) := by decide +kernel
theorem d_L_law_135 : decode code 135 = .ok (.iload 4, 2) := by decide +kernel
theorem d_L_law_137 : decode code 137 = .ok (.iconst 2, 1) := by decide +kernel
theorem d_L_law_138 : decode code 138 = .ok (.iadd, 1) := by decide +kernel
theorem d_L_law_139 : decode code 139 = .ok (.iaload, 1) := by decide +kernel
theorem d_L_law_140 : decode code 140 = .ok (.i2l, 1) := by decide +kernel
theorem d_L_law_141 : decode code 141 = .ok (.bipush 32, 2) := by decide +kernel
theorem d_L_law_143 : decode code 143 = .ok (.lshl, 1) := by decide +kernel
theorem d_L_law_144 : decode code 144 = .ok (.aload_n 0, 1) := by decide +kernel
theorem d_L_law_145 : decode code 145 = .ok (.iload 4, 2) := by decide +kernel
theorem d_L_law_147 : decode code 147 = .ok (.iconst 3, 1) := by decide +kernel
theorem d_L_law_148 : decode code 148 = .ok (.iadd, 1) := by decide +kernel
theorem d_L_law_149 : decode code 149 = .ok (.iaload, 1) := by decide +kernel
theorem d_L_law_150 : decode code 150 = .ok (.i2l, 1) := by decide +kernel
theorem d_L_law_151 : decode code 151 = .ok (.ldc2_w 52, 3) := by decide +kernel
theorem d_L_law_154 : decode code 154 = .ok (.land, 1) := by decide +kernel
theorem d_L_law_155 : decode code 155 = .ok (.lor, 1) := by decide +kernel
theorem d_L_law_156 : decode code 156 = .ok (.invokevirtual 59, 3) := by decide +kernel
theorem d_L_law_159 : decode code 159 = .ok (.istore 6, 2) := by decide +kernel
theorem d_L_law_161 : decode code 161 = .ok (.aload_n 2, 1) := by decide +kernel
theorem d_L_law_162 : decode code 162 = .ok (.invokevirtual 60, 3) := by decide +kernel
theorem d_L_law_165 : decode code 165 = .ok (.iload 5, 2) := by decide +kernel
theorem d_L_law_167 : decode code 167 = .ok (.if_icmp .eq 5, 3) := by decide +kernel
theorem d_L_law_170 : decode code 170 = .ok (.iconst 0, 1) := by decide +kernel
theorem d_L_law_171 : decode code 171 = .ok (.ireturn, 1) := by decide +kernel
theorem d_L_law_172 : decode code 172 = .ok (.iload 5, 2) := by decide +kernel
theorem d_L_law_174 : decode code 174 = .ok (.ifCond .ne 15, 3) := by decide +kernel
theorem d_L_law_177 : decode code 177 = .ok (.aload_n 3, 1) := by decide +kernel
theorem d_L_law_178 : decode code 178 = .ok (.iconst 0, 1) := by decide +kernel
theorem d_L_law_179 : decode code 179 = .ok (.laload, 1) := by decide +kernel
theorem d_L_law_180 : decode code 180 = .ok (.iload 6, 2) := by decide +kernel
theorem d_L_law_182 : decode code 182 = .ok (.i2l, 1) := by decide +kernel
theorem d_L_law_183 : decode code 183 = .ok (.lcmp, 1) := by decide +kernel
theorem d_L_law_184 : decode code 184 = .ok (.ifCond .eq 5, 3) := by decide +kernel
theorem d_L_law_187 : decode code 187 = .ok (.iconst 0, 1) := by decide +kernel
theorem d_L_law_188 : decode code 188 = .ok (.ireturn, 1) := by decide +kernel
theorem d_L_law_189 : decode code 189 = .ok (.goto 556, 3) := by decide +kernel
theorem d_L_law_192 : decode code 192 = .ok (.aload_n 1, 1) := by decide +kernel
theorem d_L_law_193 : decode code 193 = .ok (.invokevirtual 64, 3) := by decide +kernel
theorem d_L_law_196 : decode code 196 = .ok (.aload_n 2, 1) := by decide +kernel
theorem d_L_law_197 : decode code 197 = .ok (.invokevirtual 67, 3) := by decide +kernel
theorem d_L_law_200 : decode code 200 = .ok (.if_icmp .eq 545, 3) := by decide +kernel
theorem d_L_law_203 : decode code 203 = .ok (.iconst 0, 1) := by decide +kernel
theorem d_L_law_204 : decode code 204 = .ok (.ireturn, 1) := by decide +kernel
theorem d_L_law_205 : decode code 205 = .ok (.aload_n 1, 1) := by decide +kernel
theorem d_L_law_206 : decode code 206 = .ok (.aload_n 0, 1) := by decide +kernel
theorem d_L_law_207 : decode code 207 = .ok (.iload 4, 2) := by decide +kernel
theorem d_L_law_209 : decode code 209 = .ok (.iconst 1, 1) := by decide +kernel
theorem d_L_law_210 : decode code 210 = .ok (.iadd, 1) := by decide +kernel
theorem d_L_law_211 : decode code 211 = .ok (.iaload, 1) := by decide +kernel
theorem d_L_law_212 : decode code 212 = .ok (.aload_n 0, 1) := by decide +kernel
theorem d_L_law_213 : decode code 213 = .ok (.iload 4, 2) := by decide +kernel
theorem d_L_law_215 : decode code 215 = .ok (.iconst 2, 1) := by decide +kernel
theorem d_L_law_216 : decode code 216 = .ok (.iadd, 1) := by decide +kernel
theorem d_L_law_217 : decode code 217 = .ok (.iaload, 1) := by decide +kernel
theorem d_L_law_218 : decode code 218 = .ok (.invokestatic 68, 3) := by decide +kernel
theorem d_L_law_221 : decode code 221 = .ok (.istore 5, 2) := by decide +kernel
theorem d_L_law_223 : decode code 223 = .ok (.aload_n 2, 1) := by decide +kernel
theorem d_L_law_224 : decode code 224 = .ok (.aload_n 0, 1) := by decide +kernel
theorem d_L_law_225 : decode code 225 = .ok (.iload 4, 2) := by decide +kernel
theorem d_L_law_227 : decode code 227 = .ok (.iconst 1, 1) := by decide +kernel
theorem d_L_law_228 : decode code 228 = .ok (.iadd, 1) := by decide +kernel
theorem d_L_law_229 : decode code 229 = .ok (.iaload, 1) := by decide +kernel
theorem d_L_law_230 : decode code 230 = .ok (.aload_n 0, 1) := by decide +kernel
theorem d_L_law_231 : decode code 231 = .ok (.iload 4, 2) := by decide +kernel
theorem d_L_law_233 : decode code 233 = .ok (.iconst 2, 1) := by decide +kernel
theorem d_L_law_234 : decode code 234 = .ok (.iadd, 1) := by decide +kernel
theorem d_L_law_235 : decode code 235 = .ok (.iaload, 1) := by decide +kernel
theorem d_L_law_236 : decode code 236 = .ok (.invokevirtual 71, 3) := by decide +kernel
theorem d_L_law_239 : decode code 239 = .ok (.aload_n 2, 1) := by decide +kernel
theorem d_L_law_240 : decode code 240 = .ok (.invokevirtual 60, 3) := by decide +kernel
theorem d_L_law_243 : decode code 243 = .ok (.iload 5, 2) := by decide +kernel
theorem d_L_law_245 : decode code 245 = .ok (.if_icmp .eq 5, 3) := by decide +kernel
theorem d_L_law_248 : decode code 248 = .ok (.iconst 0, 1) := by decide +kernel
theorem d_L_law_249 : decode code 249 = .ok (.ireturn, 1) := by decide +kernel
theorem d_L_law_250 : decode code 250 = .ok (.goto 495, 3) := by decide +kernel
theorem d_L_law_253 : decode code 253 = .ok (.aload_n 1, 1) := by decide +kernel
theorem d_L_law_254 : decode code 254 = .ok (.aload_n 0, 1) := by decide +kernel
theorem d_L_law_255 : decode code 255 = .ok (.iload 4, 2) := by decide +kernel
theorem d_L_law_257 : decode code 257 = .ok (.iconst 1, 1) := by decide +kernel
theorem d_L_law_258 : decode code 258 = .ok (.iadd, 1) := by decide +kernel
theorem d_L_law_259 : decode code 259 = .ok (.iaload, 1) := by decide +kernel
theorem d_L_law_260 : decode code 260 = .ok (.invokestatic 72, 3) := by decide +kernel
theorem d_L_law_263 : decode code 263 = .ok (.istore 5, 2) := by decide +kernel
theorem d_L_law_265 : decode code 265 = .ok (.aload_n 2, 1) := by decide +kernel
theorem d_L_law_266 : decode code 266 = .ok (.aload_n 0, 1) := by decide +kernel
theorem d_L_law_267 : decode code 267 = .ok (.iload 4, 2) := by decide +kernel
theorem d_L_law_269 : decode code 269 = .ok (.iconst 1, 1) := by decide +kernel
theorem d_L_law_270 : decode code 270 = .ok (.iadd, 1) := by decide +kernel
theorem d_L_law_271 : decode code 271 = .ok (.iaload, 1) := by decide +kernel
theorem d_L_law_272 : decode code 272 = .ok (.invokevirtual 75, 3) := by decide +kernel
theorem d_L_law_275 : decode code 275 = .ok (.aload_n 2, 1) := by decide +kernel
theorem d_L_law_276 : decode code 276 = .ok (.invokevirtual 60, 3) := by decide +kernel
theorem d_L_law_279 : decode code 279 = .ok (.iload 5, 2) := by decide +kernel
theorem d_L_law_281 : decode code 281 = .ok (.if_icmp .eq 5, 3) := by decide +kernel
theorem d_L_law_284 : decode code 284 = .ok (.iconst 0, 1) := by decide +kernel
theorem d_L_law_285 : decode code 285 = .ok (.ireturn, 1) := by decide +kernel
theorem d_L_law_286 : decode code 286 = .ok (.goto 459, 3) := by decide +kernel
theorem d_L_law_289 : decode code 289 = .ok (.aload_n 1, 1) := by decide +kernel
theorem d_L_law_290 : decode code 290 = .ok (.aload_n 0, 1) := by decide +kernel
theorem d_L_law_291 : decode code 291 = .ok (.iload 4, 2) := by decide +kernel
theorem d_L_law_293 : decode code 293 = .ok (.iconst 1, 1) := by decide +kernel
theorem d_L_law_294 : decode code 294 = .ok (.iadd, 1) := by decide +kernel
theorem d_L_law_295 : decode code 295 = .ok (.iaload, 1) := by decide +kernel
theorem d_L_law_296 : decode code 296 = .ok (.aload_n 0, 1) := by decide +kernel
theorem d_L_law_297 : decode code 297 = .ok (.iload 4, 2) := by decide +kernel
theorem d_L_law_299 : decode code 299 = .ok (.iconst 2, 1) := by decide +kernel
theorem d_L_law_300 : decode code 300 = .ok (.iadd, 1) := by decide +kernel
theorem d_L_law_301 : decode code 301 = .ok (.iaload, 1) := by decide +kernel
theorem d_L_law_302 : decode code 302 = .ok (.aload_n 3, 1) := by decide +kernel
theorem d_L_law_303 : decode code 303 = .ok (.invokestatic 76, 3) := by decide +kernel
theorem d_L_law_306 : decode code 306 = .ok (.istore 5, 2) := by decide +kernel
theorem d_L_law_308 : decode code 308 = .ok (.aload_n 2, 1) := by decide +kernel
theorem d_L_law_309 : decode code 309 = .ok (.aload_n 0, 1) := by decide +kernel
theorem d_L_law_310 : decode code 310 = .ok (.iload 4, 2) := by decide +kernel
theorem d_L_law_312 : decode code 312 = .ok (.iconst 1, 1) := by decide +kernel
theorem d_L_law_313 : decode code 313 = .ok (.iadd, 1) := by decide +kernel
theorem d_L_law_314 : decode code 314 = .ok (.iaload, 1) := by decide +kernel
theorem d_L_law_315 : decode code 315 = .ok (.aload_n 0, 1) := by decide +kernel
theorem d_L_law_316 : decode code 316 = .ok (.iload 4, 2) := by decide +kernel
theorem d_L_law_318 : decode code 318 = .ok (.iconst 2, 1) := by decide +kernel
theorem d_L_law_319 : decode code 319 = .ok (.iadd, 1) := by decide +kernel
theorem d_L_law_320 : decode code 320 = .ok (.iaload, 1) := by decide +kernel
theorem d_L_law_321 : decode code 321 = .ok (.invokevirtual 79, 3) := by decide +kernel
theorem d_L_law_324 : decode code 324 = .ok (.istore 6, 2) := by decide +kernel
theorem d_L_law_326 : decode code 326 = .ok (.aload_n 2, 1) := by decide +kernel
theorem d_L_law_327 : decode code 327 = .ok (.invokevirtual 60, 3) := by decide +kernel
theorem d_L_law_330 : decode code 330 = .ok (.iload 5, 2) := by decide +kernel
theorem d_L_law_332 : decode code 332 = .ok (.if_icmp .eq 5, 3) := by decide +kernel
theorem d_L_law_335 : decode code 335 = .ok (.iconst 0, 1) := by decide +kernel
theorem d_L_law_336 : decode code 336 = .ok (.ireturn, 1) := by decide +kernel
theorem d_L_law_337 : decode code 337 = .ok (.iload 5, 2) := by decide +kernel
theorem d_L_law_339 : decode code 339 = .ok (.ifCond .ne 15, 3) := by decide +kernel
theorem d_L_law_342 : decode code 342 = .ok (.aload_n 3, 1) := by decide +kernel
theorem d_L_law_343 : decode code 343 = .ok (.iconst 0, 1) := by decide +kernel
theorem d_L_law_344 : decode code 344 = .ok (.laload, 1) := by decide +kernel
theorem d_L_law_345 : decode code 345 = .ok (.iload 6, 2) := by decide +kernel
theorem d_L_law_347 : decode code 347 = .ok (.i2l, 1) := by decide +kernel
theorem d_L_law_348 : decode code 348 = .ok (.lcmp, 1) := by decide +kernel
theorem d_L_law_349 : decode code 349 = .ok (.ifCond .eq 5, 3) := by decide +kernel
theorem d_L_law_352 : decode code 352 = .ok (.iconst 0, 1) := by decide +kernel
theorem d_L_law_353 : decode code 353 = .ok (.ireturn, 1) := by decide +kernel
theorem d_L_law_354 : decode code 354 = .ok (.goto 391, 3) := by decide +kernel
theorem d_L_law_357 : decode code 357 = .ok (.aload_n 1, 1) := by decide +kernel
theorem d_L_law_358 : decode code 358 = .ok (.aload_n 0, 1) := by decide +kernel
theorem d_L_law_359 : decode code 359 = .ok (.iload 4, 2) := by decide +kernel
theorem d_L_law_361 : decode code 361 = .ok (.iconst 1, 1) := by decide +kernel
theorem d_L_law_362 : decode code 362 = .ok (.iadd, 1) := by decide +kernel
theorem d_L_law_363 : decode code 363 = .ok (.iaload, 1) := by decide +kernel
theorem d_L_law_364 : decode code 364 = .ok (.aload_n 0, 1) := by decide +kernel
theorem d_L_law_365 : decode code 365 = .ok (.iload 4, 2) := by decide +kernel
theorem d_L_law_367 : decode code 367 = .ok (.iconst 2, 1) := by decide +kernel
theorem d_L_law_368 : decode code 368 = .ok (.iadd, 1) := by decide +kernel
theorem d_L_law_369 : decode code 369 = .ok (.iaload, 1) := by decide +kernel
theorem d_L_law_370 : decode code 370 = .ok (.aload_n 0, 1) := by decide +kernel
theorem d_L_law_371 : decode code 371 = .ok (.iload 4, 2) := by decide +kernel
theorem d_L_law_373 : decode code 373 = .ok (.iconst 3, 1) := by decide +kernel
theorem d_L_law_374 : decode code 374 = .ok (.iadd, 1) := by decide +kernel
theorem d_L_law_375 : decode code 375 = .ok (.iaload, 1) := by decide +kernel
theorem d_L_law_376 : decode code 376 = .ok (.aload_n 3, 1) := by decide +kernel
theorem d_L_law_377 : decode code 377 = .ok (.invokestatic 80, 3) := by decide +kernel
theorem d_L_law_380 : decode code 380 = .ok (.istore 5, 2) := by decide +kernel
theorem d_L_law_382 : decode code 382 = .ok (.aload_n 2, 1) := by decide +kernel
theorem d_L_law_383 : decode code 383 = .ok (.aload_n 0, 1) := by decide +kernel
theorem d_L_law_384 : decode code 384 = .ok (.iload 4, 2) := by decide +kernel
theorem d_L_law_386 : decode code 386 = .ok (.iconst 1, 1) := by decide +kernel
theorem d_L_law_387 : decode code 387 = .ok (.iadd, 1) := by decide +kernel
theorem d_L_law_388 : decode code 388 = .ok (.iaload, 1) := by decide +kernel
theorem d_L_law_389 : decode code 389 = .ok (.aload_n 0, 1) := by decide +kernel
theorem d_L_law_390 : decode code 390 = .ok (.iload 4, 2) := by decide +kernel
theorem d_L_law_392 : decode code 392 = .ok (.iconst 2, 1) := by decide +kernel
theorem d_L_law_393 : decode code 393 = .ok (.iadd, 1) := by decide +kernel
theorem d_L_law_394 : decode code 394 = .ok (.iaload, 1) := by decide +kernel
theorem d_L_law_395 : decode code 395 = .ok (.aload_n 0, 1) := by decide +kernel
theorem d_L_law_396 : decode code 396 = .ok (.iload 4, 2) := by decide +kernel
theorem d_L_law_398 : decode code 398 = .ok (.iconst 3, 1) := by decide +kernel
theorem d_L_law_399 : decode code 399 = .ok (.iadd, 1) := by decide +kernel
theorem d_L_law_400 : decode code 400 = .ok (.iaload, 1) := by decide +kernel
theorem d_L_law_401 : decode code 401 = .ok (.invokevirtual 83, 3) := by decide +kernel
theorem d_L_law_404 : decode code 404 = .ok (.istore 6, 2) := by decide +kernel
theorem d_L_law_406 : decode code 406 = .ok (.aload_n 2, 1) := by decide +kernel
theorem d_L_law_407 : decode code 407 = .ok (.invokevirtual 60, 3) := by decide +kernel
theorem d_L_law_410 : decode code 410 = .ok (.iload 5, 2) := by decide +kernel
theorem d_L_law_412 : decode code 412 = .ok (.if_icmp .eq 5, 3) := by decide +kernel
theorem d_L_law_415 : decode code 415 = .ok (.iconst 0, 1) := by decide +kernel
theorem d_L_law_416 : decode code 416 = .ok (.ireturn, 1) := by decide +kernel
theorem d_L_law_417 : decode code 417 = .ok (.iload 5, 2) := by decide +kernel
theorem d_L_law_419 : decode code 419 = .ok (.ifCond .ne 15, 3) := by decide +kernel
theorem d_L_law_422 : decode code 422 = .ok (.aload_n 3, 1) := by decide +kernel
theorem d_L_law_423 : decode code 423 = .ok (.iconst 0, 1) := by decide +kernel
theorem d_L_law_424 : decode code 424 = .ok (.laload, 1) := by decide +kernel
theorem d_L_law_425 : decode code 425 = .ok (.iload 6, 2) := by decide +kernel
theorem d_L_law_427 : decode code 427 = .ok (.i2l, 1) := by decide +kernel
theorem d_L_law_428 : decode code 428 = .ok (.lcmp, 1) := by decide +kernel
theorem d_L_law_429 : decode code 429 = .ok (.ifCond .eq 5, 3) := by decide +kernel
theorem d_L_law_432 : decode code 432 = .ok (.iconst 0, 1) := by decide +kernel
theorem d_L_law_433 : decode code 433 = .ok (.ireturn, 1) := by decide +kernel
theorem d_L_law_434 : decode code 434 = .ok (.goto 311, 3) := by decide +kernel
theorem d_L_law_437 : decode code 437 = .ok (.aload_n 1, 1) := by decide +kernel
theorem d_L_law_438 : decode code 438 = .ok (.aload_n 0, 1) := by decide +kernel
theorem d_L_law_439 : decode code 439 = .ok (.iload 4, 2) := by decide +kernel
theorem d_L_law_441 : decode code 441 = .ok (.iconst 1, 1) := by decide +kernel
theorem d_L_law_442 : decode code 442 = .ok (.iadd, 1) := by decide +kernel
theorem d_L_law_443 : decode code 443 = .ok (.iaload, 1) := by decide +kernel
theorem d_L_law_444 : decode code 444 = .ok (.aload_n 0, 1) := by decide +kernel
theorem d_L_law_445 : decode code 445 = .ok (.iload 4, 2) := by decide +kernel
theorem d_L_law_447 : decode code 447 = .ok (.iconst 2, 1) := by decide +kernel
theorem d_L_law_448 : decode code 448 = .ok (.iadd, 1) := by decide +kernel
theorem d_L_law_449 : decode code 449 = .ok (.iaload, 1) := by decide +kernel
theorem d_L_law_450 : decode code 450 = .ok (.aload_n 0, 1) := by decide +kernel
theorem d_L_law_451 : decode code 451 = .ok (.iload 4, 2) := by decide +kernel
theorem d_L_law_453 : decode code 453 = .ok (.iconst 3, 1) := by decide +kernel
theorem d_L_law_454 : decode code 454 = .ok (.iadd, 1) := by decide +kernel
theorem d_L_law_455 : decode code 455 = .ok (.iaload, 1) := by decide +kernel
theorem d_L_law_456 : decode code 456 = .ok (.aload_n 3, 1) := by decide +kernel
theorem d_L_law_457 : decode code 457 = .ok (.invokestatic 84, 3) := by decide +kernel
theorem d_L_law_460 : decode code 460 = .ok (.istore 5, 2) := by decide +kernel
theorem d_L_law_462 : decode code 462 = .ok (.aload_n 2, 1) := by decide +kernel
theorem d_L_law_463 : decode code 463 = .ok (.aload_n 0, 1) := by decide +kernel
theorem d_L_law_464 : decode code 464 = .ok (.iload 4, 2) := by decide +kernel
theorem d_L_law_466 : decode code 466 = .ok (.iconst 1, 1) := by decide +kernel
theorem d_L_law_467 : decode code 467 = .ok (.iadd, 1) := by decide +kernel
theorem d_L_law_468 : decode code 468 = .ok (.iaload, 1) := by decide +kernel
theorem d_L_law_469 : decode code 469 = .ok (.aload_n 0, 1) := by decide +kernel
theorem d_L_law_470 : decode code 470 = .ok (.iload 4, 2) := by decide +kernel
theorem d_L_law_472 : decode code 472 = .ok (.iconst 2, 1) := by decide +kernel
theorem d_L_law_473 : decode code 473 = .ok (.iadd, 1) := by decide +kernel
theorem d_L_law_474 : decode code 474 = .ok (.iaload, 1) := by decide +kernel
theorem d_L_law_475 : decode code 475 = .ok (.aload_n 0, 1) := by decide +kernel
theorem d_L_law_476 : decode code 476 = .ok (.iload 4, 2) := by decide +kernel
theorem d_L_law_478 : decode code 478 = .ok (.iconst 3, 1) := by decide +kernel
theorem d_L_law_479 : decode code 479 = .ok (.iadd, 1) := by decide +kernel
theorem d_L_law_480 : decode code 480 = .ok (.iaload, 1) := by decide +kernel
theorem d_L_law_481 : decode code 481 = .ok (.invokevirtual 86, 3) := by decide +kernel
theorem d_L_law_484 : decode code 484 = .ok (.istore 6, 2) := by decide +kernel
theorem d_L_law_486 : decode code 486 = .ok (.aload_n 2, 1) := by decide +kernel
theorem d_L_law_487 : decode code 487 = .ok (.invokevirtual 60, 3) := by decide +kernel
theorem d_L_law_490 : decode code 490 = .ok (.iload 5, 2) := by decide +kernel
theorem d_L_law_492 : decode code 492 = .ok (.if_icmp .eq 5, 3) := by decide +kernel
theorem d_L_law_495 : decode code 495 = .ok (.iconst 0, 1) := by decide +kernel
theorem d_L_law_496 : decode code 496 = .ok (.ireturn, 1) := by decide +kernel
theorem d_L_law_497 : decode code 497 = .ok (.iload 5, 2) := by decide +kernel
theorem d_L_law_499 : decode code 499 = .ok (.ifCond .ne 15, 3) := by decide +kernel
theorem d_L_law_502 : decode code 502 = .ok (.aload_n 3, 1) := by decide +kernel
theorem d_L_law_503 : decode code 503 = .ok (.iconst 0, 1) := by decide +kernel
theorem d_L_law_504 : decode code 504 = .ok (.laload, 1) := by decide +kernel
theorem d_L_law_505 : decode code 505 = .ok (.iload 6, 2) := by decide +kernel
theorem d_L_law_507 : decode code 507 = .ok (.i2l, 1) := by decide +kernel
theorem d_L_law_508 : decode code 508 = .ok (.lcmp, 1) := by decide +kernel
theorem d_L_law_509 : decode code 509 = .ok (.ifCond .eq 5, 3) := by decide +kernel
theorem d_L_law_512 : decode code 512 = .ok (.iconst 0, 1) := by decide +kernel
theorem d_L_law_513 : decode code 513 = .ok (.ireturn, 1) := by decide +kernel
theorem d_L_law_514 : decode code 514 = .ok (.goto 231, 3) := by decide +kernel
theorem d_L_law_517 : decode code 517 = .ok (.aload_n 1, 1) := by decide +kernel
theorem d_L_law_518 : decode code 518 = .ok (.aload_n 0, 1) := by decide +kernel
theorem d_L_law_519 : decode code 519 = .ok (.iload 4, 2) := by decide +kernel
theorem d_L_law_521 : decode code 521 = .ok (.iconst 1, 1) := by decide +kernel
theorem d_L_law_522 : decode code 522 = .ok (.iadd, 1) := by decide +kernel
theorem d_L_law_523 : decode code 523 = .ok (.iaload, 1) := by decide +kernel
theorem d_L_law_524 : decode code 524 = .ok (.aload_n 0, 1) := by decide +kernel
theorem d_L_law_525 : decode code 525 = .ok (.iload 4, 2) := by decide +kernel
theorem d_L_law_527 : decode code 527 = .ok (.iconst 2, 1) := by decide +kernel
theorem d_L_law_528 : decode code 528 = .ok (.iadd, 1) := by decide +kernel
theorem d_L_law_529 : decode code 529 = .ok (.iaload, 1) := by decide +kernel
theorem d_L_law_530 : decode code 530 = .ok (.aload_n 0, 1) := by decide +kernel
theorem d_L_law_531 : decode code 531 = .ok (.iload 4, 2) := by decide +kernel
theorem d_L_law_533 : decode code 533 = .ok (.iconst 3, 1) := by decide +kernel
theorem d_L_law_534 : decode code 534 = .ok (.iadd, 1) := by decide +kernel
theorem d_L_law_535 : decode code 535 = .ok (.iaload, 1) := by decide +kernel
theorem d_L_law_536 : decode code 536 = .ok (.aload_n 0, 1) := by decide +kernel
theorem d_L_law_537 : decode code 537 = .ok (.iload 4, 2) := by decide +kernel
theorem d_L_law_539 : decode code 539 = .ok (.iconst 4, 1) := by decide +kernel
theorem d_L_law_540 : decode code 540 = .ok (.iadd, 1) := by decide +kernel
theorem d_L_law_541 : decode code 541 = .ok (.iaload, 1) := by decide +kernel
theorem d_L_law_542 : decode code 542 = .ok (.aload_n 3, 1) := by decide +kernel
theorem d_L_law_543 : decode code 543 = .ok (.invokestatic 87, 3) := by decide +kernel
theorem d_L_law_546 : decode code 546 = .ok (.istore 5, 2) := by decide +kernel
theorem d_L_law_548 : decode code 548 = .ok (.aload_n 2, 1) := by decide +kernel
theorem d_L_law_549 : decode code 549 = .ok (.aload_n 0, 1) := by decide +kernel
theorem d_L_law_550 : decode code 550 = .ok (.iload 4, 2) := by decide +kernel
theorem d_L_law_552 : decode code 552 = .ok (.iconst 1, 1) := by decide +kernel
theorem d_L_law_553 : decode code 553 = .ok (.iadd, 1) := by decide +kernel
theorem d_L_law_554 : decode code 554 = .ok (.iaload, 1) := by decide +kernel
theorem d_L_law_555 : decode code 555 = .ok (.aload_n 0, 1) := by decide +kernel
theorem d_L_law_556 : decode code 556 = .ok (.iload 4, 2) := by decide +kernel
theorem d_L_law_558 : decode code 558 = .ok (.iconst 2, 1) := by decide +kernel
theorem d_L_law_559 : decode code 559 = .ok (.iadd, 1) := by decide +kernel
theorem d_L_law_560 : decode code 560 = .ok (.iaload, 1) := by decide +kernel
theorem d_L_law_561 : decode code 561 = .ok (.aload_n 0, 1) := by decide +kernel
theorem d_L_law_562 : decode code 562 = .ok (.iload 4, 2) := by decide +kernel
theorem d_L_law_564 : decode code 564 = .ok (.iconst 3, 1) := by decide +kernel
theorem d_L_law_565 : decode code 565 = .ok (.iadd, 1) := by decide +kernel
theorem d_L_law_566 : decode code 566 = .ok (.iaload, 1) := by decide +kernel
theorem d_L_law_567 : decode code 567 = .ok (.aload_n 0, 1) := by decide +kernel
theorem d_L_law_568 : decode code 568 = .ok (.iload 4, 2) := by decide +kernel
theorem d_L_law_570 : decode code 570 = .ok (.iconst 4, 1) := by decide +kernel
theorem d_L_law_571 : decode code 571 = .ok (.iadd, 1) := by decide +kernel
theorem d_L_law_572 : decode code 572 = .ok (.iaload, 1) := by decide +kernel
theorem d_L_law_573 : decode code 573 = .ok (.invokevirtual 90, 3) := by decide +kernel
theorem d_L_law_576 : decode code 576 = .ok (.istore 6, 2) := by decide +kernel
theorem d_L_law_578 : decode code 578 = .ok (.aload_n 2, 1) := by decide +kernel
theorem d_L_law_579 : decode code 579 = .ok (.invokevirtual 60, 3) := by decide +kernel
theorem d_L_law_582 : decode code 582 = .ok (.iload 5, 2) := by decide +kernel
theorem d_L_law_584 : decode code 584 = .ok (.if_icmp .eq 5, 3) := by decide +kernel
theorem d_L_law_587 : decode code 587 = .ok (.iconst 0, 1) := by decide +kernel
theorem d_L_law_588 : decode code 588 = .ok (.ireturn, 1) := by decide +kernel
theorem d_L_law_589 : decode code 589 = .ok (.iload 5, 2) := by decide +kernel
theorem d_L_law_591 : decode code 591 = .ok (.ifCond .ne 15, 3) := by decide +kernel
theorem d_L_law_594 : decode code 594 = .ok (.aload_n 3, 1) := by decide +kernel
theorem d_L_law_595 : decode code 595 = .ok (.iconst 0, 1) := by decide +kernel
theorem d_L_law_596 : decode code 596 = .ok (.laload, 1) := by decide +kernel
theorem d_L_law_597 : decode code 597 = .ok (.iload 6, 2) := by decide +kernel
theorem d_L_law_599 : decode code 599 = .ok (.i2l, 1) := by decide +kernel
theorem d_L_law_600 : decode code 600 = .ok (.lcmp, 1) := by decide +kernel
theorem d_L_law_601 : decode code 601 = .ok (.ifCond .eq 5, 3) := by decide +kernel
theorem d_L_law_604 : decode code 604 = .ok (.iconst 0, 1) := by decide +kernel
theorem d_L_law_605 : decode code 605 = .ok (.ireturn, 1) := by decide +kernel
theorem d_L_law_606 : decode code 606 = .ok (.goto 139, 3) := by decide +kernel
theorem d_L_law_609 : decode code 609 = .ok (.aload_n 1, 1) := by decide +kernel
theorem d_L_law_610 : decode code 610 = .ok (.aload_n 0, 1) := by decide +kernel
theorem d_L_law_611 : decode code 611 = .ok (.iload 4, 2) := by decide +kernel
theorem d_L_law_613 : decode code 613 = .ok (.iconst 1, 1) := by decide +kernel
theorem d_L_law_614 : decode code 614 = .ok (.iadd, 1) := by decide +kernel
theorem d_L_law_615 : decode code 615 = .ok (.iaload, 1) := by decide +kernel
theorem d_L_law_616 : decode code 616 = .ok (.aload_n 0, 1) := by decide +kernel
theorem d_L_law_617 : decode code 617 = .ok (.iload 4, 2) := by decide +kernel
theorem d_L_law_619 : decode code 619 = .ok (.iconst 2, 1) := by decide +kernel
theorem d_L_law_620 : decode code 620 = .ok (.iadd, 1) := by decide +kernel
theorem d_L_law_621 : decode code 621 = .ok (.iaload, 1) := by decide +kernel
theorem d_L_law_622 : decode code 622 = .ok (.aload_n 3, 1) := by decide +kernel
theorem d_L_law_623 : decode code 623 = .ok (.invokestatic 91, 3) := by decide +kernel
theorem d_L_law_626 : decode code 626 = .ok (.istore 5, 2) := by decide +kernel
theorem d_L_law_628 : decode code 628 = .ok (.aload_n 2, 1) := by decide +kernel
theorem d_L_law_629 : decode code 629 = .ok (.aload_n 0, 1) := by decide +kernel
theorem d_L_law_630 : decode code 630 = .ok (.iload 4, 2) := by decide +kernel
theorem d_L_law_632 : decode code 632 = .ok (.iconst 1, 1) := by decide +kernel
theorem d_L_law_633 : decode code 633 = .ok (.iadd, 1) := by decide +kernel
theorem d_L_law_634 : decode code 634 = .ok (.iaload, 1) := by decide +kernel
theorem d_L_law_635 : decode code 635 = .ok (.aload_n 0, 1) := by decide +kernel
theorem d_L_law_636 : decode code 636 = .ok (.iload 4, 2) := by decide +kernel
theorem d_L_law_638 : decode code 638 = .ok (.iconst 2, 1) := by decide +kernel
theorem d_L_law_639 : decode code 639 = .ok (.iadd, 1) := by decide +kernel
theorem d_L_law_640 : decode code 640 = .ok (.iaload, 1) := by decide +kernel
theorem d_L_law_641 : decode code 641 = .ok (.invokevirtual 93, 3) := by decide +kernel
theorem d_L_law_644 : decode code 644 = .ok (.istore 6, 2) := by decide +kernel
theorem d_L_law_646 : decode code 646 = .ok (.aload_n 2, 1) := by decide +kernel
theorem d_L_law_647 : decode code 647 = .ok (.invokevirtual 60, 3) := by decide +kernel
theorem d_L_law_650 : decode code 650 = .ok (.iload 5, 2) := by decide +kernel
theorem d_L_law_652 : decode code 652 = .ok (.if_icmp .eq 5, 3) := by decide +kernel
theorem d_L_law_655 : decode code 655 = .ok (.iconst 0, 1) := by decide +kernel
theorem d_L_law_656 : decode code 656 = .ok (.ireturn, 1) := by decide +kernel
theorem d_L_law_657 : decode code 657 = .ok (.iload 5, 2) := by decide +kernel
theorem d_L_law_659 : decode code 659 = .ok (.ifCond .ne 15, 3) := by decide +kernel
theorem d_L_law_662 : decode code 662 = .ok (.aload_n 3, 1) := by decide +kernel
theorem d_L_law_663 : decode code 663 = .ok (.iconst 0, 1) := by decide +kernel
theorem d_L_law_664 : decode code 664 = .ok (.laload, 1) := by decide +kernel
theorem d_L_law_665 : decode code 665 = .ok (.iload 6, 2) := by decide +kernel
theorem d_L_law_667 : decode code 667 = .ok (.i2l, 1) := by decide +kernel
theorem d_L_law_668 : decode code 668 = .ok (.lcmp, 1) := by decide +kernel
theorem d_L_law_669 : decode code 669 = .ok (.ifCond .eq 5, 3) := by decide +kernel
theorem d_L_law_672 : decode code 672 = .ok (.iconst 0, 1) := by decide +kernel
theorem d_L_law_673 : decode code 673 = .ok (.ireturn, 1) := by decide +kernel
theorem d_L_law_674 : decode code 674 = .ok (.goto 71, 3) := by decide +kernel
theorem d_L_law_677 : decode code 677 = .ok (.aload_n 1, 1) := by decide +kernel
theorem d_L_law_678 : decode code 678 = .ok (.aload_n 0, 1) := by decide +kernel
theorem d_L_law_679 : decode code 679 = .ok (.iload 4, 2) := by decide +kernel
theorem d_L_law_681 : decode code 681 = .ok (.iconst 1, 1) := by decide +kernel
theorem d_L_law_682 : decode code 682 = .ok (.iadd, 1) := by decide +kernel
theorem d_L_law_683 : decode code 683 = .ok (.iaload, 1) := by decide +kernel
theorem d_L_law_684 : decode code 684 = .ok (.aload_n 0, 1) := by decide +kernel
theorem d_L_law_685 : decode code 685 = .ok (.iload 4, 2) := by decide +kernel
theorem d_L_law_687 : decode code 687 = .ok (.iconst 2, 1) := by decide +kernel
theorem d_L_law_688 : decode code 688 = .ok (.iadd, 1) := by decide +kernel
theorem d_L_law_689 : decode code 689 = .ok (.iaload, 1) := by decide +kernel
theorem d_L_law_690 : decode code 690 = .ok (.aload_n 3, 1) := by decide +kernel
theorem d_L_law_691 : decode code 691 = .ok (.invokestatic 94, 3) := by decide +kernel
theorem d_L_law_694 : decode code 694 = .ok (.istore 5, 2) := by decide +kernel
theorem d_L_law_696 : decode code 696 = .ok (.aload_n 2, 1) := by decide +kernel
theorem d_L_law_697 : decode code 697 = .ok (.aload_n 0, 1) := by decide +kernel
theorem d_L_law_698 : decode code 698 = .ok (.iload 4, 2) := by decide +kernel
theorem d_L_law_700 : decode code 700 = .ok (.iconst 1, 1) := by decide +kernel
theorem d_L_law_701 : decode code 701 = .ok (.iadd, 1) := by decide +kernel
theorem d_L_law_702 : decode code 702 = .ok (.iaload, 1) := by decide +kernel
theorem d_L_law_703 : decode code 703 = .ok (.aload_n 0, 1) := by decide +kernel
theorem d_L_law_704 : decode code 704 = .ok (.iload 4, 2) := by decide +kernel
theorem d_L_law_706 : decode code 706 = .ok (.iconst 2, 1) := by decide +kernel
theorem d_L_law_707 : decode code 707 = .ok (.iadd, 1) := by decide +kernel
theorem d_L_law_708 : decode code 708 = .ok (.iaload, 1) := by decide +kernel
theorem d_L_law_709 : decode code 709 = .ok (.invokevirtual 96, 3) := by decide +kernel
theorem d_L_law_712 : decode code 712 = .ok (.istore 6, 2) := by decide +kernel
theorem d_L_law_714 : decode code 714 = .ok (.aload_n 2, 1) := by decide +kernel
theorem d_L_law_715 : decode code 715 = .ok (.invokevirtual 60, 3) := by decide +kernel
theorem d_L_law_718 : decode code 718 = .ok (.iload 5, 2) := by decide +kernel
theorem d_L_law_720 : decode code 720 = .ok (.if_icmp .eq 5, 3) := by decide +kernel
theorem d_L_law_723 : decode code 723 = .ok (.iconst 0, 1) := by decide +kernel
theorem d_L_law_724 : decode code 724 = .ok (.ireturn, 1) := by decide +kernel
theorem d_L_law_725 : decode code 725 = .ok (.iload 5, 2) := by decide +kernel
theorem d_L_law_727 : decode code 727 = .ok (.ifCond .ne 15, 3) := by decide +kernel
theorem d_L_law_730 : decode code 730 = .ok (.aload_n 3, 1) := by decide +kernel
theorem d_L_law_731 : decode code 731 = .ok (.iconst 0, 1) := by decide +kernel
theorem d_L_law_732 : decode code 732 = .ok (.laload, 1) := by decide +kernel
theorem d_L_law_733 : decode code 733 = .ok (.iload 6, 2) := by decide +kernel
theorem d_L_law_735 : decode code 735 = .ok (.i2l, 1) := by decide +kernel
theorem d_L_law_736 : decode code 736 = .ok (.lcmp, 1) := by decide +kernel
theorem d_L_law_737 : decode code 737 = .ok (.ifCond .eq 5, 3) := by decide +kernel
theorem d_L_law_740 : decode code 740 = .ok (.iconst 0, 1) := by decide +kernel
theorem d_L_law_741 : decode code 741 = .ok (.ireturn, 1) := by decide +kernel
theorem d_L_law_742 : decode code 742 = .ok (.goto 3, 3) := by decide +kernel
theorem d_L_law_745 : decode code 745 = .ok (.iinc 4 5, 3) := by decide +kernel
theorem d_L_law_748 : decode code 748 = .ok (.goto (-725), 3) := by decide +kernel
theorem d_L_law_751 : decode code 751 = .ok (.iconst 1, 1) := by decide +kernel
theorem d_L_law_752 : decode code 752 = .ok (.ireturn, 1) := by decide +kernel
