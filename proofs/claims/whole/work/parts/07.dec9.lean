theorem dX9_init_0 : decode cX9_init 0 = .ok (.aload_n 0, 1) := by decide +kernel
theorem dX9_init_1 : decode cX9_init 1 = .ok (.invokespecial 1, 3) := by decide +kernel
theorem dX9_init_4 : decode cX9_init 4 = .ok (.aload_n 0, 1) := by decide +kernel
theorem dX9_init_5 : decode cX9_init 5 = .ok (.sipush 8208, 3) := by decide +kernel
theorem dX9_init_8 : decode cX9_init 8 = .ok (.newarray .byte, 2) := by decide +kernel
theorem dX9_init_10 : decode cX9_init 10 = .ok (.putfield 7, 3) := by decide +kernel
theorem dX9_init_13 : decode cX9_init 13 = .ok (.aload_n 0, 1) := by decide +kernel
theorem dX9_init_14 : decode cX9_init 14 = .ok (.iconst (-1), 1) := by decide +kernel
theorem dX9_init_15 : decode cX9_init 15 = .ok (.putfield 13, 3) := by decide +kernel
theorem dX9_init_18 : decode cX9_init 18 = .ok (.aload_n 0, 1) := by decide +kernel
theorem dX9_init_19 : decode cX9_init 19 = .ok (.iconst (-1), 1) := by decide +kernel
theorem dX9_init_20 : decode cX9_init 20 = .ok (.putfield 17, 3) := by decide +kernel
theorem dX9_init_23 : decode cX9_init 23 = .ok (.aload_n 0, 1) := by decide +kernel
theorem dX9_init_24 : decode cX9_init 24 = .ok (.bipush 16, 2) := by decide +kernel
theorem dX9_init_26 : decode cX9_init 26 = .ok (.newarray .long, 2) := by decide +kernel
theorem dX9_init_28 : decode cX9_init 28 = .ok (.putfield 20, 3) := by decide +kernel
theorem dX9_init_31 : decode cX9_init 31 = .ok (.aload_n 0, 1) := by decide +kernel
theorem dX9_init_32 : decode cX9_init 32 = .ok (.bipush 16, 2) := by decide +kernel
theorem dX9_init_34 : decode cX9_init 34 = .ok (.newarray .int, 2) := by decide +kernel
theorem dX9_init_36 : decode cX9_init 36 = .ok (.putfield 24, 3) := by decide +kernel
theorem dX9_init_39 : decode cX9_init 39 = .ok (.aload_n 0, 1) := by decide +kernel
theorem dX9_init_40 : decode cX9_init 40 = .ok (.bipush 16, 2) := by decide +kernel
theorem dX9_init_42 : decode cX9_init 42 = .ok (.newarray .int, 2) := by decide +kernel
theorem dX9_init_44 : decode cX9_init 44 = .ok (.putfield 28, 3) := by decide +kernel
theorem dX9_init_47 : decode cX9_init 47 = .ok (.aload_n 0, 1) := by decide +kernel
theorem dX9_init_48 : decode cX9_init 48 = .ok (.bipush 8, 2) := by decide +kernel
theorem dX9_init_50 : decode cX9_init 50 = .ok (.newarray .int, 2) := by decide +kernel
theorem dX9_init_52 : decode cX9_init 52 = .ok (.putfield 31, 3) := by decide +kernel
theorem dX9_init_55 : decode cX9_init 55 = .ok (.aload_n 0, 1) := by decide +kernel
theorem dX9_init_56 : decode cX9_init 56 = .ok (.bipush 8, 2) := by decide +kernel
theorem dX9_init_58 : decode cX9_init 58 = .ok (.newarray .int, 2) := by decide +kernel
theorem dX9_init_60 : decode cX9_init 60 = .ok (.putfield 34, 3) := by decide +kernel
theorem dX9_init_63 : decode cX9_init 63 = .ok (.aload_n 0, 1) := by decide +kernel
theorem dX9_init_64 : decode cX9_init 64 = .ok (.bipush 8, 2) := by decide +kernel
theorem dX9_init_66 : decode cX9_init 66 = .ok (.newarray .int, 2) := by decide +kernel
theorem dX9_init_68 : decode cX9_init 68 = .ok (.putfield 37, 3) := by decide +kernel
theorem dX9_init_71 : decode cX9_init 71 = .ok (.aload_n 0, 1) := by decide +kernel
theorem dX9_init_72 : decode cX9_init 72 = .ok (.bipush 8, 2) := by decide +kernel
theorem dX9_init_74 : decode cX9_init 74 = .ok (.newarray .int, 2) := by decide +kernel
theorem dX9_init_76 : decode cX9_init 76 = .ok (.putfield 40, 3) := by decide +kernel
theorem dX9_init_79 : decode cX9_init 79 = .ok (.aload_n 0, 1) := by decide +kernel
theorem dX9_init_80 : decode cX9_init 80 = .ok (.bipush 8, 2) := by decide +kernel
theorem dX9_init_82 : decode cX9_init 82 = .ok (.newarray .int, 2) := by decide +kernel
theorem dX9_init_84 : decode cX9_init 84 = .ok (.putfield 43, 3) := by decide +kernel
theorem dX9_init_87 : decode cX9_init 87 = .ok (.aload_n 0, 1) := by decide +kernel
theorem dX9_init_88 : decode cX9_init 88 = .ok (.bipush 8, 2) := by decide +kernel
theorem dX9_init_90 : decode cX9_init 90 = .ok (.newarray .boolean, 2) := by decide +kernel
theorem dX9_init_92 : decode cX9_init 92 = .ok (.putfield 46, 3) := by decide +kernel
theorem dX9_init_95 : decode cX9_init 95 = .ok (.aload_n 0, 1) := by decide +kernel
theorem dX9_init_96 : decode cX9_init 96 = .ok (.bipush 8, 2) := by decide +kernel
theorem dX9_init_98 : decode cX9_init 98 = .ok (.newarray .int, 2) := by decide +kernel
theorem dX9_init_100 : decode cX9_init 100 = .ok (.putfield 50, 3) := by decide +kernel
theorem dX9_init_103 : decode cX9_init 103 = .ok (.aload_n 0, 1) := by decide +kernel
theorem dX9_init_104 : decode cX9_init 104 = .ok (.bipush 8, 2) := by decide +kernel
theorem dX9_init_106 : decode cX9_init 106 = .ok (.newarray .int, 2) := by decide +kernel
theorem dX9_init_108 : decode cX9_init 108 = .ok (.putfield 53, 3) := by decide +kernel
theorem dX9_init_111 : decode cX9_init 111 = .ok (.aload_n 0, 1) := by decide +kernel
theorem dX9_init_112 : decode cX9_init 112 = .ok (.bipush 8, 2) := by decide +kernel
theorem dX9_init_114 : decode cX9_init 114 = .ok (.newarray .int, 2) := by decide +kernel
theorem dX9_init_116 : decode cX9_init 116 = .ok (.putfield 56, 3) := by decide +kernel
theorem dX9_init_119 : decode cX9_init 119 = .ok (.aload_n 0, 1) := by decide +kernel
theorem dX9_init_120 : decode cX9_init 120 = .ok (.bipush 8, 2) := by decide +kernel
theorem dX9_init_122 : decode cX9_init 122 = .ok (.newarray .int, 2) := by decide +kernel
theorem dX9_init_124 : decode cX9_init 124 = .ok (.putfield 59, 3) := by decide +kernel
theorem dX9_init_127 : decode cX9_init 127 = .ok (.aload_n 0, 1) := by decide +kernel
theorem dX9_init_128 : decode cX9_init 128 = .ok (.bipush 8, 2) := by decide +kernel
theorem dX9_init_130 : decode cX9_init 130 = .ok (.newarray .int, 2) := by decide +kernel
theorem dX9_init_132 : decode cX9_init 132 = .ok (.putfield 62, 3) := by decide +kernel
theorem dX9_init_135 : decode cX9_init 135 = .ok (.aload_n 0, 1) := by decide +kernel
theorem dX9_init_136 : decode cX9_init 136 = .ok (.bipush 8, 2) := by decide +kernel
theorem dX9_init_138 : decode cX9_init 138 = .ok (.newarray .int, 2) := by decide +kernel
theorem dX9_init_140 : decode cX9_init 140 = .ok (.putfield 65, 3) := by decide +kernel
theorem dX9_init_143 : decode cX9_init 143 = .ok (.aload_n 0, 1) := by decide +kernel
theorem dX9_init_144 : decode cX9_init 144 = .ok (.iconst 2, 1) := by decide +kernel
theorem dX9_init_145 : decode cX9_init 145 = .ok (.newarray .int, 2) := by decide +kernel
theorem dX9_init_147 : decode cX9_init 147 = .ok (.putfield 68, 3) := by decide +kernel
theorem dX9_init_150 : decode cX9_init 150 = .ok (.aload_n 0, 1) := by decide +kernel
theorem dX9_init_151 : decode cX9_init 151 = .ok (.bipush 8, 2) := by decide +kernel
theorem dX9_init_153 : decode cX9_init 153 = .ok (.newarray .long, 2) := by decide +kernel
theorem dX9_init_155 : decode cX9_init 155 = .ok (.putfield 71, 3) := by decide +kernel
theorem dX9_init_158 : decode cX9_init 158 = .ok (.aload_n 0, 1) := by decide +kernel
theorem dX9_init_159 : decode cX9_init 159 = .ok (.bipush 8, 2) := by decide +kernel
theorem dX9_init_161 : decode cX9_init 161 = .ok (.newarray .float, 2) := by decide +kernel
theorem dX9_init_163 : decode cX9_init 163 = .ok (.putfield 74, 3) := by decide +kernel
theorem dX9_init_166 : decode cX9_init 166 = .ok (.aload_n 0, 1) := by decide +kernel
theorem dX9_init_167 : decode cX9_init 167 = .ok (.bipush 8, 2) := by decide +kernel
theorem dX9_init_169 : decode cX9_init 169 = .ok (.newarray .double, 2) := by decide +kernel
theorem dX9_init_171 : decode cX9_init 171 = .ok (.putfield 78, 3) := by decide +kernel
theorem dX9_init_174 : decode cX9_init 174 = .ok (.aload_n 0, 1) := by decide +kernel
theorem dX9_init_175 : decode cX9_init 175 = .ok (.bipush 8, 2) := by decide +kernel
theorem dX9_init_177 : decode cX9_init 177 = .ok (.newarray .int, 2) := by decide +kernel
theorem dX9_init_179 : decode cX9_init 179 = .ok (.putfield 82, 3) := by decide +kernel
theorem dX9_init_182 : decode cX9_init 182 = .ok (.aload_n 0, 1) := by decide +kernel
theorem dX9_init_183 : decode cX9_init 183 = .ok (.sipush 3200, 3) := by decide +kernel
theorem dX9_init_186 : decode cX9_init 186 = .ok (.newarray .int, 2) := by decide +kernel
theorem dX9_init_188 : decode cX9_init 188 = .ok (.putfield 85, 3) := by decide +kernel
theorem dX9_init_191 : decode cX9_init 191 = .ok (.aload_n 0, 1) := by decide +kernel
theorem dX9_init_192 : decode cX9_init 192 = .ok (.iload_n 1, 1) := by decide +kernel
theorem dX9_init_193 : decode cX9_init 193 = .ok (.iconst 4, 1) := by decide +kernel
theorem dX9_init_194 : decode cX9_init 194 = .ok (.if_icmp .eq 9, 3) := by decide +kernel
theorem dX9_init_197 : decode cX9_init 197 = .ok (.iload_n 1, 1) := by decide +kernel
theorem dX9_init_198 : decode cX9_init 198 = .ok (.bipush 16, 2) := by decide +kernel
theorem dX9_init_200 : decode cX9_init 200 = .ok (.if_icmp .ne 7, 3) := by decide +kernel
theorem dX9_init_203 : decode cX9_init 203 = .ok (.iload_n 1, 1) := by decide +kernel
theorem dX9_init_204 : decode cX9_init 204 = .ok (.goto 5, 3) := by decide +kernel
theorem dX9_init_207 : decode cX9_init 207 = .ok (.bipush 8, 2) := by decide +kernel
theorem dX9_init_209 : decode cX9_init 209 = .ok (.putfield 88, 3) := by decide +kernel
theorem dX9_init_212 : decode cX9_init 212 = .ok (.iconst 0, 1) := by decide +kernel
theorem dX9_init_213 : decode cX9_init 213 = .ok (.istore_n 2, 1) := by decide +kernel
theorem dX9_init_214 : decode cX9_init 214 = .ok (.iload_n 2, 1) := by decide +kernel
theorem dX9_init_215 : decode cX9_init 215 = .ok (.bipush 16, 2) := by decide +kernel
theorem dX9_init_217 : decode cX9_init 217 = .ok (.if_icmp .ge 16, 3) := by decide +kernel
theorem dX9_init_220 : decode cX9_init 220 = .ok (.aload_n 0, 1) := by decide +kernel
theorem dX9_init_221 : decode cX9_init 221 = .ok (.getfield 28, 3) := by decide +kernel
theorem dX9_init_224 : decode cX9_init 224 = .ok (.iload_n 2, 1) := by decide +kernel
theorem dX9_init_225 : decode cX9_init 225 = .ok (.iconst (-1), 1) := by decide +kernel
theorem dX9_init_226 : decode cX9_init 226 = .ok (.iastore, 1) := by decide +kernel
theorem dX9_init_227 : decode cX9_init 227 = .ok (.iinc 2 1, 3) := by decide +kernel
theorem dX9_init_230 : decode cX9_init 230 = .ok (.goto (-16), 3) := by decide +kernel
theorem dX9_init_233 : decode cX9_init 233 = .ok (.return_, 1) := by decide +kernel
theorem dX9_thrown_0 : decode cX9_thrown 0 = .ok (.aload_n 0, 1) := by decide +kernel
theorem dX9_thrown_1 : decode cX9_thrown 1 = .ok (.getfield 91, 3) := by decide +kernel
theorem dX9_thrown_4 : decode cX9_thrown 4 = .ok (.ireturn, 1) := by decide +kernel
theorem dX9_fail_0 : decode cX9_fail 0 = .ok (.aload_n 0, 1) := by decide +kernel
theorem dX9_fail_1 : decode cX9_fail 1 = .ok (.iload_n 1, 1) := by decide +kernel
theorem dX9_fail_2 : decode cX9_fail 2 = .ok (.putfield 91, 3) := by decide +kernel
theorem dX9_fail_5 : decode cX9_fail 5 = .ok (.iconst 0, 1) := by decide +kernel
theorem dX9_fail_6 : decode cX9_fail 6 = .ok (.ireturn, 1) := by decide +kernel
theorem dX9_within_0 : decode cX9_within 0 = .ok (.iload_n 0, 1) := by decide +kernel
theorem dX9_within_1 : decode cX9_within 1 = .ok (.iload_n 1, 1) := by decide +kernel
theorem dX9_within_2 : decode cX9_within 2 = .ok (.if_icmp .lt 12, 3) := by decide +kernel
theorem dX9_within_5 : decode cX9_within 5 = .ok (.iload_n 0, 1) := by decide +kernel
theorem dX9_within_6 : decode cX9_within 6 = .ok (.iload_n 2, 1) := by decide +kernel
theorem dX9_within_7 : decode cX9_within 7 = .ok (.if_icmp .gt 7, 3) := by decide +kernel
theorem dX9_within_10 : decode cX9_within 10 = .ok (.iconst 1, 1) := by decide +kernel
theorem dX9_within_11 : decode cX9_within 11 = .ok (.goto 4, 3) := by decide +kernel
theorem dX9_within_14 : decode cX9_within 14 = .ok (.iconst 0, 1) := by decide +kernel
theorem dX9_within_15 : decode cX9_within 15 = .ok (.ireturn, 1) := by decide +kernel
theorem dX9_firstOf_0 : decode cX9_firstOf 0 = .ok (.iconst (-1), 1) := by decide +kernel
theorem dX9_firstOf_1 : decode cX9_firstOf 1 = .ok (.istore_n 2, 1) := by decide +kernel
theorem dX9_firstOf_2 : decode cX9_firstOf 2 = .ok (.aload_n 0, 1) := by decide +kernel
theorem dX9_firstOf_3 : decode cX9_firstOf 3 = .ok (.getfield 94, 3) := by decide +kernel
theorem dX9_firstOf_6 : decode cX9_firstOf 6 = .ok (.iconst 1, 1) := by decide +kernel
theorem dX9_firstOf_7 : decode cX9_firstOf 7 = .ok (.isub, 1) := by decide +kernel
theorem dX9_firstOf_8 : decode cX9_firstOf 8 = .ok (.istore_n 3, 1) := by decide +kernel
theorem dX9_firstOf_9 : decode cX9_firstOf 9 = .ok (.iload_n 3, 1) := by decide +kernel
theorem dX9_firstOf_10 : decode cX9_firstOf 10 = .ok (.ifCond .lt 29, 3) := by decide +kernel
theorem dX9_firstOf_13 : decode cX9_firstOf 13 = .ok (.iload_n 1, 1) := by decide +kernel
theorem dX9_firstOf_14 : decode cX9_firstOf 14 = .ok (.ifCond .lt 17, 3) := by decide +kernel
theorem dX9_firstOf_17 : decode cX9_firstOf 17 = .ok (.aload_n 0, 1) := by decide +kernel
theorem dX9_firstOf_18 : decode cX9_firstOf 18 = .ok (.getfield 40, 3) := by decide +kernel
theorem dX9_firstOf_21 : decode cX9_firstOf 21 = .ok (.iload_n 3, 1) := by decide +kernel
theorem dX9_firstOf_22 : decode cX9_firstOf 22 = .ok (.iaload, 1) := by decide +kernel
theorem dX9_firstOf_23 : decode cX9_firstOf 23 = .ok (.iload_n 1, 1) := by decide +kernel
theorem dX9_firstOf_24 : decode cX9_firstOf 24 = .ok (.if_icmp .ne 7, 3) := by decide +kernel
theorem dX9_firstOf_27 : decode cX9_firstOf 27 = .ok (.iload_n 3, 1) := by decide +kernel
theorem dX9_firstOf_28 : decode cX9_firstOf 28 = .ok (.goto 4, 3) := by decide +kernel
theorem dX9_firstOf_31 : decode cX9_firstOf 31 = .ok (.iload_n 2, 1) := by decide +kernel
theorem dX9_firstOf_32 : decode cX9_firstOf 32 = .ok (.istore_n 2, 1) := by decide +kernel
theorem dX9_firstOf_33 : decode cX9_firstOf 33 = .ok (.iinc 3 (-1), 3) := by decide +kernel
theorem dX9_firstOf_36 : decode cX9_firstOf 36 = .ok (.goto (-27), 3) := by decide +kernel
theorem dX9_firstOf_39 : decode cX9_firstOf 39 = .ok (.iload_n 2, 1) := by decide +kernel
theorem dX9_firstOf_40 : decode cX9_firstOf 40 = .ok (.ireturn, 1) := by decide +kernel
theorem dX9_consumer_0 : decode cX9_consumer 0 = .ok (.aload_n 0, 1) := by decide +kernel
theorem dX9_consumer_1 : decode cX9_consumer 1 = .ok (.iconst 0, 1) := by decide +kernel
theorem dX9_consumer_2 : decode cX9_consumer 2 = .ok (.putfield 91, 3) := by decide +kernel
theorem dX9_consumer_5 : decode cX9_consumer 5 = .ok (.iload_n 1, 1) := by decide +kernel
theorem dX9_consumer_6 : decode cX9_consumer 6 = .ok (.iconst 0, 1) := by decide +kernel
theorem dX9_consumer_7 : decode cX9_consumer 7 = .ok (.iconst 3, 1) := by decide +kernel
theorem dX9_consumer_8 : decode cX9_consumer 8 = .ok (.invokestatic 97, 3) := by decide +kernel
theorem dX9_consumer_11 : decode cX9_consumer 11 = .ok (.ifCond .eq 40, 3) := by decide +kernel
theorem dX9_consumer_14 : decode cX9_consumer 14 = .ok (.iload_n 2, 1) := by decide +kernel
theorem dX9_consumer_15 : decode cX9_consumer 15 = .ok (.ifCond .lt 36, 3) := by decide +kernel
theorem dX9_consumer_18 : decode cX9_consumer 18 = .ok (.iload_n 2, 1) := by decide +kernel
theorem dX9_consumer_19 : decode cX9_consumer 19 = .ok (.iconst 1, 1) := by decide +kernel
theorem dX9_consumer_20 : decode cX9_consumer 20 = .ok (.aload_n 0, 1) := by decide +kernel
theorem dX9_consumer_21 : decode cX9_consumer 21 = .ok (.getfield 94, 3) := by decide +kernel
theorem dX9_consumer_24 : decode cX9_consumer 24 = .ok (.ishl, 1) := by decide +kernel
theorem dX9_consumer_25 : decode cX9_consumer 25 = .ok (.if_icmp .ge 26, 3) := by decide +kernel
theorem dX9_consumer_28 : decode cX9_consumer 28 = .ok (.iload_n 3, 1) := by decide +kernel
theorem dX9_consumer_29 : decode cX9_consumer 29 = .ok (.iconst 0, 1) := by decide +kernel
theorem dX9_consumer_30 : decode cX9_consumer 30 = .ok (.iconst 2, 1) := by decide +kernel
theorem dX9_consumer_31 : decode cX9_consumer 31 = .ok (.invokestatic 97, 3) := by decide +kernel
theorem dX9_consumer_34 : decode cX9_consumer 34 = .ok (.ifCond .eq 17, 3) := by decide +kernel
theorem dX9_consumer_37 : decode cX9_consumer 37 = .ok (.iload 4, 2) := by decide +kernel
theorem dX9_consumer_39 : decode cX9_consumer 39 = .ok (.iconst (-1), 1) := by decide +kernel
theorem dX9_consumer_40 : decode cX9_consumer 40 = .ok (.iconst 1, 1) := by decide +kernel
theorem dX9_consumer_41 : decode cX9_consumer 41 = .ok (.invokestatic 97, 3) := by decide +kernel
theorem dX9_consumer_44 : decode cX9_consumer 44 = .ok (.ifCond .eq 7, 3) := by decide +kernel
theorem dX9_consumer_47 : decode cX9_consumer 47 = .ok (.iconst 1, 1) := by decide +kernel
theorem dX9_consumer_48 : decode cX9_consumer 48 = .ok (.goto 4, 3) := by decide +kernel
theorem dX9_consumer_51 : decode cX9_consumer 51 = .ok (.iconst 0, 1) := by decide +kernel
theorem dX9_consumer_52 : decode cX9_consumer 52 = .ok (.istore 5, 2) := by decide +kernel
theorem dX9_consumer_54 : decode cX9_consumer 54 = .ok (.iload 5, 2) := by decide +kernel
theorem dX9_consumer_56 : decode cX9_consumer 56 = .ok (.ifCond .eq 41, 3) := by decide +kernel
theorem dX9_consumer_59 : decode cX9_consumer 59 = .ok (.iload 4, 2) := by decide +kernel
theorem dX9_consumer_61 : decode cX9_consumer 61 = .ok (.ifCond .lt 8, 3) := by decide +kernel
theorem dX9_consumer_64 : decode cX9_consumer 64 = .ok (.iload_n 3, 1) := by decide +kernel
theorem dX9_consumer_65 : decode cX9_consumer 65 = .ok (.iconst 2, 1) := by decide +kernel
theorem dX9_consumer_66 : decode cX9_consumer 66 = .ok (.if_icmp .eq 31, 3) := by decide +kernel
theorem dX9_consumer_69 : decode cX9_consumer 69 = .ok (.aload_n 0, 1) := by decide +kernel
theorem dX9_consumer_70 : decode cX9_consumer 70 = .ok (.iload 4, 2) := by decide +kernel
theorem dX9_consumer_72 : decode cX9_consumer 72 = .ok (.invokevirtual 101, 3) := by decide +kernel
theorem dX9_consumer_75 : decode cX9_consumer 75 = .ok (.ifCond .lt 18, 3) := by decide +kernel
theorem dX9_consumer_78 : decode cX9_consumer 78 = .ok (.aload_n 0, 1) := by decide +kernel
theorem dX9_consumer_79 : decode cX9_consumer 79 = .ok (.getfield 34, 3) := by decide +kernel
theorem dX9_consumer_82 : decode cX9_consumer 82 = .ok (.aload_n 0, 1) := by decide +kernel
theorem dX9_consumer_83 : decode cX9_consumer 83 = .ok (.iload 4, 2) := by decide +kernel
theorem dX9_consumer_85 : decode cX9_consumer 85 = .ok (.invokevirtual 101, 3) := by decide +kernel
theorem dX9_consumer_88 : decode cX9_consumer 88 = .ok (.iaload, 1) := by decide +kernel
theorem dX9_consumer_89 : decode cX9_consumer 89 = .ok (.iload_n 2, 1) := by decide +kernel
theorem dX9_consumer_90 : decode cX9_consumer 90 = .ok (.if_icmp .ne 7, 3) := by decide +kernel
theorem dX9_consumer_93 : decode cX9_consumer 93 = .ok (.iconst 1, 1) := by decide +kernel
theorem dX9_consumer_94 : decode cX9_consumer 94 = .ok (.goto 4, 3) := by decide +kernel
theorem dX9_consumer_97 : decode cX9_consumer 97 = .ok (.iconst 0, 1) := by decide +kernel
theorem dX9_consumer_98 : decode cX9_consumer 98 = .ok (.istore 5, 2) := by decide +kernel
theorem dX9_consumer_100 : decode cX9_consumer 100 = .ok (.iload 5, 2) := by decide +kernel
theorem dX9_consumer_102 : decode cX9_consumer 102 = .ok (.ifCond .ne 9, 3) := by decide +kernel
theorem dX9_consumer_105 : decode cX9_consumer 105 = .ok (.aload_n 0, 1) := by decide +kernel
theorem dX9_consumer_106 : decode cX9_consumer 106 = .ok (.iconst 1, 1) := by decide +kernel
theorem dX9_consumer_107 : decode cX9_consumer 107 = .ok (.invokevirtual 105, 3) := by decide +kernel
theorem dX9_consumer_110 : decode cX9_consumer 110 = .ok (.ireturn, 1) := by decide +kernel
theorem dX9_consumer_111 : decode cX9_consumer 111 = .ok (.aload_n 0, 1) := by decide +kernel
theorem dX9_consumer_112 : decode cX9_consumer 112 = .ok (.getfield 94, 3) := by decide +kernel
theorem dX9_consumer_115 : decode cX9_consumer 115 = .ok (.bipush 8, 2) := by decide +kernel
theorem dX9_consumer_117 : decode cX9_consumer 117 = .ok (.if_icmp .eq 10, 3) := by decide +kernel
theorem dX9_consumer_120 : decode cX9_consumer 120 = .ok (.aload_n 0, 1) := by decide +kernel
theorem dX9_consumer_121 : decode cX9_consumer 121 = .ok (.getfield 13, 3) := by decide +kernel
theorem dX9_consumer_124 : decode cX9_consumer 124 = .ok (.ifCond .lt 9, 3) := by decide +kernel
theorem dX9_consumer_127 : decode cX9_consumer 127 = .ok (.aload_n 0, 1) := by decide +kernel
theorem dX9_consumer_128 : decode cX9_consumer 128 = .ok (.iconst 2, 1) := by decide +kernel
theorem dX9_consumer_129 : decode cX9_consumer 129 = .ok (.invokevirtual 105, 3) := by decide +kernel
theorem dX9_consumer_132 : decode cX9_consumer 132 = .ok (.ireturn, 1) := by decide +kernel
theorem dX9_consumer_133 : decode cX9_consumer 133 = .ok (.aload_n 0, 1) := by decide +kernel
theorem dX9_consumer_134 : decode cX9_consumer 134 = .ok (.getfield 31, 3) := by decide +kernel
theorem dX9_consumer_137 : decode cX9_consumer 137 = .ok (.aload_n 0, 1) := by decide +kernel
theorem dX9_consumer_138 : decode cX9_consumer 138 = .ok (.getfield 94, 3) := by decide +kernel
theorem dX9_consumer_141 : decode cX9_consumer 141 = .ok (.iload_n 1, 1) := by decide +kernel
theorem dX9_consumer_142 : decode cX9_consumer 142 = .ok (.iastore, 1) := by decide +kernel
theorem dX9_consumer_143 : decode cX9_consumer 143 = .ok (.aload_n 0, 1) := by decide +kernel
theorem dX9_consumer_144 : decode cX9_consumer 144 = .ok (.getfield 34, 3) := by decide +kernel
theorem dX9_consumer_147 : decode cX9_consumer 147 = .ok (.aload_n 0, 1) := by decide +kernel
theorem dX9_consumer_148 : decode cX9_consumer 148 = .ok (.getfield 94, 3) := by decide +kernel
theorem dX9_consumer_151 : decode cX9_consumer 151 = .ok (.iload_n 2, 1) := by decide +kernel
theorem dX9_consumer_152 : decode cX9_consumer 152 = .ok (.iastore, 1) := by decide +kernel
theorem dX9_consumer_153 : decode cX9_consumer 153 = .ok (.aload_n 0, 1) := by decide +kernel
theorem dX9_consumer_154 : decode cX9_consumer 154 = .ok (.getfield 37, 3) := by decide +kernel
theorem dX9_consumer_157 : decode cX9_consumer 157 = .ok (.aload_n 0, 1) := by decide +kernel
theorem dX9_consumer_158 : decode cX9_consumer 158 = .ok (.getfield 94, 3) := by decide +kernel
theorem dX9_consumer_161 : decode cX9_consumer 161 = .ok (.iload_n 3, 1) := by decide +kernel
theorem dX9_consumer_162 : decode cX9_consumer 162 = .ok (.iastore, 1) := by decide +kernel
theorem dX9_consumer_163 : decode cX9_consumer 163 = .ok (.aload_n 0, 1) := by decide +kernel
theorem dX9_consumer_164 : decode cX9_consumer 164 = .ok (.getfield 40, 3) := by decide +kernel
theorem dX9_consumer_167 : decode cX9_consumer 167 = .ok (.aload_n 0, 1) := by decide +kernel
theorem dX9_consumer_168 : decode cX9_consumer 168 = .ok (.getfield 94, 3) := by decide +kernel
theorem dX9_consumer_171 : decode cX9_consumer 171 = .ok (.iload 4, 2) := by decide +kernel
theorem dX9_consumer_173 : decode cX9_consumer 173 = .ok (.iastore, 1) := by decide +kernel
theorem dX9_consumer_174 : decode cX9_consumer 174 = .ok (.aload_n 0, 1) := by decide +kernel
theorem dX9_consumer_175 : decode cX9_consumer 175 = .ok (.getfield 43, 3) := by decide +kernel
theorem dX9_consumer_178 : decode cX9_consumer 178 = .ok (.aload_n 0, 1) := by decide +kernel
theorem dX9_consumer_179 : decode cX9_consumer 179 = .ok (.getfield 94, 3) := by decide +kernel
theorem dX9_consumer_182 : decode cX9_consumer 182 = .ok (.iconst (-1), 1) := by decide +kernel
theorem dX9_consumer_183 : decode cX9_consumer 183 = .ok (.iastore, 1) := by decide +kernel
theorem dX9_consumer_184 : decode cX9_consumer 184 = .ok (.aload_n 0, 1) := by decide +kernel
theorem dX9_consumer_185 : decode cX9_consumer 185 = .ok (.getfield 59, 3) := by decide +kernel
theorem dX9_consumer_188 : decode cX9_consumer 188 = .ok (.aload_n 0, 1) := by decide +kernel
theorem dX9_consumer_189 : decode cX9_consumer 189 = .ok (.getfield 94, 3) := by decide +kernel
theorem dX9_consumer_192 : decode cX9_consumer 192 = .ok (.iconst (-1), 1) := by decide +kernel
theorem dX9_consumer_193 : decode cX9_consumer 193 = .ok (.iastore, 1) := by decide +kernel
theorem dX9_consumer_194 : decode cX9_consumer 194 = .ok (.aload_n 0, 1) := by decide +kernel
theorem dX9_consumer_195 : decode cX9_consumer 195 = .ok (.getfield 65, 3) := by decide +kernel
theorem dX9_consumer_198 : decode cX9_consumer 198 = .ok (.aload_n 0, 1) := by decide +kernel
theorem dX9_consumer_199 : decode cX9_consumer 199 = .ok (.getfield 94, 3) := by decide +kernel
theorem dX9_consumer_202 : decode cX9_consumer 202 = .ok (.iconst (-1), 1) := by decide +kernel
theorem dX9_consumer_203 : decode cX9_consumer 203 = .ok (.iastore, 1) := by decide +kernel
theorem dX9_consumer_204 : decode cX9_consumer 204 = .ok (.aload_n 0, 1) := by decide +kernel
theorem dX9_consumer_205 : decode cX9_consumer 205 = .ok (.dup, 1) := by decide +kernel
theorem dX9_consumer_206 : decode cX9_consumer 206 = .ok (.getfield 94, 3) := by decide +kernel
theorem dX9_consumer_209 : decode cX9_consumer 209 = .ok (.iconst 1, 1) := by decide +kernel
theorem dX9_consumer_210 : decode cX9_consumer 210 = .ok (.iadd, 1) := by decide +kernel
theorem dX9_consumer_211 : decode cX9_consumer 211 = .ok (.putfield 94, 3) := by decide +kernel
theorem dX9_consumer_214 : decode cX9_consumer 214 = .ok (.aload_n 0, 1) := by decide +kernel
theorem dX9_consumer_215 : decode cX9_consumer 215 = .ok (.getfield 94, 3) := by decide +kernel
theorem dX9_consumer_218 : decode cX9_consumer 218 = .ok (.iconst 1, 1) := by decide +kernel
theorem dX9_consumer_219 : decode cX9_consumer 219 = .ok (.isub, 1) := by decide +kernel
theorem dX9_consumer_220 : decode cX9_consumer 220 = .ok (.ireturn, 1) := by decide +kernel
theorem dX9_placeOf_0 : decode cX9_placeOf 0 = .ok (.aload_n 0, 1) := by decide +kernel
theorem dX9_placeOf_1 : decode cX9_placeOf 1 = .ok (.getfield 40, 3) := by decide +kernel
theorem dX9_placeOf_4 : decode cX9_placeOf 4 = .ok (.iload_n 1, 1) := by decide +kernel
theorem dX9_placeOf_5 : decode cX9_placeOf 5 = .ok (.iaload, 1) := by decide +kernel
theorem dX9_placeOf_6 : decode cX9_placeOf 6 = .ok (.ifCond .ge 10, 3) := by decide +kernel
theorem dX9_placeOf_9 : decode cX9_placeOf 9 = .ok (.aload_n 0, 1) := by decide +kernel
theorem dX9_placeOf_10 : decode cX9_placeOf 10 = .ok (.getfield 43, 3) := by decide +kernel
theorem dX9_placeOf_13 : decode cX9_placeOf 13 = .ok (.iload_n 1, 1) := by decide +kernel
theorem dX9_placeOf_14 : decode cX9_placeOf 14 = .ok (.iaload, 1) := by decide +kernel
theorem dX9_placeOf_15 : decode cX9_placeOf 15 = .ok (.ireturn, 1) := by decide +kernel
theorem dX9_placeOf_16 : decode cX9_placeOf 16 = .ok (.aload_n 0, 1) := by decide +kernel
theorem dX9_placeOf_17 : decode cX9_placeOf 17 = .ok (.getfield 68, 3) := by decide +kernel
theorem dX9_placeOf_20 : decode cX9_placeOf 20 = .ok (.aload_n 0, 1) := by decide +kernel
theorem dX9_placeOf_21 : decode cX9_placeOf 21 = .ok (.getfield 40, 3) := by decide +kernel
theorem dX9_placeOf_24 : decode cX9_placeOf 24 = .ok (.iload_n 1, 1) := by decide +kernel
theorem dX9_placeOf_25 : decode cX9_placeOf 25 = .ok (.iaload, 1) := by decide +kernel
theorem dX9_placeOf_26 : decode cX9_placeOf 26 = .ok (.iaload, 1) := by decide +kernel
theorem dX9_placeOf_27 : decode cX9_placeOf 27 = .ok (.istore_n 2, 1) := by decide +kernel
theorem dX9_placeOf_28 : decode cX9_placeOf 28 = .ok (.iconst 0, 1) := by decide +kernel
theorem dX9_placeOf_29 : decode cX9_placeOf 29 = .ok (.istore_n 3, 1) := by decide +kernel
theorem dX9_placeOf_30 : decode cX9_placeOf 30 = .ok (.iload_n 3, 1) := by decide +kernel
theorem dX9_placeOf_31 : decode cX9_placeOf 31 = .ok (.aload_n 0, 1) := by decide +kernel
theorem dX9_placeOf_32 : decode cX9_placeOf 32 = .ok (.getfield 94, 3) := by decide +kernel
theorem dX9_placeOf_35 : decode cX9_placeOf 35 = .ok (.if_icmp .ge 54, 3) := by decide +kernel
theorem dX9_placeOf_38 : decode cX9_placeOf 38 = .ok (.aload_n 0, 1) := by decide +kernel
theorem dX9_placeOf_39 : decode cX9_placeOf 39 = .ok (.getfield 40, 3) := by decide +kernel
theorem dX9_placeOf_42 : decode cX9_placeOf 42 = .ok (.iload_n 3, 1) := by decide +kernel
theorem dX9_placeOf_43 : decode cX9_placeOf 43 = .ok (.iaload, 1) := by decide +kernel
theorem dX9_placeOf_44 : decode cX9_placeOf 44 = .ok (.aload_n 0, 1) := by decide +kernel
theorem dX9_placeOf_45 : decode cX9_placeOf 45 = .ok (.getfield 40, 3) := by decide +kernel
theorem dX9_placeOf_48 : decode cX9_placeOf 48 = .ok (.iload_n 1, 1) := by decide +kernel
theorem dX9_placeOf_49 : decode cX9_placeOf 49 = .ok (.iaload, 1) := by decide +kernel
theorem dX9_placeOf_50 : decode cX9_placeOf 50 = .ok (.if_icmp .ne 31, 3) := by decide +kernel
theorem dX9_placeOf_53 : decode cX9_placeOf 53 = .ok (.aload_n 0, 1) := by decide +kernel
theorem dX9_placeOf_54 : decode cX9_placeOf 54 = .ok (.getfield 65, 3) := by decide +kernel
theorem dX9_placeOf_57 : decode cX9_placeOf 57 = .ok (.iload_n 3, 1) := by decide +kernel
theorem dX9_placeOf_58 : decode cX9_placeOf 58 = .ok (.iaload, 1) := by decide +kernel
theorem dX9_placeOf_59 : decode cX9_placeOf 59 = .ok (.ifCond .lt 22, 3) := by decide +kernel
theorem dX9_placeOf_62 : decode cX9_placeOf 62 = .ok (.aload_n 0, 1) := by decide +kernel
theorem dX9_placeOf_63 : decode cX9_placeOf 63 = .ok (.getfield 65, 3) := by decide +kernel
theorem dX9_placeOf_66 : decode cX9_placeOf 66 = .ok (.iload_n 3, 1) := by decide +kernel
theorem dX9_placeOf_67 : decode cX9_placeOf 67 = .ok (.iaload, 1) := by decide +kernel
theorem dX9_placeOf_68 : decode cX9_placeOf 68 = .ok (.iload_n 2, 1) := by decide +kernel
theorem dX9_placeOf_69 : decode cX9_placeOf 69 = .ok (.if_icmp .ge 12, 3) := by decide +kernel
theorem dX9_placeOf_72 : decode cX9_placeOf 72 = .ok (.aload_n 0, 1) := by decide +kernel
theorem dX9_placeOf_73 : decode cX9_placeOf 73 = .ok (.getfield 65, 3) := by decide +kernel
theorem dX9_placeOf_76 : decode cX9_placeOf 76 = .ok (.iload_n 3, 1) := by decide +kernel
theorem dX9_placeOf_77 : decode cX9_placeOf 77 = .ok (.iaload, 1) := by decide +kernel
theorem dX9_placeOf_78 : decode cX9_placeOf 78 = .ok (.goto 4, 3) := by decide +kernel
theorem dX9_placeOf_81 : decode cX9_placeOf 81 = .ok (.iload_n 2, 1) := by decide +kernel
theorem dX9_placeOf_82 : decode cX9_placeOf 82 = .ok (.istore_n 2, 1) := by decide +kernel
theorem dX9_placeOf_83 : decode cX9_placeOf 83 = .ok (.iinc 3 1, 3) := by decide +kernel
theorem dX9_placeOf_86 : decode cX9_placeOf 86 = .ok (.goto (-56), 3) := by decide +kernel
theorem dX9_placeOf_89 : decode cX9_placeOf 89 = .ok (.iload_n 2, 1) := by decide +kernel
theorem dX9_placeOf_90 : decode cX9_placeOf 90 = .ok (.iconst 1, 1) := by decide +kernel
theorem dX9_placeOf_91 : decode cX9_placeOf 91 = .ok (.isub, 1) := by decide +kernel
theorem dX9_placeOf_92 : decode cX9_placeOf 92 = .ok (.ireturn, 1) := by decide +kernel
theorem dX9_bound_0 : decode cX9_bound 0 = .ok (.aload_n 0, 1) := by decide +kernel
theorem dX9_bound_1 : decode cX9_bound 1 = .ok (.getfield 17, 3) := by decide +kernel
theorem dX9_bound_4 : decode cX9_bound 4 = .ok (.istore_n 2, 1) := by decide +kernel
theorem dX9_bound_5 : decode cX9_bound 5 = .ok (.iconst 0, 1) := by decide +kernel
theorem dX9_bound_6 : decode cX9_bound 6 = .ok (.istore_n 3, 1) := by decide +kernel
theorem dX9_bound_7 : decode cX9_bound 7 = .ok (.iload_n 3, 1) := by decide +kernel
theorem dX9_bound_8 : decode cX9_bound 8 = .ok (.iload_n 1, 1) := by decide +kernel
theorem dX9_bound_9 : decode cX9_bound 9 = .ok (.if_icmp .ge 47, 3) := by decide +kernel
theorem dX9_bound_12 : decode cX9_bound 12 = .ok (.aload_n 0, 1) := by decide +kernel
theorem dX9_bound_13 : decode cX9_bound 13 = .ok (.getfield 34, 3) := by decide +kernel
theorem dX9_bound_16 : decode cX9_bound 16 = .ok (.iload_n 1, 1) := by decide +kernel
theorem dX9_bound_17 : decode cX9_bound 17 = .ok (.iaload, 1) := by decide +kernel
theorem dX9_bound_18 : decode cX9_bound 18 = .ok (.iload_n 3, 1) := by decide +kernel
theorem dX9_bound_19 : decode cX9_bound 19 = .ok (.ishr, 1) := by decide +kernel
theorem dX9_bound_20 : decode cX9_bound 20 = .ok (.iconst 1, 1) := by decide +kernel
theorem dX9_bound_21 : decode cX9_bound 21 = .ok (.iand, 1) := by decide +kernel
theorem dX9_bound_22 : decode cX9_bound 22 = .ok (.iconst 1, 1) := by decide +kernel
theorem dX9_bound_23 : decode cX9_bound 23 = .ok (.if_icmp .ne 11, 3) := by decide +kernel
theorem dX9_bound_26 : decode cX9_bound 26 = .ok (.aload_n 0, 1) := by decide +kernel
theorem dX9_bound_27 : decode cX9_bound 27 = .ok (.iload_n 3, 1) := by decide +kernel
theorem dX9_bound_28 : decode cX9_bound 28 = .ok (.invokevirtual 108, 3) := by decide +kernel
theorem dX9_bound_31 : decode cX9_bound 31 = .ok (.goto 4, 3) := by decide +kernel
theorem dX9_bound_34 : decode cX9_bound 34 = .ok (.iload_n 2, 1) := by decide +kernel
theorem dX9_bound_35 : decode cX9_bound 35 = .ok (.istore 4, 2) := by decide +kernel
theorem dX9_bound_37 : decode cX9_bound 37 = .ok (.iload 4, 2) := by decide +kernel
theorem dX9_bound_39 : decode cX9_bound 39 = .ok (.iload_n 2, 1) := by decide +kernel
theorem dX9_bound_40 : decode cX9_bound 40 = .ok (.if_icmp .ge 8, 3) := by decide +kernel
theorem dX9_bound_43 : decode cX9_bound 43 = .ok (.iload 4, 2) := by decide +kernel
theorem dX9_bound_45 : decode cX9_bound 45 = .ok (.goto 4, 3) := by decide +kernel
theorem dX9_bound_48 : decode cX9_bound 48 = .ok (.iload_n 2, 1) := by decide +kernel
theorem dX9_bound_49 : decode cX9_bound 49 = .ok (.istore_n 2, 1) := by decide +kernel
theorem dX9_bound_50 : decode cX9_bound 50 = .ok (.iinc 3 1, 3) := by decide +kernel
theorem dX9_bound_53 : decode cX9_bound 53 = .ok (.goto (-46), 3) := by decide +kernel
theorem dX9_bound_56 : decode cX9_bound 56 = .ok (.iload_n 2, 1) := by decide +kernel
theorem dX9_bound_57 : decode cX9_bound 57 = .ok (.ireturn, 1) := by decide +kernel
theorem dX9_claim_0 : decode cX9_claim 0 = .ok (.aload_n 0, 1) := by decide +kernel
theorem dX9_claim_1 : decode cX9_claim 1 = .ok (.iconst 0, 1) := by decide +kernel
theorem dX9_claim_2 : decode cX9_claim 2 = .ok (.putfield 91, 3) := by decide +kernel
theorem dX9_claim_5 : decode cX9_claim 5 = .ok (.iload_n 1, 1) := by decide +kernel
theorem dX9_claim_6 : decode cX9_claim 6 = .ok (.iconst 0, 1) := by decide +kernel
theorem dX9_claim_7 : decode cX9_claim 7 = .ok (.iconst 3, 1) := by decide +kernel
theorem dX9_claim_8 : decode cX9_claim 8 = .ok (.invokestatic 97, 3) := by decide +kernel
theorem dX9_claim_11 : decode cX9_claim 11 = .ok (.ifCond .eq 15, 3) := by decide +kernel
theorem dX9_claim_14 : decode cX9_claim 14 = .ok (.iload_n 2, 1) := by decide +kernel
theorem dX9_claim_15 : decode cX9_claim 15 = .ok (.iconst 1, 1) := by decide +kernel
theorem dX9_claim_16 : decode cX9_claim 16 = .ok (.aload_n 0, 1) := by decide +kernel
theorem dX9_claim_17 : decode cX9_claim 17 = .ok (.getfield 88, 3) := by decide +kernel
theorem dX9_claim_20 : decode cX9_claim 20 = .ok (.invokestatic 97, 3) := by decide +kernel
theorem dX9_claim_23 : decode cX9_claim 23 = .ok (.ifCond .ne 10, 3) := by decide +kernel
theorem dX9_claim_26 : decode cX9_claim 26 = .ok (.aload_n 0, 1) := by decide +kernel
theorem dX9_claim_27 : decode cX9_claim 27 = .ok (.iconst 1, 1) := by decide +kernel
theorem dX9_claim_28 : decode cX9_claim 28 = .ok (.invokevirtual 105, 3) := by decide +kernel
theorem dX9_claim_31 : decode cX9_claim 31 = .ok (.i2l, 1) := by decide +kernel
theorem dX9_claim_32 : decode cX9_claim 32 = .ok (.lreturn, 1) := by decide +kernel
theorem dX9_claim_33 : decode cX9_claim 33 = .ok (.iconst 0, 1) := by decide +kernel
theorem dX9_claim_34 : decode cX9_claim 34 = .ok (.istore_n 3, 1) := by decide +kernel
theorem dX9_claim_35 : decode cX9_claim 35 = .ok (.iconst 0, 1) := by decide +kernel
theorem dX9_claim_36 : decode cX9_claim 36 = .ok (.istore 4, 2) := by decide +kernel
theorem dX9_claim_38 : decode cX9_claim 38 = .ok (.iload 4, 2) := by decide +kernel
theorem dX9_claim_40 : decode cX9_claim 40 = .ok (.aload_n 0, 1) := by decide +kernel
theorem dX9_claim_41 : decode cX9_claim 41 = .ok (.getfield 94, 3) := by decide +kernel
theorem dX9_claim_44 : decode cX9_claim 44 = .ok (.if_icmp .ge 19, 3) := by decide +kernel
theorem dX9_claim_47 : decode cX9_claim 47 = .ok (.iload_n 3, 1) := by decide +kernel
theorem dX9_claim_48 : decode cX9_claim 48 = .ok (.aload_n 0, 1) := by decide +kernel
theorem dX9_claim_49 : decode cX9_claim 49 = .ok (.getfield 34, 3) := by decide +kernel
theorem dX9_claim_52 : decode cX9_claim 52 = .ok (.iload 4, 2) := by decide +kernel
theorem dX9_claim_54 : decode cX9_claim 54 = .ok (.iaload, 1) := by decide +kernel
theorem dX9_claim_55 : decode cX9_claim 55 = .ok (.ior, 1) := by decide +kernel
theorem dX9_claim_56 : decode cX9_claim 56 = .ok (.istore_n 3, 1) := by decide +kernel
theorem dX9_claim_57 : decode cX9_claim 57 = .ok (.iinc 4 1, 3) := by decide +kernel
theorem dX9_claim_60 : decode cX9_claim 60 = .ok (.goto (-22), 3) := by decide +kernel
theorem dX9_claim_63 : decode cX9_claim 63 = .ok (.aload_n 0, 1) := by decide +kernel
theorem dX9_claim_64 : decode cX9_claim 64 = .ok (.getfield 94, 3) := by decide +kernel
theorem dX9_claim_67 : decode cX9_claim 67 = .ok (.ifCond .gt 21, 3) := by decide +kernel
theorem dX9_claim_70 : decode cX9_claim 70 = .ok (.aload_n 0, 1) := by decide +kernel
theorem dX9_claim_71 : decode cX9_claim 71 = .ok (.getfield 13, 3) := by decide +kernel
theorem dX9_claim_74 : decode cX9_claim 74 = .ok (.iload_n 2, 1) := by decide +kernel
theorem dX9_claim_75 : decode cX9_claim 75 = .ok (.iadd, 1) := by decide +kernel
theorem dX9_claim_76 : decode cX9_claim 76 = .ok (.aload_n 0, 1) := by decide +kernel
theorem dX9_claim_77 : decode cX9_claim 77 = .ok (.getfield 88, 3) := by decide +kernel
theorem dX9_claim_80 : decode cX9_claim 80 = .ok (.isub, 1) := by decide +kernel
theorem dX9_claim_81 : decode cX9_claim 81 = .ok (.aload_n 0, 1) := by decide +kernel
theorem dX9_claim_82 : decode cX9_claim 82 = .ok (.getfield 17, 3) := by decide +kernel
theorem dX9_claim_85 : decode cX9_claim 85 = .ok (.if_icmp .gt 7, 3) := by decide +kernel
theorem dX9_claim_88 : decode cX9_claim 88 = .ok (.iconst 1, 1) := by decide +kernel
theorem dX9_claim_89 : decode cX9_claim 89 = .ok (.goto 4, 3) := by decide +kernel
theorem dX9_claim_92 : decode cX9_claim 92 = .ok (.iconst 0, 1) := by decide +kernel
theorem dX9_claim_93 : decode cX9_claim 93 = .ok (.istore 4, 2) := by decide +kernel
theorem dX9_claim_95 : decode cX9_claim 95 = .ok (.iconst 0, 1) := by decide +kernel
theorem dX9_claim_96 : decode cX9_claim 96 = .ok (.istore 5, 2) := by decide +kernel
theorem dX9_claim_98 : decode cX9_claim 98 = .ok (.iload 5, 2) := by decide +kernel
theorem dX9_claim_100 : decode cX9_claim 100 = .ok (.aload_n 0, 1) := by decide +kernel
theorem dX9_claim_101 : decode cX9_claim 101 = .ok (.getfield 94, 3) := by decide +kernel
theorem dX9_claim_104 : decode cX9_claim 104 = .ok (.if_icmp .ge 51, 3) := by decide +kernel
theorem dX9_claim_107 : decode cX9_claim 107 = .ok (.iload 4, 2) := by decide +kernel
theorem dX9_claim_109 : decode cX9_claim 109 = .ok (.ifCond .eq 37, 3) := by decide +kernel
theorem dX9_claim_112 : decode cX9_claim 112 = .ok (.iload_n 3, 1) := by decide +kernel
theorem dX9_claim_113 : decode cX9_claim 113 = .ok (.iload 5, 2) := by decide +kernel
theorem dX9_claim_115 : decode cX9_claim 115 = .ok (.ishr, 1) := by decide +kernel
theorem dX9_claim_116 : decode cX9_claim 116 = .ok (.iconst 1, 1) := by decide +kernel
theorem dX9_claim_117 : decode cX9_claim 117 = .ok (.iand, 1) := by decide +kernel
theorem dX9_claim_118 : decode cX9_claim 118 = .ok (.iconst 1, 1) := by decide +kernel
theorem dX9_claim_119 : decode cX9_claim 119 = .ok (.if_icmp .eq 23, 3) := by decide +kernel
theorem dX9_claim_122 : decode cX9_claim 122 = .ok (.aload_n 0, 1) := by decide +kernel
theorem dX9_claim_123 : decode cX9_claim 123 = .ok (.getfield 13, 3) := by decide +kernel
theorem dX9_claim_126 : decode cX9_claim 126 = .ok (.iload_n 2, 1) := by decide +kernel
theorem dX9_claim_127 : decode cX9_claim 127 = .ok (.iadd, 1) := by decide +kernel
theorem dX9_claim_128 : decode cX9_claim 128 = .ok (.aload_n 0, 1) := by decide +kernel
theorem dX9_claim_129 : decode cX9_claim 129 = .ok (.getfield 88, 3) := by decide +kernel
theorem dX9_claim_132 : decode cX9_claim 132 = .ok (.isub, 1) := by decide +kernel
theorem dX9_claim_133 : decode cX9_claim 133 = .ok (.aload_n 0, 1) := by decide +kernel
theorem dX9_claim_134 : decode cX9_claim 134 = .ok (.iload 5, 2) := by decide +kernel
theorem dX9_claim_136 : decode cX9_claim 136 = .ok (.invokevirtual 108, 3) := by decide +kernel
theorem dX9_claim_139 : decode cX9_claim 139 = .ok (.if_icmp .gt 7, 3) := by decide +kernel
theorem dX9_claim_142 : decode cX9_claim 142 = .ok (.iconst 1, 1) := by decide +kernel
theorem dX9_claim_143 : decode cX9_claim 143 = .ok (.goto 4, 3) := by decide +kernel
theorem dX9_claim_146 : decode cX9_claim 146 = .ok (.iconst 0, 1) := by decide +kernel
theorem dX9_claim_147 : decode cX9_claim 147 = .ok (.istore 4, 2) := by decide +kernel
theorem dX9_claim_149 : decode cX9_claim 149 = .ok (.iinc 5 1, 3) := by decide +kernel
theorem dX9_claim_152 : decode cX9_claim 152 = .ok (.goto (-54), 3) := by decide +kernel
theorem dX9_claim_155 : decode cX9_claim 155 = .ok (.iload 4, 2) := by decide +kernel
theorem dX9_claim_157 : decode cX9_claim 157 = .ok (.ifCond .ne 10, 3) := by decide +kernel
theorem dX9_claim_160 : decode cX9_claim 160 = .ok (.aload_n 0, 1) := by decide +kernel
theorem dX9_claim_161 : decode cX9_claim 161 = .ok (.iconst 2, 1) := by decide +kernel
theorem dX9_claim_162 : decode cX9_claim 162 = .ok (.invokevirtual 105, 3) := by decide +kernel
theorem dX9_claim_165 : decode cX9_claim 165 = .ok (.i2l, 1) := by decide +kernel
theorem dX9_claim_166 : decode cX9_claim 166 = .ok (.lreturn, 1) := by decide +kernel
theorem dX9_claim_167 : decode cX9_claim 167 = .ok (.aload_n 0, 1) := by decide +kernel
theorem dX9_claim_168 : decode cX9_claim 168 = .ok (.getfield 13, 3) := by decide +kernel
theorem dX9_claim_171 : decode cX9_claim 171 = .ok (.iconst 1, 1) := by decide +kernel
theorem dX9_claim_172 : decode cX9_claim 172 = .ok (.iadd, 1) := by decide +kernel
theorem dX9_claim_173 : decode cX9_claim 173 = .ok (.istore 5, 2) := by decide +kernel
theorem dX9_claim_175 : decode cX9_claim 175 = .ok (.iconst 0, 1) := by decide +kernel
theorem dX9_claim_176 : decode cX9_claim 176 = .ok (.istore 6, 2) := by decide +kernel
theorem dX9_claim_178 : decode cX9_claim 178 = .ok (.iload 6, 2) := by decide +kernel
theorem dX9_claim_180 : decode cX9_claim 180 = .ok (.iload_n 2, 1) := by decide +kernel
theorem dX9_claim_181 : decode cX9_claim 181 = .ok (.if_icmp .ge 23, 3) := by decide +kernel
theorem dX9_claim_184 : decode cX9_claim 184 = .ok (.aload_n 0, 1) := by decide +kernel
theorem dX9_claim_185 : decode cX9_claim 185 = .ok (.getfield 7, 3) := by decide +kernel
theorem dX9_claim_188 : decode cX9_claim 188 = .ok (.iload 5, 2) := by decide +kernel
theorem dX9_claim_190 : decode cX9_claim 190 = .ok (.iload 6, 2) := by decide +kernel
theorem dX9_claim_192 : decode cX9_claim 192 = .ok (.iadd, 1) := by decide +kernel
theorem dX9_claim_193 : decode cX9_claim 193 = .ok (.iconst 1, 1) := by decide +kernel
theorem dX9_claim_194 : decode cX9_claim 194 = .ok (.iload_n 1, 1) := by decide +kernel
theorem dX9_claim_195 : decode cX9_claim 195 = .ok (.iadd, 1) := by decide +kernel
theorem dX9_claim_196 : decode cX9_claim 196 = .ok (.i2b, 1) := by decide +kernel
theorem dX9_claim_197 : decode cX9_claim 197 = .ok (.bastore, 1) := by decide +kernel
theorem dX9_claim_198 : decode cX9_claim 198 = .ok (.iinc 6 1, 3) := by decide +kernel
theorem dX9_claim_201 : decode cX9_claim 201 = .ok (.goto (-23), 3) := by decide +kernel
theorem dX9_claim_204 : decode cX9_claim 204 = .ok (.aload_n 0, 1) := by decide +kernel
theorem dX9_claim_205 : decode cX9_claim 205 = .ok (.dup, 1) := by decide +kernel
theorem dX9_claim_206 : decode cX9_claim 206 = .ok (.getfield 13, 3) := by decide +kernel
theorem dX9_claim_209 : decode cX9_claim 209 = .ok (.iload_n 2, 1) := by decide +kernel
theorem dX9_claim_210 : decode cX9_claim 210 = .ok (.iadd, 1) := by decide +kernel
theorem dX9_claim_211 : decode cX9_claim 211 = .ok (.putfield 13, 3) := by decide +kernel
theorem dX9_claim_214 : decode cX9_claim 214 = .ok (.iload 5, 2) := by decide +kernel
theorem dX9_claim_216 : decode cX9_claim 216 = .ok (.i2l, 1) := by decide +kernel
theorem dX9_claim_217 : decode cX9_claim 217 = .ok (.lreturn, 1) := by decide +kernel
theorem dX9_publish_0 : decode cX9_publish 0 = .ok (.aload_n 0, 1) := by decide +kernel
theorem dX9_publish_1 : decode cX9_publish 1 = .ok (.iconst 0, 1) := by decide +kernel
theorem dX9_publish_2 : decode cX9_publish 2 = .ok (.putfield 91, 3) := by decide +kernel
theorem dX9_publish_5 : decode cX9_publish 5 = .ok (.iload_n 1, 1) := by decide +kernel
theorem dX9_publish_6 : decode cX9_publish 6 = .ok (.iconst 0, 1) := by decide +kernel
theorem dX9_publish_7 : decode cX9_publish 7 = .ok (.iconst 3, 1) := by decide +kernel
theorem dX9_publish_8 : decode cX9_publish 8 = .ok (.invokestatic 97, 3) := by decide +kernel
theorem dX9_publish_11 : decode cX9_publish 11 = .ok (.ifCond .eq 19, 3) := by decide +kernel
theorem dX9_publish_14 : decode cX9_publish 14 = .ok (.lload_n 2, 1) := by decide +kernel
theorem dX9_publish_15 : decode cX9_publish 15 = .ok (.lconst 0, 1) := by decide +kernel
theorem dX9_publish_16 : decode cX9_publish 16 = .ok (.lcmp, 1) := by decide +kernel
theorem dX9_publish_17 : decode cX9_publish 17 = .ok (.ifCond .lt 13, 3) := by decide +kernel
theorem dX9_publish_20 : decode cX9_publish 20 = .ok (.lload_n 2, 1) := by decide +kernel
theorem dX9_publish_21 : decode cX9_publish 21 = .ok (.aload_n 0, 1) := by decide +kernel
theorem dX9_publish_22 : decode cX9_publish 22 = .ok (.getfield 13, 3) := by decide +kernel
theorem dX9_publish_25 : decode cX9_publish 25 = .ok (.i2l, 1) := by decide +kernel
theorem dX9_publish_26 : decode cX9_publish 26 = .ok (.lcmp, 1) := by decide +kernel
theorem dX9_publish_27 : decode cX9_publish 27 = .ok (.ifCond .le 17, 3) := by decide +kernel
theorem dX9_publish_30 : decode cX9_publish 30 = .ok (.aload_n 0, 1) := by decide +kernel
theorem dX9_publish_31 : decode cX9_publish 31 = .ok (.iconst 1, 1) := by decide +kernel
theorem dX9_publish_32 : decode cX9_publish 32 = .ok (.invokevirtual 105, 3) := by decide +kernel
theorem dX9_publish_35 : decode cX9_publish 35 = .ok (.ifCond .le 7, 3) := by decide +kernel
theorem dX9_publish_38 : decode cX9_publish 38 = .ok (.iconst 1, 1) := by decide +kernel
theorem dX9_publish_39 : decode cX9_publish 39 = .ok (.goto 4, 3) := by decide +kernel
theorem dX9_publish_42 : decode cX9_publish 42 = .ok (.iconst 0, 1) := by decide +kernel
theorem dX9_publish_43 : decode cX9_publish 43 = .ok (.ireturn, 1) := by decide +kernel
theorem dX9_publish_44 : decode cX9_publish 44 = .ok (.lload_n 2, 1) := by decide +kernel
theorem dX9_publish_45 : decode cX9_publish 45 = .ok (.l2i, 1) := by decide +kernel
theorem dX9_publish_46 : decode cX9_publish 46 = .ok (.istore 6, 2) := by decide +kernel
theorem dX9_publish_48 : decode cX9_publish 48 = .ok (.aload_n 0, 1) := by decide +kernel
theorem dX9_publish_49 : decode cX9_publish 49 = .ok (.getfield 7, 3) := by decide +kernel
theorem dX9_publish_52 : decode cX9_publish 52 = .ok (.iload 6, 2) := by decide +kernel
theorem dX9_publish_54 : decode cX9_publish 54 = .ok (.baload, 1) := by decide +kernel
theorem dX9_publish_55 : decode cX9_publish 55 = .ok (.iconst 1, 1) := by decide +kernel
theorem dX9_publish_56 : decode cX9_publish 56 = .ok (.iload_n 1, 1) := by decide +kernel
theorem dX9_publish_57 : decode cX9_publish 57 = .ok (.iadd, 1) := by decide +kernel
theorem dX9_publish_58 : decode cX9_publish 58 = .ok (.if_icmp .eq 17, 3) := by decide +kernel
theorem dX9_publish_61 : decode cX9_publish 61 = .ok (.aload_n 0, 1) := by decide +kernel
theorem dX9_publish_62 : decode cX9_publish 62 = .ok (.iconst 1, 1) := by decide +kernel
theorem dX9_publish_63 : decode cX9_publish 63 = .ok (.invokevirtual 105, 3) := by decide +kernel
theorem dX9_publish_66 : decode cX9_publish 66 = .ok (.ifCond .le 7, 3) := by decide +kernel
theorem dX9_publish_69 : decode cX9_publish 69 = .ok (.iconst 1, 1) := by decide +kernel
theorem dX9_publish_70 : decode cX9_publish 70 = .ok (.goto 4, 3) := by decide +kernel
theorem dX9_publish_73 : decode cX9_publish 73 = .ok (.iconst 0, 1) := by decide +kernel
theorem dX9_publish_74 : decode cX9_publish 74 = .ok (.ireturn, 1) := by decide +kernel
theorem dX9_publish_75 : decode cX9_publish 75 = .ok (.aload_n 0, 1) := by decide +kernel
theorem dX9_publish_76 : decode cX9_publish 76 = .ok (.getfield 7, 3) := by decide +kernel
theorem dX9_publish_79 : decode cX9_publish 79 = .ok (.iload 6, 2) := by decide +kernel
theorem dX9_publish_81 : decode cX9_publish 81 = .ok (.dup2, 1) := by decide +kernel
theorem dX9_publish_82 : decode cX9_publish 82 = .ok (.baload, 1) := by decide +kernel
theorem dX9_publish_83 : decode cX9_publish 83 = .ok (.bipush 8, 2) := by decide +kernel
theorem dX9_publish_85 : decode cX9_publish 85 = .ok (.iadd, 1) := by decide +kernel
theorem dX9_publish_86 : decode cX9_publish 86 = .ok (.i2b, 1) := by decide +kernel
theorem dX9_publish_87 : decode cX9_publish 87 = .ok (.bastore, 1) := by decide +kernel
theorem dX9_publish_88 : decode cX9_publish 88 = .ok (.iload 6, 2) := by decide +kernel
theorem dX9_publish_90 : decode cX9_publish 90 = .ok (.aload_n 0, 1) := by decide +kernel
theorem dX9_publish_91 : decode cX9_publish 91 = .ok (.getfield 88, 3) := by decide +kernel
theorem dX9_publish_94 : decode cX9_publish 94 = .ok (.irem, 1) := by decide +kernel
theorem dX9_publish_95 : decode cX9_publish 95 = .ok (.istore 7, 2) := by decide +kernel
theorem dX9_publish_97 : decode cX9_publish 97 = .ok (.aload_n 0, 1) := by decide +kernel
theorem dX9_publish_98 : decode cX9_publish 98 = .ok (.getfield 20, 3) := by decide +kernel
theorem dX9_publish_101 : decode cX9_publish 101 = .ok (.iload 7, 2) := by decide +kernel
theorem dX9_publish_103 : decode cX9_publish 103 = .ok (.lload 4, 2) := by decide +kernel
theorem dX9_publish_105 : decode cX9_publish 105 = .ok (.lastore, 1) := by decide +kernel
theorem dX9_publish_106 : decode cX9_publish 106 = .ok (.aload_n 0, 1) := by decide +kernel
theorem dX9_publish_107 : decode cX9_publish 107 = .ok (.getfield 24, 3) := by decide +kernel
theorem dX9_publish_110 : decode cX9_publish 110 = .ok (.iload 7, 2) := by decide +kernel
theorem dX9_publish_112 : decode cX9_publish 112 = .ok (.iload_n 1, 1) := by decide +kernel
theorem dX9_publish_113 : decode cX9_publish 113 = .ok (.iastore, 1) := by decide +kernel
theorem dX9_publish_114 : decode cX9_publish 114 = .ok (.aload_n 0, 1) := by decide +kernel
theorem dX9_publish_115 : decode cX9_publish 115 = .ok (.getfield 28, 3) := by decide +kernel
theorem dX9_publish_118 : decode cX9_publish 118 = .ok (.iload 7, 2) := by decide +kernel
theorem dX9_publish_120 : decode cX9_publish 120 = .ok (.iload 6, 2) := by decide +kernel
theorem dX9_publish_122 : decode cX9_publish 122 = .ok (.iastore, 1) := by decide +kernel
theorem dX9_publish_123 : decode cX9_publish 123 = .ok (.aload_n 0, 1) := by decide +kernel
theorem dX9_publish_124 : decode cX9_publish 124 = .ok (.getfield 17, 3) := by decide +kernel
theorem dX9_publish_127 : decode cX9_publish 127 = .ok (.aload_n 0, 1) := by decide +kernel
theorem dX9_publish_128 : decode cX9_publish 128 = .ok (.getfield 13, 3) := by decide +kernel
theorem dX9_publish_131 : decode cX9_publish 131 = .ok (.if_icmp .ge 32, 3) := by decide +kernel
theorem dX9_publish_134 : decode cX9_publish 134 = .ok (.aload_n 0, 1) := by decide +kernel
theorem dX9_publish_135 : decode cX9_publish 135 = .ok (.getfield 7, 3) := by decide +kernel
theorem dX9_publish_138 : decode cX9_publish 138 = .ok (.aload_n 0, 1) := by decide +kernel
theorem dX9_publish_139 : decode cX9_publish 139 = .ok (.getfield 17, 3) := by decide +kernel
theorem dX9_publish_142 : decode cX9_publish 142 = .ok (.iconst 1, 1) := by decide +kernel
theorem dX9_publish_143 : decode cX9_publish 143 = .ok (.iadd, 1) := by decide +kernel
theorem dX9_publish_144 : decode cX9_publish 144 = .ok (.baload, 1) := by decide +kernel
theorem dX9_publish_145 : decode cX9_publish 145 = .ok (.bipush 8, 2) := by decide +kernel
theorem dX9_publish_147 : decode cX9_publish 147 = .ok (.if_icmp .le 16, 3) := by decide +kernel
theorem dX9_publish_150 : decode cX9_publish 150 = .ok (.aload_n 0, 1) := by decide +kernel
theorem dX9_publish_151 : decode cX9_publish 151 = .ok (.dup, 1) := by decide +kernel
theorem dX9_publish_152 : decode cX9_publish 152 = .ok (.getfield 17, 3) := by decide +kernel
theorem dX9_publish_155 : decode cX9_publish 155 = .ok (.iconst 1, 1) := by decide +kernel
theorem dX9_publish_156 : decode cX9_publish 156 = .ok (.iadd, 1) := by decide +kernel
theorem dX9_publish_157 : decode cX9_publish 157 = .ok (.putfield 17, 3) := by decide +kernel
theorem dX9_publish_160 : decode cX9_publish 160 = .ok (.goto (-37), 3) := by decide +kernel
theorem dX9_publish_163 : decode cX9_publish 163 = .ok (.iload 6, 2) := by decide +kernel
theorem dX9_publish_165 : decode cX9_publish 165 = .ok (.aload_n 0, 1) := by decide +kernel
theorem dX9_publish_166 : decode cX9_publish 166 = .ok (.getfield 17, 3) := by decide +kernel
theorem dX9_publish_169 : decode cX9_publish 169 = .ok (.if_icmp .gt 7, 3) := by decide +kernel
theorem dX9_publish_172 : decode cX9_publish 172 = .ok (.iconst 1, 1) := by decide +kernel
theorem dX9_publish_173 : decode cX9_publish 173 = .ok (.goto 4, 3) := by decide +kernel
theorem dX9_publish_176 : decode cX9_publish 176 = .ok (.iconst 0, 1) := by decide +kernel
theorem dX9_publish_177 : decode cX9_publish 177 = .ok (.ireturn, 1) := by decide +kernel
theorem dX9_put_0 : decode cX9_put 0 = .ok (.aload_n 0, 1) := by decide +kernel
theorem dX9_put_1 : decode cX9_put 1 = .ok (.getfield 85, 3) := by decide +kernel
theorem dX9_put_4 : decode cX9_put 4 = .ok (.sipush 400, 3) := by decide +kernel
theorem dX9_put_7 : decode cX9_put 7 = .ok (.iload_n 1, 1) := by decide +kernel
theorem dX9_put_8 : decode cX9_put 8 = .ok (.imul, 1) := by decide +kernel
theorem dX9_put_9 : decode cX9_put 9 = .ok (.aload_n 0, 1) := by decide +kernel
theorem dX9_put_10 : decode cX9_put 10 = .ok (.getfield 82, 3) := by decide +kernel
theorem dX9_put_13 : decode cX9_put 13 = .ok (.iload_n 1, 1) := by decide +kernel
theorem dX9_put_14 : decode cX9_put 14 = .ok (.iaload, 1) := by decide +kernel
theorem dX9_put_15 : decode cX9_put 15 = .ok (.iadd, 1) := by decide +kernel
theorem dX9_put_16 : decode cX9_put 16 = .ok (.iload_n 2, 1) := by decide +kernel
theorem dX9_put_17 : decode cX9_put 17 = .ok (.sipush 255, 3) := by decide +kernel
theorem dX9_put_20 : decode cX9_put 20 = .ok (.iand, 1) := by decide +kernel
theorem dX9_put_21 : decode cX9_put 21 = .ok (.iastore, 1) := by decide +kernel
theorem dX9_put_22 : decode cX9_put 22 = .ok (.aload_n 0, 1) := by decide +kernel
theorem dX9_put_23 : decode cX9_put 23 = .ok (.getfield 82, 3) := by decide +kernel
theorem dX9_put_26 : decode cX9_put 26 = .ok (.iload_n 1, 1) := by decide +kernel
theorem dX9_put_27 : decode cX9_put 27 = .ok (.dup2, 1) := by decide +kernel
theorem dX9_put_28 : decode cX9_put 28 = .ok (.iaload, 1) := by decide +kernel
theorem dX9_put_29 : decode cX9_put 29 = .ok (.iconst 1, 1) := by decide +kernel
theorem dX9_put_30 : decode cX9_put 30 = .ok (.iadd, 1) := by decide +kernel
theorem dX9_put_31 : decode cX9_put 31 = .ok (.iastore, 1) := by decide +kernel
theorem dX9_put_32 : decode cX9_put 32 = .ok (.return_, 1) := by decide +kernel
theorem dX9_record_0 : decode cX9_record 0 = .ok (.sipush 400, 3) := by decide +kernel
theorem dX9_record_3 : decode cX9_record 3 = .ok (.iload_n 1, 1) := by decide +kernel
theorem dX9_record_4 : decode cX9_record 4 = .ok (.imul, 1) := by decide +kernel
theorem dX9_record_5 : decode cX9_record 5 = .ok (.aload_n 0, 1) := by decide +kernel
theorem dX9_record_6 : decode cX9_record 6 = .ok (.getfield 82, 3) := by decide +kernel
theorem dX9_record_9 : decode cX9_record 9 = .ok (.iload_n 1, 1) := by decide +kernel
theorem dX9_record_10 : decode cX9_record 10 = .ok (.iaload, 1) := by decide +kernel
theorem dX9_record_11 : decode cX9_record 11 = .ok (.iadd, 1) := by decide +kernel
theorem dX9_record_12 : decode cX9_record 12 = .ok (.istore_n 3, 1) := by decide +kernel
theorem dX9_record_13 : decode cX9_record 13 = .ok (.aload_n 0, 1) := by decide +kernel
theorem dX9_record_14 : decode cX9_record 14 = .ok (.getfield 20, 3) := by decide +kernel
theorem dX9_record_17 : decode cX9_record 17 = .ok (.iload_n 2, 1) := by decide +kernel
theorem dX9_record_18 : decode cX9_record 18 = .ok (.aload_n 0, 1) := by decide +kernel
theorem dX9_record_19 : decode cX9_record 19 = .ok (.getfield 88, 3) := by decide +kernel
theorem dX9_record_22 : decode cX9_record 22 = .ok (.irem, 1) := by decide +kernel
theorem dX9_record_23 : decode cX9_record 23 = .ok (.laload, 1) := by decide +kernel
theorem dX9_record_24 : decode cX9_record 24 = .ok (.lstore 4, 2) := by decide +kernel
theorem dX9_record_26 : decode cX9_record 26 = .ok (.aload_n 0, 1) := by decide +kernel
theorem dX9_record_27 : decode cX9_record 27 = .ok (.iload_n 1, 1) := by decide +kernel
theorem dX9_record_28 : decode cX9_record 28 = .ok (.bipush 13, 2) := by decide +kernel
theorem dX9_record_30 : decode cX9_record 30 = .ok (.invokevirtual 111, 3) := by decide +kernel
theorem dX9_record_33 : decode cX9_record 33 = .ok (.aload_n 0, 1) := by decide +kernel
theorem dX9_record_34 : decode cX9_record 34 = .ok (.iload_n 1, 1) := by decide +kernel
theorem dX9_record_35 : decode cX9_record 35 = .ok (.iload_n 2, 1) := by decide +kernel
theorem dX9_record_36 : decode cX9_record 36 = .ok (.bipush 8, 2) := by decide +kernel
theorem dX9_record_38 : decode cX9_record 38 = .ok (.ishr, 1) := by decide +kernel
theorem dX9_record_39 : decode cX9_record 39 = .ok (.invokevirtual 111, 3) := by decide +kernel
theorem dX9_record_42 : decode cX9_record 42 = .ok (.aload_n 0, 1) := by decide +kernel
theorem dX9_record_43 : decode cX9_record 43 = .ok (.iload_n 1, 1) := by decide +kernel
theorem dX9_record_44 : decode cX9_record 44 = .ok (.iload_n 2, 1) := by decide +kernel
theorem dX9_record_45 : decode cX9_record 45 = .ok (.invokevirtual 111, 3) := by decide +kernel
theorem dX9_record_48 : decode cX9_record 48 = .ok (.bipush 7, 2) := by decide +kernel
theorem dX9_record_50 : decode cX9_record 50 = .ok (.istore 6, 2) := by decide +kernel
theorem dX9_record_52 : decode cX9_record 52 = .ok (.iload 6, 2) := by decide +kernel
theorem dX9_record_54 : decode cX9_record 54 = .ok (.ifCond .lt 23, 3) := by decide +kernel
theorem dX9_record_57 : decode cX9_record 57 = .ok (.aload_n 0, 1) := by decide +kernel
theorem dX9_record_58 : decode cX9_record 58 = .ok (.iload_n 1, 1) := by decide +kernel
theorem dX9_record_59 : decode cX9_record 59 = .ok (.lload 4, 2) := by decide +kernel
theorem dX9_record_61 : decode cX9_record 61 = .ok (.bipush 8, 2) := by decide +kernel
theorem dX9_record_63 : decode cX9_record 63 = .ok (.iload 6, 2) := by decide +kernel
theorem dX9_record_65 : decode cX9_record 65 = .ok (.imul, 1) := by decide +kernel
theorem dX9_record_66 : decode cX9_record 66 = .ok (.lshr, 1) := by decide +kernel
theorem dX9_record_67 : decode cX9_record 67 = .ok (.l2i, 1) := by decide +kernel
theorem dX9_record_68 : decode cX9_record 68 = .ok (.invokevirtual 111, 3) := by decide +kernel
theorem dX9_record_71 : decode cX9_record 71 = .ok (.iinc 6 (-1), 3) := by decide +kernel
theorem dX9_record_74 : decode cX9_record 74 = .ok (.goto (-22), 3) := by decide +kernel
theorem dX9_record_77 : decode cX9_record 77 = .ok (.aload_n 0, 1) := by decide +kernel
theorem dX9_record_78 : decode cX9_record 78 = .ok (.iload_n 1, 1) := by decide +kernel
theorem dX9_record_79 : decode cX9_record 79 = .ok (.aload_n 0, 1) := by decide +kernel
theorem dX9_record_80 : decode cX9_record 80 = .ok (.getfield 24, 3) := by decide +kernel
theorem dX9_record_83 : decode cX9_record 83 = .ok (.iload_n 2, 1) := by decide +kernel
theorem dX9_record_84 : decode cX9_record 84 = .ok (.aload_n 0, 1) := by decide +kernel
theorem dX9_record_85 : decode cX9_record 85 = .ok (.getfield 88, 3) := by decide +kernel
theorem dX9_record_88 : decode cX9_record 88 = .ok (.irem, 1) := by decide +kernel
theorem dX9_record_89 : decode cX9_record 89 = .ok (.iaload, 1) := by decide +kernel
theorem dX9_record_90 : decode cX9_record 90 = .ok (.invokevirtual 111, 3) := by decide +kernel
theorem dX9_record_93 : decode cX9_record 93 = .ok (.iconst 0, 1) := by decide +kernel
theorem dX9_record_94 : decode cX9_record 94 = .ok (.istore 6, 2) := by decide +kernel
theorem dX9_record_96 : decode cX9_record 96 = .ok (.iconst 0, 1) := by decide +kernel
theorem dX9_record_97 : decode cX9_record 97 = .ok (.istore 7, 2) := by decide +kernel
theorem dX9_record_99 : decode cX9_record 99 = .ok (.iload 7, 2) := by decide +kernel
theorem dX9_record_101 : decode cX9_record 101 = .ok (.bipush 12, 2) := by decide +kernel
theorem dX9_record_103 : decode cX9_record 103 = .ok (.if_icmp .ge 23, 3) := by decide +kernel
theorem dX9_record_106 : decode cX9_record 106 = .ok (.iload 6, 2) := by decide +kernel
theorem dX9_record_108 : decode cX9_record 108 = .ok (.aload_n 0, 1) := by decide +kernel
theorem dX9_record_109 : decode cX9_record 109 = .ok (.getfield 85, 3) := by decide +kernel
theorem dX9_record_112 : decode cX9_record 112 = .ok (.iload_n 3, 1) := by decide +kernel
theorem dX9_record_113 : decode cX9_record 113 = .ok (.iload 7, 2) := by decide +kernel
theorem dX9_record_115 : decode cX9_record 115 = .ok (.iadd, 1) := by decide +kernel
theorem dX9_record_116 : decode cX9_record 116 = .ok (.iaload, 1) := by decide +kernel
theorem dX9_record_117 : decode cX9_record 117 = .ok (.iadd, 1) := by decide +kernel
theorem dX9_record_118 : decode cX9_record 118 = .ok (.istore 6, 2) := by decide +kernel
theorem dX9_record_120 : decode cX9_record 120 = .ok (.iinc 7 1, 3) := by decide +kernel
theorem dX9_record_123 : decode cX9_record 123 = .ok (.goto (-24), 3) := by decide +kernel
theorem dX9_record_126 : decode cX9_record 126 = .ok (.aload_n 0, 1) := by decide +kernel
theorem dX9_record_127 : decode cX9_record 127 = .ok (.iload_n 1, 1) := by decide +kernel
theorem dX9_record_128 : decode cX9_record 128 = .ok (.iload 6, 2) := by decide +kernel
theorem dX9_record_130 : decode cX9_record 130 = .ok (.invokevirtual 111, 3) := by decide +kernel
theorem dX9_record_133 : decode cX9_record 133 = .ok (.return_, 1) := by decide +kernel
theorem dX9_handles_0 : decode cX9_handles 0 = .ok (.aload_n 0, 1) := by decide +kernel
theorem dX9_handles_1 : decode cX9_handles 1 = .ok (.getfield 20, 3) := by decide +kernel
theorem dX9_handles_4 : decode cX9_handles 4 = .ok (.iload_n 2, 1) := by decide +kernel
theorem dX9_handles_5 : decode cX9_handles 5 = .ok (.aload_n 0, 1) := by decide +kernel
theorem dX9_handles_6 : decode cX9_handles 6 = .ok (.getfield 88, 3) := by decide +kernel
theorem dX9_handles_9 : decode cX9_handles 9 = .ok (.irem, 1) := by decide +kernel
theorem dX9_handles_10 : decode cX9_handles 10 = .ok (.laload, 1) := by decide +kernel
theorem dX9_handles_11 : decode cX9_handles 11 = .ok (.lstore_n 3, 1) := by decide +kernel
theorem dX9_handles_12 : decode cX9_handles 12 = .ok (.aload_n 0, 1) := by decide +kernel
theorem dX9_handles_13 : decode cX9_handles 13 = .ok (.getfield 31, 3) := by decide +kernel
theorem dX9_handles_16 : decode cX9_handles 16 = .ok (.iload_n 1, 1) := by decide +kernel
theorem dX9_handles_17 : decode cX9_handles 17 = .ok (.iaload, 1) := by decide +kernel
theorem dX9_handles_18 : decode cX9_handles 18 = .ok (.ifCond .ne 14, 3) := by decide +kernel
theorem dX9_handles_21 : decode cX9_handles 21 = .ok (.lload_n 3, 1) := by decide +kernel
theorem dX9_handles_22 : decode cX9_handles 22 = .ok (.ldc2_w 115, 3) := by decide +kernel
theorem dX9_handles_25 : decode cX9_handles 25 = .ok (.lcmp, 1) := by decide +kernel
theorem dX9_handles_26 : decode cX9_handles 26 = .ok (.ifCond .ne 14, 3) := by decide +kernel
theorem dX9_handles_29 : decode cX9_handles 29 = .ok (.goto 9, 3) := by decide +kernel
theorem dX9_handles_32 : decode cX9_handles 32 = .ok (.lload_n 3, 1) := by decide +kernel
theorem dX9_handles_33 : decode cX9_handles 33 = .ok (.lconst 0, 1) := by decide +kernel
theorem dX9_handles_34 : decode cX9_handles 34 = .ok (.lcmp, 1) := by decide +kernel
theorem dX9_handles_35 : decode cX9_handles 35 = .ok (.ifCond .ge 5, 3) := by decide +kernel
theorem dX9_handles_38 : decode cX9_handles 38 = .ok (.iconst 0, 1) := by decide +kernel
theorem dX9_handles_39 : decode cX9_handles 39 = .ok (.ireturn, 1) := by decide +kernel
theorem dX9_handles_40 : decode cX9_handles 40 = .ok (.aload_n 0, 1) := by decide +kernel
theorem dX9_handles_41 : decode cX9_handles 41 = .ok (.getfield 31, 3) := by decide +kernel
theorem dX9_handles_44 : decode cX9_handles 44 = .ok (.iload_n 1, 1) := by decide +kernel
theorem dX9_handles_45 : decode cX9_handles 45 = .ok (.iaload, 1) := by decide +kernel
theorem dX9_handles_46 : decode cX9_handles 46 = .ok (.iconst 3, 1) := by decide +kernel
theorem dX9_handles_47 : decode cX9_handles 47 = .ok (.if_icmp .ne 20, 3) := by decide +kernel
theorem dX9_handles_50 : decode cX9_handles 50 = .ok (.aload_n 0, 1) := by decide +kernel
theorem dX9_handles_51 : decode cX9_handles 51 = .ok (.getfield 82, 3) := by decide +kernel
theorem dX9_handles_54 : decode cX9_handles 54 = .ok (.iload_n 1, 1) := by decide +kernel
theorem dX9_handles_55 : decode cX9_handles 55 = .ok (.iaload, 1) := by decide +kernel
theorem dX9_handles_56 : decode cX9_handles 56 = .ok (.bipush 13, 2) := by decide +kernel
theorem dX9_handles_58 : decode cX9_handles 58 = .ok (.iadd, 1) := by decide +kernel
theorem dX9_handles_59 : decode cX9_handles 59 = .ok (.sipush 400, 3) := by decide +kernel
theorem dX9_handles_62 : decode cX9_handles 62 = .ok (.if_icmp .le 5, 3) := by decide +kernel
theorem dX9_handles_65 : decode cX9_handles 65 = .ok (.iconst 0, 1) := by decide +kernel
theorem dX9_handles_66 : decode cX9_handles 66 = .ok (.ireturn, 1) := by decide +kernel
theorem dX9_handles_67 : decode cX9_handles 67 = .ok (.aload_n 0, 1) := by decide +kernel
theorem dX9_handles_68 : decode cX9_handles 68 = .ok (.getfield 50, 3) := by decide +kernel
theorem dX9_handles_71 : decode cX9_handles 71 = .ok (.iload_n 1, 1) := by decide +kernel
theorem dX9_handles_72 : decode cX9_handles 72 = .ok (.dup2, 1) := by decide +kernel
theorem dX9_handles_73 : decode cX9_handles 73 = .ok (.iaload, 1) := by decide +kernel
theorem dX9_handles_74 : decode cX9_handles 74 = .ok (.iconst 1, 1) := by decide +kernel
theorem dX9_handles_75 : decode cX9_handles 75 = .ok (.iadd, 1) := by decide +kernel
theorem dX9_handles_76 : decode cX9_handles 76 = .ok (.iastore, 1) := by decide +kernel
theorem dX9_handles_77 : decode cX9_handles 77 = .ok (.aload_n 0, 1) := by decide +kernel
theorem dX9_handles_78 : decode cX9_handles 78 = .ok (.getfield 31, 3) := by decide +kernel
theorem dX9_handles_81 : decode cX9_handles 81 = .ok (.iload_n 1, 1) := by decide +kernel
theorem dX9_handles_82 : decode cX9_handles 82 = .ok (.iaload, 1) := by decide +kernel
theorem dX9_handles_83 : decode cX9_handles 83 = .ok (.ifCond .ne 17, 3) := by decide +kernel
theorem dX9_handles_86 : decode cX9_handles 86 = .ok (.aload_n 0, 1) := by decide +kernel
theorem dX9_handles_87 : decode cX9_handles 87 = .ok (.getfield 71, 3) := by decide +kernel
theorem dX9_handles_90 : decode cX9_handles 90 = .ok (.iload_n 1, 1) := by decide +kernel
theorem dX9_handles_91 : decode cX9_handles 91 = .ok (.aload_n 0, 1) := by decide +kernel
theorem dX9_handles_92 : decode cX9_handles 92 = .ok (.getfield 71, 3) := by decide +kernel
theorem dX9_handles_95 : decode cX9_handles 95 = .ok (.iload_n 1, 1) := by decide +kernel
theorem dX9_handles_96 : decode cX9_handles 96 = .ok (.laload, 1) := by decide +kernel
theorem dX9_handles_97 : decode cX9_handles 97 = .ok (.lload_n 3, 1) := by decide +kernel
theorem dX9_handles_98 : decode cX9_handles 98 = .ok (.ladd, 1) := by decide +kernel
theorem dX9_handles_99 : decode cX9_handles 99 = .ok (.lastore, 1) := by decide +kernel
theorem dX9_handles_100 : decode cX9_handles 100 = .ok (.aload_n 0, 1) := by decide +kernel
theorem dX9_handles_101 : decode cX9_handles 101 = .ok (.getfield 31, 3) := by decide +kernel
theorem dX9_handles_104 : decode cX9_handles 104 = .ok (.iload_n 1, 1) := by decide +kernel
theorem dX9_handles_105 : decode cX9_handles 105 = .ok (.iaload, 1) := by decide +kernel
theorem dX9_handles_106 : decode cX9_handles 106 = .ok (.iconst 1, 1) := by decide +kernel
theorem dX9_handles_107 : decode cX9_handles 107 = .ok (.if_icmp .ne 28, 3) := by decide +kernel
theorem dX9_handles_110 : decode cX9_handles 110 = .ok (.aload_n 0, 1) := by decide +kernel
theorem dX9_handles_111 : decode cX9_handles 111 = .ok (.getfield 74, 3) := by decide +kernel
theorem dX9_handles_114 : decode cX9_handles 114 = .ok (.iload_n 1, 1) := by decide +kernel
theorem dX9_handles_115 : decode cX9_handles 115 = .ok (.aload_n 0, 1) := by decide +kernel
theorem dX9_handles_116 : decode cX9_handles 116 = .ok (.getfield 74, 3) := by decide +kernel
theorem dX9_handles_119 : decode cX9_handles 119 = .ok (.iload_n 1, 1) := by decide +kernel
theorem dX9_handles_120 : decode cX9_handles 120 = .ok (.faload, 1) := by decide +kernel
theorem dX9_handles_121 : decode cX9_handles 121 = .ok (.lload_n 3, 1) := by decide +kernel
theorem dX9_handles_122 : decode cX9_handles 122 = .ok (.l2f, 1) := by decide +kernel
theorem dX9_handles_123 : decode cX9_handles 123 = .ok (.aload_n 0, 1) := by decide +kernel
theorem dX9_handles_124 : decode cX9_handles 124 = .ok (.getfield 74, 3) := by decide +kernel
theorem dX9_handles_127 : decode cX9_handles 127 = .ok (.iload_n 1, 1) := by decide +kernel
theorem dX9_handles_128 : decode cX9_handles 128 = .ok (.faload, 1) := by decide +kernel
theorem dX9_handles_129 : decode cX9_handles 129 = .ok (.fsub, 1) := by decide +kernel
theorem dX9_handles_130 : decode cX9_handles 130 = .ok (.ldc 117, 2) := by decide +kernel
theorem dX9_handles_132 : decode cX9_handles 132 = .ok (.fmul, 1) := by decide +kernel
theorem dX9_handles_133 : decode cX9_handles 133 = .ok (.fadd, 1) := by decide +kernel
theorem dX9_handles_134 : decode cX9_handles 134 = .ok (.fastore, 1) := by decide +kernel
theorem dX9_handles_135 : decode cX9_handles 135 = .ok (.aload_n 0, 1) := by decide +kernel
theorem dX9_handles_136 : decode cX9_handles 136 = .ok (.getfield 31, 3) := by decide +kernel
theorem dX9_handles_139 : decode cX9_handles 139 = .ok (.iload_n 1, 1) := by decide +kernel
theorem dX9_handles_140 : decode cX9_handles 140 = .ok (.iaload, 1) := by decide +kernel
theorem dX9_handles_141 : decode cX9_handles 141 = .ok (.iconst 2, 1) := by decide +kernel
theorem dX9_handles_142 : decode cX9_handles 142 = .ok (.if_icmp .ne 33, 3) := by decide +kernel
theorem dX9_handles_145 : decode cX9_handles 145 = .ok (.aload_n 0, 1) := by decide +kernel
theorem dX9_handles_146 : decode cX9_handles 146 = .ok (.getfield 78, 3) := by decide +kernel
theorem dX9_handles_149 : decode cX9_handles 149 = .ok (.iload_n 1, 1) := by decide +kernel
theorem dX9_handles_150 : decode cX9_handles 150 = .ok (.aload_n 0, 1) := by decide +kernel
theorem dX9_handles_151 : decode cX9_handles 151 = .ok (.getfield 78, 3) := by decide +kernel
theorem dX9_handles_154 : decode cX9_handles 154 = .ok (.iload_n 1, 1) := by decide +kernel
theorem dX9_handles_155 : decode cX9_handles 155 = .ok (.daload, 1) := by decide +kernel
theorem dX9_handles_156 : decode cX9_handles 156 = .ok (.lload_n 3, 1) := by decide +kernel
theorem dX9_handles_157 : decode cX9_handles 157 = .ok (.l2d, 1) := by decide +kernel
theorem dX9_handles_158 : decode cX9_handles 158 = .ok (.aload_n 0, 1) := by decide +kernel
theorem dX9_handles_159 : decode cX9_handles 159 = .ok (.getfield 78, 3) := by decide +kernel
theorem dX9_handles_162 : decode cX9_handles 162 = .ok (.iload_n 1, 1) := by decide +kernel
theorem dX9_handles_163 : decode cX9_handles 163 = .ok (.daload, 1) := by decide +kernel
theorem dX9_handles_164 : decode cX9_handles 164 = .ok (.dsub, 1) := by decide +kernel
theorem dX9_handles_165 : decode cX9_handles 165 = .ok (.aload_n 0, 1) := by decide +kernel
theorem dX9_handles_166 : decode cX9_handles 166 = .ok (.getfield 50, 3) := by decide +kernel
theorem dX9_handles_169 : decode cX9_handles 169 = .ok (.iload_n 1, 1) := by decide +kernel
theorem dX9_handles_170 : decode cX9_handles 170 = .ok (.iaload, 1) := by decide +kernel
theorem dX9_handles_171 : decode cX9_handles 171 = .ok (.i2d, 1) := by decide +kernel
theorem dX9_handles_172 : decode cX9_handles 172 = .ok (.ddiv, 1) := by decide +kernel
theorem dX9_handles_173 : decode cX9_handles 173 = .ok (.dadd, 1) := by decide +kernel
theorem dX9_handles_174 : decode cX9_handles 174 = .ok (.dastore, 1) := by decide +kernel
theorem dX9_handles_175 : decode cX9_handles 175 = .ok (.aload_n 0, 1) := by decide +kernel
theorem dX9_handles_176 : decode cX9_handles 176 = .ok (.getfield 31, 3) := by decide +kernel
theorem dX9_handles_179 : decode cX9_handles 179 = .ok (.iload_n 1, 1) := by decide +kernel
theorem dX9_handles_180 : decode cX9_handles 180 = .ok (.iaload, 1) := by decide +kernel
theorem dX9_handles_181 : decode cX9_handles 181 = .ok (.iconst 3, 1) := by decide +kernel
theorem dX9_handles_182 : decode cX9_handles 182 = .ok (.if_icmp .ne 9, 3) := by decide +kernel
theorem dX9_handles_185 : decode cX9_handles 185 = .ok (.aload_n 0, 1) := by decide +kernel
theorem dX9_handles_186 : decode cX9_handles 186 = .ok (.iload_n 1, 1) := by decide +kernel
theorem dX9_handles_187 : decode cX9_handles 187 = .ok (.iload_n 2, 1) := by decide +kernel
theorem dX9_handles_188 : decode cX9_handles 188 = .ok (.invokevirtual 118, 3) := by decide +kernel
theorem dX9_handles_191 : decode cX9_handles 191 = .ok (.iconst 1, 1) := by decide +kernel
theorem dX9_handles_192 : decode cX9_handles 192 = .ok (.ireturn, 1) := by decide +kernel
theorem dX9_answer_0 : decode cX9_answer 0 = .ok (.aload_n 0, 1) := by decide +kernel
theorem dX9_answer_1 : decode cX9_answer 1 = .ok (.getfield 37, 3) := by decide +kernel
theorem dX9_answer_4 : decode cX9_answer 4 = .ok (.iload_n 1, 1) := by decide +kernel
theorem dX9_answer_5 : decode cX9_answer 5 = .ok (.iaload, 1) := by decide +kernel
theorem dX9_answer_6 : decode cX9_answer 6 = .ok (.iconst 2, 1) := by decide +kernel
theorem dX9_answer_7 : decode cX9_answer 7 = .ok (.if_icmp .eq 10, 3) := by decide +kernel
theorem dX9_answer_10 : decode cX9_answer 10 = .ok (.aload_n 0, 1) := by decide +kernel
theorem dX9_answer_11 : decode cX9_answer 11 = .ok (.getfield 37, 3) := by decide +kernel
theorem dX9_answer_14 : decode cX9_answer 14 = .ok (.iload_n 1, 1) := by decide +kernel
theorem dX9_answer_15 : decode cX9_answer 15 = .ok (.iaload, 1) := by decide +kernel
theorem dX9_answer_16 : decode cX9_answer 16 = .ok (.ireturn, 1) := by decide +kernel
theorem dX9_answer_17 : decode cX9_answer 17 = .ok (.aload_n 0, 1) := by decide +kernel
theorem dX9_answer_18 : decode cX9_answer 18 = .ok (.getfield 62, 3) := by decide +kernel
theorem dX9_answer_21 : decode cX9_answer 21 = .ok (.iload_n 1, 1) := by decide +kernel
theorem dX9_answer_22 : decode cX9_answer 22 = .ok (.aload_n 0, 1) := by decide +kernel
theorem dX9_answer_23 : decode cX9_answer 23 = .ok (.getfield 59, 3) := by decide +kernel
theorem dX9_answer_26 : decode cX9_answer 26 = .ok (.iload_n 1, 1) := by decide +kernel
theorem dX9_answer_27 : decode cX9_answer 27 = .ok (.iaload, 1) := by decide +kernel
theorem dX9_answer_28 : decode cX9_answer 28 = .ok (.iload_n 2, 1) := by decide +kernel
theorem dX9_answer_29 : decode cX9_answer 29 = .ok (.if_icmp .ne 14, 3) := by decide +kernel
theorem dX9_answer_32 : decode cX9_answer 32 = .ok (.aload_n 0, 1) := by decide +kernel
theorem dX9_answer_33 : decode cX9_answer 33 = .ok (.getfield 62, 3) := by decide +kernel
theorem dX9_answer_36 : decode cX9_answer 36 = .ok (.iload_n 1, 1) := by decide +kernel
theorem dX9_answer_37 : decode cX9_answer 37 = .ok (.iaload, 1) := by decide +kernel
theorem dX9_answer_38 : decode cX9_answer 38 = .ok (.iconst 1, 1) := by decide +kernel
theorem dX9_answer_39 : decode cX9_answer 39 = .ok (.iadd, 1) := by decide +kernel
theorem dX9_answer_40 : decode cX9_answer 40 = .ok (.goto 4, 3) := by decide +kernel
theorem dX9_answer_43 : decode cX9_answer 43 = .ok (.iconst 1, 1) := by decide +kernel
theorem dX9_answer_44 : decode cX9_answer 44 = .ok (.iastore, 1) := by decide +kernel
theorem dX9_answer_45 : decode cX9_answer 45 = .ok (.aload_n 0, 1) := by decide +kernel
theorem dX9_answer_46 : decode cX9_answer 46 = .ok (.getfield 59, 3) := by decide +kernel
theorem dX9_answer_49 : decode cX9_answer 49 = .ok (.iload_n 1, 1) := by decide +kernel
theorem dX9_answer_50 : decode cX9_answer 50 = .ok (.iload_n 2, 1) := by decide +kernel
theorem dX9_answer_51 : decode cX9_answer 51 = .ok (.iastore, 1) := by decide +kernel
theorem dX9_answer_52 : decode cX9_answer 52 = .ok (.aload_n 0, 1) := by decide +kernel
theorem dX9_answer_53 : decode cX9_answer 53 = .ok (.getfield 62, 3) := by decide +kernel
theorem dX9_answer_56 : decode cX9_answer 56 = .ok (.iload_n 1, 1) := by decide +kernel
theorem dX9_answer_57 : decode cX9_answer 57 = .ok (.iaload, 1) := by decide +kernel
theorem dX9_answer_58 : decode cX9_answer 58 = .ok (.iconst 3, 1) := by decide +kernel
theorem dX9_answer_59 : decode cX9_answer 59 = .ok (.if_icmp .ge 5, 3) := by decide +kernel
theorem dX9_answer_62 : decode cX9_answer 62 = .ok (.iconst 2, 1) := by decide +kernel
theorem dX9_answer_63 : decode cX9_answer 63 = .ok (.ireturn, 1) := by decide +kernel
theorem dX9_answer_64 : decode cX9_answer 64 = .ok (.aload_n 0, 1) := by decide +kernel
theorem dX9_answer_65 : decode cX9_answer 65 = .ok (.getfield 62, 3) := by decide +kernel
theorem dX9_answer_68 : decode cX9_answer 68 = .ok (.iload_n 1, 1) := by decide +kernel
theorem dX9_answer_69 : decode cX9_answer 69 = .ok (.iconst 0, 1) := by decide +kernel
theorem dX9_answer_70 : decode cX9_answer 70 = .ok (.iastore, 1) := by decide +kernel
theorem dX9_answer_71 : decode cX9_answer 71 = .ok (.iconst 0, 1) := by decide +kernel
theorem dX9_answer_72 : decode cX9_answer 72 = .ok (.ireturn, 1) := by decide +kernel
theorem dX9_batch_0 : decode cX9_batch 0 = .ok (.aload_n 0, 1) := by decide +kernel
theorem dX9_batch_1 : decode cX9_batch 1 = .ok (.iload_n 1, 1) := by decide +kernel
theorem dX9_batch_2 : decode cX9_batch 2 = .ok (.invokevirtual 121, 3) := by decide +kernel
theorem dX9_batch_5 : decode cX9_batch 5 = .ok (.istore_n 3, 1) := by decide +kernel
theorem dX9_batch_6 : decode cX9_batch 6 = .ok (.aload_n 0, 1) := by decide +kernel
theorem dX9_batch_7 : decode cX9_batch 7 = .ok (.getfield 43, 3) := by decide +kernel
theorem dX9_batch_10 : decode cX9_batch 10 = .ok (.iload_n 1, 1) := by decide +kernel
theorem dX9_batch_11 : decode cX9_batch 11 = .ok (.iaload, 1) := by decide +kernel
theorem dX9_batch_12 : decode cX9_batch 12 = .ok (.istore 4, 2) := by decide +kernel
theorem dX9_batch_14 : decode cX9_batch 14 = .ok (.aload_n 0, 1) := by decide +kernel
theorem dX9_batch_15 : decode cX9_batch 15 = .ok (.getfield 71, 3) := by decide +kernel
theorem dX9_batch_18 : decode cX9_batch 18 = .ok (.iload_n 1, 1) := by decide +kernel
theorem dX9_batch_19 : decode cX9_batch 19 = .ok (.laload, 1) := by decide +kernel
theorem dX9_batch_20 : decode cX9_batch 20 = .ok (.lstore 5, 2) := by decide +kernel
theorem dX9_batch_22 : decode cX9_batch 22 = .ok (.aload_n 0, 1) := by decide +kernel
theorem dX9_batch_23 : decode cX9_batch 23 = .ok (.getfield 74, 3) := by decide +kernel
theorem dX9_batch_26 : decode cX9_batch 26 = .ok (.iload_n 1, 1) := by decide +kernel
theorem dX9_batch_27 : decode cX9_batch 27 = .ok (.faload, 1) := by decide +kernel
theorem dX9_batch_28 : decode cX9_batch 28 = .ok (.fstore 7, 2) := by decide +kernel
theorem dX9_batch_30 : decode cX9_batch 30 = .ok (.aload_n 0, 1) := by decide +kernel
theorem dX9_batch_31 : decode cX9_batch 31 = .ok (.getfield 78, 3) := by decide +kernel
theorem dX9_batch_34 : decode cX9_batch 34 = .ok (.iload_n 1, 1) := by decide +kernel
theorem dX9_batch_35 : decode cX9_batch 35 = .ok (.daload, 1) := by decide +kernel
theorem dX9_batch_36 : decode cX9_batch 36 = .ok (.dstore 8, 2) := by decide +kernel
theorem dX9_batch_38 : decode cX9_batch 38 = .ok (.aload_n 0, 1) := by decide +kernel
theorem dX9_batch_39 : decode cX9_batch 39 = .ok (.getfield 82, 3) := by decide +kernel
theorem dX9_batch_42 : decode cX9_batch 42 = .ok (.iload_n 1, 1) := by decide +kernel
theorem dX9_batch_43 : decode cX9_batch 43 = .ok (.iaload, 1) := by decide +kernel
theorem dX9_batch_44 : decode cX9_batch 44 = .ok (.istore 10, 2) := by decide +kernel
theorem dX9_batch_46 : decode cX9_batch 46 = .ok (.aload_n 0, 1) := by decide +kernel
theorem dX9_batch_47 : decode cX9_batch 47 = .ok (.getfield 50, 3) := by decide +kernel
theorem dX9_batch_50 : decode cX9_batch 50 = .ok (.iload_n 1, 1) := by decide +kernel
theorem dX9_batch_51 : decode cX9_batch 51 = .ok (.iaload, 1) := by decide +kernel
theorem dX9_batch_52 : decode cX9_batch 52 = .ok (.istore 11, 2) := by decide +kernel
theorem dX9_batch_54 : decode cX9_batch 54 = .ok (.aload_n 0, 1) := by decide +kernel
theorem dX9_batch_55 : decode cX9_batch 55 = .ok (.getfield 53, 3) := by decide +kernel
theorem dX9_batch_58 : decode cX9_batch 58 = .ok (.iload_n 1, 1) := by decide +kernel
theorem dX9_batch_59 : decode cX9_batch 59 = .ok (.iaload, 1) := by decide +kernel
theorem dX9_batch_60 : decode cX9_batch 60 = .ok (.istore 12, 2) := by decide +kernel
theorem dX9_batch_62 : decode cX9_batch 62 = .ok (.iconst 0, 1) := by decide +kernel
theorem dX9_batch_63 : decode cX9_batch 63 = .ok (.istore 13, 2) := by decide +kernel
theorem dX9_batch_65 : decode cX9_batch 65 = .ok (.iload 13, 2) := by decide +kernel
theorem dX9_batch_67 : decode cX9_batch 67 = .ok (.iload_n 2, 1) := by decide +kernel
theorem dX9_batch_68 : decode cX9_batch 68 = .ok (.if_icmp .ge 204, 3) := by decide +kernel
theorem dX9_batch_71 : decode cX9_batch 71 = .ok (.aload_n 0, 1) := by decide +kernel
theorem dX9_batch_72 : decode cX9_batch 72 = .ok (.getfield 43, 3) := by decide +kernel
theorem dX9_batch_75 : decode cX9_batch 75 = .ok (.iload_n 1, 1) := by decide +kernel
theorem dX9_batch_76 : decode cX9_batch 76 = .ok (.iaload, 1) := by decide +kernel
theorem dX9_batch_77 : decode cX9_batch 77 = .ok (.iload_n 3, 1) := by decide +kernel
theorem dX9_batch_78 : decode cX9_batch 78 = .ok (.if_icmp .ge 194, 3) := by decide +kernel
theorem dX9_batch_81 : decode cX9_batch 81 = .ok (.aload_n 0, 1) := by decide +kernel
theorem dX9_batch_82 : decode cX9_batch 82 = .ok (.getfield 46, 3) := by decide +kernel
theorem dX9_batch_85 : decode cX9_batch 85 = .ok (.iload_n 1, 1) := by decide +kernel
theorem dX9_batch_86 : decode cX9_batch 86 = .ok (.baload, 1) := by decide +kernel
theorem dX9_batch_87 : decode cX9_batch 87 = .ok (.ifCond .ne 185, 3) := by decide +kernel
theorem dX9_batch_90 : decode cX9_batch 90 = .ok (.aload_n 0, 1) := by decide +kernel
theorem dX9_batch_91 : decode cX9_batch 91 = .ok (.getfield 43, 3) := by decide +kernel
theorem dX9_batch_94 : decode cX9_batch 94 = .ok (.iload_n 1, 1) := by decide +kernel
theorem dX9_batch_95 : decode cX9_batch 95 = .ok (.iaload, 1) := by decide +kernel
theorem dX9_batch_96 : decode cX9_batch 96 = .ok (.iconst 1, 1) := by decide +kernel
theorem dX9_batch_97 : decode cX9_batch 97 = .ok (.iadd, 1) := by decide +kernel
theorem dX9_batch_98 : decode cX9_batch 98 = .ok (.istore 14, 2) := by decide +kernel
theorem dX9_batch_100 : decode cX9_batch 100 = .ok (.aload_n 0, 1) := by decide +kernel
theorem dX9_batch_101 : decode cX9_batch 101 = .ok (.iload_n 1, 1) := by decide +kernel
theorem dX9_batch_102 : decode cX9_batch 102 = .ok (.iload 14, 2) := by decide +kernel
theorem dX9_batch_104 : decode cX9_batch 104 = .ok (.invokevirtual 124, 3) := by decide +kernel
theorem dX9_batch_107 : decode cX9_batch 107 = .ok (.ifCond .eq 7, 3) := by decide +kernel
theorem dX9_batch_110 : decode cX9_batch 110 = .ok (.iconst (-1), 1) := by decide +kernel
theorem dX9_batch_111 : decode cX9_batch 111 = .ok (.goto 10, 3) := by decide +kernel
theorem dX9_batch_114 : decode cX9_batch 114 = .ok (.aload_n 0, 1) := by decide +kernel
theorem dX9_batch_115 : decode cX9_batch 115 = .ok (.iload_n 1, 1) := by decide +kernel
theorem dX9_batch_116 : decode cX9_batch 116 = .ok (.iload 14, 2) := by decide +kernel
theorem dX9_batch_118 : decode cX9_batch 118 = .ok (.invokevirtual 128, 3) := by decide +kernel
theorem dX9_batch_121 : decode cX9_batch 121 = .ok (.istore 15, 2) := by decide +kernel
theorem dX9_batch_123 : decode cX9_batch 123 = .ok (.iload 15, 2) := by decide +kernel
theorem dX9_batch_125 : decode cX9_batch 125 = .ok (.iconst 2, 1) := by decide +kernel
theorem dX9_batch_126 : decode cX9_batch 126 = .ok (.if_icmp .ne 71, 3) := by decide +kernel
theorem dX9_batch_129 : decode cX9_batch 129 = .ok (.aload_n 0, 1) := by decide +kernel
theorem dX9_batch_130 : decode cX9_batch 130 = .ok (.getfield 43, 3) := by decide +kernel
theorem dX9_batch_133 : decode cX9_batch 133 = .ok (.iload_n 1, 1) := by decide +kernel
theorem dX9_batch_134 : decode cX9_batch 134 = .ok (.iload 4, 2) := by decide +kernel
theorem dX9_batch_136 : decode cX9_batch 136 = .ok (.iastore, 1) := by decide +kernel
theorem dX9_batch_137 : decode cX9_batch 137 = .ok (.aload_n 0, 1) := by decide +kernel
theorem dX9_batch_138 : decode cX9_batch 138 = .ok (.getfield 71, 3) := by decide +kernel
theorem dX9_batch_141 : decode cX9_batch 141 = .ok (.iload_n 1, 1) := by decide +kernel
theorem dX9_batch_142 : decode cX9_batch 142 = .ok (.lload 5, 2) := by decide +kernel
theorem dX9_batch_144 : decode cX9_batch 144 = .ok (.lastore, 1) := by decide +kernel
theorem dX9_batch_145 : decode cX9_batch 145 = .ok (.aload_n 0, 1) := by decide +kernel
theorem dX9_batch_146 : decode cX9_batch 146 = .ok (.getfield 74, 3) := by decide +kernel
theorem dX9_batch_149 : decode cX9_batch 149 = .ok (.iload_n 1, 1) := by decide +kernel
theorem dX9_batch_150 : decode cX9_batch 150 = .ok (.fload 7, 2) := by decide +kernel
theorem dX9_batch_152 : decode cX9_batch 152 = .ok (.fastore, 1) := by decide +kernel
theorem dX9_batch_153 : decode cX9_batch 153 = .ok (.aload_n 0, 1) := by decide +kernel
theorem dX9_batch_154 : decode cX9_batch 154 = .ok (.getfield 78, 3) := by decide +kernel
theorem dX9_batch_157 : decode cX9_batch 157 = .ok (.iload_n 1, 1) := by decide +kernel
theorem dX9_batch_158 : decode cX9_batch 158 = .ok (.dload 8, 2) := by decide +kernel
theorem dX9_batch_160 : decode cX9_batch 160 = .ok (.dastore, 1) := by decide +kernel
theorem dX9_batch_161 : decode cX9_batch 161 = .ok (.aload_n 0, 1) := by decide +kernel
theorem dX9_batch_162 : decode cX9_batch 162 = .ok (.getfield 82, 3) := by decide +kernel
theorem dX9_batch_165 : decode cX9_batch 165 = .ok (.iload_n 1, 1) := by decide +kernel
theorem dX9_batch_166 : decode cX9_batch 166 = .ok (.iload 10, 2) := by decide +kernel
theorem dX9_batch_168 : decode cX9_batch 168 = .ok (.iastore, 1) := by decide +kernel
theorem dX9_batch_169 : decode cX9_batch 169 = .ok (.aload_n 0, 1) := by decide +kernel
theorem dX9_batch_170 : decode cX9_batch 170 = .ok (.getfield 50, 3) := by decide +kernel
theorem dX9_batch_173 : decode cX9_batch 173 = .ok (.iload_n 1, 1) := by decide +kernel
theorem dX9_batch_174 : decode cX9_batch 174 = .ok (.iload 11, 2) := by decide +kernel
theorem dX9_batch_176 : decode cX9_batch 176 = .ok (.iastore, 1) := by decide +kernel
theorem dX9_batch_177 : decode cX9_batch 177 = .ok (.aload_n 0, 1) := by decide +kernel
theorem dX9_batch_178 : decode cX9_batch 178 = .ok (.getfield 53, 3) := by decide +kernel
theorem dX9_batch_181 : decode cX9_batch 181 = .ok (.iload_n 1, 1) := by decide +kernel
theorem dX9_batch_182 : decode cX9_batch 182 = .ok (.iload 12, 2) := by decide +kernel
theorem dX9_batch_184 : decode cX9_batch 184 = .ok (.iastore, 1) := by decide +kernel
theorem dX9_batch_185 : decode cX9_batch 185 = .ok (.aload_n 0, 1) := by decide +kernel
theorem dX9_batch_186 : decode cX9_batch 186 = .ok (.getfield 56, 3) := by decide +kernel
theorem dX9_batch_189 : decode cX9_batch 189 = .ok (.iload_n 1, 1) := by decide +kernel
theorem dX9_batch_190 : decode cX9_batch 190 = .ok (.dup2, 1) := by decide +kernel
theorem dX9_batch_191 : decode cX9_batch 191 = .ok (.iaload, 1) := by decide +kernel
theorem dX9_batch_192 : decode cX9_batch 192 = .ok (.iconst 1, 1) := by decide +kernel
theorem dX9_batch_193 : decode cX9_batch 193 = .ok (.iadd, 1) := by decide +kernel
theorem dX9_batch_194 : decode cX9_batch 194 = .ok (.iastore, 1) := by decide +kernel
theorem dX9_batch_195 : decode cX9_batch 195 = .ok (.iconst (-1), 1) := by decide +kernel
theorem dX9_batch_196 : decode cX9_batch 196 = .ok (.ireturn, 1) := by decide +kernel
theorem dX9_batch_197 : decode cX9_batch 197 = .ok (.aload_n 0, 1) := by decide +kernel
theorem dX9_batch_198 : decode cX9_batch 198 = .ok (.getfield 46, 3) := by decide +kernel
theorem dX9_batch_201 : decode cX9_batch 201 = .ok (.iload_n 1, 1) := by decide +kernel
theorem dX9_batch_202 : decode cX9_batch 202 = .ok (.iload 15, 2) := by decide +kernel
theorem dX9_batch_204 : decode cX9_batch 204 = .ok (.iconst 1, 1) := by decide +kernel
theorem dX9_batch_205 : decode cX9_batch 205 = .ok (.if_icmp .ne 7, 3) := by decide +kernel
theorem dX9_batch_208 : decode cX9_batch 208 = .ok (.iconst 1, 1) := by decide +kernel
theorem dX9_batch_209 : decode cX9_batch 209 = .ok (.goto 4, 3) := by decide +kernel
theorem dX9_batch_212 : decode cX9_batch 212 = .ok (.iconst 0, 1) := by decide +kernel
theorem dX9_batch_213 : decode cX9_batch 213 = .ok (.bastore, 1) := by decide +kernel
theorem dX9_batch_214 : decode cX9_batch 214 = .ok (.aload_n 0, 1) := by decide +kernel
theorem dX9_batch_215 : decode cX9_batch 215 = .ok (.getfield 53, 3) := by decide +kernel
theorem dX9_batch_218 : decode cX9_batch 218 = .ok (.iload_n 1, 1) := by decide +kernel
theorem dX9_batch_219 : decode cX9_batch 219 = .ok (.dup2, 1) := by decide +kernel
theorem dX9_batch_220 : decode cX9_batch 220 = .ok (.iaload, 1) := by decide +kernel
theorem dX9_batch_221 : decode cX9_batch 221 = .ok (.iload 15, 2) := by decide +kernel
theorem dX9_batch_223 : decode cX9_batch 223 = .ok (.ifCond .ne 7, 3) := by decide +kernel
theorem dX9_batch_226 : decode cX9_batch 226 = .ok (.iconst 1, 1) := by decide +kernel
theorem dX9_batch_227 : decode cX9_batch 227 = .ok (.goto 4, 3) := by decide +kernel
theorem dX9_batch_230 : decode cX9_batch 230 = .ok (.iconst 0, 1) := by decide +kernel
theorem dX9_batch_231 : decode cX9_batch 231 = .ok (.iadd, 1) := by decide +kernel
theorem dX9_batch_232 : decode cX9_batch 232 = .ok (.iastore, 1) := by decide +kernel
theorem dX9_batch_233 : decode cX9_batch 233 = .ok (.aload_n 0, 1) := by decide +kernel
theorem dX9_batch_234 : decode cX9_batch 234 = .ok (.getfield 43, 3) := by decide +kernel
theorem dX9_batch_237 : decode cX9_batch 237 = .ok (.iload_n 1, 1) := by decide +kernel
theorem dX9_batch_238 : decode cX9_batch 238 = .ok (.dup2, 1) := by decide +kernel
theorem dX9_batch_239 : decode cX9_batch 239 = .ok (.iaload, 1) := by decide +kernel
theorem dX9_batch_240 : decode cX9_batch 240 = .ok (.iload 15, 2) := by decide +kernel
theorem dX9_batch_242 : decode cX9_batch 242 = .ok (.iconst 1, 1) := by decide +kernel
theorem dX9_batch_243 : decode cX9_batch 243 = .ok (.if_icmp .ne 7, 3) := by decide +kernel
theorem dX9_batch_246 : decode cX9_batch 246 = .ok (.iconst 0, 1) := by decide +kernel
theorem dX9_batch_247 : decode cX9_batch 247 = .ok (.goto 4, 3) := by decide +kernel
theorem dX9_batch_250 : decode cX9_batch 250 = .ok (.iconst 1, 1) := by decide +kernel
theorem dX9_batch_251 : decode cX9_batch 251 = .ok (.iadd, 1) := by decide +kernel
theorem dX9_batch_252 : decode cX9_batch 252 = .ok (.iastore, 1) := by decide +kernel
theorem dX9_batch_253 : decode cX9_batch 253 = .ok (.iload 13, 2) := by decide +kernel
theorem dX9_batch_255 : decode cX9_batch 255 = .ok (.iload 15, 2) := by decide +kernel
theorem dX9_batch_257 : decode cX9_batch 257 = .ok (.iconst 1, 1) := by decide +kernel
theorem dX9_batch_258 : decode cX9_batch 258 = .ok (.if_icmp .ne 7, 3) := by decide +kernel
theorem dX9_batch_261 : decode cX9_batch 261 = .ok (.iconst 0, 1) := by decide +kernel
theorem dX9_batch_262 : decode cX9_batch 262 = .ok (.goto 4, 3) := by decide +kernel
theorem dX9_batch_265 : decode cX9_batch 265 = .ok (.iconst 1, 1) := by decide +kernel
theorem dX9_batch_266 : decode cX9_batch 266 = .ok (.iadd, 1) := by decide +kernel
theorem dX9_batch_267 : decode cX9_batch 267 = .ok (.istore 13, 2) := by decide +kernel
theorem dX9_batch_269 : decode cX9_batch 269 = .ok (.goto (-204), 3) := by decide +kernel
theorem dX9_batch_272 : decode cX9_batch 272 = .ok (.iload 13, 2) := by decide +kernel
theorem dX9_batch_274 : decode cX9_batch 274 = .ok (.ireturn, 1) := by decide +kernel
theorem dX9_work_0 : decode cX9_work 0 = .ok (.aload_n 0, 1) := by decide +kernel
theorem dX9_work_1 : decode cX9_work 1 = .ok (.iload_n 1, 1) := by decide +kernel
theorem dX9_work_2 : decode cX9_work 2 = .ok (.invokevirtual 121, 3) := by decide +kernel
theorem dX9_work_5 : decode cX9_work 5 = .ok (.istore_n 3, 1) := by decide +kernel
theorem dX9_work_6 : decode cX9_work 6 = .ok (.iconst 0, 1) := by decide +kernel
theorem dX9_work_7 : decode cX9_work 7 = .ok (.istore 4, 2) := by decide +kernel
theorem dX9_work_9 : decode cX9_work 9 = .ok (.iconst 1, 1) := by decide +kernel
theorem dX9_work_10 : decode cX9_work 10 = .ok (.istore 5, 2) := by decide +kernel
theorem dX9_work_12 : decode cX9_work 12 = .ok (.iconst 0, 1) := by decide +kernel
theorem dX9_work_13 : decode cX9_work 13 = .ok (.istore 6, 2) := by decide +kernel
theorem dX9_work_15 : decode cX9_work 15 = .ok (.iload 6, 2) := by decide +kernel
theorem dX9_work_17 : decode cX9_work 17 = .ok (.iload_n 2, 1) := by decide +kernel
theorem dX9_work_18 : decode cX9_work 18 = .ok (.if_icmp .ge 188, 3) := by decide +kernel
theorem dX9_work_21 : decode cX9_work 21 = .ok (.iload 5, 2) := by decide +kernel
theorem dX9_work_23 : decode cX9_work 23 = .ok (.ifCond .eq 183, 3) := by decide +kernel
theorem dX9_work_26 : decode cX9_work 26 = .ok (.aload_n 0, 1) := by decide +kernel
theorem dX9_work_27 : decode cX9_work 27 = .ok (.getfield 65, 3) := by decide +kernel
theorem dX9_work_30 : decode cX9_work 30 = .ok (.iload_n 1, 1) := by decide +kernel
theorem dX9_work_31 : decode cX9_work 31 = .ok (.iaload, 1) := by decide +kernel
theorem dX9_work_32 : decode cX9_work 32 = .ok (.ifCond .ge 35, 3) := by decide +kernel
theorem dX9_work_35 : decode cX9_work 35 = .ok (.aload_n 0, 1) := by decide +kernel
theorem dX9_work_36 : decode cX9_work 36 = .ok (.getfield 65, 3) := by decide +kernel
theorem dX9_work_39 : decode cX9_work 39 = .ok (.iload_n 1, 1) := by decide +kernel
theorem dX9_work_40 : decode cX9_work 40 = .ok (.aload_n 0, 1) := by decide +kernel
theorem dX9_work_41 : decode cX9_work 41 = .ok (.getfield 68, 3) := by decide +kernel
theorem dX9_work_44 : decode cX9_work 44 = .ok (.aload_n 0, 1) := by decide +kernel
theorem dX9_work_45 : decode cX9_work 45 = .ok (.getfield 40, 3) := by decide +kernel
theorem dX9_work_48 : decode cX9_work 48 = .ok (.iload_n 1, 1) := by decide +kernel
theorem dX9_work_49 : decode cX9_work 49 = .ok (.iaload, 1) := by decide +kernel
theorem dX9_work_50 : decode cX9_work 50 = .ok (.iaload, 1) := by decide +kernel
theorem dX9_work_51 : decode cX9_work 51 = .ok (.iastore, 1) := by decide +kernel
theorem dX9_work_52 : decode cX9_work 52 = .ok (.aload_n 0, 1) := by decide +kernel
theorem dX9_work_53 : decode cX9_work 53 = .ok (.getfield 68, 3) := by decide +kernel
theorem dX9_work_56 : decode cX9_work 56 = .ok (.aload_n 0, 1) := by decide +kernel
theorem dX9_work_57 : decode cX9_work 57 = .ok (.getfield 40, 3) := by decide +kernel
theorem dX9_work_60 : decode cX9_work 60 = .ok (.iload_n 1, 1) := by decide +kernel
theorem dX9_work_61 : decode cX9_work 61 = .ok (.iaload, 1) := by decide +kernel
theorem dX9_work_62 : decode cX9_work 62 = .ok (.dup2, 1) := by decide +kernel
theorem dX9_work_63 : decode cX9_work 63 = .ok (.iaload, 1) := by decide +kernel
theorem dX9_work_64 : decode cX9_work 64 = .ok (.iconst 1, 1) := by decide +kernel
theorem dX9_work_65 : decode cX9_work 65 = .ok (.iadd, 1) := by decide +kernel
theorem dX9_work_66 : decode cX9_work 66 = .ok (.iastore, 1) := by decide +kernel
theorem dX9_work_67 : decode cX9_work 67 = .ok (.aload_n 0, 1) := by decide +kernel
theorem dX9_work_68 : decode cX9_work 68 = .ok (.getfield 65, 3) := by decide +kernel
theorem dX9_work_71 : decode cX9_work 71 = .ok (.iload_n 1, 1) := by decide +kernel
theorem dX9_work_72 : decode cX9_work 72 = .ok (.iaload, 1) := by decide +kernel
theorem dX9_work_73 : decode cX9_work 73 = .ok (.iload_n 3, 1) := by decide +kernel
theorem dX9_work_74 : decode cX9_work 74 = .ok (.if_icmp .gt 7, 3) := by decide +kernel
theorem dX9_work_77 : decode cX9_work 77 = .ok (.iconst 1, 1) := by decide +kernel
theorem dX9_work_78 : decode cX9_work 78 = .ok (.goto 4, 3) := by decide +kernel
theorem dX9_work_81 : decode cX9_work 81 = .ok (.iconst 0, 1) := by decide +kernel
theorem dX9_work_82 : decode cX9_work 82 = .ok (.istore 5, 2) := by decide +kernel
theorem dX9_work_84 : decode cX9_work 84 = .ok (.iload 5, 2) := by decide +kernel
theorem dX9_work_86 : decode cX9_work 86 = .ok (.ifCond .eq 114, 3) := by decide +kernel
theorem dX9_work_89 : decode cX9_work 89 = .ok (.aload_n 0, 1) := by decide +kernel
theorem dX9_work_90 : decode cX9_work 90 = .ok (.iload_n 1, 1) := by decide +kernel
theorem dX9_work_91 : decode cX9_work 91 = .ok (.aload_n 0, 1) := by decide +kernel
theorem dX9_work_92 : decode cX9_work 92 = .ok (.getfield 65, 3) := by decide +kernel
theorem dX9_work_95 : decode cX9_work 95 = .ok (.iload_n 1, 1) := by decide +kernel
theorem dX9_work_96 : decode cX9_work 96 = .ok (.iaload, 1) := by decide +kernel
theorem dX9_work_97 : decode cX9_work 97 = .ok (.invokevirtual 124, 3) := by decide +kernel
theorem dX9_work_100 : decode cX9_work 100 = .ok (.ifCond .eq 7, 3) := by decide +kernel
theorem dX9_work_103 : decode cX9_work 103 = .ok (.iconst (-1), 1) := by decide +kernel
theorem dX9_work_104 : decode cX9_work 104 = .ok (.goto 9, 3) := by decide +kernel
theorem dX9_work_107 : decode cX9_work 107 = .ok (.aload_n 0, 1) := by decide +kernel
theorem dX9_work_108 : decode cX9_work 108 = .ok (.getfield 37, 3) := by decide +kernel
theorem dX9_work_111 : decode cX9_work 111 = .ok (.iload_n 1, 1) := by decide +kernel
theorem dX9_work_112 : decode cX9_work 112 = .ok (.iaload, 1) := by decide +kernel
theorem dX9_work_113 : decode cX9_work 113 = .ok (.istore 7, 2) := by decide +kernel
theorem dX9_work_115 : decode cX9_work 115 = .ok (.aload_n 0, 1) := by decide +kernel
theorem dX9_work_116 : decode cX9_work 116 = .ok (.getfield 46, 3) := by decide +kernel
theorem dX9_work_119 : decode cX9_work 119 = .ok (.iload_n 1, 1) := by decide +kernel
theorem dX9_work_120 : decode cX9_work 120 = .ok (.iload 7, 2) := by decide +kernel
theorem dX9_work_122 : decode cX9_work 122 = .ok (.iconst 1, 1) := by decide +kernel
theorem dX9_work_123 : decode cX9_work 123 = .ok (.if_icmp .ne 7, 3) := by decide +kernel
theorem dX9_work_126 : decode cX9_work 126 = .ok (.iconst 1, 1) := by decide +kernel
theorem dX9_work_127 : decode cX9_work 127 = .ok (.goto 4, 3) := by decide +kernel
theorem dX9_work_130 : decode cX9_work 130 = .ok (.iconst 0, 1) := by decide +kernel
theorem dX9_work_131 : decode cX9_work 131 = .ok (.bastore, 1) := by decide +kernel
theorem dX9_work_132 : decode cX9_work 132 = .ok (.iload 7, 2) := by decide +kernel
theorem dX9_work_134 : decode cX9_work 134 = .ok (.iconst 1, 1) := by decide +kernel
theorem dX9_work_135 : decode cX9_work 135 = .ok (.if_icmp .eq 7, 3) := by decide +kernel
theorem dX9_work_138 : decode cX9_work 138 = .ok (.iconst 1, 1) := by decide +kernel
theorem dX9_work_139 : decode cX9_work 139 = .ok (.goto 4, 3) := by decide +kernel
theorem dX9_work_142 : decode cX9_work 142 = .ok (.iconst 0, 1) := by decide +kernel
theorem dX9_work_143 : decode cX9_work 143 = .ok (.istore 5, 2) := by decide +kernel
theorem dX9_work_145 : decode cX9_work 145 = .ok (.aload_n 0, 1) := by decide +kernel
theorem dX9_work_146 : decode cX9_work 146 = .ok (.getfield 53, 3) := by decide +kernel
theorem dX9_work_149 : decode cX9_work 149 = .ok (.iload_n 1, 1) := by decide +kernel
theorem dX9_work_150 : decode cX9_work 150 = .ok (.dup2, 1) := by decide +kernel
theorem dX9_work_151 : decode cX9_work 151 = .ok (.iaload, 1) := by decide +kernel
theorem dX9_work_152 : decode cX9_work 152 = .ok (.iload 7, 2) := by decide +kernel
theorem dX9_work_154 : decode cX9_work 154 = .ok (.ifCond .ne 7, 3) := by decide +kernel
theorem dX9_work_157 : decode cX9_work 157 = .ok (.iconst 1, 1) := by decide +kernel
theorem dX9_work_158 : decode cX9_work 158 = .ok (.goto 4, 3) := by decide +kernel
theorem dX9_work_161 : decode cX9_work 161 = .ok (.iconst 0, 1) := by decide +kernel
theorem dX9_work_162 : decode cX9_work 162 = .ok (.iadd, 1) := by decide +kernel
theorem dX9_work_163 : decode cX9_work 163 = .ok (.iastore, 1) := by decide +kernel
theorem dX9_work_164 : decode cX9_work 164 = .ok (.iload 4, 2) := by decide +kernel
theorem dX9_work_166 : decode cX9_work 166 = .ok (.iload 5, 2) := by decide +kernel
theorem dX9_work_168 : decode cX9_work 168 = .ok (.ifCond .eq 7, 3) := by decide +kernel
theorem dX9_work_171 : decode cX9_work 171 = .ok (.iconst 1, 1) := by decide +kernel
theorem dX9_work_172 : decode cX9_work 172 = .ok (.goto 4, 3) := by decide +kernel
theorem dX9_work_175 : decode cX9_work 175 = .ok (.iconst 0, 1) := by decide +kernel
theorem dX9_work_176 : decode cX9_work 176 = .ok (.iadd, 1) := by decide +kernel
theorem dX9_work_177 : decode cX9_work 177 = .ok (.istore 4, 2) := by decide +kernel
theorem dX9_work_179 : decode cX9_work 179 = .ok (.aload_n 0, 1) := by decide +kernel
theorem dX9_work_180 : decode cX9_work 180 = .ok (.getfield 65, 3) := by decide +kernel
theorem dX9_work_183 : decode cX9_work 183 = .ok (.iload_n 1, 1) := by decide +kernel
theorem dX9_work_184 : decode cX9_work 184 = .ok (.iload 5, 2) := by decide +kernel
theorem dX9_work_186 : decode cX9_work 186 = .ok (.ifCond .eq 7, 3) := by decide +kernel
theorem dX9_work_189 : decode cX9_work 189 = .ok (.iconst (-1), 1) := by decide +kernel
theorem dX9_work_190 : decode cX9_work 190 = .ok (.goto 9, 3) := by decide +kernel
theorem dX9_work_193 : decode cX9_work 193 = .ok (.aload_n 0, 1) := by decide +kernel
theorem dX9_work_194 : decode cX9_work 194 = .ok (.getfield 65, 3) := by decide +kernel
theorem dX9_work_197 : decode cX9_work 197 = .ok (.iload_n 1, 1) := by decide +kernel
theorem dX9_work_198 : decode cX9_work 198 = .ok (.iaload, 1) := by decide +kernel
theorem dX9_work_199 : decode cX9_work 199 = .ok (.iastore, 1) := by decide +kernel
theorem dX9_work_200 : decode cX9_work 200 = .ok (.iinc 6 1, 3) := by decide +kernel
theorem dX9_work_203 : decode cX9_work 203 = .ok (.goto (-188), 3) := by decide +kernel
theorem dX9_work_206 : decode cX9_work 206 = .ok (.iload 4, 2) := by decide +kernel
theorem dX9_work_208 : decode cX9_work 208 = .ok (.ireturn, 1) := by decide +kernel
theorem dX9_none_0 : decode cX9_none 0 = .ok (.iload_n 1, 1) := by decide +kernel
theorem dX9_none_1 : decode cX9_none 1 = .ok (.iconst 0, 1) := by decide +kernel
theorem dX9_none_2 : decode cX9_none 2 = .ok (.aload_n 0, 1) := by decide +kernel
theorem dX9_none_3 : decode cX9_none 3 = .ok (.getfield 94, 3) := by decide +kernel
theorem dX9_none_6 : decode cX9_none 6 = .ok (.iconst 1, 1) := by decide +kernel
theorem dX9_none_7 : decode cX9_none 7 = .ok (.isub, 1) := by decide +kernel
theorem dX9_none_8 : decode cX9_none 8 = .ok (.invokestatic 97, 3) := by decide +kernel
theorem dX9_none_11 : decode cX9_none 11 = .ok (.ifCond .ne 7, 3) := by decide +kernel
theorem dX9_none_14 : decode cX9_none 14 = .ok (.iconst 1, 1) := by decide +kernel
theorem dX9_none_15 : decode cX9_none 15 = .ok (.goto 4, 3) := by decide +kernel
theorem dX9_none_18 : decode cX9_none 18 = .ok (.iconst 0, 1) := by decide +kernel
theorem dX9_none_19 : decode cX9_none 19 = .ok (.ireturn, 1) := by decide +kernel
theorem dX9_run_0 : decode cX9_run 0 = .ok (.aload_n 0, 1) := by decide +kernel
theorem dX9_run_1 : decode cX9_run 1 = .ok (.iconst 0, 1) := by decide +kernel
theorem dX9_run_2 : decode cX9_run 2 = .ok (.putfield 91, 3) := by decide +kernel
theorem dX9_run_5 : decode cX9_run 5 = .ok (.aload_n 0, 1) := by decide +kernel
theorem dX9_run_6 : decode cX9_run 6 = .ok (.iload_n 1, 1) := by decide +kernel
theorem dX9_run_7 : decode cX9_run 7 = .ok (.invokevirtual 132, 3) := by decide +kernel
theorem dX9_run_10 : decode cX9_run 10 = .ok (.ifCond .ne 13, 3) := by decide +kernel
theorem dX9_run_13 : decode cX9_run 13 = .ok (.iload_n 2, 1) := by decide +kernel
theorem dX9_run_14 : decode cX9_run 14 = .ok (.iconst 1, 1) := by decide +kernel
theorem dX9_run_15 : decode cX9_run 15 = .ok (.bipush 20, 2) := by decide +kernel
theorem dX9_run_17 : decode cX9_run 17 = .ok (.invokestatic 97, 3) := by decide +kernel
theorem dX9_run_20 : decode cX9_run 20 = .ok (.ifCond .ne 9, 3) := by decide +kernel
theorem dX9_run_23 : decode cX9_run 23 = .ok (.aload_n 0, 1) := by decide +kernel
theorem dX9_run_24 : decode cX9_run 24 = .ok (.iconst 1, 1) := by decide +kernel
theorem dX9_run_25 : decode cX9_run 25 = .ok (.invokevirtual 105, 3) := by decide +kernel
theorem dX9_run_28 : decode cX9_run 28 = .ok (.ireturn, 1) := by decide +kernel
theorem dX9_run_29 : decode cX9_run 29 = .ok (.aload_n 0, 1) := by decide +kernel
theorem dX9_run_30 : decode cX9_run 30 = .ok (.getfield 46, 3) := by decide +kernel
theorem dX9_run_33 : decode cX9_run 33 = .ok (.iload_n 1, 1) := by decide +kernel
theorem dX9_run_34 : decode cX9_run 34 = .ok (.baload, 1) := by decide +kernel
theorem dX9_run_35 : decode cX9_run 35 = .ok (.ifCond .eq 9, 3) := by decide +kernel
theorem dX9_run_38 : decode cX9_run 38 = .ok (.aload_n 0, 1) := by decide +kernel
theorem dX9_run_39 : decode cX9_run 39 = .ok (.iconst 2, 1) := by decide +kernel
theorem dX9_run_40 : decode cX9_run 40 = .ok (.invokevirtual 105, 3) := by decide +kernel
theorem dX9_run_43 : decode cX9_run 43 = .ok (.ireturn, 1) := by decide +kernel
theorem dX9_run_44 : decode cX9_run 44 = .ok (.aload_n 0, 1) := by decide +kernel
theorem dX9_run_45 : decode cX9_run 45 = .ok (.getfield 40, 3) := by decide +kernel
theorem dX9_run_48 : decode cX9_run 48 = .ok (.iload_n 1, 1) := by decide +kernel
theorem dX9_run_49 : decode cX9_run 49 = .ok (.iaload, 1) := by decide +kernel
theorem dX9_run_50 : decode cX9_run 50 = .ok (.ifCond .ge 12, 3) := by decide +kernel
theorem dX9_run_53 : decode cX9_run 53 = .ok (.aload_n 0, 1) := by decide +kernel
theorem dX9_run_54 : decode cX9_run 54 = .ok (.iload_n 1, 1) := by decide +kernel
theorem dX9_run_55 : decode cX9_run 55 = .ok (.iload_n 2, 1) := by decide +kernel
theorem dX9_run_56 : decode cX9_run 56 = .ok (.invokevirtual 136, 3) := by decide +kernel
theorem dX9_run_59 : decode cX9_run 59 = .ok (.goto 9, 3) := by decide +kernel
theorem dX9_run_62 : decode cX9_run 62 = .ok (.aload_n 0, 1) := by decide +kernel
theorem dX9_run_63 : decode cX9_run 63 = .ok (.iload_n 1, 1) := by decide +kernel
theorem dX9_run_64 : decode cX9_run 64 = .ok (.iload_n 2, 1) := by decide +kernel
theorem dX9_run_65 : decode cX9_run 65 = .ok (.invokevirtual 139, 3) := by decide +kernel
theorem dX9_run_68 : decode cX9_run 68 = .ok (.ireturn, 1) := by decide +kernel
theorem dX9_place_0 : decode cX9_place 0 = .ok (.aload_n 0, 1) := by decide +kernel
theorem dX9_place_1 : decode cX9_place 1 = .ok (.iconst 0, 1) := by decide +kernel
theorem dX9_place_2 : decode cX9_place 2 = .ok (.putfield 91, 3) := by decide +kernel
theorem dX9_place_5 : decode cX9_place 5 = .ok (.aload_n 0, 1) := by decide +kernel
theorem dX9_place_6 : decode cX9_place 6 = .ok (.iload_n 1, 1) := by decide +kernel
theorem dX9_place_7 : decode cX9_place 7 = .ok (.invokevirtual 132, 3) := by decide +kernel
theorem dX9_place_10 : decode cX9_place 10 = .ok (.ifCond .eq 12, 3) := by decide +kernel
theorem dX9_place_13 : decode cX9_place 13 = .ok (.aload_n 0, 1) := by decide +kernel
theorem dX9_place_14 : decode cX9_place 14 = .ok (.iconst 1, 1) := by decide +kernel
theorem dX9_place_15 : decode cX9_place 15 = .ok (.invokevirtual 105, 3) := by decide +kernel
theorem dX9_place_18 : decode cX9_place 18 = .ok (.i2l, 1) := by decide +kernel
theorem dX9_place_19 : decode cX9_place 19 = .ok (.goto 9, 3) := by decide +kernel
theorem dX9_place_22 : decode cX9_place 22 = .ok (.aload_n 0, 1) := by decide +kernel
theorem dX9_place_23 : decode cX9_place 23 = .ok (.iload_n 1, 1) := by decide +kernel
theorem dX9_place_24 : decode cX9_place 24 = .ok (.invokevirtual 108, 3) := by decide +kernel
theorem dX9_place_27 : decode cX9_place 27 = .ok (.i2l, 1) := by decide +kernel
theorem dX9_place_28 : decode cX9_place 28 = .ok (.lreturn, 1) := by decide +kernel
theorem dX9_total_0 : decode cX9_total 0 = .ok (.aload_n 0, 1) := by decide +kernel
theorem dX9_total_1 : decode cX9_total 1 = .ok (.iconst 0, 1) := by decide +kernel
theorem dX9_total_2 : decode cX9_total 2 = .ok (.putfield 91, 3) := by decide +kernel
theorem dX9_total_5 : decode cX9_total 5 = .ok (.aload_n 0, 1) := by decide +kernel
theorem dX9_total_6 : decode cX9_total 6 = .ok (.iload_n 1, 1) := by decide +kernel
theorem dX9_total_7 : decode cX9_total 7 = .ok (.invokevirtual 132, 3) := by decide +kernel
theorem dX9_total_10 : decode cX9_total 10 = .ok (.ifCond .eq 10, 3) := by decide +kernel
theorem dX9_total_13 : decode cX9_total 13 = .ok (.aload_n 0, 1) := by decide +kernel
theorem dX9_total_14 : decode cX9_total 14 = .ok (.iconst 1, 1) := by decide +kernel
theorem dX9_total_15 : decode cX9_total 15 = .ok (.invokevirtual 105, 3) := by decide +kernel
theorem dX9_total_18 : decode cX9_total 18 = .ok (.i2l, 1) := by decide +kernel
theorem dX9_total_19 : decode cX9_total 19 = .ok (.lreturn, 1) := by decide +kernel
theorem dX9_total_20 : decode cX9_total 20 = .ok (.aload_n 0, 1) := by decide +kernel
theorem dX9_total_21 : decode cX9_total 21 = .ok (.getfield 31, 3) := by decide +kernel
theorem dX9_total_24 : decode cX9_total 24 = .ok (.iload_n 1, 1) := by decide +kernel
theorem dX9_total_25 : decode cX9_total 25 = .ok (.iaload, 1) := by decide +kernel
theorem dX9_total_26 : decode cX9_total 26 = .ok (.ifCond .ne 12, 3) := by decide +kernel
theorem dX9_total_29 : decode cX9_total 29 = .ok (.aload_n 0, 1) := by decide +kernel
theorem dX9_total_30 : decode cX9_total 30 = .ok (.getfield 71, 3) := by decide +kernel
theorem dX9_total_33 : decode cX9_total 33 = .ok (.iload_n 1, 1) := by decide +kernel
theorem dX9_total_34 : decode cX9_total 34 = .ok (.laload, 1) := by decide +kernel
theorem dX9_total_35 : decode cX9_total 35 = .ok (.goto 24, 3) := by decide +kernel
theorem dX9_total_38 : decode cX9_total 38 = .ok (.aload_n 0, 1) := by decide +kernel
theorem dX9_total_39 : decode cX9_total 39 = .ok (.getfield 31, 3) := by decide +kernel
theorem dX9_total_42 : decode cX9_total 42 = .ok (.iload_n 1, 1) := by decide +kernel
theorem dX9_total_43 : decode cX9_total 43 = .ok (.iaload, 1) := by decide +kernel
theorem dX9_total_44 : decode cX9_total 44 = .ok (.iconst 3, 1) := by decide +kernel
theorem dX9_total_45 : decode cX9_total 45 = .ok (.if_icmp .ne 13, 3) := by decide +kernel
theorem dX9_total_48 : decode cX9_total 48 = .ok (.aload_n 0, 1) := by decide +kernel
theorem dX9_total_49 : decode cX9_total 49 = .ok (.getfield 82, 3) := by decide +kernel
theorem dX9_total_52 : decode cX9_total 52 = .ok (.iload_n 1, 1) := by decide +kernel
theorem dX9_total_53 : decode cX9_total 53 = .ok (.iaload, 1) := by decide +kernel
theorem dX9_total_54 : decode cX9_total 54 = .ok (.i2l, 1) := by decide +kernel
theorem dX9_total_55 : decode cX9_total 55 = .ok (.goto 4, 3) := by decide +kernel
theorem dX9_total_58 : decode cX9_total 58 = .ok (.lconst 0, 1) := by decide +kernel
theorem dX9_total_59 : decode cX9_total 59 = .ok (.lreturn, 1) := by decide +kernel
theorem dX9_level_0 : decode cX9_level 0 = .ok (.aload_n 0, 1) := by decide +kernel
theorem dX9_level_1 : decode cX9_level 1 = .ok (.iconst 0, 1) := by decide +kernel
theorem dX9_level_2 : decode cX9_level 2 = .ok (.putfield 91, 3) := by decide +kernel
theorem dX9_level_5 : decode cX9_level 5 = .ok (.aload_n 0, 1) := by decide +kernel
theorem dX9_level_6 : decode cX9_level 6 = .ok (.iload_n 1, 1) := by decide +kernel
theorem dX9_level_7 : decode cX9_level 7 = .ok (.invokevirtual 132, 3) := by decide +kernel
theorem dX9_level_10 : decode cX9_level 10 = .ok (.ifCond .ne 13, 3) := by decide +kernel
theorem dX9_level_13 : decode cX9_level 13 = .ok (.aload_n 0, 1) := by decide +kernel
theorem dX9_level_14 : decode cX9_level 14 = .ok (.getfield 31, 3) := by decide +kernel
theorem dX9_level_17 : decode cX9_level 17 = .ok (.iload_n 1, 1) := by decide +kernel
theorem dX9_level_18 : decode cX9_level 18 = .ok (.iaload, 1) := by decide +kernel
theorem dX9_level_19 : decode cX9_level 19 = .ok (.iconst 1, 1) := by decide +kernel
theorem dX9_level_20 : decode cX9_level 20 = .ok (.if_icmp .eq 12, 3) := by decide +kernel
theorem dX9_level_23 : decode cX9_level 23 = .ok (.aload_n 0, 1) := by decide +kernel
theorem dX9_level_24 : decode cX9_level 24 = .ok (.iconst 1, 1) := by decide +kernel
theorem dX9_level_25 : decode cX9_level 25 = .ok (.invokevirtual 105, 3) := by decide +kernel
theorem dX9_level_28 : decode cX9_level 28 = .ok (.i2f, 1) := by decide +kernel
theorem dX9_level_29 : decode cX9_level 29 = .ok (.goto 9, 3) := by decide +kernel
theorem dX9_level_32 : decode cX9_level 32 = .ok (.aload_n 0, 1) := by decide +kernel
theorem dX9_level_33 : decode cX9_level 33 = .ok (.getfield 74, 3) := by decide +kernel
theorem dX9_level_36 : decode cX9_level 36 = .ok (.iload_n 1, 1) := by decide +kernel
theorem dX9_level_37 : decode cX9_level 37 = .ok (.faload, 1) := by decide +kernel
theorem dX9_level_38 : decode cX9_level 38 = .ok (.freturn, 1) := by decide +kernel
theorem dX9_mean_0 : decode cX9_mean 0 = .ok (.aload_n 0, 1) := by decide +kernel
theorem dX9_mean_1 : decode cX9_mean 1 = .ok (.iconst 0, 1) := by decide +kernel
theorem dX9_mean_2 : decode cX9_mean 2 = .ok (.putfield 91, 3) := by decide +kernel
theorem dX9_mean_5 : decode cX9_mean 5 = .ok (.aload_n 0, 1) := by decide +kernel
theorem dX9_mean_6 : decode cX9_mean 6 = .ok (.iload_n 1, 1) := by decide +kernel
theorem dX9_mean_7 : decode cX9_mean 7 = .ok (.invokevirtual 132, 3) := by decide +kernel
theorem dX9_mean_10 : decode cX9_mean 10 = .ok (.ifCond .ne 13, 3) := by decide +kernel
theorem dX9_mean_13 : decode cX9_mean 13 = .ok (.aload_n 0, 1) := by decide +kernel
theorem dX9_mean_14 : decode cX9_mean 14 = .ok (.getfield 31, 3) := by decide +kernel
theorem dX9_mean_17 : decode cX9_mean 17 = .ok (.iload_n 1, 1) := by decide +kernel
theorem dX9_mean_18 : decode cX9_mean 18 = .ok (.iaload, 1) := by decide +kernel
theorem dX9_mean_19 : decode cX9_mean 19 = .ok (.iconst 2, 1) := by decide +kernel
theorem dX9_mean_20 : decode cX9_mean 20 = .ok (.if_icmp .eq 12, 3) := by decide +kernel
theorem dX9_mean_23 : decode cX9_mean 23 = .ok (.aload_n 0, 1) := by decide +kernel
theorem dX9_mean_24 : decode cX9_mean 24 = .ok (.iconst 1, 1) := by decide +kernel
theorem dX9_mean_25 : decode cX9_mean 25 = .ok (.invokevirtual 105, 3) := by decide +kernel
theorem dX9_mean_28 : decode cX9_mean 28 = .ok (.i2d, 1) := by decide +kernel
theorem dX9_mean_29 : decode cX9_mean 29 = .ok (.goto 9, 3) := by decide +kernel
theorem dX9_mean_32 : decode cX9_mean 32 = .ok (.aload_n 0, 1) := by decide +kernel
theorem dX9_mean_33 : decode cX9_mean 33 = .ok (.getfield 78, 3) := by decide +kernel
theorem dX9_mean_36 : decode cX9_mean 36 = .ok (.iload_n 1, 1) := by decide +kernel
theorem dX9_mean_37 : decode cX9_mean 37 = .ok (.daload, 1) := by decide +kernel
theorem dX9_mean_38 : decode cX9_mean 38 = .ok (.dreturn, 1) := by decide +kernel
theorem dX9_noJournal_0 : decode cX9_noJournal 0 = .ok (.aload_n 0, 1) := by decide +kernel
theorem dX9_noJournal_1 : decode cX9_noJournal 1 = .ok (.iload_n 1, 1) := by decide +kernel
theorem dX9_noJournal_2 : decode cX9_noJournal 2 = .ok (.invokevirtual 132, 3) := by decide +kernel
theorem dX9_noJournal_5 : decode cX9_noJournal 5 = .ok (.ifCond .ne 13, 3) := by decide +kernel
theorem dX9_noJournal_8 : decode cX9_noJournal 8 = .ok (.aload_n 0, 1) := by decide +kernel
theorem dX9_noJournal_9 : decode cX9_noJournal 9 = .ok (.getfield 31, 3) := by decide +kernel
theorem dX9_noJournal_12 : decode cX9_noJournal 12 = .ok (.iload_n 1, 1) := by decide +kernel
theorem dX9_noJournal_13 : decode cX9_noJournal 13 = .ok (.iaload, 1) := by decide +kernel
theorem dX9_noJournal_14 : decode cX9_noJournal 14 = .ok (.iconst 3, 1) := by decide +kernel
theorem dX9_noJournal_15 : decode cX9_noJournal 15 = .ok (.if_icmp .eq 7, 3) := by decide +kernel
theorem dX9_noJournal_18 : decode cX9_noJournal 18 = .ok (.iconst 1, 1) := by decide +kernel
theorem dX9_noJournal_19 : decode cX9_noJournal 19 = .ok (.goto 4, 3) := by decide +kernel
theorem dX9_noJournal_22 : decode cX9_noJournal 22 = .ok (.iconst 0, 1) := by decide +kernel
theorem dX9_noJournal_23 : decode cX9_noJournal 23 = .ok (.ireturn, 1) := by decide +kernel
theorem dX9_octet_0 : decode cX9_octet 0 = .ok (.aload_n 0, 1) := by decide +kernel
theorem dX9_octet_1 : decode cX9_octet 1 = .ok (.iconst 0, 1) := by decide +kernel
theorem dX9_octet_2 : decode cX9_octet 2 = .ok (.putfield 91, 3) := by decide +kernel
theorem dX9_octet_5 : decode cX9_octet 5 = .ok (.aload_n 0, 1) := by decide +kernel
theorem dX9_octet_6 : decode cX9_octet 6 = .ok (.iload_n 1, 1) := by decide +kernel
theorem dX9_octet_7 : decode cX9_octet 7 = .ok (.invokevirtual 142, 3) := by decide +kernel
theorem dX9_octet_10 : decode cX9_octet 10 = .ok (.ifCond .eq 9, 3) := by decide +kernel
theorem dX9_octet_13 : decode cX9_octet 13 = .ok (.aload_n 0, 1) := by decide +kernel
theorem dX9_octet_14 : decode cX9_octet 14 = .ok (.iconst 1, 1) := by decide +kernel
theorem dX9_octet_15 : decode cX9_octet 15 = .ok (.invokevirtual 105, 3) := by decide +kernel
theorem dX9_octet_18 : decode cX9_octet 18 = .ok (.ireturn, 1) := by decide +kernel
theorem dX9_octet_19 : decode cX9_octet 19 = .ok (.iload_n 2, 1) := by decide +kernel
theorem dX9_octet_20 : decode cX9_octet 20 = .ok (.iconst 0, 1) := by decide +kernel
theorem dX9_octet_21 : decode cX9_octet 21 = .ok (.aload_n 0, 1) := by decide +kernel
theorem dX9_octet_22 : decode cX9_octet 22 = .ok (.getfield 82, 3) := by decide +kernel
theorem dX9_octet_25 : decode cX9_octet 25 = .ok (.iload_n 1, 1) := by decide +kernel
theorem dX9_octet_26 : decode cX9_octet 26 = .ok (.iaload, 1) := by decide +kernel
theorem dX9_octet_27 : decode cX9_octet 27 = .ok (.iconst 1, 1) := by decide +kernel
theorem dX9_octet_28 : decode cX9_octet 28 = .ok (.isub, 1) := by decide +kernel
theorem dX9_octet_29 : decode cX9_octet 29 = .ok (.invokestatic 97, 3) := by decide +kernel
theorem dX9_octet_32 : decode cX9_octet 32 = .ok (.ifCond .eq 18, 3) := by decide +kernel
theorem dX9_octet_35 : decode cX9_octet 35 = .ok (.aload_n 0, 1) := by decide +kernel
theorem dX9_octet_36 : decode cX9_octet 36 = .ok (.getfield 85, 3) := by decide +kernel
theorem dX9_octet_39 : decode cX9_octet 39 = .ok (.sipush 400, 3) := by decide +kernel
theorem dX9_octet_42 : decode cX9_octet 42 = .ok (.iload_n 1, 1) := by decide +kernel
theorem dX9_octet_43 : decode cX9_octet 43 = .ok (.imul, 1) := by decide +kernel
theorem dX9_octet_44 : decode cX9_octet 44 = .ok (.iload_n 2, 1) := by decide +kernel
theorem dX9_octet_45 : decode cX9_octet 45 = .ok (.iadd, 1) := by decide +kernel
theorem dX9_octet_46 : decode cX9_octet 46 = .ok (.iaload, 1) := by decide +kernel
theorem dX9_octet_47 : decode cX9_octet 47 = .ok (.goto 8, 3) := by decide +kernel
theorem dX9_octet_50 : decode cX9_octet 50 = .ok (.aload_n 0, 1) := by decide +kernel
theorem dX9_octet_51 : decode cX9_octet 51 = .ok (.iconst 2, 1) := by decide +kernel
theorem dX9_octet_52 : decode cX9_octet 52 = .ok (.invokevirtual 105, 3) := by decide +kernel
theorem dX9_octet_55 : decode cX9_octet 55 = .ok (.ireturn, 1) := by decide +kernel
theorem dX9_tear_0 : decode cX9_tear 0 = .ok (.aload_n 0, 1) := by decide +kernel
theorem dX9_tear_1 : decode cX9_tear 1 = .ok (.iconst 0, 1) := by decide +kernel
theorem dX9_tear_2 : decode cX9_tear 2 = .ok (.putfield 91, 3) := by decide +kernel
theorem dX9_tear_5 : decode cX9_tear 5 = .ok (.aload_n 0, 1) := by decide +kernel
theorem dX9_tear_6 : decode cX9_tear 6 = .ok (.iload_n 1, 1) := by decide +kernel
theorem dX9_tear_7 : decode cX9_tear 7 = .ok (.invokevirtual 142, 3) := by decide +kernel
theorem dX9_tear_10 : decode cX9_tear 10 = .ok (.ifCond .ne 17, 3) := by decide +kernel
theorem dX9_tear_13 : decode cX9_tear 13 = .ok (.iload_n 2, 1) := by decide +kernel
theorem dX9_tear_14 : decode cX9_tear 14 = .ok (.iconst 0, 1) := by decide +kernel
theorem dX9_tear_15 : decode cX9_tear 15 = .ok (.aload_n 0, 1) := by decide +kernel
theorem dX9_tear_16 : decode cX9_tear 16 = .ok (.getfield 82, 3) := by decide +kernel
theorem dX9_tear_19 : decode cX9_tear 19 = .ok (.iload_n 1, 1) := by decide +kernel
theorem dX9_tear_20 : decode cX9_tear 20 = .ok (.iaload, 1) := by decide +kernel
theorem dX9_tear_21 : decode cX9_tear 21 = .ok (.invokestatic 97, 3) := by decide +kernel
theorem dX9_tear_24 : decode cX9_tear 24 = .ok (.ifCond .ne 9, 3) := by decide +kernel
theorem dX9_tear_27 : decode cX9_tear 27 = .ok (.aload_n 0, 1) := by decide +kernel
theorem dX9_tear_28 : decode cX9_tear 28 = .ok (.iconst 1, 1) := by decide +kernel
theorem dX9_tear_29 : decode cX9_tear 29 = .ok (.invokevirtual 105, 3) := by decide +kernel
theorem dX9_tear_32 : decode cX9_tear 32 = .ok (.ireturn, 1) := by decide +kernel
theorem dX9_tear_33 : decode cX9_tear 33 = .ok (.aload_n 0, 1) := by decide +kernel
theorem dX9_tear_34 : decode cX9_tear 34 = .ok (.getfield 82, 3) := by decide +kernel
theorem dX9_tear_37 : decode cX9_tear 37 = .ok (.iload_n 1, 1) := by decide +kernel
theorem dX9_tear_38 : decode cX9_tear 38 = .ok (.dup2, 1) := by decide +kernel
theorem dX9_tear_39 : decode cX9_tear 39 = .ok (.iaload, 1) := by decide +kernel
theorem dX9_tear_40 : decode cX9_tear 40 = .ok (.iload_n 2, 1) := by decide +kernel
theorem dX9_tear_41 : decode cX9_tear 41 = .ok (.isub, 1) := by decide +kernel
theorem dX9_tear_42 : decode cX9_tear 42 = .ok (.iastore, 1) := by decide +kernel
theorem dX9_tear_43 : decode cX9_tear 43 = .ok (.aload_n 0, 1) := by decide +kernel
theorem dX9_tear_44 : decode cX9_tear 44 = .ok (.getfield 82, 3) := by decide +kernel
theorem dX9_tear_47 : decode cX9_tear 47 = .ok (.iload_n 1, 1) := by decide +kernel
theorem dX9_tear_48 : decode cX9_tear 48 = .ok (.iaload, 1) := by decide +kernel
theorem dX9_tear_49 : decode cX9_tear 49 = .ok (.ireturn, 1) := by decide +kernel
theorem dX9_whole_0 : decode cX9_whole 0 = .ok (.iconst 0, 1) := by decide +kernel
theorem dX9_whole_1 : decode cX9_whole 1 = .ok (.istore_n 2, 1) := by decide +kernel
theorem dX9_whole_2 : decode cX9_whole 2 = .ok (.iconst 0, 1) := by decide +kernel
theorem dX9_whole_3 : decode cX9_whole 3 = .ok (.istore_n 3, 1) := by decide +kernel
theorem dX9_whole_4 : decode cX9_whole 4 = .ok (.iload_n 3, 1) := by decide +kernel
theorem dX9_whole_5 : decode cX9_whole 5 = .ok (.bipush 12, 2) := by decide +kernel
theorem dX9_whole_7 : decode cX9_whole 7 = .ok (.if_icmp .ge 20, 3) := by decide +kernel
theorem dX9_whole_10 : decode cX9_whole 10 = .ok (.iload_n 2, 1) := by decide +kernel
theorem dX9_whole_11 : decode cX9_whole 11 = .ok (.aload_n 0, 1) := by decide +kernel
theorem dX9_whole_12 : decode cX9_whole 12 = .ok (.getfield 85, 3) := by decide +kernel
theorem dX9_whole_15 : decode cX9_whole 15 = .ok (.iload_n 1, 1) := by decide +kernel
theorem dX9_whole_16 : decode cX9_whole 16 = .ok (.iload_n 3, 1) := by decide +kernel
theorem dX9_whole_17 : decode cX9_whole 17 = .ok (.iadd, 1) := by decide +kernel
theorem dX9_whole_18 : decode cX9_whole 18 = .ok (.iaload, 1) := by decide +kernel
theorem dX9_whole_19 : decode cX9_whole 19 = .ok (.iadd, 1) := by decide +kernel
theorem dX9_whole_20 : decode cX9_whole 20 = .ok (.istore_n 2, 1) := by decide +kernel
theorem dX9_whole_21 : decode cX9_whole 21 = .ok (.iinc 3 1, 3) := by decide +kernel
theorem dX9_whole_24 : decode cX9_whole 24 = .ok (.goto (-20), 3) := by decide +kernel
theorem dX9_whole_27 : decode cX9_whole 27 = .ok (.aload_n 0, 1) := by decide +kernel
theorem dX9_whole_28 : decode cX9_whole 28 = .ok (.getfield 85, 3) := by decide +kernel
theorem dX9_whole_31 : decode cX9_whole 31 = .ok (.iload_n 1, 1) := by decide +kernel
theorem dX9_whole_32 : decode cX9_whole 32 = .ok (.iaload, 1) := by decide +kernel
theorem dX9_whole_33 : decode cX9_whole 33 = .ok (.bipush 13, 2) := by decide +kernel
theorem dX9_whole_35 : decode cX9_whole 35 = .ok (.if_icmp .ne 24, 3) := by decide +kernel
theorem dX9_whole_38 : decode cX9_whole 38 = .ok (.aload_n 0, 1) := by decide +kernel
theorem dX9_whole_39 : decode cX9_whole 39 = .ok (.getfield 85, 3) := by decide +kernel
theorem dX9_whole_42 : decode cX9_whole 42 = .ok (.iload_n 1, 1) := by decide +kernel
theorem dX9_whole_43 : decode cX9_whole 43 = .ok (.bipush 12, 2) := by decide +kernel
theorem dX9_whole_45 : decode cX9_whole 45 = .ok (.iadd, 1) := by decide +kernel
theorem dX9_whole_46 : decode cX9_whole 46 = .ok (.iaload, 1) := by decide +kernel
theorem dX9_whole_47 : decode cX9_whole 47 = .ok (.iload_n 2, 1) := by decide +kernel
theorem dX9_whole_48 : decode cX9_whole 48 = .ok (.sipush 256, 3) := by decide +kernel
theorem dX9_whole_51 : decode cX9_whole 51 = .ok (.irem, 1) := by decide +kernel
theorem dX9_whole_52 : decode cX9_whole 52 = .ok (.if_icmp .ne 7, 3) := by decide +kernel
theorem dX9_whole_55 : decode cX9_whole 55 = .ok (.iconst 1, 1) := by decide +kernel
theorem dX9_whole_56 : decode cX9_whole 56 = .ok (.goto 4, 3) := by decide +kernel
theorem dX9_whole_59 : decode cX9_whole 59 = .ok (.iconst 0, 1) := by decide +kernel
theorem dX9_whole_60 : decode cX9_whole 60 = .ok (.ireturn, 1) := by decide +kernel
theorem dX9_replay_0 : decode cX9_replay 0 = .ok (.aload_n 0, 1) := by decide +kernel
theorem dX9_replay_1 : decode cX9_replay 1 = .ok (.iconst 0, 1) := by decide +kernel
theorem dX9_replay_2 : decode cX9_replay 2 = .ok (.putfield 91, 3) := by decide +kernel
theorem dX9_replay_5 : decode cX9_replay 5 = .ok (.aload_n 0, 1) := by decide +kernel
theorem dX9_replay_6 : decode cX9_replay 6 = .ok (.iload_n 1, 1) := by decide +kernel
theorem dX9_replay_7 : decode cX9_replay 7 = .ok (.invokevirtual 142, 3) := by decide +kernel
theorem dX9_replay_10 : decode cX9_replay 10 = .ok (.ifCond .eq 9, 3) := by decide +kernel
theorem dX9_replay_13 : decode cX9_replay 13 = .ok (.aload_n 0, 1) := by decide +kernel
theorem dX9_replay_14 : decode cX9_replay 14 = .ok (.iconst 1, 1) := by decide +kernel
theorem dX9_replay_15 : decode cX9_replay 15 = .ok (.invokevirtual 105, 3) := by decide +kernel
theorem dX9_replay_18 : decode cX9_replay 18 = .ok (.ireturn, 1) := by decide +kernel
theorem dX9_replay_19 : decode cX9_replay 19 = .ok (.aload_n 0, 1) := by decide +kernel
theorem dX9_replay_20 : decode cX9_replay 20 = .ok (.lconst 0, 1) := by decide +kernel
theorem dX9_replay_21 : decode cX9_replay 21 = .ok (.putfield 145, 3) := by decide +kernel
theorem dX9_replay_24 : decode cX9_replay 24 = .ok (.iconst 0, 1) := by decide +kernel
theorem dX9_replay_25 : decode cX9_replay 25 = .ok (.istore_n 2, 1) := by decide +kernel
theorem dX9_replay_26 : decode cX9_replay 26 = .ok (.bipush 13, 2) := by decide +kernel
theorem dX9_replay_28 : decode cX9_replay 28 = .ok (.iload_n 2, 1) := by decide +kernel
theorem dX9_replay_29 : decode cX9_replay 29 = .ok (.imul, 1) := by decide +kernel
theorem dX9_replay_30 : decode cX9_replay 30 = .ok (.bipush 13, 2) := by decide +kernel
theorem dX9_replay_32 : decode cX9_replay 32 = .ok (.iadd, 1) := by decide +kernel
theorem dX9_replay_33 : decode cX9_replay 33 = .ok (.aload_n 0, 1) := by decide +kernel
theorem dX9_replay_34 : decode cX9_replay 34 = .ok (.getfield 82, 3) := by decide +kernel
theorem dX9_replay_37 : decode cX9_replay 37 = .ok (.iload_n 1, 1) := by decide +kernel
theorem dX9_replay_38 : decode cX9_replay 38 = .ok (.iaload, 1) := by decide +kernel
theorem dX9_replay_39 : decode cX9_replay 39 = .ok (.if_icmp .gt 81, 3) := by decide +kernel
theorem dX9_replay_42 : decode cX9_replay 42 = .ok (.aload_n 0, 1) := by decide +kernel
theorem dX9_replay_43 : decode cX9_replay 43 = .ok (.sipush 400, 3) := by decide +kernel
theorem dX9_replay_46 : decode cX9_replay 46 = .ok (.iload_n 1, 1) := by decide +kernel
theorem dX9_replay_47 : decode cX9_replay 47 = .ok (.imul, 1) := by decide +kernel
theorem dX9_replay_48 : decode cX9_replay 48 = .ok (.bipush 13, 2) := by decide +kernel
theorem dX9_replay_50 : decode cX9_replay 50 = .ok (.iload_n 2, 1) := by decide +kernel
theorem dX9_replay_51 : decode cX9_replay 51 = .ok (.imul, 1) := by decide +kernel
theorem dX9_replay_52 : decode cX9_replay 52 = .ok (.iadd, 1) := by decide +kernel
theorem dX9_replay_53 : decode cX9_replay 53 = .ok (.invokevirtual 149, 3) := by decide +kernel
theorem dX9_replay_56 : decode cX9_replay 56 = .ok (.ifCond .eq 64, 3) := by decide +kernel
theorem dX9_replay_59 : decode cX9_replay 59 = .ok (.lconst 0, 1) := by decide +kernel
theorem dX9_replay_60 : decode cX9_replay 60 = .ok (.lstore_n 3, 1) := by decide +kernel
theorem dX9_replay_61 : decode cX9_replay 61 = .ok (.iconst 0, 1) := by decide +kernel
theorem dX9_replay_62 : decode cX9_replay 62 = .ok (.istore 5, 2) := by decide +kernel
theorem dX9_replay_64 : decode cX9_replay 64 = .ok (.iload 5, 2) := by decide +kernel
theorem dX9_replay_66 : decode cX9_replay 66 = .ok (.bipush 8, 2) := by decide +kernel
theorem dX9_replay_68 : decode cX9_replay 68 = .ok (.if_icmp .ge 36, 3) := by decide +kernel
theorem dX9_replay_71 : decode cX9_replay 71 = .ok (.lload_n 3, 1) := by decide +kernel
theorem dX9_replay_72 : decode cX9_replay 72 = .ok (.bipush 8, 2) := by decide +kernel
theorem dX9_replay_74 : decode cX9_replay 74 = .ok (.lshl, 1) := by decide +kernel
theorem dX9_replay_75 : decode cX9_replay 75 = .ok (.aload_n 0, 1) := by decide +kernel
theorem dX9_replay_76 : decode cX9_replay 76 = .ok (.getfield 85, 3) := by decide +kernel
theorem dX9_replay_79 : decode cX9_replay 79 = .ok (.sipush 400, 3) := by decide +kernel
theorem dX9_replay_82 : decode cX9_replay 82 = .ok (.iload_n 1, 1) := by decide +kernel
theorem dX9_replay_83 : decode cX9_replay 83 = .ok (.imul, 1) := by decide +kernel
theorem dX9_replay_84 : decode cX9_replay 84 = .ok (.bipush 13, 2) := by decide +kernel
theorem dX9_replay_86 : decode cX9_replay 86 = .ok (.iload_n 2, 1) := by decide +kernel
theorem dX9_replay_87 : decode cX9_replay 87 = .ok (.imul, 1) := by decide +kernel
theorem dX9_replay_88 : decode cX9_replay 88 = .ok (.iadd, 1) := by decide +kernel
theorem dX9_replay_89 : decode cX9_replay 89 = .ok (.iconst 3, 1) := by decide +kernel
theorem dX9_replay_90 : decode cX9_replay 90 = .ok (.iadd, 1) := by decide +kernel
theorem dX9_replay_91 : decode cX9_replay 91 = .ok (.iload 5, 2) := by decide +kernel
theorem dX9_replay_93 : decode cX9_replay 93 = .ok (.iadd, 1) := by decide +kernel
theorem dX9_replay_94 : decode cX9_replay 94 = .ok (.iaload, 1) := by decide +kernel
theorem dX9_replay_95 : decode cX9_replay 95 = .ok (.i2l, 1) := by decide +kernel
theorem dX9_replay_96 : decode cX9_replay 96 = .ok (.lor, 1) := by decide +kernel
theorem dX9_replay_97 : decode cX9_replay 97 = .ok (.lstore_n 3, 1) := by decide +kernel
theorem dX9_replay_98 : decode cX9_replay 98 = .ok (.iinc 5 1, 3) := by decide +kernel
theorem dX9_replay_101 : decode cX9_replay 101 = .ok (.goto (-37), 3) := by decide +kernel
theorem dX9_replay_104 : decode cX9_replay 104 = .ok (.aload_n 0, 1) := by decide +kernel
theorem dX9_replay_105 : decode cX9_replay 105 = .ok (.aload_n 0, 1) := by decide +kernel
theorem dX9_replay_106 : decode cX9_replay 106 = .ok (.getfield 145, 3) := by decide +kernel
theorem dX9_replay_109 : decode cX9_replay 109 = .ok (.lload_n 3, 1) := by decide +kernel
theorem dX9_replay_110 : decode cX9_replay 110 = .ok (.ladd, 1) := by decide +kernel
theorem dX9_replay_111 : decode cX9_replay 111 = .ok (.putfield 145, 3) := by decide +kernel
theorem dX9_replay_114 : decode cX9_replay 114 = .ok (.iinc 2 1, 3) := by decide +kernel
theorem dX9_replay_117 : decode cX9_replay 117 = .ok (.goto (-91), 3) := by decide +kernel
theorem dX9_replay_120 : decode cX9_replay 120 = .ok (.iload_n 2, 1) := by decide +kernel
theorem dX9_replay_121 : decode cX9_replay 121 = .ok (.ireturn, 1) := by decide +kernel
theorem dX9_replayed_0 : decode cX9_replayed 0 = .ok (.aload_n 0, 1) := by decide +kernel
theorem dX9_replayed_1 : decode cX9_replayed 1 = .ok (.iconst 0, 1) := by decide +kernel
theorem dX9_replayed_2 : decode cX9_replayed 2 = .ok (.putfield 91, 3) := by decide +kernel
theorem dX9_replayed_5 : decode cX9_replayed 5 = .ok (.aload_n 0, 1) := by decide +kernel
theorem dX9_replayed_6 : decode cX9_replayed 6 = .ok (.getfield 145, 3) := by decide +kernel
theorem dX9_replayed_9 : decode cX9_replayed 9 = .ok (.lreturn, 1) := by decide +kernel
theorem dX9_count_0 : decode cX9_count 0 = .ok (.aload_n 0, 1) := by decide +kernel
theorem dX9_count_1 : decode cX9_count 1 = .ok (.iconst 0, 1) := by decide +kernel
theorem dX9_count_2 : decode cX9_count 2 = .ok (.putfield 91, 3) := by decide +kernel
theorem dX9_count_5 : decode cX9_count 5 = .ok (.aload_n 0, 1) := by decide +kernel
theorem dX9_count_6 : decode cX9_count 6 = .ok (.iload_n 1, 1) := by decide +kernel
theorem dX9_count_7 : decode cX9_count 7 = .ok (.invokevirtual 132, 3) := by decide +kernel
theorem dX9_count_10 : decode cX9_count 10 = .ok (.ifCond .ne 12, 3) := by decide +kernel
theorem dX9_count_13 : decode cX9_count 13 = .ok (.iload_n 2, 1) := by decide +kernel
theorem dX9_count_14 : decode cX9_count 14 = .ok (.iconst 0, 1) := by decide +kernel
theorem dX9_count_15 : decode cX9_count 15 = .ok (.iconst 3, 1) := by decide +kernel
theorem dX9_count_16 : decode cX9_count 16 = .ok (.invokestatic 97, 3) := by decide +kernel
theorem dX9_count_19 : decode cX9_count 19 = .ok (.ifCond .ne 9, 3) := by decide +kernel
theorem dX9_count_22 : decode cX9_count 22 = .ok (.aload_n 0, 1) := by decide +kernel
theorem dX9_count_23 : decode cX9_count 23 = .ok (.iconst 1, 1) := by decide +kernel
theorem dX9_count_24 : decode cX9_count 24 = .ok (.invokevirtual 105, 3) := by decide +kernel
theorem dX9_count_27 : decode cX9_count 27 = .ok (.ireturn, 1) := by decide +kernel
theorem dX9_count_28 : decode cX9_count 28 = .ok (.iload_n 2, 1) := by decide +kernel
theorem dX9_count_29 : decode cX9_count 29 = .ok (.ifCond .ne 12, 3) := by decide +kernel
theorem dX9_count_32 : decode cX9_count 32 = .ok (.aload_n 0, 1) := by decide +kernel
theorem dX9_count_33 : decode cX9_count 33 = .ok (.getfield 50, 3) := by decide +kernel
theorem dX9_count_36 : decode cX9_count 36 = .ok (.iload_n 1, 1) := by decide +kernel
theorem dX9_count_37 : decode cX9_count 37 = .ok (.iaload, 1) := by decide +kernel
theorem dX9_count_38 : decode cX9_count 38 = .ok (.goto 45, 3) := by decide +kernel
theorem dX9_count_41 : decode cX9_count 41 = .ok (.iload_n 2, 1) := by decide +kernel
theorem dX9_count_42 : decode cX9_count 42 = .ok (.iconst 1, 1) := by decide +kernel
theorem dX9_count_43 : decode cX9_count 43 = .ok (.if_icmp .ne 12, 3) := by decide +kernel
theorem dX9_count_46 : decode cX9_count 46 = .ok (.aload_n 0, 1) := by decide +kernel
theorem dX9_count_47 : decode cX9_count 47 = .ok (.getfield 53, 3) := by decide +kernel
theorem dX9_count_50 : decode cX9_count 50 = .ok (.iload_n 1, 1) := by decide +kernel
theorem dX9_count_51 : decode cX9_count 51 = .ok (.iaload, 1) := by decide +kernel
theorem dX9_count_52 : decode cX9_count 52 = .ok (.goto 31, 3) := by decide +kernel
theorem dX9_count_55 : decode cX9_count 55 = .ok (.iload_n 2, 1) := by decide +kernel
theorem dX9_count_56 : decode cX9_count 56 = .ok (.iconst 2, 1) := by decide +kernel
theorem dX9_count_57 : decode cX9_count 57 = .ok (.if_icmp .ne 12, 3) := by decide +kernel
theorem dX9_count_60 : decode cX9_count 60 = .ok (.aload_n 0, 1) := by decide +kernel
theorem dX9_count_61 : decode cX9_count 61 = .ok (.getfield 56, 3) := by decide +kernel
theorem dX9_count_64 : decode cX9_count 64 = .ok (.iload_n 1, 1) := by decide +kernel
theorem dX9_count_65 : decode cX9_count 65 = .ok (.iaload, 1) := by decide +kernel
theorem dX9_count_66 : decode cX9_count 66 = .ok (.goto 17, 3) := by decide +kernel
theorem dX9_count_69 : decode cX9_count 69 = .ok (.aload_n 0, 1) := by decide +kernel
theorem dX9_count_70 : decode cX9_count 70 = .ok (.getfield 46, 3) := by decide +kernel
theorem dX9_count_73 : decode cX9_count 73 = .ok (.iload_n 1, 1) := by decide +kernel
theorem dX9_count_74 : decode cX9_count 74 = .ok (.baload, 1) := by decide +kernel
theorem dX9_count_75 : decode cX9_count 75 = .ok (.ifCond .eq 7, 3) := by decide +kernel
theorem dX9_count_78 : decode cX9_count 78 = .ok (.iconst 1, 1) := by decide +kernel
theorem dX9_count_79 : decode cX9_count 79 = .ok (.goto 4, 3) := by decide +kernel
theorem dX9_count_82 : decode cX9_count 82 = .ok (.iconst 0, 1) := by decide +kernel
theorem dX9_count_83 : decode cX9_count 83 = .ok (.ireturn, 1) := by decide +kernel
theorem dX9_state_0 : decode cX9_state 0 = .ok (.aload_n 0, 1) := by decide +kernel
theorem dX9_state_1 : decode cX9_state 1 = .ok (.iconst 0, 1) := by decide +kernel
theorem dX9_state_2 : decode cX9_state 2 = .ok (.putfield 91, 3) := by decide +kernel
theorem dX9_state_5 : decode cX9_state 5 = .ok (.iload_n 1, 1) := by decide +kernel
theorem dX9_state_6 : decode cX9_state 6 = .ok (.iconst 0, 1) := by decide +kernel
theorem dX9_state_7 : decode cX9_state 7 = .ok (.iconst 2, 1) := by decide +kernel
theorem dX9_state_8 : decode cX9_state 8 = .ok (.invokestatic 97, 3) := by decide +kernel
theorem dX9_state_11 : decode cX9_state 11 = .ok (.ifCond .eq 14, 3) := by decide +kernel
theorem dX9_state_14 : decode cX9_state 14 = .ok (.iload_n 1, 1) := by decide +kernel
theorem dX9_state_15 : decode cX9_state 15 = .ok (.iconst 2, 1) := by decide +kernel
theorem dX9_state_16 : decode cX9_state 16 = .ok (.if_icmp .ne 16, 3) := by decide +kernel
theorem dX9_state_19 : decode cX9_state 19 = .ok (.lload_n 2, 1) := by decide +kernel
theorem dX9_state_20 : decode cX9_state 20 = .ok (.lconst 0, 1) := by decide +kernel
theorem dX9_state_21 : decode cX9_state 21 = .ok (.lcmp, 1) := by decide +kernel
theorem dX9_state_22 : decode cX9_state 22 = .ok (.ifCond .ge 10, 3) := by decide +kernel
theorem dX9_state_25 : decode cX9_state 25 = .ok (.aload_n 0, 1) := by decide +kernel
theorem dX9_state_26 : decode cX9_state 26 = .ok (.iconst 1, 1) := by decide +kernel
theorem dX9_state_27 : decode cX9_state 27 = .ok (.invokevirtual 105, 3) := by decide +kernel
theorem dX9_state_30 : decode cX9_state 30 = .ok (.i2l, 1) := by decide +kernel
theorem dX9_state_31 : decode cX9_state 31 = .ok (.lreturn, 1) := by decide +kernel
theorem dX9_state_32 : decode cX9_state 32 = .ok (.iload_n 1, 1) := by decide +kernel
theorem dX9_state_33 : decode cX9_state 33 = .ok (.ifCond .ne 11, 3) := by decide +kernel
theorem dX9_state_36 : decode cX9_state 36 = .ok (.aload_n 0, 1) := by decide +kernel
theorem dX9_state_37 : decode cX9_state 37 = .ok (.getfield 13, 3) := by decide +kernel
theorem dX9_state_40 : decode cX9_state 40 = .ok (.i2l, 1) := by decide +kernel
theorem dX9_state_41 : decode cX9_state 41 = .ok (.goto 30, 3) := by decide +kernel
theorem dX9_state_44 : decode cX9_state 44 = .ok (.iload_n 1, 1) := by decide +kernel
theorem dX9_state_45 : decode cX9_state 45 = .ok (.iconst 1, 1) := by decide +kernel
theorem dX9_state_46 : decode cX9_state 46 = .ok (.if_icmp .ne 11, 3) := by decide +kernel
theorem dX9_state_49 : decode cX9_state 49 = .ok (.aload_n 0, 1) := by decide +kernel
theorem dX9_state_50 : decode cX9_state 50 = .ok (.getfield 17, 3) := by decide +kernel
theorem dX9_state_53 : decode cX9_state 53 = .ok (.i2l, 1) := by decide +kernel
theorem dX9_state_54 : decode cX9_state 54 = .ok (.goto 17, 3) := by decide +kernel
theorem dX9_state_57 : decode cX9_state 57 = .ok (.aload_n 0, 1) := by decide +kernel
theorem dX9_state_58 : decode cX9_state 58 = .ok (.getfield 28, 3) := by decide +kernel
theorem dX9_state_61 : decode cX9_state 61 = .ok (.lload_n 2, 1) := by decide +kernel
theorem dX9_state_62 : decode cX9_state 62 = .ok (.aload_n 0, 1) := by decide +kernel
theorem dX9_state_63 : decode cX9_state 63 = .ok (.getfield 88, 3) := by decide +kernel
theorem dX9_state_66 : decode cX9_state 66 = .ok (.i2l, 1) := by decide +kernel
theorem dX9_state_67 : decode cX9_state 67 = .ok (.lrem, 1) := by decide +kernel
theorem dX9_state_68 : decode cX9_state 68 = .ok (.l2i, 1) := by decide +kernel
theorem dX9_state_69 : decode cX9_state 69 = .ok (.iaload, 1) := by decide +kernel
theorem dX9_state_70 : decode cX9_state 70 = .ok (.i2l, 1) := by decide +kernel
theorem dX9_state_71 : decode cX9_state 71 = .ok (.lreturn, 1) := by decide +kernel
