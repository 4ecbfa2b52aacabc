theorem dX11_init_0 : decode cX11_init 0 = .ok (.aload_n 0, 1) := by decide +kernel
theorem dX11_init_1 : decode cX11_init 1 = .ok (.invokespecial 3, 3) := by decide +kernel
theorem dX11_init_4 : decode cX11_init 4 = .ok (.aload_n 0, 1) := by decide +kernel
theorem dX11_init_5 : decode cX11_init 5 = .ok (.bipush 26, 2) := by decide +kernel
theorem dX11_init_7 : decode cX11_init 7 = .ok (.newarray .int, 2) := by decide +kernel
theorem dX11_init_9 : decode cX11_init 9 = .ok (.putfield 9, 3) := by decide +kernel
theorem dX11_init_12 : decode cX11_init 12 = .ok (.aload_n 0, 1) := by decide +kernel
theorem dX11_init_13 : decode cX11_init 13 = .ok (.bipush 6, 2) := by decide +kernel
theorem dX11_init_15 : decode cX11_init 15 = .ok (.newarray .int, 2) := by decide +kernel
theorem dX11_init_17 : decode cX11_init 17 = .ok (.dup, 1) := by decide +kernel
theorem dX11_init_18 : decode cX11_init 18 = .ok (.iconst 0, 1) := by decide +kernel
theorem dX11_init_19 : decode cX11_init 19 = .ok (.iconst 0, 1) := by decide +kernel
theorem dX11_init_20 : decode cX11_init 20 = .ok (.iastore, 1) := by decide +kernel
theorem dX11_init_21 : decode cX11_init 21 = .ok (.dup, 1) := by decide +kernel
theorem dX11_init_22 : decode cX11_init 22 = .ok (.iconst 1, 1) := by decide +kernel
theorem dX11_init_23 : decode cX11_init 23 = .ok (.iconst 1, 1) := by decide +kernel
theorem dX11_init_24 : decode cX11_init 24 = .ok (.iastore, 1) := by decide +kernel
theorem dX11_init_25 : decode cX11_init 25 = .ok (.dup, 1) := by decide +kernel
theorem dX11_init_26 : decode cX11_init 26 = .ok (.iconst 2, 1) := by decide +kernel
theorem dX11_init_27 : decode cX11_init 27 = .ok (.iconst 3, 1) := by decide +kernel
theorem dX11_init_28 : decode cX11_init 28 = .ok (.iastore, 1) := by decide +kernel
theorem dX11_init_29 : decode cX11_init 29 = .ok (.dup, 1) := by decide +kernel
theorem dX11_init_30 : decode cX11_init 30 = .ok (.iconst 3, 1) := by decide +kernel
theorem dX11_init_31 : decode cX11_init 31 = .ok (.iconst 5, 1) := by decide +kernel
theorem dX11_init_32 : decode cX11_init 32 = .ok (.iastore, 1) := by decide +kernel
theorem dX11_init_33 : decode cX11_init 33 = .ok (.dup, 1) := by decide +kernel
theorem dX11_init_34 : decode cX11_init 34 = .ok (.iconst 4, 1) := by decide +kernel
theorem dX11_init_35 : decode cX11_init 35 = .ok (.bipush 7, 2) := by decide +kernel
theorem dX11_init_37 : decode cX11_init 37 = .ok (.iastore, 1) := by decide +kernel
theorem dX11_init_38 : decode cX11_init 38 = .ok (.dup, 1) := by decide +kernel
theorem dX11_init_39 : decode cX11_init 39 = .ok (.iconst 5, 1) := by decide +kernel
theorem dX11_init_40 : decode cX11_init 40 = .ok (.bipush 9, 2) := by decide +kernel
theorem dX11_init_42 : decode cX11_init 42 = .ok (.iastore, 1) := by decide +kernel
theorem dX11_init_43 : decode cX11_init 43 = .ok (.putfield 13, 3) := by decide +kernel
theorem dX11_init_46 : decode cX11_init 46 = .ok (.aload_n 0, 1) := by decide +kernel
theorem dX11_init_47 : decode cX11_init 47 = .ok (.bipush 20, 2) := by decide +kernel
theorem dX11_init_49 : decode cX11_init 49 = .ok (.newarray .int, 2) := by decide +kernel
theorem dX11_init_51 : decode cX11_init 51 = .ok (.putfield 16, 3) := by decide +kernel
theorem dX11_init_54 : decode cX11_init 54 = .ok (.aload_n 0, 1) := by decide +kernel
theorem dX11_init_55 : decode cX11_init 55 = .ok (.iconst 1, 1) := by decide +kernel
theorem dX11_init_56 : decode cX11_init 56 = .ok (.putfield 19, 3) := by decide +kernel
theorem dX11_init_59 : decode cX11_init 59 = .ok (.aload_n 0, 1) := by decide +kernel
theorem dX11_init_60 : decode cX11_init 60 = .ok (.bipush 80, 2) := by decide +kernel
theorem dX11_init_62 : decode cX11_init 62 = .ok (.newarray .byte, 2) := by decide +kernel
theorem dX11_init_64 : decode cX11_init 64 = .ok (.putfield 23, 3) := by decide +kernel
theorem dX11_init_67 : decode cX11_init 67 = .ok (.aload_n 0, 1) := by decide +kernel
theorem dX11_init_68 : decode cX11_init 68 = .ok (.bipush 16, 2) := by decide +kernel
theorem dX11_init_70 : decode cX11_init 70 = .ok (.newarray .long, 2) := by decide +kernel
theorem dX11_init_72 : decode cX11_init 72 = .ok (.putfield 27, 3) := by decide +kernel
theorem dX11_init_75 : decode cX11_init 75 = .ok (.aload_n 0, 1) := by decide +kernel
theorem dX11_init_76 : decode cX11_init 76 = .ok (.bipush 42, 2) := by decide +kernel
theorem dX11_init_78 : decode cX11_init 78 = .ok (.newarray .int, 2) := by decide +kernel
theorem dX11_init_80 : decode cX11_init 80 = .ok (.putfield 31, 3) := by decide +kernel
theorem dX11_init_83 : decode cX11_init 83 = .ok (.aload_n 0, 1) := by decide +kernel
theorem dX11_init_84 : decode cX11_init 84 = .ok (.bipush 40, 2) := by decide +kernel
theorem dX11_init_86 : decode cX11_init 86 = .ok (.newarray .byte, 2) := by decide +kernel
theorem dX11_init_88 : decode cX11_init 88 = .ok (.putfield 34, 3) := by decide +kernel
theorem dX11_init_91 : decode cX11_init 91 = .ok (.aload_n 0, 1) := by decide +kernel
theorem dX11_init_92 : decode cX11_init 92 = .ok (.bipush 40, 2) := by decide +kernel
theorem dX11_init_94 : decode cX11_init 94 = .ok (.newarray .byte, 2) := by decide +kernel
theorem dX11_init_96 : decode cX11_init 96 = .ok (.putfield 37, 3) := by decide +kernel
theorem dX11_init_99 : decode cX11_init 99 = .ok (.aload_n 0, 1) := by decide +kernel
theorem dX11_init_100 : decode cX11_init 100 = .ok (.bipush 7, 2) := by decide +kernel
theorem dX11_init_102 : decode cX11_init 102 = .ok (.newarray .int, 2) := by decide +kernel
theorem dX11_init_104 : decode cX11_init 104 = .ok (.putfield 40, 3) := by decide +kernel
theorem dX11_init_107 : decode cX11_init 107 = .ok (.aload_n 0, 1) := by decide +kernel
theorem dX11_init_108 : decode cX11_init 108 = .ok (.sipush 312, 3) := by decide +kernel
theorem dX11_init_111 : decode cX11_init 111 = .ok (.newarray .int, 2) := by decide +kernel
theorem dX11_init_113 : decode cX11_init 113 = .ok (.putfield 43, 3) := by decide +kernel
theorem dX11_init_116 : decode cX11_init 116 = .ok (.aload_n 0, 1) := by decide +kernel
theorem dX11_init_117 : decode cX11_init 117 = .ok (.bipush 26, 2) := by decide +kernel
theorem dX11_init_119 : decode cX11_init 119 = .ok (.newarray .int, 2) := by decide +kernel
theorem dX11_init_121 : decode cX11_init 121 = .ok (.putfield 46, 3) := by decide +kernel
theorem dX11_init_124 : decode cX11_init 124 = .ok (.aload_n 0, 1) := by decide +kernel
theorem dX11_init_125 : decode cX11_init 125 = .ok (.bipush 26, 2) := by decide +kernel
theorem dX11_init_127 : decode cX11_init 127 = .ok (.newarray .int, 2) := by decide +kernel
theorem dX11_init_129 : decode cX11_init 129 = .ok (.putfield 49, 3) := by decide +kernel
theorem dX11_init_132 : decode cX11_init 132 = .ok (.aload_n 0, 1) := by decide +kernel
theorem dX11_init_133 : decode cX11_init 133 = .ok (.sipush 240, 3) := by decide +kernel
theorem dX11_init_136 : decode cX11_init 136 = .ok (.newarray .int, 2) := by decide +kernel
theorem dX11_init_138 : decode cX11_init 138 = .ok (.putfield 52, 3) := by decide +kernel
theorem dX11_init_141 : decode cX11_init 141 = .ok (.aload_n 0, 1) := by decide +kernel
theorem dX11_init_142 : decode cX11_init 142 = .ok (.bipush 10, 2) := by decide +kernel
theorem dX11_init_144 : decode cX11_init 144 = .ok (.newarray .int, 2) := by decide +kernel
theorem dX11_init_146 : decode cX11_init 146 = .ok (.putfield 55, 3) := by decide +kernel
theorem dX11_init_149 : decode cX11_init 149 = .ok (.aload_n 0, 1) := by decide +kernel
theorem dX11_init_150 : decode cX11_init 150 = .ok (.bipush 10, 2) := by decide +kernel
theorem dX11_init_152 : decode cX11_init 152 = .ok (.newarray .int, 2) := by decide +kernel
theorem dX11_init_154 : decode cX11_init 154 = .ok (.putfield 58, 3) := by decide +kernel
theorem dX11_init_157 : decode cX11_init 157 = .ok (.aload_n 0, 1) := by decide +kernel
theorem dX11_init_158 : decode cX11_init 158 = .ok (.bipush 10, 2) := by decide +kernel
theorem dX11_init_160 : decode cX11_init 160 = .ok (.newarray .int, 2) := by decide +kernel
theorem dX11_init_162 : decode cX11_init 162 = .ok (.putfield 61, 3) := by decide +kernel
theorem dX11_init_165 : decode cX11_init 165 = .ok (.aload_n 0, 1) := by decide +kernel
theorem dX11_init_166 : decode cX11_init 166 = .ok (.bipush 6, 2) := by decide +kernel
theorem dX11_init_168 : decode cX11_init 168 = .ok (.newarray .int, 2) := by decide +kernel
theorem dX11_init_170 : decode cX11_init 170 = .ok (.putfield 64, 3) := by decide +kernel
theorem dX11_init_173 : decode cX11_init 173 = .ok (.aload_n 0, 1) := by decide +kernel
theorem dX11_init_174 : decode cX11_init 174 = .ok (.bipush 12, 2) := by decide +kernel
theorem dX11_init_176 : decode cX11_init 176 = .ok (.newarray .int, 2) := by decide +kernel
theorem dX11_init_178 : decode cX11_init 178 = .ok (.putfield 67, 3) := by decide +kernel
theorem dX11_init_181 : decode cX11_init 181 = .ok (.aload_n 0, 1) := by decide +kernel
theorem dX11_init_182 : decode cX11_init 182 = .ok (.bipush 12, 2) := by decide +kernel
theorem dX11_init_184 : decode cX11_init 184 = .ok (.newarray .int, 2) := by decide +kernel
theorem dX11_init_186 : decode cX11_init 186 = .ok (.putfield 70, 3) := by decide +kernel
theorem dX11_init_189 : decode cX11_init 189 = .ok (.aload_n 0, 1) := by decide +kernel
theorem dX11_init_190 : decode cX11_init 190 = .ok (.sipush 512, 3) := by decide +kernel
theorem dX11_init_193 : decode cX11_init 193 = .ok (.newarray .boolean, 2) := by decide +kernel
theorem dX11_init_195 : decode cX11_init 195 = .ok (.putfield 73, 3) := by decide +kernel
theorem dX11_init_198 : decode cX11_init 198 = .ok (.aload_n 0, 1) := by decide +kernel
theorem dX11_init_199 : decode cX11_init 199 = .ok (.iconst 3, 1) := by decide +kernel
theorem dX11_init_200 : decode cX11_init 200 = .ok (.newarray .int, 2) := by decide +kernel
theorem dX11_init_202 : decode cX11_init 202 = .ok (.putfield 77, 3) := by decide +kernel
theorem dX11_init_205 : decode cX11_init 205 = .ok (.aload_n 0, 1) := by decide +kernel
theorem dX11_init_206 : decode cX11_init 206 = .ok (.bipush 52, 2) := by decide +kernel
theorem dX11_init_208 : decode cX11_init 208 = .ok (.newarray .int, 2) := by decide +kernel
theorem dX11_init_210 : decode cX11_init 210 = .ok (.putfield 80, 3) := by decide +kernel
theorem dX11_init_213 : decode cX11_init 213 = .ok (.aload_n 0, 1) := by decide +kernel
theorem dX11_init_214 : decode cX11_init 214 = .ok (.iconst 2, 1) := by decide +kernel
theorem dX11_init_215 : decode cX11_init 215 = .ok (.newarray .boolean, 2) := by decide +kernel
theorem dX11_init_217 : decode cX11_init 217 = .ok (.putfield 83, 3) := by decide +kernel
theorem dX11_init_220 : decode cX11_init 220 = .ok (.aload_n 0, 1) := by decide +kernel
theorem dX11_init_221 : decode cX11_init 221 = .ok (.iconst 2, 1) := by decide +kernel
theorem dX11_init_222 : decode cX11_init 222 = .ok (.newarray .int, 2) := by decide +kernel
theorem dX11_init_224 : decode cX11_init 224 = .ok (.putfield 86, 3) := by decide +kernel
theorem dX11_init_227 : decode cX11_init 227 = .ok (.aload_n 0, 1) := by decide +kernel
theorem dX11_init_228 : decode cX11_init 228 = .ok (.getfield 9, 3) := by decide +kernel
theorem dX11_init_231 : decode cX11_init 231 = .ok (.bipush 21, 2) := by decide +kernel
theorem dX11_init_233 : decode cX11_init 233 = .ok (.iconst 5, 1) := by decide +kernel
theorem dX11_init_234 : decode cX11_init 234 = .ok (.iastore, 1) := by decide +kernel
theorem dX11_init_235 : decode cX11_init 235 = .ok (.return_, 1) := by decide +kernel
theorem dX11_thrown_0 : decode cX11_thrown 0 = .ok (.aload_n 0, 1) := by decide +kernel
theorem dX11_thrown_1 : decode cX11_thrown 1 = .ok (.getfield 89, 3) := by decide +kernel
theorem dX11_thrown_4 : decode cX11_thrown 4 = .ok (.ireturn, 1) := by decide +kernel
theorem dX11_in_0 : decode cX11_in 0 = .ok (.iload_n 0, 1) := by decide +kernel
theorem dX11_in_1 : decode cX11_in 1 = .ok (.iload_n 1, 1) := by decide +kernel
theorem dX11_in_2 : decode cX11_in 2 = .ok (.if_icmp .lt 12, 3) := by decide +kernel
theorem dX11_in_5 : decode cX11_in 5 = .ok (.iload_n 0, 1) := by decide +kernel
theorem dX11_in_6 : decode cX11_in 6 = .ok (.iload_n 2, 1) := by decide +kernel
theorem dX11_in_7 : decode cX11_in 7 = .ok (.if_icmp .gt 7, 3) := by decide +kernel
theorem dX11_in_10 : decode cX11_in 10 = .ok (.iconst 1, 1) := by decide +kernel
theorem dX11_in_11 : decode cX11_in 11 = .ok (.goto 4, 3) := by decide +kernel
theorem dX11_in_14 : decode cX11_in 14 = .ok (.iconst 0, 1) := by decide +kernel
theorem dX11_in_15 : decode cX11_in 15 = .ok (.ireturn, 1) := by decide +kernel
theorem dX11_has_0 : decode cX11_has 0 = .ok (.iload_n 0, 1) := by decide +kernel
theorem dX11_has_1 : decode cX11_has 1 = .ok (.iload_n 1, 1) := by decide +kernel
theorem dX11_has_2 : decode cX11_has 2 = .ok (.ishr, 1) := by decide +kernel
theorem dX11_has_3 : decode cX11_has 3 = .ok (.iconst 1, 1) := by decide +kernel
theorem dX11_has_4 : decode cX11_has 4 = .ok (.iand, 1) := by decide +kernel
theorem dX11_has_5 : decode cX11_has 5 = .ok (.iconst 1, 1) := by decide +kernel
theorem dX11_has_6 : decode cX11_has 6 = .ok (.if_icmp .ne 7, 3) := by decide +kernel
theorem dX11_has_9 : decode cX11_has 9 = .ok (.iconst 1, 1) := by decide +kernel
theorem dX11_has_10 : decode cX11_has 10 = .ok (.goto 4, 3) := by decide +kernel
theorem dX11_has_13 : decode cX11_has 13 = .ok (.iconst 0, 1) := by decide +kernel
theorem dX11_has_14 : decode cX11_has 14 = .ok (.ireturn, 1) := by decide +kernel
theorem dX11_lost_0 : decode cX11_lost 0 = .ok (.aload_n 0, 1) := by decide +kernel
theorem dX11_lost_1 : decode cX11_lost 1 = .ok (.iconst 1, 1) := by decide +kernel
theorem dX11_lost_2 : decode cX11_lost 2 = .ok (.putfield 89, 3) := by decide +kernel
theorem dX11_lost_5 : decode cX11_lost 5 = .ok (.iconst 0, 1) := by decide +kernel
theorem dX11_lost_6 : decode cX11_lost 6 = .ok (.ireturn, 1) := by decide +kernel
theorem dX11_tell_0 : decode cX11_tell 0 = .ok (.aload_n 0, 1) := by decide +kernel
theorem dX11_tell_1 : decode cX11_tell 1 = .ok (.getfield 27, 3) := by decide +kernel
theorem dX11_tell_4 : decode cX11_tell 4 = .ok (.aload_n 0, 1) := by decide +kernel
theorem dX11_tell_5 : decode cX11_tell 5 = .ok (.getfield 92, 3) := by decide +kernel
theorem dX11_tell_8 : decode cX11_tell 8 = .ok (.lload_n 1, 1) := by decide +kernel
theorem dX11_tell_9 : decode cX11_tell 9 = .ok (.lastore, 1) := by decide +kernel
theorem dX11_tell_10 : decode cX11_tell 10 = .ok (.aload_n 0, 1) := by decide +kernel
theorem dX11_tell_11 : decode cX11_tell 11 = .ok (.dup, 1) := by decide +kernel
theorem dX11_tell_12 : decode cX11_tell 12 = .ok (.getfield 92, 3) := by decide +kernel
theorem dX11_tell_15 : decode cX11_tell 15 = .ok (.iconst 1, 1) := by decide +kernel
theorem dX11_tell_16 : decode cX11_tell 16 = .ok (.iadd, 1) := by decide +kernel
theorem dX11_tell_17 : decode cX11_tell 17 = .ok (.putfield 92, 3) := by decide +kernel
theorem dX11_tell_20 : decode cX11_tell 20 = .ok (.return_, 1) := by decide +kernel
theorem dX11_isOne_0 : decode cX11_isOne 0 = .ok (.iload_n 1, 1) := by decide +kernel
theorem dX11_isOne_1 : decode cX11_isOne 1 = .ok (.iconst 0, 1) := by decide +kernel
theorem dX11_isOne_2 : decode cX11_isOne 2 = .ok (.aload_n 0, 1) := by decide +kernel
theorem dX11_isOne_3 : decode cX11_isOne 3 = .ok (.getfield 95, 3) := by decide +kernel
theorem dX11_isOne_6 : decode cX11_isOne 6 = .ok (.iconst 1, 1) := by decide +kernel
theorem dX11_isOne_7 : decode cX11_isOne 7 = .ok (.isub, 1) := by decide +kernel
theorem dX11_isOne_8 : decode cX11_isOne 8 = .ok (.invokestatic 98, 3) := by decide +kernel
theorem dX11_isOne_11 : decode cX11_isOne 11 = .ok (.ireturn, 1) := by decide +kernel
theorem dX11_all_0 : decode cX11_all 0 = .ok (.iconst 1, 1) := by decide +kernel
theorem dX11_all_1 : decode cX11_all 1 = .ok (.aload_n 0, 1) := by decide +kernel
theorem dX11_all_2 : decode cX11_all 2 = .ok (.getfield 95, 3) := by decide +kernel
theorem dX11_all_5 : decode cX11_all 5 = .ok (.ishl, 1) := by decide +kernel
theorem dX11_all_6 : decode cX11_all 6 = .ok (.iconst 1, 1) := by decide +kernel
theorem dX11_all_7 : decode cX11_all 7 = .ok (.isub, 1) := by decide +kernel
theorem dX11_all_8 : decode cX11_all 8 = .ok (.ireturn, 1) := by decide +kernel
theorem dX11_sign_0 : decode cX11_sign 0 = .ok (.aload_n 0, 1) := by decide +kernel
theorem dX11_sign_1 : decode cX11_sign 1 = .ok (.iconst 0, 1) := by decide +kernel
theorem dX11_sign_2 : decode cX11_sign 2 = .ok (.putfield 89, 3) := by decide +kernel
theorem dX11_sign_5 : decode cX11_sign 5 = .ok (.aload_n 0, 1) := by decide +kernel
theorem dX11_sign_6 : decode cX11_sign 6 = .ok (.getfield 102, 3) := by decide +kernel
theorem dX11_sign_9 : decode cX11_sign 9 = .ok (.iconst 4, 1) := by decide +kernel
theorem dX11_sign_10 : decode cX11_sign 10 = .ok (.iadd, 1) := by decide +kernel
theorem dX11_sign_11 : decode cX11_sign 11 = .ok (.bipush 80, 2) := by decide +kernel
theorem dX11_sign_13 : decode cX11_sign 13 = .ok (.if_icmp .le 5, 3) := by decide +kernel
theorem dX11_sign_16 : decode cX11_sign 16 = .ok (.iconst (-1), 1) := by decide +kernel
theorem dX11_sign_17 : decode cX11_sign 17 = .ok (.ireturn, 1) := by decide +kernel
theorem dX11_sign_18 : decode cX11_sign 18 = .ok (.iconst 3, 1) := by decide +kernel
theorem dX11_sign_19 : decode cX11_sign 19 = .ok (.istore_n 2, 1) := by decide +kernel
theorem dX11_sign_20 : decode cX11_sign 20 = .ok (.iload_n 2, 1) := by decide +kernel
theorem dX11_sign_21 : decode cX11_sign 21 = .ok (.ifCond .lt 32, 3) := by decide +kernel
theorem dX11_sign_24 : decode cX11_sign 24 = .ok (.aload_n 0, 1) := by decide +kernel
theorem dX11_sign_25 : decode cX11_sign 25 = .ok (.getfield 23, 3) := by decide +kernel
theorem dX11_sign_28 : decode cX11_sign 28 = .ok (.aload_n 0, 1) := by decide +kernel
theorem dX11_sign_29 : decode cX11_sign 29 = .ok (.dup, 1) := by decide +kernel
theorem dX11_sign_30 : decode cX11_sign 30 = .ok (.getfield 102, 3) := by decide +kernel
theorem dX11_sign_33 : decode cX11_sign 33 = .ok (.dup_x1, 1) := by decide +kernel
theorem dX11_sign_34 : decode cX11_sign 34 = .ok (.iconst 1, 1) := by decide +kernel
theorem dX11_sign_35 : decode cX11_sign 35 = .ok (.iadd, 1) := by decide +kernel
theorem dX11_sign_36 : decode cX11_sign 36 = .ok (.putfield 102, 3) := by decide +kernel
theorem dX11_sign_39 : decode cX11_sign 39 = .ok (.iload_n 1, 1) := by decide +kernel
theorem dX11_sign_40 : decode cX11_sign 40 = .ok (.bipush 8, 2) := by decide +kernel
theorem dX11_sign_42 : decode cX11_sign 42 = .ok (.iload_n 2, 1) := by decide +kernel
theorem dX11_sign_43 : decode cX11_sign 43 = .ok (.imul, 1) := by decide +kernel
theorem dX11_sign_44 : decode cX11_sign 44 = .ok (.ishr, 1) := by decide +kernel
theorem dX11_sign_45 : decode cX11_sign 45 = .ok (.i2b, 1) := by decide +kernel
theorem dX11_sign_46 : decode cX11_sign 46 = .ok (.bastore, 1) := by decide +kernel
theorem dX11_sign_47 : decode cX11_sign 47 = .ok (.iinc 2 (-1), 3) := by decide +kernel
theorem dX11_sign_50 : decode cX11_sign 50 = .ok (.goto (-30), 3) := by decide +kernel
theorem dX11_sign_53 : decode cX11_sign 53 = .ok (.aload_n 0, 1) := by decide +kernel
theorem dX11_sign_54 : decode cX11_sign 54 = .ok (.getfield 102, 3) := by decide +kernel
theorem dX11_sign_57 : decode cX11_sign 57 = .ok (.ireturn, 1) := by decide +kernel
theorem dX11_end_0 : decode cX11_end 0 = .ok (.aload_n 0, 1) := by decide +kernel
theorem dX11_end_1 : decode cX11_end 1 = .ok (.iconst 0, 1) := by decide +kernel
theorem dX11_end_2 : decode cX11_end 2 = .ok (.putfield 89, 3) := by decide +kernel
theorem dX11_end_5 : decode cX11_end 5 = .ok (.iload_n 1, 1) := by decide +kernel
theorem dX11_end_6 : decode cX11_end 6 = .ok (.iconst 0, 1) := by decide +kernel
theorem dX11_end_7 : decode cX11_end 7 = .ok (.aload_n 0, 1) := by decide +kernel
theorem dX11_end_8 : decode cX11_end 8 = .ok (.getfield 102, 3) := by decide +kernel
theorem dX11_end_11 : decode cX11_end 11 = .ok (.invokestatic 98, 3) := by decide +kernel
theorem dX11_end_14 : decode cX11_end 14 = .ok (.ifCond .ne 5, 3) := by decide +kernel
theorem dX11_end_17 : decode cX11_end 17 = .ok (.iconst 0, 1) := by decide +kernel
theorem dX11_end_18 : decode cX11_end 18 = .ok (.ireturn, 1) := by decide +kernel
theorem dX11_end_19 : decode cX11_end 19 = .ok (.aload_n 0, 1) := by decide +kernel
theorem dX11_end_20 : decode cX11_end 20 = .ok (.iload_n 1, 1) := by decide +kernel
theorem dX11_end_21 : decode cX11_end 21 = .ok (.putfield 102, 3) := by decide +kernel
theorem dX11_end_24 : decode cX11_end 24 = .ok (.iconst 1, 1) := by decide +kernel
theorem dX11_end_25 : decode cX11_end 25 = .ok (.ireturn, 1) := by decide +kernel
theorem dX11_begin_0 : decode cX11_begin 0 = .ok (.aload_n 0, 1) := by decide +kernel
theorem dX11_begin_1 : decode cX11_begin 1 = .ok (.aload_n 1, 1) := by decide +kernel
theorem dX11_begin_2 : decode cX11_begin 2 = .ok (.putfield 105, 3) := by decide +kernel
theorem dX11_begin_5 : decode cX11_begin 5 = .ok (.aload_n 0, 1) := by decide +kernel
theorem dX11_begin_6 : decode cX11_begin 6 = .ok (.iload_n 2, 1) := by decide +kernel
theorem dX11_begin_7 : decode cX11_begin 7 = .ok (.putfield 108, 3) := by decide +kernel
theorem dX11_begin_10 : decode cX11_begin 10 = .ok (.aload_n 0, 1) := by decide +kernel
theorem dX11_begin_11 : decode cX11_begin 11 = .ok (.iload_n 3, 1) := by decide +kernel
theorem dX11_begin_12 : decode cX11_begin 12 = .ok (.putfield 111, 3) := by decide +kernel
theorem dX11_begin_15 : decode cX11_begin 15 = .ok (.aload_n 0, 1) := by decide +kernel
theorem dX11_begin_16 : decode cX11_begin 16 = .ok (.iconst 0, 1) := by decide +kernel
theorem dX11_begin_17 : decode cX11_begin 17 = .ok (.putfield 114, 3) := by decide +kernel
theorem dX11_begin_20 : decode cX11_begin 20 = .ok (.aload_n 0, 1) := by decide +kernel
theorem dX11_begin_21 : decode cX11_begin 21 = .ok (.iconst (-1), 1) := by decide +kernel
theorem dX11_begin_22 : decode cX11_begin 22 = .ok (.putfield 117, 3) := by decide +kernel
theorem dX11_begin_25 : decode cX11_begin 25 = .ok (.return_, 1) := by decide +kernel
theorem dX11_beginText_0 : decode cX11_beginText 0 = .ok (.aload_n 0, 1) := by decide +kernel
theorem dX11_beginText_1 : decode cX11_beginText 1 = .ok (.aload_n 0, 1) := by decide +kernel
theorem dX11_beginText_2 : decode cX11_beginText 2 = .ok (.getfield 23, 3) := by decide +kernel
theorem dX11_beginText_5 : decode cX11_beginText 5 = .ok (.aload_n 0, 1) := by decide +kernel
theorem dX11_beginText_6 : decode cX11_beginText 6 = .ok (.getfield 102, 3) := by decide +kernel
theorem dX11_beginText_9 : decode cX11_beginText 9 = .ok (.iload_n 1, 1) := by decide +kernel
theorem dX11_beginText_10 : decode cX11_beginText 10 = .ok (.invokevirtual 120, 3) := by decide +kernel
theorem dX11_beginText_13 : decode cX11_beginText 13 = .ok (.aload_n 0, 1) := by decide +kernel
theorem dX11_beginText_14 : decode cX11_beginText 14 = .ok (.iconst 0, 1) := by decide +kernel
theorem dX11_beginText_15 : decode cX11_beginText 15 = .ok (.putfield 102, 3) := by decide +kernel
theorem dX11_beginText_18 : decode cX11_beginText 18 = .ok (.return_, 1) := by decide +kernel
theorem dX11_here_0 : decode cX11_here 0 = .ok (.aload_n 0, 1) := by decide +kernel
theorem dX11_here_1 : decode cX11_here 1 = .ok (.getfield 114, 3) := by decide +kernel
theorem dX11_here_4 : decode cX11_here 4 = .ok (.aload_n 0, 1) := by decide +kernel
theorem dX11_here_5 : decode cX11_here 5 = .ok (.getfield 108, 3) := by decide +kernel
theorem dX11_here_8 : decode cX11_here 8 = .ok (.if_icmp .ge 30, 3) := by decide +kernel
theorem dX11_here_11 : decode cX11_here 11 = .ok (.aload_n 0, 1) := by decide +kernel
theorem dX11_here_12 : decode cX11_here 12 = .ok (.getfield 114, 3) := by decide +kernel
theorem dX11_here_15 : decode cX11_here 15 = .ok (.aload_n 0, 1) := by decide +kernel
theorem dX11_here_16 : decode cX11_here 16 = .ok (.getfield 111, 3) := by decide +kernel
theorem dX11_here_19 : decode cX11_here 19 = .ok (.if_icmp .ge 19, 3) := by decide +kernel
theorem dX11_here_22 : decode cX11_here 22 = .ok (.aload_n 0, 1) := by decide +kernel
theorem dX11_here_23 : decode cX11_here 23 = .ok (.getfield 105, 3) := by decide +kernel
theorem dX11_here_26 : decode cX11_here 26 = .ok (.aload_n 0, 1) := by decide +kernel
theorem dX11_here_27 : decode cX11_here 27 = .ok (.getfield 114, 3) := by decide +kernel
theorem dX11_here_30 : decode cX11_here 30 = .ok (.baload, 1) := by decide +kernel
theorem dX11_here_31 : decode cX11_here 31 = .ok (.sipush 255, 3) := by decide +kernel
theorem dX11_here_34 : decode cX11_here 34 = .ok (.iand, 1) := by decide +kernel
theorem dX11_here_35 : decode cX11_here 35 = .ok (.goto 4, 3) := by decide +kernel
theorem dX11_here_38 : decode cX11_here 38 = .ok (.iconst (-1), 1) := by decide +kernel
theorem dX11_here_39 : decode cX11_here 39 = .ok (.ireturn, 1) := by decide +kernel
theorem dX11_fine_0 : decode cX11_fine 0 = .ok (.aload_n 0, 1) := by decide +kernel
theorem dX11_fine_1 : decode cX11_fine 1 = .ok (.getfield 117, 3) := by decide +kernel
theorem dX11_fine_4 : decode cX11_fine 4 = .ok (.iconst (-1), 1) := by decide +kernel
theorem dX11_fine_5 : decode cX11_fine 5 = .ok (.if_icmp .ne 7, 3) := by decide +kernel
theorem dX11_fine_8 : decode cX11_fine 8 = .ok (.iconst 1, 1) := by decide +kernel
theorem dX11_fine_9 : decode cX11_fine 9 = .ok (.goto 4, 3) := by decide +kernel
theorem dX11_fine_12 : decode cX11_fine 12 = .ok (.iconst 0, 1) := by decide +kernel
theorem dX11_fine_13 : decode cX11_fine 13 = .ok (.ireturn, 1) := by decide +kernel
theorem dX11_fault_0 : decode cX11_fault 0 = .ok (.aload_n 0, 1) := by decide +kernel
theorem dX11_fault_1 : decode cX11_fault 1 = .ok (.invokevirtual 124, 3) := by decide +kernel
theorem dX11_fault_4 : decode cX11_fault 4 = .ok (.ifCond .eq 8, 3) := by decide +kernel
theorem dX11_fault_7 : decode cX11_fault 7 = .ok (.aload_n 0, 1) := by decide +kernel
theorem dX11_fault_8 : decode cX11_fault 8 = .ok (.iload_n 1, 1) := by decide +kernel
theorem dX11_fault_9 : decode cX11_fault 9 = .ok (.putfield 117, 3) := by decide +kernel
theorem dX11_fault_12 : decode cX11_fault 12 = .ok (.return_, 1) := by decide +kernel
theorem dX11_passes_0 : decode cX11_passes 0 = .ok (.aload_n 0, 1) := by decide +kernel
theorem dX11_passes_1 : decode cX11_passes 1 = .ok (.invokevirtual 124, 3) := by decide +kernel
theorem dX11_passes_4 : decode cX11_passes 4 = .ok (.ifCond .eq 11, 3) := by decide +kernel
theorem dX11_passes_7 : decode cX11_passes 7 = .ok (.aload_n 0, 1) := by decide +kernel
theorem dX11_passes_8 : decode cX11_passes 8 = .ok (.invokevirtual 128, 3) := by decide +kernel
theorem dX11_passes_11 : decode cX11_passes 11 = .ok (.iload_n 1, 1) := by decide +kernel
theorem dX11_passes_12 : decode cX11_passes 12 = .ok (.if_icmp .eq 5, 3) := by decide +kernel
theorem dX11_passes_15 : decode cX11_passes 15 = .ok (.iconst 0, 1) := by decide +kernel
theorem dX11_passes_16 : decode cX11_passes 16 = .ok (.ireturn, 1) := by decide +kernel
theorem dX11_passes_17 : decode cX11_passes 17 = .ok (.aload_n 0, 1) := by decide +kernel
theorem dX11_passes_18 : decode cX11_passes 18 = .ok (.dup, 1) := by decide +kernel
theorem dX11_passes_19 : decode cX11_passes 19 = .ok (.getfield 114, 3) := by decide +kernel
theorem dX11_passes_22 : decode cX11_passes 22 = .ok (.iconst 1, 1) := by decide +kernel
theorem dX11_passes_23 : decode cX11_passes 23 = .ok (.iadd, 1) := by decide +kernel
theorem dX11_passes_24 : decode cX11_passes 24 = .ok (.putfield 114, 3) := by decide +kernel
theorem dX11_passes_27 : decode cX11_passes 27 = .ok (.iconst 1, 1) := by decide +kernel
theorem dX11_passes_28 : decode cX11_passes 28 = .ok (.ireturn, 1) := by decide +kernel
theorem dX11_need_0 : decode cX11_need 0 = .ok (.aload_n 0, 1) := by decide +kernel
theorem dX11_need_1 : decode cX11_need 1 = .ok (.iload_n 1, 1) := by decide +kernel
theorem dX11_need_2 : decode cX11_need 2 = .ok (.invokevirtual 132, 3) := by decide +kernel
theorem dX11_need_5 : decode cX11_need 5 = .ok (.ifCond .ne 11, 3) := by decide +kernel
theorem dX11_need_8 : decode cX11_need 8 = .ok (.aload_n 0, 1) := by decide +kernel
theorem dX11_need_9 : decode cX11_need 9 = .ok (.aload_n 0, 1) := by decide +kernel
theorem dX11_need_10 : decode cX11_need 10 = .ok (.getfield 114, 3) := by decide +kernel
theorem dX11_need_13 : decode cX11_need 13 = .ok (.invokevirtual 136, 3) := by decide +kernel
theorem dX11_need_16 : decode cX11_need 16 = .ok (.return_, 1) := by decide +kernel
theorem dX11_oneOf_0 : decode cX11_oneOf 0 = .ok (.aload_n 0, 1) := by decide +kernel
theorem dX11_oneOf_1 : decode cX11_oneOf 1 = .ok (.invokevirtual 124, 3) := by decide +kernel
theorem dX11_oneOf_4 : decode cX11_oneOf 4 = .ok (.ifCond .ne 5, 3) := by decide +kernel
theorem dX11_oneOf_7 : decode cX11_oneOf 7 = .ok (.iconst 0, 1) := by decide +kernel
theorem dX11_oneOf_8 : decode cX11_oneOf 8 = .ok (.ireturn, 1) := by decide +kernel
theorem dX11_oneOf_9 : decode cX11_oneOf 9 = .ok (.aload_n 0, 1) := by decide +kernel
theorem dX11_oneOf_10 : decode cX11_oneOf 10 = .ok (.invokevirtual 128, 3) := by decide +kernel
theorem dX11_oneOf_13 : decode cX11_oneOf 13 = .ok (.iload_n 1, 1) := by decide +kernel
theorem dX11_oneOf_14 : decode cX11_oneOf 14 = .ok (.iload_n 1, 1) := by decide +kernel
theorem dX11_oneOf_15 : decode cX11_oneOf 15 = .ok (.iload_n 2, 1) := by decide +kernel
theorem dX11_oneOf_16 : decode cX11_oneOf 16 = .ok (.iadd, 1) := by decide +kernel
theorem dX11_oneOf_17 : decode cX11_oneOf 17 = .ok (.iconst 1, 1) := by decide +kernel
theorem dX11_oneOf_18 : decode cX11_oneOf 18 = .ok (.isub, 1) := by decide +kernel
theorem dX11_oneOf_19 : decode cX11_oneOf 19 = .ok (.invokestatic 98, 3) := by decide +kernel
theorem dX11_oneOf_22 : decode cX11_oneOf 22 = .ok (.ifCond .ne 13, 3) := by decide +kernel
theorem dX11_oneOf_25 : decode cX11_oneOf 25 = .ok (.aload_n 0, 1) := by decide +kernel
theorem dX11_oneOf_26 : decode cX11_oneOf 26 = .ok (.aload_n 0, 1) := by decide +kernel
theorem dX11_oneOf_27 : decode cX11_oneOf 27 = .ok (.getfield 114, 3) := by decide +kernel
theorem dX11_oneOf_30 : decode cX11_oneOf 30 = .ok (.invokevirtual 136, 3) := by decide +kernel
theorem dX11_oneOf_33 : decode cX11_oneOf 33 = .ok (.iconst 0, 1) := by decide +kernel
theorem dX11_oneOf_34 : decode cX11_oneOf 34 = .ok (.ireturn, 1) := by decide +kernel
theorem dX11_oneOf_35 : decode cX11_oneOf 35 = .ok (.aload_n 0, 1) := by decide +kernel
theorem dX11_oneOf_36 : decode cX11_oneOf 36 = .ok (.dup, 1) := by decide +kernel
theorem dX11_oneOf_37 : decode cX11_oneOf 37 = .ok (.getfield 114, 3) := by decide +kernel
theorem dX11_oneOf_40 : decode cX11_oneOf 40 = .ok (.iconst 1, 1) := by decide +kernel
theorem dX11_oneOf_41 : decode cX11_oneOf 41 = .ok (.iadd, 1) := by decide +kernel
theorem dX11_oneOf_42 : decode cX11_oneOf 42 = .ok (.putfield 114, 3) := by decide +kernel
theorem dX11_oneOf_45 : decode cX11_oneOf 45 = .ok (.aload_n 0, 1) := by decide +kernel
theorem dX11_oneOf_46 : decode cX11_oneOf 46 = .ok (.getfield 105, 3) := by decide +kernel
theorem dX11_oneOf_49 : decode cX11_oneOf 49 = .ok (.aload_n 0, 1) := by decide +kernel
theorem dX11_oneOf_50 : decode cX11_oneOf 50 = .ok (.getfield 114, 3) := by decide +kernel
theorem dX11_oneOf_53 : decode cX11_oneOf 53 = .ok (.iconst 1, 1) := by decide +kernel
theorem dX11_oneOf_54 : decode cX11_oneOf 54 = .ok (.isub, 1) := by decide +kernel
theorem dX11_oneOf_55 : decode cX11_oneOf 55 = .ok (.baload, 1) := by decide +kernel
theorem dX11_oneOf_56 : decode cX11_oneOf 56 = .ok (.iload_n 1, 1) := by decide +kernel
theorem dX11_oneOf_57 : decode cX11_oneOf 57 = .ok (.isub, 1) := by decide +kernel
theorem dX11_oneOf_58 : decode cX11_oneOf 58 = .ok (.ireturn, 1) := by decide +kernel
theorem dX11_number_0 : decode cX11_number 0 = .ok (.aload_n 0, 1) := by decide +kernel
theorem dX11_number_1 : decode cX11_number 1 = .ok (.bipush 48, 2) := by decide +kernel
theorem dX11_number_3 : decode cX11_number 3 = .ok (.bipush 10, 2) := by decide +kernel
theorem dX11_number_5 : decode cX11_number 5 = .ok (.invokevirtual 140, 3) := by decide +kernel
theorem dX11_number_8 : decode cX11_number 8 = .ok (.istore_n 2, 1) := by decide +kernel
theorem dX11_number_9 : decode cX11_number 9 = .ok (.iconst 1, 1) := by decide +kernel
theorem dX11_number_10 : decode cX11_number 10 = .ok (.istore_n 3, 1) := by decide +kernel
theorem dX11_number_11 : decode cX11_number 11 = .ok (.iload_n 3, 1) := by decide +kernel
theorem dX11_number_12 : decode cX11_number 12 = .ok (.iload_n 1, 1) := by decide +kernel
theorem dX11_number_13 : decode cX11_number 13 = .ok (.if_icmp .ge 44, 3) := by decide +kernel
theorem dX11_number_16 : decode cX11_number 16 = .ok (.aload_n 0, 1) := by decide +kernel
theorem dX11_number_17 : decode cX11_number 17 = .ok (.invokevirtual 124, 3) := by decide +kernel
theorem dX11_number_20 : decode cX11_number 20 = .ok (.ifCond .eq 37, 3) := by decide +kernel
theorem dX11_number_23 : decode cX11_number 23 = .ok (.aload_n 0, 1) := by decide +kernel
theorem dX11_number_24 : decode cX11_number 24 = .ok (.invokevirtual 128, 3) := by decide +kernel
theorem dX11_number_27 : decode cX11_number 27 = .ok (.bipush 48, 2) := by decide +kernel
theorem dX11_number_29 : decode cX11_number 29 = .ok (.bipush 57, 2) := by decide +kernel
theorem dX11_number_31 : decode cX11_number 31 = .ok (.invokestatic 98, 3) := by decide +kernel
theorem dX11_number_34 : decode cX11_number 34 = .ok (.ifCond .eq 23, 3) := by decide +kernel
theorem dX11_number_37 : decode cX11_number 37 = .ok (.bipush 10, 2) := by decide +kernel
theorem dX11_number_39 : decode cX11_number 39 = .ok (.iload_n 2, 1) := by decide +kernel
theorem dX11_number_40 : decode cX11_number 40 = .ok (.imul, 1) := by decide +kernel
theorem dX11_number_41 : decode cX11_number 41 = .ok (.aload_n 0, 1) := by decide +kernel
theorem dX11_number_42 : decode cX11_number 42 = .ok (.bipush 48, 2) := by decide +kernel
theorem dX11_number_44 : decode cX11_number 44 = .ok (.bipush 10, 2) := by decide +kernel
theorem dX11_number_46 : decode cX11_number 46 = .ok (.invokevirtual 140, 3) := by decide +kernel
theorem dX11_number_49 : decode cX11_number 49 = .ok (.iadd, 1) := by decide +kernel
theorem dX11_number_50 : decode cX11_number 50 = .ok (.istore_n 2, 1) := by decide +kernel
theorem dX11_number_51 : decode cX11_number 51 = .ok (.iinc 3 1, 3) := by decide +kernel
theorem dX11_number_54 : decode cX11_number 54 = .ok (.goto (-43), 3) := by decide +kernel
theorem dX11_number_57 : decode cX11_number 57 = .ok (.iload_n 2, 1) := by decide +kernel
theorem dX11_number_58 : decode cX11_number 58 = .ok (.ireturn, 1) := by decide +kernel
theorem dX11_wasRight_0 : decode cX11_wasRight 0 = .ok (.aload_n 0, 1) := by decide +kernel
theorem dX11_wasRight_1 : decode cX11_wasRight 1 = .ok (.getfield 114, 3) := by decide +kernel
theorem dX11_wasRight_4 : decode cX11_wasRight 4 = .ok (.aload_n 0, 1) := by decide +kernel
theorem dX11_wasRight_5 : decode cX11_wasRight 5 = .ok (.getfield 108, 3) := by decide +kernel
theorem dX11_wasRight_8 : decode cX11_wasRight 8 = .ok (.if_icmp .ge 11, 3) := by decide +kernel
theorem dX11_wasRight_11 : decode cX11_wasRight 11 = .ok (.aload_n 0, 1) := by decide +kernel
theorem dX11_wasRight_12 : decode cX11_wasRight 12 = .ok (.aload_n 0, 1) := by decide +kernel
theorem dX11_wasRight_13 : decode cX11_wasRight 13 = .ok (.getfield 114, 3) := by decide +kernel
theorem dX11_wasRight_16 : decode cX11_wasRight 16 = .ok (.invokevirtual 136, 3) := by decide +kernel
theorem dX11_wasRight_19 : decode cX11_wasRight 19 = .ok (.aload_n 0, 1) := by decide +kernel
theorem dX11_wasRight_20 : decode cX11_wasRight 20 = .ok (.invokevirtual 124, 3) := by decide +kernel
theorem dX11_wasRight_23 : decode cX11_wasRight 23 = .ok (.ireturn, 1) := by decide +kernel
theorem dX11_thoughts_0 : decode cX11_thoughts 0 = .ok (.aload_n 0, 1) := by decide +kernel
theorem dX11_thoughts_1 : decode cX11_thoughts 1 = .ok (.iconst 0, 1) := by decide +kernel
theorem dX11_thoughts_2 : decode cX11_thoughts 2 = .ok (.putfield 89, 3) := by decide +kernel
theorem dX11_thoughts_5 : decode cX11_thoughts 5 = .ok (.aload_n 0, 1) := by decide +kernel
theorem dX11_thoughts_6 : decode cX11_thoughts 6 = .ok (.bipush 6, 2) := by decide +kernel
theorem dX11_thoughts_8 : decode cX11_thoughts 8 = .ok (.invokevirtual 144, 3) := by decide +kernel
theorem dX11_thoughts_11 : decode cX11_thoughts 11 = .ok (.iconst 0, 1) := by decide +kernel
theorem dX11_thoughts_12 : decode cX11_thoughts 12 = .ok (.istore_n 1, 1) := by decide +kernel
theorem dX11_thoughts_13 : decode cX11_thoughts 13 = .ok (.iload_n 1, 1) := by decide +kernel
theorem dX11_thoughts_14 : decode cX11_thoughts 14 = .ok (.bipush 6, 2) := by decide +kernel
theorem dX11_thoughts_16 : decode cX11_thoughts 16 = .ok (.if_icmp .ge 30, 3) := by decide +kernel
theorem dX11_thoughts_19 : decode cX11_thoughts 19 = .ok (.aload_n 0, 1) := by decide +kernel
theorem dX11_thoughts_20 : decode cX11_thoughts 20 = .ok (.invokevirtual 124, 3) := by decide +kernel
theorem dX11_thoughts_23 : decode cX11_thoughts 23 = .ok (.ifCond .eq 23, 3) := by decide +kernel
theorem dX11_thoughts_26 : decode cX11_thoughts 26 = .ok (.aload_n 0, 1) := by decide +kernel
theorem dX11_thoughts_27 : decode cX11_thoughts 27 = .ok (.getfield 31, 3) := by decide +kernel
theorem dX11_thoughts_30 : decode cX11_thoughts 30 = .ok (.iload_n 1, 1) := by decide +kernel
theorem dX11_thoughts_31 : decode cX11_thoughts 31 = .ok (.aload_n 0, 1) := by decide +kernel
theorem dX11_thoughts_32 : decode cX11_thoughts 32 = .ok (.bipush 48, 2) := by decide +kernel
theorem dX11_thoughts_34 : decode cX11_thoughts 34 = .ok (.bipush 10, 2) := by decide +kernel
theorem dX11_thoughts_36 : decode cX11_thoughts 36 = .ok (.invokevirtual 140, 3) := by decide +kernel
theorem dX11_thoughts_39 : decode cX11_thoughts 39 = .ok (.iastore, 1) := by decide +kernel
theorem dX11_thoughts_40 : decode cX11_thoughts 40 = .ok (.iinc 1 1, 3) := by decide +kernel
theorem dX11_thoughts_43 : decode cX11_thoughts 43 = .ok (.goto (-30), 3) := by decide +kernel
theorem dX11_thoughts_46 : decode cX11_thoughts 46 = .ok (.aload_n 0, 1) := by decide +kernel
theorem dX11_thoughts_47 : decode cX11_thoughts 47 = .ok (.invokevirtual 147, 3) := by decide +kernel
theorem dX11_thoughts_50 : decode cX11_thoughts 50 = .ok (.ifCond .ne 10, 3) := by decide +kernel
theorem dX11_thoughts_53 : decode cX11_thoughts 53 = .ok (.iconst (-1), 1) := by decide +kernel
theorem dX11_thoughts_54 : decode cX11_thoughts 54 = .ok (.aload_n 0, 1) := by decide +kernel
theorem dX11_thoughts_55 : decode cX11_thoughts 55 = .ok (.getfield 117, 3) := by decide +kernel
theorem dX11_thoughts_58 : decode cX11_thoughts 58 = .ok (.isub, 1) := by decide +kernel
theorem dX11_thoughts_59 : decode cX11_thoughts 59 = .ok (.ireturn, 1) := by decide +kernel
theorem dX11_thoughts_60 : decode cX11_thoughts 60 = .ok (.iconst 0, 1) := by decide +kernel
theorem dX11_thoughts_61 : decode cX11_thoughts 61 = .ok (.istore_n 1, 1) := by decide +kernel
theorem dX11_thoughts_62 : decode cX11_thoughts 62 = .ok (.iconst 0, 1) := by decide +kernel
theorem dX11_thoughts_63 : decode cX11_thoughts 63 = .ok (.istore_n 2, 1) := by decide +kernel
theorem dX11_thoughts_64 : decode cX11_thoughts 64 = .ok (.iload_n 2, 1) := by decide +kernel
theorem dX11_thoughts_65 : decode cX11_thoughts 65 = .ok (.bipush 6, 2) := by decide +kernel
theorem dX11_thoughts_67 : decode cX11_thoughts 67 = .ok (.if_icmp .ge 30, 3) := by decide +kernel
theorem dX11_thoughts_70 : decode cX11_thoughts 70 = .ok (.aload_n 0, 1) := by decide +kernel
theorem dX11_thoughts_71 : decode cX11_thoughts 71 = .ok (.getfield 13, 3) := by decide +kernel
theorem dX11_thoughts_74 : decode cX11_thoughts 74 = .ok (.iload_n 2, 1) := by decide +kernel
theorem dX11_thoughts_75 : decode cX11_thoughts 75 = .ok (.aload_n 0, 1) := by decide +kernel
theorem dX11_thoughts_76 : decode cX11_thoughts 76 = .ok (.getfield 31, 3) := by decide +kernel
theorem dX11_thoughts_79 : decode cX11_thoughts 79 = .ok (.iload_n 2, 1) := by decide +kernel
theorem dX11_thoughts_80 : decode cX11_thoughts 80 = .ok (.iaload, 1) := by decide +kernel
theorem dX11_thoughts_81 : decode cX11_thoughts 81 = .ok (.iastore, 1) := by decide +kernel
theorem dX11_thoughts_82 : decode cX11_thoughts 82 = .ok (.iload_n 1, 1) := by decide +kernel
theorem dX11_thoughts_83 : decode cX11_thoughts 83 = .ok (.aload_n 0, 1) := by decide +kernel
theorem dX11_thoughts_84 : decode cX11_thoughts 84 = .ok (.getfield 13, 3) := by decide +kernel
theorem dX11_thoughts_87 : decode cX11_thoughts 87 = .ok (.iload_n 2, 1) := by decide +kernel
theorem dX11_thoughts_88 : decode cX11_thoughts 88 = .ok (.iaload, 1) := by decide +kernel
theorem dX11_thoughts_89 : decode cX11_thoughts 89 = .ok (.iadd, 1) := by decide +kernel
theorem dX11_thoughts_90 : decode cX11_thoughts 90 = .ok (.istore_n 1, 1) := by decide +kernel
theorem dX11_thoughts_91 : decode cX11_thoughts 91 = .ok (.iinc 2 1, 3) := by decide +kernel
theorem dX11_thoughts_94 : decode cX11_thoughts 94 = .ok (.goto (-30), 3) := by decide +kernel
theorem dX11_thoughts_97 : decode cX11_thoughts 97 = .ok (.iload_n 1, 1) := by decide +kernel
theorem dX11_thoughts_98 : decode cX11_thoughts 98 = .ok (.ireturn, 1) := by decide +kernel
theorem dX11_signedOf_0 : decode cX11_signedOf 0 = .ok (.aload_n 0, 1) := by decide +kernel
theorem dX11_signedOf_1 : decode cX11_signedOf 1 = .ok (.invokevirtual 128, 3) := by decide +kernel
theorem dX11_signedOf_4 : decode cX11_signedOf 4 = .ok (.bipush 45, 2) := by decide +kernel
theorem dX11_signedOf_6 : decode cX11_signedOf 6 = .ok (.if_icmp .ne 7, 3) := by decide +kernel
theorem dX11_signedOf_9 : decode cX11_signedOf 9 = .ok (.iconst 1, 1) := by decide +kernel
theorem dX11_signedOf_10 : decode cX11_signedOf 10 = .ok (.goto 4, 3) := by decide +kernel
theorem dX11_signedOf_13 : decode cX11_signedOf 13 = .ok (.iconst 0, 1) := by decide +kernel
theorem dX11_signedOf_14 : decode cX11_signedOf 14 = .ok (.istore_n 2, 1) := by decide +kernel
theorem dX11_signedOf_15 : decode cX11_signedOf 15 = .ok (.aload_n 0, 1) := by decide +kernel
theorem dX11_signedOf_16 : decode cX11_signedOf 16 = .ok (.invokevirtual 124, 3) := by decide +kernel
theorem dX11_signedOf_19 : decode cX11_signedOf 19 = .ok (.ifCond .eq 29, 3) := by decide +kernel
theorem dX11_signedOf_22 : decode cX11_signedOf 22 = .ok (.aload_n 0, 1) := by decide +kernel
theorem dX11_signedOf_23 : decode cX11_signedOf 23 = .ok (.invokevirtual 128, 3) := by decide +kernel
theorem dX11_signedOf_26 : decode cX11_signedOf 26 = .ok (.bipush 45, 2) := by decide +kernel
theorem dX11_signedOf_28 : decode cX11_signedOf 28 = .ok (.if_icmp .eq 20, 3) := by decide +kernel
theorem dX11_signedOf_31 : decode cX11_signedOf 31 = .ok (.aload_n 0, 1) := by decide +kernel
theorem dX11_signedOf_32 : decode cX11_signedOf 32 = .ok (.invokevirtual 128, 3) := by decide +kernel
theorem dX11_signedOf_35 : decode cX11_signedOf 35 = .ok (.bipush 43, 2) := by decide +kernel
theorem dX11_signedOf_37 : decode cX11_signedOf 37 = .ok (.if_icmp .eq 11, 3) := by decide +kernel
theorem dX11_signedOf_40 : decode cX11_signedOf 40 = .ok (.aload_n 0, 1) := by decide +kernel
theorem dX11_signedOf_41 : decode cX11_signedOf 41 = .ok (.aload_n 0, 1) := by decide +kernel
theorem dX11_signedOf_42 : decode cX11_signedOf 42 = .ok (.getfield 114, 3) := by decide +kernel
theorem dX11_signedOf_45 : decode cX11_signedOf 45 = .ok (.invokevirtual 136, 3) := by decide +kernel
theorem dX11_signedOf_48 : decode cX11_signedOf 48 = .ok (.aload_n 0, 1) := by decide +kernel
theorem dX11_signedOf_49 : decode cX11_signedOf 49 = .ok (.dup, 1) := by decide +kernel
theorem dX11_signedOf_50 : decode cX11_signedOf 50 = .ok (.getfield 114, 3) := by decide +kernel
theorem dX11_signedOf_53 : decode cX11_signedOf 53 = .ok (.iconst 1, 1) := by decide +kernel
theorem dX11_signedOf_54 : decode cX11_signedOf 54 = .ok (.iadd, 1) := by decide +kernel
theorem dX11_signedOf_55 : decode cX11_signedOf 55 = .ok (.putfield 114, 3) := by decide +kernel
theorem dX11_signedOf_58 : decode cX11_signedOf 58 = .ok (.aload_n 0, 1) := by decide +kernel
theorem dX11_signedOf_59 : decode cX11_signedOf 59 = .ok (.bipush 48, 2) := by decide +kernel
theorem dX11_signedOf_61 : decode cX11_signedOf 61 = .ok (.iload_n 1, 1) := by decide +kernel
theorem dX11_signedOf_62 : decode cX11_signedOf 62 = .ok (.invokevirtual 140, 3) := by decide +kernel
theorem dX11_signedOf_65 : decode cX11_signedOf 65 = .ok (.istore_n 3, 1) := by decide +kernel
theorem dX11_signedOf_66 : decode cX11_signedOf 66 = .ok (.iload_n 2, 1) := by decide +kernel
theorem dX11_signedOf_67 : decode cX11_signedOf 67 = .ok (.ifCond .eq 8, 3) := by decide +kernel
theorem dX11_signedOf_70 : decode cX11_signedOf 70 = .ok (.iload_n 3, 1) := by decide +kernel
theorem dX11_signedOf_71 : decode cX11_signedOf 71 = .ok (.ineg, 1) := by decide +kernel
theorem dX11_signedOf_72 : decode cX11_signedOf 72 = .ok (.goto 4, 3) := by decide +kernel
theorem dX11_signedOf_75 : decode cX11_signedOf 75 = .ok (.iload_n 3, 1) := by decide +kernel
theorem dX11_signedOf_76 : decode cX11_signedOf 76 = .ok (.ireturn, 1) := by decide +kernel
theorem dX11_brothers_0 : decode cX11_brothers 0 = .ok (.aload_n 0, 1) := by decide +kernel
theorem dX11_brothers_1 : decode cX11_brothers 1 = .ok (.iconst 0, 1) := by decide +kernel
theorem dX11_brothers_2 : decode cX11_brothers 2 = .ok (.putfield 89, 3) := by decide +kernel
theorem dX11_brothers_5 : decode cX11_brothers 5 = .ok (.aload_n 0, 1) := by decide +kernel
theorem dX11_brothers_6 : decode cX11_brothers 6 = .ok (.bipush 34, 2) := by decide +kernel
theorem dX11_brothers_8 : decode cX11_brothers 8 = .ok (.invokevirtual 144, 3) := by decide +kernel
theorem dX11_brothers_11 : decode cX11_brothers 11 = .ok (.aload_n 0, 1) := by decide +kernel
theorem dX11_brothers_12 : decode cX11_brothers 12 = .ok (.getfield 108, 3) := by decide +kernel
theorem dX11_brothers_15 : decode cX11_brothers 15 = .ok (.ifCond .ne 5, 3) := by decide +kernel
theorem dX11_brothers_18 : decode cX11_brothers 18 = .ok (.iconst 0, 1) := by decide +kernel
theorem dX11_brothers_19 : decode cX11_brothers 19 = .ok (.ireturn, 1) := by decide +kernel
theorem dX11_brothers_20 : decode cX11_brothers 20 = .ok (.iconst 0, 1) := by decide +kernel
theorem dX11_brothers_21 : decode cX11_brothers 21 = .ok (.istore_n 1, 1) := by decide +kernel
theorem dX11_brothers_22 : decode cX11_brothers 22 = .ok (.iconst 1, 1) := by decide +kernel
theorem dX11_brothers_23 : decode cX11_brothers 23 = .ok (.istore_n 2, 1) := by decide +kernel
theorem dX11_brothers_24 : decode cX11_brothers 24 = .ok (.iload_n 2, 1) := by decide +kernel
theorem dX11_brothers_25 : decode cX11_brothers 25 = .ok (.ifCond .eq 95, 3) := by decide +kernel
theorem dX11_brothers_28 : decode cX11_brothers 28 = .ok (.aload_n 0, 1) := by decide +kernel
theorem dX11_brothers_29 : decode cX11_brothers 29 = .ok (.invokevirtual 124, 3) := by decide +kernel
theorem dX11_brothers_32 : decode cX11_brothers 32 = .ok (.ifCond .eq 88, 3) := by decide +kernel
theorem dX11_brothers_35 : decode cX11_brothers 35 = .ok (.aload_n 0, 1) := by decide +kernel
theorem dX11_brothers_36 : decode cX11_brothers 36 = .ok (.getfield 95, 3) := by decide +kernel
theorem dX11_brothers_39 : decode cX11_brothers 39 = .ok (.iload_n 1, 1) := by decide +kernel
theorem dX11_brothers_40 : decode cX11_brothers 40 = .ok (.iadd, 1) := by decide +kernel
theorem dX11_brothers_41 : decode cX11_brothers 41 = .ok (.bipush 7, 2) := by decide +kernel
theorem dX11_brothers_43 : decode cX11_brothers 43 = .ok (.if_icmp .ne 14, 3) := by decide +kernel
theorem dX11_brothers_46 : decode cX11_brothers 46 = .ok (.aload_n 0, 1) := by decide +kernel
theorem dX11_brothers_47 : decode cX11_brothers 47 = .ok (.aload_n 0, 1) := by decide +kernel
theorem dX11_brothers_48 : decode cX11_brothers 48 = .ok (.getfield 114, 3) := by decide +kernel
theorem dX11_brothers_51 : decode cX11_brothers 51 = .ok (.invokevirtual 136, 3) := by decide +kernel
theorem dX11_brothers_54 : decode cX11_brothers 54 = .ok (.goto 53, 3) := by decide +kernel
theorem dX11_brothers_57 : decode cX11_brothers 57 = .ok (.aload_n 0, 1) := by decide +kernel
theorem dX11_brothers_58 : decode cX11_brothers 58 = .ok (.getfield 31, 3) := by decide +kernel
theorem dX11_brothers_61 : decode cX11_brothers 61 = .ok (.iconst 3, 1) := by decide +kernel
theorem dX11_brothers_62 : decode cX11_brothers 62 = .ok (.iload_n 1, 1) := by decide +kernel
theorem dX11_brothers_63 : decode cX11_brothers 63 = .ok (.imul, 1) := by decide +kernel
theorem dX11_brothers_64 : decode cX11_brothers 64 = .ok (.aload_n 0, 1) := by decide +kernel
theorem dX11_brothers_65 : decode cX11_brothers 65 = .ok (.bipush 48, 2) := by decide +kernel
theorem dX11_brothers_67 : decode cX11_brothers 67 = .ok (.bipush 10, 2) := by decide +kernel
theorem dX11_brothers_69 : decode cX11_brothers 69 = .ok (.invokevirtual 140, 3) := by decide +kernel
theorem dX11_brothers_72 : decode cX11_brothers 72 = .ok (.iastore, 1) := by decide +kernel
theorem dX11_brothers_73 : decode cX11_brothers 73 = .ok (.aload_n 0, 1) := by decide +kernel
theorem dX11_brothers_74 : decode cX11_brothers 74 = .ok (.getfield 31, 3) := by decide +kernel
theorem dX11_brothers_77 : decode cX11_brothers 77 = .ok (.iconst 3, 1) := by decide +kernel
theorem dX11_brothers_78 : decode cX11_brothers 78 = .ok (.iload_n 1, 1) := by decide +kernel
theorem dX11_brothers_79 : decode cX11_brothers 79 = .ok (.imul, 1) := by decide +kernel
theorem dX11_brothers_80 : decode cX11_brothers 80 = .ok (.iconst 1, 1) := by decide +kernel
theorem dX11_brothers_81 : decode cX11_brothers 81 = .ok (.iadd, 1) := by decide +kernel
theorem dX11_brothers_82 : decode cX11_brothers 82 = .ok (.aload_n 0, 1) := by decide +kernel
theorem dX11_brothers_83 : decode cX11_brothers 83 = .ok (.bipush 48, 2) := by decide +kernel
theorem dX11_brothers_85 : decode cX11_brothers 85 = .ok (.bipush 6, 2) := by decide +kernel
theorem dX11_brothers_87 : decode cX11_brothers 87 = .ok (.invokevirtual 140, 3) := by decide +kernel
theorem dX11_brothers_90 : decode cX11_brothers 90 = .ok (.iastore, 1) := by decide +kernel
theorem dX11_brothers_91 : decode cX11_brothers 91 = .ok (.aload_n 0, 1) := by decide +kernel
theorem dX11_brothers_92 : decode cX11_brothers 92 = .ok (.getfield 31, 3) := by decide +kernel
theorem dX11_brothers_95 : decode cX11_brothers 95 = .ok (.iconst 3, 1) := by decide +kernel
theorem dX11_brothers_96 : decode cX11_brothers 96 = .ok (.iload_n 1, 1) := by decide +kernel
theorem dX11_brothers_97 : decode cX11_brothers 97 = .ok (.imul, 1) := by decide +kernel
theorem dX11_brothers_98 : decode cX11_brothers 98 = .ok (.iconst 2, 1) := by decide +kernel
theorem dX11_brothers_99 : decode cX11_brothers 99 = .ok (.iadd, 1) := by decide +kernel
theorem dX11_brothers_100 : decode cX11_brothers 100 = .ok (.aload_n 0, 1) := by decide +kernel
theorem dX11_brothers_101 : decode cX11_brothers 101 = .ok (.bipush 6, 2) := by decide +kernel
theorem dX11_brothers_103 : decode cX11_brothers 103 = .ok (.invokevirtual 150, 3) := by decide +kernel
theorem dX11_brothers_106 : decode cX11_brothers 106 = .ok (.iastore, 1) := by decide +kernel
theorem dX11_brothers_107 : decode cX11_brothers 107 = .ok (.iinc 1 1, 3) := by decide +kernel
theorem dX11_brothers_110 : decode cX11_brothers 110 = .ok (.aload_n 0, 1) := by decide +kernel
theorem dX11_brothers_111 : decode cX11_brothers 111 = .ok (.bipush 59, 2) := by decide +kernel
theorem dX11_brothers_113 : decode cX11_brothers 113 = .ok (.invokevirtual 132, 3) := by decide +kernel
theorem dX11_brothers_116 : decode cX11_brothers 116 = .ok (.istore_n 2, 1) := by decide +kernel
theorem dX11_brothers_117 : decode cX11_brothers 117 = .ok (.goto (-93), 3) := by decide +kernel
theorem dX11_brothers_120 : decode cX11_brothers 120 = .ok (.aload_n 0, 1) := by decide +kernel
theorem dX11_brothers_121 : decode cX11_brothers 121 = .ok (.invokevirtual 147, 3) := by decide +kernel
theorem dX11_brothers_124 : decode cX11_brothers 124 = .ok (.ifCond .ne 10, 3) := by decide +kernel
theorem dX11_brothers_127 : decode cX11_brothers 127 = .ok (.iconst (-1), 1) := by decide +kernel
theorem dX11_brothers_128 : decode cX11_brothers 128 = .ok (.aload_n 0, 1) := by decide +kernel
theorem dX11_brothers_129 : decode cX11_brothers 129 = .ok (.getfield 117, 3) := by decide +kernel
theorem dX11_brothers_132 : decode cX11_brothers 132 = .ok (.isub, 1) := by decide +kernel
theorem dX11_brothers_133 : decode cX11_brothers 133 = .ok (.ireturn, 1) := by decide +kernel
theorem dX11_brothers_134 : decode cX11_brothers 134 = .ok (.iconst 0, 1) := by decide +kernel
theorem dX11_brothers_135 : decode cX11_brothers 135 = .ok (.istore_n 3, 1) := by decide +kernel
theorem dX11_brothers_136 : decode cX11_brothers 136 = .ok (.iload_n 3, 1) := by decide +kernel
theorem dX11_brothers_137 : decode cX11_brothers 137 = .ok (.iload_n 1, 1) := by decide +kernel
theorem dX11_brothers_138 : decode cX11_brothers 138 = .ok (.if_icmp .ge 80, 3) := by decide +kernel
theorem dX11_brothers_141 : decode cX11_brothers 141 = .ok (.aload_n 0, 1) := by decide +kernel
theorem dX11_brothers_142 : decode cX11_brothers 142 = .ok (.getfield 9, 3) := by decide +kernel
theorem dX11_brothers_145 : decode cX11_brothers 145 = .ok (.aload_n 0, 1) := by decide +kernel
theorem dX11_brothers_146 : decode cX11_brothers 146 = .ok (.getfield 95, 3) := by decide +kernel
theorem dX11_brothers_149 : decode cX11_brothers 149 = .ok (.aload_n 0, 1) := by decide +kernel
theorem dX11_brothers_150 : decode cX11_brothers 150 = .ok (.getfield 31, 3) := by decide +kernel
theorem dX11_brothers_153 : decode cX11_brothers 153 = .ok (.iconst 3, 1) := by decide +kernel
theorem dX11_brothers_154 : decode cX11_brothers 154 = .ok (.iload_n 3, 1) := by decide +kernel
theorem dX11_brothers_155 : decode cX11_brothers 155 = .ok (.imul, 1) := by decide +kernel
theorem dX11_brothers_156 : decode cX11_brothers 156 = .ok (.iaload, 1) := by decide +kernel
theorem dX11_brothers_157 : decode cX11_brothers 157 = .ok (.iastore, 1) := by decide +kernel
theorem dX11_brothers_158 : decode cX11_brothers 158 = .ok (.aload_n 0, 1) := by decide +kernel
theorem dX11_brothers_159 : decode cX11_brothers 159 = .ok (.getfield 9, 3) := by decide +kernel
theorem dX11_brothers_162 : decode cX11_brothers 162 = .ok (.bipush 7, 2) := by decide +kernel
theorem dX11_brothers_164 : decode cX11_brothers 164 = .ok (.aload_n 0, 1) := by decide +kernel
theorem dX11_brothers_165 : decode cX11_brothers 165 = .ok (.getfield 95, 3) := by decide +kernel
theorem dX11_brothers_168 : decode cX11_brothers 168 = .ok (.iadd, 1) := by decide +kernel
theorem dX11_brothers_169 : decode cX11_brothers 169 = .ok (.aload_n 0, 1) := by decide +kernel
theorem dX11_brothers_170 : decode cX11_brothers 170 = .ok (.getfield 31, 3) := by decide +kernel
theorem dX11_brothers_173 : decode cX11_brothers 173 = .ok (.iconst 3, 1) := by decide +kernel
theorem dX11_brothers_174 : decode cX11_brothers 174 = .ok (.iload_n 3, 1) := by decide +kernel
theorem dX11_brothers_175 : decode cX11_brothers 175 = .ok (.imul, 1) := by decide +kernel
theorem dX11_brothers_176 : decode cX11_brothers 176 = .ok (.iconst 1, 1) := by decide +kernel
theorem dX11_brothers_177 : decode cX11_brothers 177 = .ok (.iadd, 1) := by decide +kernel
theorem dX11_brothers_178 : decode cX11_brothers 178 = .ok (.iaload, 1) := by decide +kernel
theorem dX11_brothers_179 : decode cX11_brothers 179 = .ok (.iastore, 1) := by decide +kernel
theorem dX11_brothers_180 : decode cX11_brothers 180 = .ok (.aload_n 0, 1) := by decide +kernel
theorem dX11_brothers_181 : decode cX11_brothers 181 = .ok (.getfield 9, 3) := by decide +kernel
theorem dX11_brothers_184 : decode cX11_brothers 184 = .ok (.bipush 14, 2) := by decide +kernel
theorem dX11_brothers_186 : decode cX11_brothers 186 = .ok (.aload_n 0, 1) := by decide +kernel
theorem dX11_brothers_187 : decode cX11_brothers 187 = .ok (.getfield 95, 3) := by decide +kernel
theorem dX11_brothers_190 : decode cX11_brothers 190 = .ok (.iadd, 1) := by decide +kernel
theorem dX11_brothers_191 : decode cX11_brothers 191 = .ok (.aload_n 0, 1) := by decide +kernel
theorem dX11_brothers_192 : decode cX11_brothers 192 = .ok (.getfield 31, 3) := by decide +kernel
theorem dX11_brothers_195 : decode cX11_brothers 195 = .ok (.iconst 3, 1) := by decide +kernel
theorem dX11_brothers_196 : decode cX11_brothers 196 = .ok (.iload_n 3, 1) := by decide +kernel
theorem dX11_brothers_197 : decode cX11_brothers 197 = .ok (.imul, 1) := by decide +kernel
theorem dX11_brothers_198 : decode cX11_brothers 198 = .ok (.iconst 2, 1) := by decide +kernel
theorem dX11_brothers_199 : decode cX11_brothers 199 = .ok (.iadd, 1) := by decide +kernel
theorem dX11_brothers_200 : decode cX11_brothers 200 = .ok (.iaload, 1) := by decide +kernel
theorem dX11_brothers_201 : decode cX11_brothers 201 = .ok (.iastore, 1) := by decide +kernel
theorem dX11_brothers_202 : decode cX11_brothers 202 = .ok (.aload_n 0, 1) := by decide +kernel
theorem dX11_brothers_203 : decode cX11_brothers 203 = .ok (.dup, 1) := by decide +kernel
theorem dX11_brothers_204 : decode cX11_brothers 204 = .ok (.getfield 95, 3) := by decide +kernel
theorem dX11_brothers_207 : decode cX11_brothers 207 = .ok (.iconst 1, 1) := by decide +kernel
theorem dX11_brothers_208 : decode cX11_brothers 208 = .ok (.iadd, 1) := by decide +kernel
theorem dX11_brothers_209 : decode cX11_brothers 209 = .ok (.putfield 95, 3) := by decide +kernel
theorem dX11_brothers_212 : decode cX11_brothers 212 = .ok (.iinc 3 1, 3) := by decide +kernel
theorem dX11_brothers_215 : decode cX11_brothers 215 = .ok (.goto (-79), 3) := by decide +kernel
theorem dX11_brothers_218 : decode cX11_brothers 218 = .ok (.aload_n 0, 1) := by decide +kernel
theorem dX11_brothers_219 : decode cX11_brothers 219 = .ok (.iconst 0, 1) := by decide +kernel
theorem dX11_brothers_220 : decode cX11_brothers 220 = .ok (.putfield 154, 3) := by decide +kernel
theorem dX11_brothers_223 : decode cX11_brothers 223 = .ok (.aload_n 0, 1) := by decide +kernel
theorem dX11_brothers_224 : decode cX11_brothers 224 = .ok (.dup, 1) := by decide +kernel
theorem dX11_brothers_225 : decode cX11_brothers 225 = .ok (.getfield 157, 3) := by decide +kernel
theorem dX11_brothers_228 : decode cX11_brothers 228 = .ok (.iconst 1, 1) := by decide +kernel
theorem dX11_brothers_229 : decode cX11_brothers 229 = .ok (.iadd, 1) := by decide +kernel
theorem dX11_brothers_230 : decode cX11_brothers 230 = .ok (.putfield 157, 3) := by decide +kernel
theorem dX11_brothers_233 : decode cX11_brothers 233 = .ok (.iload_n 1, 1) := by decide +kernel
theorem dX11_brothers_234 : decode cX11_brothers 234 = .ok (.ireturn, 1) := by decide +kernel
theorem dX11_winds_0 : decode cX11_winds 0 = .ok (.aload_n 0, 1) := by decide +kernel
theorem dX11_winds_1 : decode cX11_winds 1 = .ok (.iconst 0, 1) := by decide +kernel
theorem dX11_winds_2 : decode cX11_winds 2 = .ok (.putfield 89, 3) := by decide +kernel
theorem dX11_winds_5 : decode cX11_winds 5 = .ok (.aload_n 0, 1) := by decide +kernel
theorem dX11_winds_6 : decode cX11_winds 6 = .ok (.bipush 40, 2) := by decide +kernel
theorem dX11_winds_8 : decode cX11_winds 8 = .ok (.invokevirtual 144, 3) := by decide +kernel
theorem dX11_winds_11 : decode cX11_winds 11 = .ok (.iconst 0, 1) := by decide +kernel
theorem dX11_winds_12 : decode cX11_winds 12 = .ok (.istore_n 1, 1) := by decide +kernel
theorem dX11_winds_13 : decode cX11_winds 13 = .ok (.aload_n 0, 1) := by decide +kernel
theorem dX11_winds_14 : decode cX11_winds 14 = .ok (.invokevirtual 124, 3) := by decide +kernel
theorem dX11_winds_17 : decode cX11_winds 17 = .ok (.ifCond .eq 33, 3) := by decide +kernel
theorem dX11_winds_20 : decode cX11_winds 20 = .ok (.iload_n 1, 1) := by decide +kernel
theorem dX11_winds_21 : decode cX11_winds 21 = .ok (.ifCond .eq 11, 3) := by decide +kernel
theorem dX11_winds_24 : decode cX11_winds 24 = .ok (.aload_n 0, 1) := by decide +kernel
theorem dX11_winds_25 : decode cX11_winds 25 = .ok (.invokevirtual 128, 3) := by decide +kernel
theorem dX11_winds_28 : decode cX11_winds 28 = .ok (.iconst (-1), 1) := by decide +kernel
theorem dX11_winds_29 : decode cX11_winds 29 = .ok (.if_icmp .eq 21, 3) := by decide +kernel
theorem dX11_winds_32 : decode cX11_winds 32 = .ok (.aload_n 0, 1) := by decide +kernel
theorem dX11_winds_33 : decode cX11_winds 33 = .ok (.getfield 31, 3) := by decide +kernel
theorem dX11_winds_36 : decode cX11_winds 36 = .ok (.iload_n 1, 1) := by decide +kernel
theorem dX11_winds_37 : decode cX11_winds 37 = .ok (.aload_n 0, 1) := by decide +kernel
theorem dX11_winds_38 : decode cX11_winds 38 = .ok (.bipush 10, 2) := by decide +kernel
theorem dX11_winds_40 : decode cX11_winds 40 = .ok (.invokevirtual 150, 3) := by decide +kernel
theorem dX11_winds_43 : decode cX11_winds 43 = .ok (.iastore, 1) := by decide +kernel
theorem dX11_winds_44 : decode cX11_winds 44 = .ok (.iinc 1 1, 3) := by decide +kernel
theorem dX11_winds_47 : decode cX11_winds 47 = .ok (.goto (-34), 3) := by decide +kernel
theorem dX11_winds_50 : decode cX11_winds 50 = .ok (.aload_n 0, 1) := by decide +kernel
theorem dX11_winds_51 : decode cX11_winds 51 = .ok (.invokevirtual 147, 3) := by decide +kernel
theorem dX11_winds_54 : decode cX11_winds 54 = .ok (.ifCond .ne 10, 3) := by decide +kernel
theorem dX11_winds_57 : decode cX11_winds 57 = .ok (.iconst (-1), 1) := by decide +kernel
theorem dX11_winds_58 : decode cX11_winds 58 = .ok (.aload_n 0, 1) := by decide +kernel
theorem dX11_winds_59 : decode cX11_winds 59 = .ok (.getfield 117, 3) := by decide +kernel
theorem dX11_winds_62 : decode cX11_winds 62 = .ok (.isub, 1) := by decide +kernel
theorem dX11_winds_63 : decode cX11_winds 63 = .ok (.ireturn, 1) := by decide +kernel
theorem dX11_winds_64 : decode cX11_winds 64 = .ok (.iconst 0, 1) := by decide +kernel
theorem dX11_winds_65 : decode cX11_winds 65 = .ok (.istore_n 2, 1) := by decide +kernel
theorem dX11_winds_66 : decode cX11_winds 66 = .ok (.iload_n 2, 1) := by decide +kernel
theorem dX11_winds_67 : decode cX11_winds 67 = .ok (.iload_n 1, 1) := by decide +kernel
theorem dX11_winds_68 : decode cX11_winds 68 = .ok (.if_icmp .ge 21, 3) := by decide +kernel
theorem dX11_winds_71 : decode cX11_winds 71 = .ok (.aload_n 0, 1) := by decide +kernel
theorem dX11_winds_72 : decode cX11_winds 72 = .ok (.getfield 16, 3) := by decide +kernel
theorem dX11_winds_75 : decode cX11_winds 75 = .ok (.iload_n 2, 1) := by decide +kernel
theorem dX11_winds_76 : decode cX11_winds 76 = .ok (.aload_n 0, 1) := by decide +kernel
theorem dX11_winds_77 : decode cX11_winds 77 = .ok (.getfield 31, 3) := by decide +kernel
theorem dX11_winds_80 : decode cX11_winds 80 = .ok (.iload_n 2, 1) := by decide +kernel
theorem dX11_winds_81 : decode cX11_winds 81 = .ok (.iaload, 1) := by decide +kernel
theorem dX11_winds_82 : decode cX11_winds 82 = .ok (.iastore, 1) := by decide +kernel
theorem dX11_winds_83 : decode cX11_winds 83 = .ok (.iinc 2 1, 3) := by decide +kernel
theorem dX11_winds_86 : decode cX11_winds 86 = .ok (.goto (-20), 3) := by decide +kernel
theorem dX11_winds_89 : decode cX11_winds 89 = .ok (.aload_n 0, 1) := by decide +kernel
theorem dX11_winds_90 : decode cX11_winds 90 = .ok (.iload_n 1, 1) := by decide +kernel
theorem dX11_winds_91 : decode cX11_winds 91 = .ok (.putfield 19, 3) := by decide +kernel
theorem dX11_winds_94 : decode cX11_winds 94 = .ok (.iload_n 1, 1) := by decide +kernel
theorem dX11_winds_95 : decode cX11_winds 95 = .ok (.ireturn, 1) := by decide +kernel
theorem dX11_held_0 : decode cX11_held 0 = .ok (.aload_n 0, 1) := by decide +kernel
theorem dX11_held_1 : decode cX11_held 1 = .ok (.iload_n 1, 1) := by decide +kernel
theorem dX11_held_2 : decode cX11_held 2 = .ok (.invokevirtual 160, 3) := by decide +kernel
theorem dX11_held_5 : decode cX11_held 5 = .ok (.istore_n 2, 1) := by decide +kernel
theorem dX11_held_6 : decode cX11_held 6 = .ok (.aload_n 0, 1) := by decide +kernel
theorem dX11_held_7 : decode cX11_held 7 = .ok (.bipush 60, 2) := by decide +kernel
theorem dX11_held_9 : decode cX11_held 9 = .ok (.invokevirtual 132, 3) := by decide +kernel
theorem dX11_held_12 : decode cX11_held 12 = .ok (.ifCond .eq 18, 3) := by decide +kernel
theorem dX11_held_15 : decode cX11_held 15 = .ok (.iload_n 2, 1) := by decide +kernel
theorem dX11_held_16 : decode cX11_held 16 = .ok (.aload_n 0, 1) := by decide +kernel
theorem dX11_held_17 : decode cX11_held 17 = .ok (.iload_n 1, 1) := by decide +kernel
theorem dX11_held_18 : decode cX11_held 18 = .ok (.invokevirtual 160, 3) := by decide +kernel
theorem dX11_held_21 : decode cX11_held 21 = .ok (.if_icmp .ge 7, 3) := by decide +kernel
theorem dX11_held_24 : decode cX11_held 24 = .ok (.iconst 1, 1) := by decide +kernel
theorem dX11_held_25 : decode cX11_held 25 = .ok (.goto 4, 3) := by decide +kernel
theorem dX11_held_28 : decode cX11_held 28 = .ok (.iconst 0, 1) := by decide +kernel
theorem dX11_held_29 : decode cX11_held 29 = .ok (.ireturn, 1) := by decide +kernel
theorem dX11_held_30 : decode cX11_held 30 = .ok (.aload_n 0, 1) := by decide +kernel
theorem dX11_held_31 : decode cX11_held 31 = .ok (.bipush 62, 2) := by decide +kernel
theorem dX11_held_33 : decode cX11_held 33 = .ok (.invokevirtual 132, 3) := by decide +kernel
theorem dX11_held_36 : decode cX11_held 36 = .ok (.ifCond .eq 18, 3) := by decide +kernel
theorem dX11_held_39 : decode cX11_held 39 = .ok (.iload_n 2, 1) := by decide +kernel
theorem dX11_held_40 : decode cX11_held 40 = .ok (.aload_n 0, 1) := by decide +kernel
theorem dX11_held_41 : decode cX11_held 41 = .ok (.iload_n 1, 1) := by decide +kernel
theorem dX11_held_42 : decode cX11_held 42 = .ok (.invokevirtual 160, 3) := by decide +kernel
theorem dX11_held_45 : decode cX11_held 45 = .ok (.if_icmp .le 7, 3) := by decide +kernel
theorem dX11_held_48 : decode cX11_held 48 = .ok (.iconst 1, 1) := by decide +kernel
theorem dX11_held_49 : decode cX11_held 49 = .ok (.goto 4, 3) := by decide +kernel
theorem dX11_held_52 : decode cX11_held 52 = .ok (.iconst 0, 1) := by decide +kernel
theorem dX11_held_53 : decode cX11_held 53 = .ok (.ireturn, 1) := by decide +kernel
theorem dX11_held_54 : decode cX11_held 54 = .ok (.aload_n 0, 1) := by decide +kernel
theorem dX11_held_55 : decode cX11_held 55 = .ok (.bipush 61, 2) := by decide +kernel
theorem dX11_held_57 : decode cX11_held 57 = .ok (.invokevirtual 132, 3) := by decide +kernel
theorem dX11_held_60 : decode cX11_held 60 = .ok (.ifCond .eq 18, 3) := by decide +kernel
theorem dX11_held_63 : decode cX11_held 63 = .ok (.iload_n 2, 1) := by decide +kernel
theorem dX11_held_64 : decode cX11_held 64 = .ok (.aload_n 0, 1) := by decide +kernel
theorem dX11_held_65 : decode cX11_held 65 = .ok (.iload_n 1, 1) := by decide +kernel
theorem dX11_held_66 : decode cX11_held 66 = .ok (.invokevirtual 160, 3) := by decide +kernel
theorem dX11_held_69 : decode cX11_held 69 = .ok (.if_icmp .ne 7, 3) := by decide +kernel
theorem dX11_held_72 : decode cX11_held 72 = .ok (.iconst 1, 1) := by decide +kernel
theorem dX11_held_73 : decode cX11_held 73 = .ok (.goto 4, 3) := by decide +kernel
theorem dX11_held_76 : decode cX11_held 76 = .ok (.iconst 0, 1) := by decide +kernel
theorem dX11_held_77 : decode cX11_held 77 = .ok (.ireturn, 1) := by decide +kernel
theorem dX11_held_78 : decode cX11_held 78 = .ok (.iload_n 2, 1) := by decide +kernel
theorem dX11_held_79 : decode cX11_held 79 = .ok (.ireturn, 1) := by decide +kernel
theorem dX11_sum_0 : decode cX11_sum 0 = .ok (.aload_n 0, 1) := by decide +kernel
theorem dX11_sum_1 : decode cX11_sum 1 = .ok (.iload_n 1, 1) := by decide +kernel
theorem dX11_sum_2 : decode cX11_sum 2 = .ok (.invokevirtual 163, 3) := by decide +kernel
theorem dX11_sum_5 : decode cX11_sum 5 = .ok (.istore_n 2, 1) := by decide +kernel
theorem dX11_sum_6 : decode cX11_sum 6 = .ok (.aload_n 0, 1) := by decide +kernel
theorem dX11_sum_7 : decode cX11_sum 7 = .ok (.invokevirtual 124, 3) := by decide +kernel
theorem dX11_sum_10 : decode cX11_sum 10 = .ok (.ifCond .eq 72, 3) := by decide +kernel
theorem dX11_sum_13 : decode cX11_sum 13 = .ok (.aload_n 0, 1) := by decide +kernel
theorem dX11_sum_14 : decode cX11_sum 14 = .ok (.invokevirtual 128, 3) := by decide +kernel
theorem dX11_sum_17 : decode cX11_sum 17 = .ok (.bipush 43, 2) := by decide +kernel
theorem dX11_sum_19 : decode cX11_sum 19 = .ok (.if_icmp .eq 12, 3) := by decide +kernel
theorem dX11_sum_22 : decode cX11_sum 22 = .ok (.aload_n 0, 1) := by decide +kernel
theorem dX11_sum_23 : decode cX11_sum 23 = .ok (.invokevirtual 128, 3) := by decide +kernel
theorem dX11_sum_26 : decode cX11_sum 26 = .ok (.bipush 45, 2) := by decide +kernel
theorem dX11_sum_28 : decode cX11_sum 28 = .ok (.if_icmp .ne 54, 3) := by decide +kernel
theorem dX11_sum_31 : decode cX11_sum 31 = .ok (.aload_n 0, 1) := by decide +kernel
theorem dX11_sum_32 : decode cX11_sum 32 = .ok (.invokevirtual 128, 3) := by decide +kernel
theorem dX11_sum_35 : decode cX11_sum 35 = .ok (.bipush 43, 2) := by decide +kernel
theorem dX11_sum_37 : decode cX11_sum 37 = .ok (.if_icmp .ne 7, 3) := by decide +kernel
theorem dX11_sum_40 : decode cX11_sum 40 = .ok (.iconst 1, 1) := by decide +kernel
theorem dX11_sum_41 : decode cX11_sum 41 = .ok (.goto 4, 3) := by decide +kernel
theorem dX11_sum_44 : decode cX11_sum 44 = .ok (.iconst 0, 1) := by decide +kernel
theorem dX11_sum_45 : decode cX11_sum 45 = .ok (.istore_n 3, 1) := by decide +kernel
theorem dX11_sum_46 : decode cX11_sum 46 = .ok (.aload_n 0, 1) := by decide +kernel
theorem dX11_sum_47 : decode cX11_sum 47 = .ok (.dup, 1) := by decide +kernel
theorem dX11_sum_48 : decode cX11_sum 48 = .ok (.getfield 114, 3) := by decide +kernel
theorem dX11_sum_51 : decode cX11_sum 51 = .ok (.iconst 1, 1) := by decide +kernel
theorem dX11_sum_52 : decode cX11_sum 52 = .ok (.iadd, 1) := by decide +kernel
theorem dX11_sum_53 : decode cX11_sum 53 = .ok (.putfield 114, 3) := by decide +kernel
theorem dX11_sum_56 : decode cX11_sum 56 = .ok (.aload_n 0, 1) := by decide +kernel
theorem dX11_sum_57 : decode cX11_sum 57 = .ok (.iload_n 1, 1) := by decide +kernel
theorem dX11_sum_58 : decode cX11_sum 58 = .ok (.invokevirtual 163, 3) := by decide +kernel
theorem dX11_sum_61 : decode cX11_sum 61 = .ok (.istore 4, 2) := by decide +kernel
theorem dX11_sum_63 : decode cX11_sum 63 = .ok (.iload_n 3, 1) := by decide +kernel
theorem dX11_sum_64 : decode cX11_sum 64 = .ok (.ifCond .eq 10, 3) := by decide +kernel
theorem dX11_sum_67 : decode cX11_sum 67 = .ok (.iload_n 2, 1) := by decide +kernel
theorem dX11_sum_68 : decode cX11_sum 68 = .ok (.iload 4, 2) := by decide +kernel
theorem dX11_sum_70 : decode cX11_sum 70 = .ok (.iadd, 1) := by decide +kernel
theorem dX11_sum_71 : decode cX11_sum 71 = .ok (.goto 7, 3) := by decide +kernel
theorem dX11_sum_74 : decode cX11_sum 74 = .ok (.iload_n 2, 1) := by decide +kernel
theorem dX11_sum_75 : decode cX11_sum 75 = .ok (.iload 4, 2) := by decide +kernel
theorem dX11_sum_77 : decode cX11_sum 77 = .ok (.isub, 1) := by decide +kernel
theorem dX11_sum_78 : decode cX11_sum 78 = .ok (.istore_n 2, 1) := by decide +kernel
theorem dX11_sum_79 : decode cX11_sum 79 = .ok (.goto (-73), 3) := by decide +kernel
theorem dX11_sum_82 : decode cX11_sum 82 = .ok (.iload_n 2, 1) := by decide +kernel
theorem dX11_sum_83 : decode cX11_sum 83 = .ok (.ireturn, 1) := by decide +kernel
theorem dX11_product_0 : decode cX11_product 0 = .ok (.aload_n 0, 1) := by decide +kernel
theorem dX11_product_1 : decode cX11_product 1 = .ok (.iload_n 1, 1) := by decide +kernel
theorem dX11_product_2 : decode cX11_product 2 = .ok (.invokevirtual 166, 3) := by decide +kernel
theorem dX11_product_5 : decode cX11_product 5 = .ok (.istore_n 2, 1) := by decide +kernel
theorem dX11_product_6 : decode cX11_product 6 = .ok (.aload_n 0, 1) := by decide +kernel
theorem dX11_product_7 : decode cX11_product 7 = .ok (.invokevirtual 124, 3) := by decide +kernel
theorem dX11_product_10 : decode cX11_product 10 = .ok (.ifCond .eq 81, 3) := by decide +kernel
theorem dX11_product_13 : decode cX11_product 13 = .ok (.aload_n 0, 1) := by decide +kernel
theorem dX11_product_14 : decode cX11_product 14 = .ok (.invokevirtual 128, 3) := by decide +kernel
theorem dX11_product_17 : decode cX11_product 17 = .ok (.bipush 42, 2) := by decide +kernel
theorem dX11_product_19 : decode cX11_product 19 = .ok (.if_icmp .eq 12, 3) := by decide +kernel
theorem dX11_product_22 : decode cX11_product 22 = .ok (.aload_n 0, 1) := by decide +kernel
theorem dX11_product_23 : decode cX11_product 23 = .ok (.invokevirtual 128, 3) := by decide +kernel
theorem dX11_product_26 : decode cX11_product 26 = .ok (.bipush 47, 2) := by decide +kernel
theorem dX11_product_28 : decode cX11_product 28 = .ok (.if_icmp .ne 63, 3) := by decide +kernel
theorem dX11_product_31 : decode cX11_product 31 = .ok (.aload_n 0, 1) := by decide +kernel
theorem dX11_product_32 : decode cX11_product 32 = .ok (.invokevirtual 128, 3) := by decide +kernel
theorem dX11_product_35 : decode cX11_product 35 = .ok (.bipush 42, 2) := by decide +kernel
theorem dX11_product_37 : decode cX11_product 37 = .ok (.if_icmp .ne 7, 3) := by decide +kernel
theorem dX11_product_40 : decode cX11_product 40 = .ok (.iconst 1, 1) := by decide +kernel
theorem dX11_product_41 : decode cX11_product 41 = .ok (.goto 4, 3) := by decide +kernel
theorem dX11_product_44 : decode cX11_product 44 = .ok (.iconst 0, 1) := by decide +kernel
theorem dX11_product_45 : decode cX11_product 45 = .ok (.istore_n 3, 1) := by decide +kernel
theorem dX11_product_46 : decode cX11_product 46 = .ok (.aload_n 0, 1) := by decide +kernel
theorem dX11_product_47 : decode cX11_product 47 = .ok (.dup, 1) := by decide +kernel
theorem dX11_product_48 : decode cX11_product 48 = .ok (.getfield 114, 3) := by decide +kernel
theorem dX11_product_51 : decode cX11_product 51 = .ok (.iconst 1, 1) := by decide +kernel
theorem dX11_product_52 : decode cX11_product 52 = .ok (.iadd, 1) := by decide +kernel
theorem dX11_product_53 : decode cX11_product 53 = .ok (.putfield 114, 3) := by decide +kernel
theorem dX11_product_56 : decode cX11_product 56 = .ok (.aload_n 0, 1) := by decide +kernel
theorem dX11_product_57 : decode cX11_product 57 = .ok (.iload_n 1, 1) := by decide +kernel
theorem dX11_product_58 : decode cX11_product 58 = .ok (.invokevirtual 166, 3) := by decide +kernel
theorem dX11_product_61 : decode cX11_product 61 = .ok (.istore 4, 2) := by decide +kernel
theorem dX11_product_63 : decode cX11_product 63 = .ok (.iload_n 3, 1) := by decide +kernel
theorem dX11_product_64 : decode cX11_product 64 = .ok (.ifCond .eq 10, 3) := by decide +kernel
theorem dX11_product_67 : decode cX11_product 67 = .ok (.iload_n 2, 1) := by decide +kernel
theorem dX11_product_68 : decode cX11_product 68 = .ok (.iload 4, 2) := by decide +kernel
theorem dX11_product_70 : decode cX11_product 70 = .ok (.imul, 1) := by decide +kernel
theorem dX11_product_71 : decode cX11_product 71 = .ok (.goto 16, 3) := by decide +kernel
theorem dX11_product_74 : decode cX11_product 74 = .ok (.iload 4, 2) := by decide +kernel
theorem dX11_product_76 : decode cX11_product 76 = .ok (.ifCond .ne 7, 3) := by decide +kernel
theorem dX11_product_79 : decode cX11_product 79 = .ok (.iconst 0, 1) := by decide +kernel
theorem dX11_product_80 : decode cX11_product 80 = .ok (.goto 7, 3) := by decide +kernel
theorem dX11_product_83 : decode cX11_product 83 = .ok (.iload_n 2, 1) := by decide +kernel
theorem dX11_product_84 : decode cX11_product 84 = .ok (.iload 4, 2) := by decide +kernel
theorem dX11_product_86 : decode cX11_product 86 = .ok (.idiv, 1) := by decide +kernel
theorem dX11_product_87 : decode cX11_product 87 = .ok (.istore_n 2, 1) := by decide +kernel
theorem dX11_product_88 : decode cX11_product 88 = .ok (.goto (-82), 3) := by decide +kernel
theorem dX11_product_91 : decode cX11_product 91 = .ok (.iload_n 2, 1) := by decide +kernel
theorem dX11_product_92 : decode cX11_product 92 = .ok (.ireturn, 1) := by decide +kernel
theorem dX11_letterOf_0 : decode cX11_letterOf 0 = .ok (.iload_n 0, 1) := by decide +kernel
theorem dX11_letterOf_1 : decode cX11_letterOf 1 = .ok (.bipush 103, 2) := by decide +kernel
theorem dX11_letterOf_3 : decode cX11_letterOf 3 = .ok (.if_icmp .ne 7, 3) := by decide +kernel
theorem dX11_letterOf_6 : decode cX11_letterOf 6 = .ok (.iconst 0, 1) := by decide +kernel
theorem dX11_letterOf_7 : decode cX11_letterOf 7 = .ok (.goto 65, 3) := by decide +kernel
theorem dX11_letterOf_10 : decode cX11_letterOf 10 = .ok (.iload_n 0, 1) := by decide +kernel
theorem dX11_letterOf_11 : decode cX11_letterOf 11 = .ok (.bipush 116, 2) := by decide +kernel
theorem dX11_letterOf_13 : decode cX11_letterOf 13 = .ok (.if_icmp .ne 7, 3) := by decide +kernel
theorem dX11_letterOf_16 : decode cX11_letterOf 16 = .ok (.iconst 1, 1) := by decide +kernel
theorem dX11_letterOf_17 : decode cX11_letterOf 17 = .ok (.goto 55, 3) := by decide +kernel
theorem dX11_letterOf_20 : decode cX11_letterOf 20 = .ok (.iload_n 0, 1) := by decide +kernel
theorem dX11_letterOf_21 : decode cX11_letterOf 21 = .ok (.bipush 107, 2) := by decide +kernel
theorem dX11_letterOf_23 : decode cX11_letterOf 23 = .ok (.if_icmp .ne 7, 3) := by decide +kernel
theorem dX11_letterOf_26 : decode cX11_letterOf 26 = .ok (.iconst 2, 1) := by decide +kernel
theorem dX11_letterOf_27 : decode cX11_letterOf 27 = .ok (.goto 45, 3) := by decide +kernel
theorem dX11_letterOf_30 : decode cX11_letterOf 30 = .ok (.iload_n 0, 1) := by decide +kernel
theorem dX11_letterOf_31 : decode cX11_letterOf 31 = .ok (.bipush 112, 2) := by decide +kernel
theorem dX11_letterOf_33 : decode cX11_letterOf 33 = .ok (.if_icmp .ne 7, 3) := by decide +kernel
theorem dX11_letterOf_36 : decode cX11_letterOf 36 = .ok (.iconst 3, 1) := by decide +kernel
theorem dX11_letterOf_37 : decode cX11_letterOf 37 = .ok (.goto 35, 3) := by decide +kernel
theorem dX11_letterOf_40 : decode cX11_letterOf 40 = .ok (.iload_n 0, 1) := by decide +kernel
theorem dX11_letterOf_41 : decode cX11_letterOf 41 = .ok (.bipush 108, 2) := by decide +kernel
theorem dX11_letterOf_43 : decode cX11_letterOf 43 = .ok (.if_icmp .ne 7, 3) := by decide +kernel
theorem dX11_letterOf_46 : decode cX11_letterOf 46 = .ok (.iconst 4, 1) := by decide +kernel
theorem dX11_letterOf_47 : decode cX11_letterOf 47 = .ok (.goto 25, 3) := by decide +kernel
theorem dX11_letterOf_50 : decode cX11_letterOf 50 = .ok (.iload_n 0, 1) := by decide +kernel
theorem dX11_letterOf_51 : decode cX11_letterOf 51 = .ok (.bipush 105, 2) := by decide +kernel
theorem dX11_letterOf_53 : decode cX11_letterOf 53 = .ok (.if_icmp .ne 7, 3) := by decide +kernel
theorem dX11_letterOf_56 : decode cX11_letterOf 56 = .ok (.iconst 5, 1) := by decide +kernel
theorem dX11_letterOf_57 : decode cX11_letterOf 57 = .ok (.goto 15, 3) := by decide +kernel
theorem dX11_letterOf_60 : decode cX11_letterOf 60 = .ok (.iload_n 0, 1) := by decide +kernel
theorem dX11_letterOf_61 : decode cX11_letterOf 61 = .ok (.bipush 110, 2) := by decide +kernel
theorem dX11_letterOf_63 : decode cX11_letterOf 63 = .ok (.if_icmp .ne 8, 3) := by decide +kernel
theorem dX11_letterOf_66 : decode cX11_letterOf 66 = .ok (.bipush 6, 2) := by decide +kernel
theorem dX11_letterOf_68 : decode cX11_letterOf 68 = .ok (.goto 4, 3) := by decide +kernel
theorem dX11_letterOf_71 : decode cX11_letterOf 71 = .ok (.iconst (-1), 1) := by decide +kernel
theorem dX11_letterOf_72 : decode cX11_letterOf 72 = .ok (.ireturn, 1) := by decide +kernel
theorem dX11_thing_0 : decode cX11_thing 0 = .ok (.aload_n 0, 1) := by decide +kernel
theorem dX11_thing_1 : decode cX11_thing 1 = .ok (.bipush 45, 2) := by decide +kernel
theorem dX11_thing_3 : decode cX11_thing 3 = .ok (.invokevirtual 132, 3) := by decide +kernel
theorem dX11_thing_6 : decode cX11_thing 6 = .ok (.ifCond .eq 10, 3) := by decide +kernel
theorem dX11_thing_9 : decode cX11_thing 9 = .ok (.aload_n 0, 1) := by decide +kernel
theorem dX11_thing_10 : decode cX11_thing 10 = .ok (.iload_n 1, 1) := by decide +kernel
theorem dX11_thing_11 : decode cX11_thing 11 = .ok (.invokevirtual 166, 3) := by decide +kernel
theorem dX11_thing_14 : decode cX11_thing 14 = .ok (.ineg, 1) := by decide +kernel
theorem dX11_thing_15 : decode cX11_thing 15 = .ok (.ireturn, 1) := by decide +kernel
theorem dX11_thing_16 : decode cX11_thing 16 = .ok (.aload_n 0, 1) := by decide +kernel
theorem dX11_thing_17 : decode cX11_thing 17 = .ok (.invokevirtual 124, 3) := by decide +kernel
theorem dX11_thing_20 : decode cX11_thing 20 = .ok (.ifCond .ne 5, 3) := by decide +kernel
theorem dX11_thing_23 : decode cX11_thing 23 = .ok (.iconst 0, 1) := by decide +kernel
theorem dX11_thing_24 : decode cX11_thing 24 = .ok (.ireturn, 1) := by decide +kernel
theorem dX11_thing_25 : decode cX11_thing 25 = .ok (.aload_n 0, 1) := by decide +kernel
theorem dX11_thing_26 : decode cX11_thing 26 = .ok (.invokevirtual 128, 3) := by decide +kernel
theorem dX11_thing_29 : decode cX11_thing 29 = .ok (.istore_n 2, 1) := by decide +kernel
theorem dX11_thing_30 : decode cX11_thing 30 = .ok (.iload_n 2, 1) := by decide +kernel
theorem dX11_thing_31 : decode cX11_thing 31 = .ok (.bipush 40, 2) := by decide +kernel
theorem dX11_thing_33 : decode cX11_thing 33 = .ok (.if_icmp .ne 34, 3) := by decide +kernel
theorem dX11_thing_36 : decode cX11_thing 36 = .ok (.iload_n 1, 1) := by decide +kernel
theorem dX11_thing_37 : decode cX11_thing 37 = .ok (.iconst 4, 1) := by decide +kernel
theorem dX11_thing_38 : decode cX11_thing 38 = .ok (.if_icmp .ge 29, 3) := by decide +kernel
theorem dX11_thing_41 : decode cX11_thing 41 = .ok (.aload_n 0, 1) := by decide +kernel
theorem dX11_thing_42 : decode cX11_thing 42 = .ok (.dup, 1) := by decide +kernel
theorem dX11_thing_43 : decode cX11_thing 43 = .ok (.getfield 114, 3) := by decide +kernel
theorem dX11_thing_46 : decode cX11_thing 46 = .ok (.iconst 1, 1) := by decide +kernel
theorem dX11_thing_47 : decode cX11_thing 47 = .ok (.iadd, 1) := by decide +kernel
theorem dX11_thing_48 : decode cX11_thing 48 = .ok (.putfield 114, 3) := by decide +kernel
theorem dX11_thing_51 : decode cX11_thing 51 = .ok (.aload_n 0, 1) := by decide +kernel
theorem dX11_thing_52 : decode cX11_thing 52 = .ok (.iload_n 1, 1) := by decide +kernel
theorem dX11_thing_53 : decode cX11_thing 53 = .ok (.iconst 1, 1) := by decide +kernel
theorem dX11_thing_54 : decode cX11_thing 54 = .ok (.iadd, 1) := by decide +kernel
theorem dX11_thing_55 : decode cX11_thing 55 = .ok (.invokevirtual 169, 3) := by decide +kernel
theorem dX11_thing_58 : decode cX11_thing 58 = .ok (.istore_n 3, 1) := by decide +kernel
theorem dX11_thing_59 : decode cX11_thing 59 = .ok (.aload_n 0, 1) := by decide +kernel
theorem dX11_thing_60 : decode cX11_thing 60 = .ok (.bipush 41, 2) := by decide +kernel
theorem dX11_thing_62 : decode cX11_thing 62 = .ok (.invokevirtual 172, 3) := by decide +kernel
theorem dX11_thing_65 : decode cX11_thing 65 = .ok (.iload_n 3, 1) := by decide +kernel
theorem dX11_thing_66 : decode cX11_thing 66 = .ok (.ireturn, 1) := by decide +kernel
theorem dX11_thing_67 : decode cX11_thing 67 = .ok (.iload_n 2, 1) := by decide +kernel
theorem dX11_thing_68 : decode cX11_thing 68 = .ok (.bipush 48, 2) := by decide +kernel
theorem dX11_thing_70 : decode cX11_thing 70 = .ok (.bipush 57, 2) := by decide +kernel
theorem dX11_thing_72 : decode cX11_thing 72 = .ok (.invokestatic 98, 3) := by decide +kernel
theorem dX11_thing_75 : decode cX11_thing 75 = .ok (.ifCond .eq 9, 3) := by decide +kernel
theorem dX11_thing_78 : decode cX11_thing 78 = .ok (.aload_n 0, 1) := by decide +kernel
theorem dX11_thing_79 : decode cX11_thing 79 = .ok (.iconst 3, 1) := by decide +kernel
theorem dX11_thing_80 : decode cX11_thing 80 = .ok (.invokevirtual 176, 3) := by decide +kernel
theorem dX11_thing_83 : decode cX11_thing 83 = .ok (.ireturn, 1) := by decide +kernel
theorem dX11_thing_84 : decode cX11_thing 84 = .ok (.iload_n 2, 1) := by decide +kernel
theorem dX11_thing_85 : decode cX11_thing 85 = .ok (.invokestatic 179, 3) := by decide +kernel
theorem dX11_thing_88 : decode cX11_thing 88 = .ok (.iconst (-1), 1) := by decide +kernel
theorem dX11_thing_89 : decode cX11_thing 89 = .ok (.if_icmp .ne 13, 3) := by decide +kernel
theorem dX11_thing_92 : decode cX11_thing 92 = .ok (.aload_n 0, 1) := by decide +kernel
theorem dX11_thing_93 : decode cX11_thing 93 = .ok (.aload_n 0, 1) := by decide +kernel
theorem dX11_thing_94 : decode cX11_thing 94 = .ok (.getfield 114, 3) := by decide +kernel
theorem dX11_thing_97 : decode cX11_thing 97 = .ok (.invokevirtual 136, 3) := by decide +kernel
theorem dX11_thing_100 : decode cX11_thing 100 = .ok (.iconst 0, 1) := by decide +kernel
theorem dX11_thing_101 : decode cX11_thing 101 = .ok (.ireturn, 1) := by decide +kernel
theorem dX11_thing_102 : decode cX11_thing 102 = .ok (.aload_n 0, 1) := by decide +kernel
theorem dX11_thing_103 : decode cX11_thing 103 = .ok (.dup, 1) := by decide +kernel
theorem dX11_thing_104 : decode cX11_thing 104 = .ok (.getfield 114, 3) := by decide +kernel
theorem dX11_thing_107 : decode cX11_thing 107 = .ok (.iconst 1, 1) := by decide +kernel
theorem dX11_thing_108 : decode cX11_thing 108 = .ok (.iadd, 1) := by decide +kernel
theorem dX11_thing_109 : decode cX11_thing 109 = .ok (.putfield 114, 3) := by decide +kernel
theorem dX11_thing_112 : decode cX11_thing 112 = .ok (.aload_n 0, 1) := by decide +kernel
theorem dX11_thing_113 : decode cX11_thing 113 = .ok (.getfield 182, 3) := by decide +kernel
theorem dX11_thing_116 : decode cX11_thing 116 = .ok (.ifCond .eq 15, 3) := by decide +kernel
theorem dX11_thing_119 : decode cX11_thing 119 = .ok (.aload_n 0, 1) := by decide +kernel
theorem dX11_thing_120 : decode cX11_thing 120 = .ok (.getfield 40, 3) := by decide +kernel
theorem dX11_thing_123 : decode cX11_thing 123 = .ok (.iload_n 2, 1) := by decide +kernel
theorem dX11_thing_124 : decode cX11_thing 124 = .ok (.invokestatic 179, 3) := by decide +kernel
theorem dX11_thing_127 : decode cX11_thing 127 = .ok (.iaload, 1) := by decide +kernel
theorem dX11_thing_128 : decode cX11_thing 128 = .ok (.goto 4, 3) := by decide +kernel
theorem dX11_thing_131 : decode cX11_thing 131 = .ok (.iconst 0, 1) := by decide +kernel
theorem dX11_thing_132 : decode cX11_thing 132 = .ok (.ireturn, 1) := by decide +kernel
theorem dX11_readRule_0 : decode cX11_readRule 0 = .ok (.aload_n 0, 1) := by decide +kernel
theorem dX11_readRule_1 : decode cX11_readRule 1 = .ok (.bipush 40, 2) := by decide +kernel
theorem dX11_readRule_3 : decode cX11_readRule 3 = .ok (.invokevirtual 144, 3) := by decide +kernel
theorem dX11_readRule_6 : decode cX11_readRule 6 = .ok (.aload_n 0, 1) := by decide +kernel
theorem dX11_readRule_7 : decode cX11_readRule 7 = .ok (.iconst 0, 1) := by decide +kernel
theorem dX11_readRule_8 : decode cX11_readRule 8 = .ok (.putfield 182, 3) := by decide +kernel
theorem dX11_readRule_11 : decode cX11_readRule 11 = .ok (.aload_n 0, 1) := by decide +kernel
theorem dX11_readRule_12 : decode cX11_readRule 12 = .ok (.getfield 108, 3) := by decide +kernel
theorem dX11_readRule_15 : decode cX11_readRule 15 = .ok (.ifCond .le 9, 3) := by decide +kernel
theorem dX11_readRule_18 : decode cX11_readRule 18 = .ok (.aload_n 0, 1) := by decide +kernel
theorem dX11_readRule_19 : decode cX11_readRule 19 = .ok (.iconst 0, 1) := by decide +kernel
theorem dX11_readRule_20 : decode cX11_readRule 20 = .ok (.invokevirtual 169, 3) := by decide +kernel
theorem dX11_readRule_23 : decode cX11_readRule 23 = .ok (.pop, 1) := by decide +kernel
theorem dX11_readRule_24 : decode cX11_readRule 24 = .ok (.aload_n 0, 1) := by decide +kernel
theorem dX11_readRule_25 : decode cX11_readRule 25 = .ok (.invokevirtual 147, 3) := by decide +kernel
theorem dX11_readRule_28 : decode cX11_readRule 28 = .ok (.ireturn, 1) := by decide +kernel
theorem dX11_rule_0 : decode cX11_rule 0 = .ok (.aload_n 0, 1) := by decide +kernel
theorem dX11_rule_1 : decode cX11_rule 1 = .ok (.iconst 0, 1) := by decide +kernel
theorem dX11_rule_2 : decode cX11_rule 2 = .ok (.putfield 89, 3) := by decide +kernel
theorem dX11_rule_5 : decode cX11_rule 5 = .ok (.aload_n 0, 1) := by decide +kernel
theorem dX11_rule_6 : decode cX11_rule 6 = .ok (.getfield 102, 3) := by decide +kernel
theorem dX11_rule_9 : decode cX11_rule 9 = .ok (.istore_n 1, 1) := by decide +kernel
theorem dX11_rule_10 : decode cX11_rule 10 = .ok (.aload_n 0, 1) := by decide +kernel
theorem dX11_rule_11 : decode cX11_rule 11 = .ok (.invokevirtual 186, 3) := by decide +kernel
theorem dX11_rule_14 : decode cX11_rule 14 = .ok (.ifCond .ne 10, 3) := by decide +kernel
theorem dX11_rule_17 : decode cX11_rule 17 = .ok (.iconst (-1), 1) := by decide +kernel
theorem dX11_rule_18 : decode cX11_rule 18 = .ok (.aload_n 0, 1) := by decide +kernel
theorem dX11_rule_19 : decode cX11_rule 19 = .ok (.getfield 117, 3) := by decide +kernel
theorem dX11_rule_22 : decode cX11_rule 22 = .ok (.isub, 1) := by decide +kernel
theorem dX11_rule_23 : decode cX11_rule 23 = .ok (.ireturn, 1) := by decide +kernel
theorem dX11_rule_24 : decode cX11_rule 24 = .ok (.iconst 0, 1) := by decide +kernel
theorem dX11_rule_25 : decode cX11_rule 25 = .ok (.istore_n 2, 1) := by decide +kernel
theorem dX11_rule_26 : decode cX11_rule 26 = .ok (.iload_n 2, 1) := by decide +kernel
theorem dX11_rule_27 : decode cX11_rule 27 = .ok (.iload_n 1, 1) := by decide +kernel
theorem dX11_rule_28 : decode cX11_rule 28 = .ok (.if_icmp .ge 21, 3) := by decide +kernel
theorem dX11_rule_31 : decode cX11_rule 31 = .ok (.aload_n 0, 1) := by decide +kernel
theorem dX11_rule_32 : decode cX11_rule 32 = .ok (.getfield 34, 3) := by decide +kernel
theorem dX11_rule_35 : decode cX11_rule 35 = .ok (.iload_n 2, 1) := by decide +kernel
theorem dX11_rule_36 : decode cX11_rule 36 = .ok (.aload_n 0, 1) := by decide +kernel
theorem dX11_rule_37 : decode cX11_rule 37 = .ok (.getfield 23, 3) := by decide +kernel
theorem dX11_rule_40 : decode cX11_rule 40 = .ok (.iload_n 2, 1) := by decide +kernel
theorem dX11_rule_41 : decode cX11_rule 41 = .ok (.baload, 1) := by decide +kernel
theorem dX11_rule_42 : decode cX11_rule 42 = .ok (.bastore, 1) := by decide +kernel
theorem dX11_rule_43 : decode cX11_rule 43 = .ok (.iinc 2 1, 3) := by decide +kernel
theorem dX11_rule_46 : decode cX11_rule 46 = .ok (.goto (-20), 3) := by decide +kernel
theorem dX11_rule_49 : decode cX11_rule 49 = .ok (.aload_n 0, 1) := by decide +kernel
theorem dX11_rule_50 : decode cX11_rule 50 = .ok (.iload_n 1, 1) := by decide +kernel
theorem dX11_rule_51 : decode cX11_rule 51 = .ok (.putfield 189, 3) := by decide +kernel
theorem dX11_rule_54 : decode cX11_rule 54 = .ok (.iconst 0, 1) := by decide +kernel
theorem dX11_rule_55 : decode cX11_rule 55 = .ok (.ireturn, 1) := by decide +kernel
theorem dX11_weightOf_0 : decode cX11_weightOf 0 = .ok (.aload_n 1, 1) := by decide +kernel
theorem dX11_weightOf_1 : decode cX11_weightOf 1 = .ok (.iload_n 2, 1) := by decide +kernel
theorem dX11_weightOf_2 : decode cX11_weightOf 2 = .ok (.iaload, 1) := by decide +kernel
theorem dX11_weightOf_3 : decode cX11_weightOf 3 = .ok (.aload_n 0, 1) := by decide +kernel
theorem dX11_weightOf_4 : decode cX11_weightOf 4 = .ok (.getfield 13, 3) := by decide +kernel
theorem dX11_weightOf_7 : decode cX11_weightOf 7 = .ok (.aload_n 1, 1) := by decide +kernel
theorem dX11_weightOf_8 : decode cX11_weightOf 8 = .ok (.bipush 7, 2) := by decide +kernel
theorem dX11_weightOf_10 : decode cX11_weightOf 10 = .ok (.iload_n 2, 1) := by decide +kernel
theorem dX11_weightOf_11 : decode cX11_weightOf 11 = .ok (.iadd, 1) := by decide +kernel
theorem dX11_weightOf_12 : decode cX11_weightOf 12 = .ok (.iaload, 1) := by decide +kernel
theorem dX11_weightOf_13 : decode cX11_weightOf 13 = .ok (.iaload, 1) := by decide +kernel
theorem dX11_weightOf_14 : decode cX11_weightOf 14 = .ok (.iadd, 1) := by decide +kernel
theorem dX11_weightOf_15 : decode cX11_weightOf 15 = .ok (.istore_n 3, 1) := by decide +kernel
theorem dX11_weightOf_16 : decode cX11_weightOf 16 = .ok (.aload_n 0, 1) := by decide +kernel
theorem dX11_weightOf_17 : decode cX11_weightOf 17 = .ok (.getfield 189, 3) := by decide +kernel
theorem dX11_weightOf_20 : decode cX11_weightOf 20 = .ok (.ifCond .le 169, 3) := by decide +kernel
theorem dX11_weightOf_23 : decode cX11_weightOf 23 = .ok (.iconst 0, 1) := by decide +kernel
theorem dX11_weightOf_24 : decode cX11_weightOf 24 = .ok (.istore 4, 2) := by decide +kernel
theorem dX11_weightOf_26 : decode cX11_weightOf 26 = .ok (.iconst 0, 1) := by decide +kernel
theorem dX11_weightOf_27 : decode cX11_weightOf 27 = .ok (.istore 5, 2) := by decide +kernel
theorem dX11_weightOf_29 : decode cX11_weightOf 29 = .ok (.iload 5, 2) := by decide +kernel
theorem dX11_weightOf_31 : decode cX11_weightOf 31 = .ok (.aload_n 0, 1) := by decide +kernel
theorem dX11_weightOf_32 : decode cX11_weightOf 32 = .ok (.getfield 95, 3) := by decide +kernel
theorem dX11_weightOf_35 : decode cX11_weightOf 35 = .ok (.if_icmp .ge 41, 3) := by decide +kernel
theorem dX11_weightOf_38 : decode cX11_weightOf 38 = .ok (.iload 4, 2) := by decide +kernel
theorem dX11_weightOf_40 : decode cX11_weightOf 40 = .ok (.iload 5, 2) := by decide +kernel
theorem dX11_weightOf_42 : decode cX11_weightOf 42 = .ok (.iload_n 2, 1) := by decide +kernel
theorem dX11_weightOf_43 : decode cX11_weightOf 43 = .ok (.if_icmp .eq 23, 3) := by decide +kernel
theorem dX11_weightOf_46 : decode cX11_weightOf 46 = .ok (.aload_n 1, 1) := by decide +kernel
theorem dX11_weightOf_47 : decode cX11_weightOf 47 = .ok (.bipush 7, 2) := by decide +kernel
theorem dX11_weightOf_49 : decode cX11_weightOf 49 = .ok (.iload 5, 2) := by decide +kernel
theorem dX11_weightOf_51 : decode cX11_weightOf 51 = .ok (.iadd, 1) := by decide +kernel
theorem dX11_weightOf_52 : decode cX11_weightOf 52 = .ok (.iaload, 1) := by decide +kernel
theorem dX11_weightOf_53 : decode cX11_weightOf 53 = .ok (.aload_n 1, 1) := by decide +kernel
theorem dX11_weightOf_54 : decode cX11_weightOf 54 = .ok (.bipush 7, 2) := by decide +kernel
theorem dX11_weightOf_56 : decode cX11_weightOf 56 = .ok (.iload_n 2, 1) := by decide +kernel
theorem dX11_weightOf_57 : decode cX11_weightOf 57 = .ok (.iadd, 1) := by decide +kernel
theorem dX11_weightOf_58 : decode cX11_weightOf 58 = .ok (.iaload, 1) := by decide +kernel
theorem dX11_weightOf_59 : decode cX11_weightOf 59 = .ok (.if_icmp .ne 7, 3) := by decide +kernel
theorem dX11_weightOf_62 : decode cX11_weightOf 62 = .ok (.iconst 1, 1) := by decide +kernel
theorem dX11_weightOf_63 : decode cX11_weightOf 63 = .ok (.goto 4, 3) := by decide +kernel
theorem dX11_weightOf_66 : decode cX11_weightOf 66 = .ok (.iconst 0, 1) := by decide +kernel
theorem dX11_weightOf_67 : decode cX11_weightOf 67 = .ok (.iadd, 1) := by decide +kernel
theorem dX11_weightOf_68 : decode cX11_weightOf 68 = .ok (.istore 4, 2) := by decide +kernel
theorem dX11_weightOf_70 : decode cX11_weightOf 70 = .ok (.iinc 5 1, 3) := by decide +kernel
theorem dX11_weightOf_73 : decode cX11_weightOf 73 = .ok (.goto (-44), 3) := by decide +kernel
theorem dX11_weightOf_76 : decode cX11_weightOf 76 = .ok (.aload_n 0, 1) := by decide +kernel
theorem dX11_weightOf_77 : decode cX11_weightOf 77 = .ok (.getfield 40, 3) := by decide +kernel
theorem dX11_weightOf_80 : decode cX11_weightOf 80 = .ok (.iconst 0, 1) := by decide +kernel
theorem dX11_weightOf_81 : decode cX11_weightOf 81 = .ok (.aload_n 1, 1) := by decide +kernel
theorem dX11_weightOf_82 : decode cX11_weightOf 82 = .ok (.iload_n 2, 1) := by decide +kernel
theorem dX11_weightOf_83 : decode cX11_weightOf 83 = .ok (.iaload, 1) := by decide +kernel
theorem dX11_weightOf_84 : decode cX11_weightOf 84 = .ok (.iastore, 1) := by decide +kernel
theorem dX11_weightOf_85 : decode cX11_weightOf 85 = .ok (.aload_n 0, 1) := by decide +kernel
theorem dX11_weightOf_86 : decode cX11_weightOf 86 = .ok (.getfield 40, 3) := by decide +kernel
theorem dX11_weightOf_89 : decode cX11_weightOf 89 = .ok (.iconst 1, 1) := by decide +kernel
theorem dX11_weightOf_90 : decode cX11_weightOf 90 = .ok (.aload_n 0, 1) := by decide +kernel
theorem dX11_weightOf_91 : decode cX11_weightOf 91 = .ok (.getfield 13, 3) := by decide +kernel
theorem dX11_weightOf_94 : decode cX11_weightOf 94 = .ok (.aload_n 1, 1) := by decide +kernel
theorem dX11_weightOf_95 : decode cX11_weightOf 95 = .ok (.bipush 7, 2) := by decide +kernel
theorem dX11_weightOf_97 : decode cX11_weightOf 97 = .ok (.iload_n 2, 1) := by decide +kernel
theorem dX11_weightOf_98 : decode cX11_weightOf 98 = .ok (.iadd, 1) := by decide +kernel
theorem dX11_weightOf_99 : decode cX11_weightOf 99 = .ok (.iaload, 1) := by decide +kernel
theorem dX11_weightOf_100 : decode cX11_weightOf 100 = .ok (.iaload, 1) := by decide +kernel
theorem dX11_weightOf_101 : decode cX11_weightOf 101 = .ok (.iastore, 1) := by decide +kernel
theorem dX11_weightOf_102 : decode cX11_weightOf 102 = .ok (.aload_n 0, 1) := by decide +kernel
theorem dX11_weightOf_103 : decode cX11_weightOf 103 = .ok (.getfield 40, 3) := by decide +kernel
theorem dX11_weightOf_106 : decode cX11_weightOf 106 = .ok (.iconst 2, 1) := by decide +kernel
theorem dX11_weightOf_107 : decode cX11_weightOf 107 = .ok (.iload 4, 2) := by decide +kernel
theorem dX11_weightOf_109 : decode cX11_weightOf 109 = .ok (.iastore, 1) := by decide +kernel
theorem dX11_weightOf_110 : decode cX11_weightOf 110 = .ok (.aload_n 0, 1) := by decide +kernel
theorem dX11_weightOf_111 : decode cX11_weightOf 111 = .ok (.getfield 40, 3) := by decide +kernel
theorem dX11_weightOf_114 : decode cX11_weightOf 114 = .ok (.iconst 3, 1) := by decide +kernel
theorem dX11_weightOf_115 : decode cX11_weightOf 115 = .ok (.aload_n 1, 1) := by decide +kernel
theorem dX11_weightOf_116 : decode cX11_weightOf 116 = .ok (.bipush 14, 2) := by decide +kernel
theorem dX11_weightOf_118 : decode cX11_weightOf 118 = .ok (.iload_n 2, 1) := by decide +kernel
theorem dX11_weightOf_119 : decode cX11_weightOf 119 = .ok (.iadd, 1) := by decide +kernel
theorem dX11_weightOf_120 : decode cX11_weightOf 120 = .ok (.iaload, 1) := by decide +kernel
theorem dX11_weightOf_121 : decode cX11_weightOf 121 = .ok (.invokestatic 192, 3) := by decide +kernel
theorem dX11_weightOf_124 : decode cX11_weightOf 124 = .ok (.iastore, 1) := by decide +kernel
theorem dX11_weightOf_125 : decode cX11_weightOf 125 = .ok (.aload_n 0, 1) := by decide +kernel
theorem dX11_weightOf_126 : decode cX11_weightOf 126 = .ok (.getfield 40, 3) := by decide +kernel
theorem dX11_weightOf_129 : decode cX11_weightOf 129 = .ok (.iconst 4, 1) := by decide +kernel
theorem dX11_weightOf_130 : decode cX11_weightOf 130 = .ok (.aload_n 1, 1) := by decide +kernel
theorem dX11_weightOf_131 : decode cX11_weightOf 131 = .ok (.bipush 22, 2) := by decide +kernel
theorem dX11_weightOf_133 : decode cX11_weightOf 133 = .ok (.iaload, 1) := by decide +kernel
theorem dX11_weightOf_134 : decode cX11_weightOf 134 = .ok (.invokestatic 192, 3) := by decide +kernel
theorem dX11_weightOf_137 : decode cX11_weightOf 137 = .ok (.iastore, 1) := by decide +kernel
theorem dX11_weightOf_138 : decode cX11_weightOf 138 = .ok (.aload_n 0, 1) := by decide +kernel
theorem dX11_weightOf_139 : decode cX11_weightOf 139 = .ok (.getfield 40, 3) := by decide +kernel
theorem dX11_weightOf_142 : decode cX11_weightOf 142 = .ok (.iconst 5, 1) := by decide +kernel
theorem dX11_weightOf_143 : decode cX11_weightOf 143 = .ok (.iload_n 2, 1) := by decide +kernel
theorem dX11_weightOf_144 : decode cX11_weightOf 144 = .ok (.iastore, 1) := by decide +kernel
theorem dX11_weightOf_145 : decode cX11_weightOf 145 = .ok (.aload_n 0, 1) := by decide +kernel
theorem dX11_weightOf_146 : decode cX11_weightOf 146 = .ok (.getfield 40, 3) := by decide +kernel
theorem dX11_weightOf_149 : decode cX11_weightOf 149 = .ok (.bipush 6, 2) := by decide +kernel
theorem dX11_weightOf_151 : decode cX11_weightOf 151 = .ok (.aload_n 1, 1) := by decide +kernel
theorem dX11_weightOf_152 : decode cX11_weightOf 152 = .ok (.bipush 25, 2) := by decide +kernel
theorem dX11_weightOf_154 : decode cX11_weightOf 154 = .ok (.iaload, 1) := by decide +kernel
theorem dX11_weightOf_155 : decode cX11_weightOf 155 = .ok (.bipush 7, 2) := by decide +kernel
theorem dX11_weightOf_157 : decode cX11_weightOf 157 = .ok (.irem, 1) := by decide +kernel
theorem dX11_weightOf_158 : decode cX11_weightOf 158 = .ok (.iastore, 1) := by decide +kernel
theorem dX11_weightOf_159 : decode cX11_weightOf 159 = .ok (.aload_n 0, 1) := by decide +kernel
theorem dX11_weightOf_160 : decode cX11_weightOf 160 = .ok (.aload_n 0, 1) := by decide +kernel
theorem dX11_weightOf_161 : decode cX11_weightOf 161 = .ok (.getfield 34, 3) := by decide +kernel
theorem dX11_weightOf_164 : decode cX11_weightOf 164 = .ok (.aload_n 0, 1) := by decide +kernel
theorem dX11_weightOf_165 : decode cX11_weightOf 165 = .ok (.getfield 189, 3) := by decide +kernel
theorem dX11_weightOf_168 : decode cX11_weightOf 168 = .ok (.bipush 40, 2) := by decide +kernel
theorem dX11_weightOf_170 : decode cX11_weightOf 170 = .ok (.invokevirtual 120, 3) := by decide +kernel
theorem dX11_weightOf_173 : decode cX11_weightOf 173 = .ok (.aload_n 0, 1) := by decide +kernel
theorem dX11_weightOf_174 : decode cX11_weightOf 174 = .ok (.iconst 1, 1) := by decide +kernel
theorem dX11_weightOf_175 : decode cX11_weightOf 175 = .ok (.putfield 182, 3) := by decide +kernel
theorem dX11_weightOf_178 : decode cX11_weightOf 178 = .ok (.aload_n 0, 1) := by decide +kernel
theorem dX11_weightOf_179 : decode cX11_weightOf 179 = .ok (.iconst 0, 1) := by decide +kernel
theorem dX11_weightOf_180 : decode cX11_weightOf 180 = .ok (.invokevirtual 169, 3) := by decide +kernel
theorem dX11_weightOf_183 : decode cX11_weightOf 183 = .ok (.istore_n 3, 1) := by decide +kernel
theorem dX11_weightOf_184 : decode cX11_weightOf 184 = .ok (.aload_n 0, 1) := by decide +kernel
theorem dX11_weightOf_185 : decode cX11_weightOf 185 = .ok (.iconst 0, 1) := by decide +kernel
theorem dX11_weightOf_186 : decode cX11_weightOf 186 = .ok (.putfield 182, 3) := by decide +kernel
theorem dX11_weightOf_189 : decode cX11_weightOf 189 = .ok (.iconst 0, 1) := by decide +kernel
theorem dX11_weightOf_190 : decode cX11_weightOf 190 = .ok (.bipush 20, 2) := by decide +kernel
theorem dX11_weightOf_192 : decode cX11_weightOf 192 = .ok (.iload_n 3, 1) := by decide +kernel
theorem dX11_weightOf_193 : decode cX11_weightOf 193 = .ok (.invokestatic 197, 3) := by decide +kernel
theorem dX11_weightOf_196 : decode cX11_weightOf 196 = .ok (.invokestatic 201, 3) := by decide +kernel
theorem dX11_weightOf_199 : decode cX11_weightOf 199 = .ok (.ireturn, 1) := by decide +kernel
theorem dX11_sidesOf_0 : decode cX11_sidesOf 0 = .ok (.iconst 0, 1) := by decide +kernel
theorem dX11_sidesOf_1 : decode cX11_sidesOf 1 = .ok (.istore_n 3, 1) := by decide +kernel
theorem dX11_sidesOf_2 : decode cX11_sidesOf 2 = .ok (.iconst 0, 1) := by decide +kernel
theorem dX11_sidesOf_3 : decode cX11_sidesOf 3 = .ok (.istore 4, 2) := by decide +kernel
theorem dX11_sidesOf_5 : decode cX11_sidesOf 5 = .ok (.iload 4, 2) := by decide +kernel
theorem dX11_sidesOf_7 : decode cX11_sidesOf 7 = .ok (.aload_n 0, 1) := by decide +kernel
theorem dX11_sidesOf_8 : decode cX11_sidesOf 8 = .ok (.getfield 95, 3) := by decide +kernel
theorem dX11_sidesOf_11 : decode cX11_sidesOf 11 = .ok (.if_icmp .ge 37, 3) := by decide +kernel
theorem dX11_sidesOf_14 : decode cX11_sidesOf 14 = .ok (.iload_n 3, 1) := by decide +kernel
theorem dX11_sidesOf_15 : decode cX11_sidesOf 15 = .ok (.iload 4, 2) := by decide +kernel
theorem dX11_sidesOf_17 : decode cX11_sidesOf 17 = .ok (.iload_n 2, 1) := by decide +kernel
theorem dX11_sidesOf_18 : decode cX11_sidesOf 18 = .ok (.if_icmp .ne 7, 3) := by decide +kernel
theorem dX11_sidesOf_21 : decode cX11_sidesOf 21 = .ok (.iconst 0, 1) := by decide +kernel
theorem dX11_sidesOf_22 : decode cX11_sidesOf 22 = .ok (.goto 18, 3) := by decide +kernel
theorem dX11_sidesOf_25 : decode cX11_sidesOf 25 = .ok (.aload_n 0, 1) := by decide +kernel
theorem dX11_sidesOf_26 : decode cX11_sidesOf 26 = .ok (.aload_n 1, 1) := by decide +kernel
theorem dX11_sidesOf_27 : decode cX11_sidesOf 27 = .ok (.iload 4, 2) := by decide +kernel
theorem dX11_sidesOf_29 : decode cX11_sidesOf 29 = .ok (.invokevirtual 204, 3) := by decide +kernel
theorem dX11_sidesOf_32 : decode cX11_sidesOf 32 = .ok (.aload_n 1, 1) := by decide +kernel
theorem dX11_sidesOf_33 : decode cX11_sidesOf 33 = .ok (.bipush 14, 2) := by decide +kernel
theorem dX11_sidesOf_35 : decode cX11_sidesOf 35 = .ok (.iload 4, 2) := by decide +kernel
theorem dX11_sidesOf_37 : decode cX11_sidesOf 37 = .ok (.iadd, 1) := by decide +kernel
theorem dX11_sidesOf_38 : decode cX11_sidesOf 38 = .ok (.iaload, 1) := by decide +kernel
theorem dX11_sidesOf_39 : decode cX11_sidesOf 39 = .ok (.imul, 1) := by decide +kernel
theorem dX11_sidesOf_40 : decode cX11_sidesOf 40 = .ok (.iadd, 1) := by decide +kernel
theorem dX11_sidesOf_41 : decode cX11_sidesOf 41 = .ok (.istore_n 3, 1) := by decide +kernel
theorem dX11_sidesOf_42 : decode cX11_sidesOf 42 = .ok (.iinc 4 1, 3) := by decide +kernel
theorem dX11_sidesOf_45 : decode cX11_sidesOf 45 = .ok (.goto (-40), 3) := by decide +kernel
theorem dX11_sidesOf_48 : decode cX11_sidesOf 48 = .ok (.iload_n 3, 1) := by decide +kernel
theorem dX11_sidesOf_49 : decode cX11_sidesOf 49 = .ok (.ireturn, 1) := by decide +kernel
theorem dX11_pullBy_0 : decode cX11_pullBy 0 = .ok (.bipush (-20), 2) := by decide +kernel
theorem dX11_pullBy_2 : decode cX11_pullBy 2 = .ok (.bipush 20, 2) := by decide +kernel
theorem dX11_pullBy_4 : decode cX11_pullBy 4 = .ok (.iload_n 0, 1) := by decide +kernel
theorem dX11_pullBy_5 : decode cX11_pullBy 5 = .ok (.bipush 8, 2) := by decide +kernel
theorem dX11_pullBy_7 : decode cX11_pullBy 7 = .ok (.idiv, 1) := by decide +kernel
theorem dX11_pullBy_8 : decode cX11_pullBy 8 = .ok (.invokestatic 197, 3) := by decide +kernel
theorem dX11_pullBy_11 : decode cX11_pullBy 11 = .ok (.invokestatic 201, 3) := by decide +kernel
theorem dX11_pullBy_14 : decode cX11_pullBy 14 = .ok (.ireturn, 1) := by decide +kernel
theorem dX11_windOf_0 : decode cX11_windOf 0 = .ok (.aload_n 0, 1) := by decide +kernel
theorem dX11_windOf_1 : decode cX11_windOf 1 = .ok (.getfield 16, 3) := by decide +kernel
theorem dX11_windOf_4 : decode cX11_windOf 4 = .ok (.aload_n 1, 1) := by decide +kernel
theorem dX11_windOf_5 : decode cX11_windOf 5 = .ok (.bipush 25, 2) := by decide +kernel
theorem dX11_windOf_7 : decode cX11_windOf 7 = .ok (.iaload, 1) := by decide +kernel
theorem dX11_windOf_8 : decode cX11_windOf 8 = .ok (.aload_n 0, 1) := by decide +kernel
theorem dX11_windOf_9 : decode cX11_windOf 9 = .ok (.getfield 19, 3) := by decide +kernel
theorem dX11_windOf_12 : decode cX11_windOf 12 = .ok (.irem, 1) := by decide +kernel
theorem dX11_windOf_13 : decode cX11_windOf 13 = .ok (.iaload, 1) := by decide +kernel
theorem dX11_windOf_14 : decode cX11_windOf 14 = .ok (.ireturn, 1) := by decide +kernel
theorem dX11_momentOf_0 : decode cX11_momentOf 0 = .ok (.aload_n 0, 1) := by decide +kernel
theorem dX11_momentOf_1 : decode cX11_momentOf 1 = .ok (.aload_n 1, 1) := by decide +kernel
theorem dX11_momentOf_2 : decode cX11_momentOf 2 = .ok (.iconst (-1), 1) := by decide +kernel
theorem dX11_momentOf_3 : decode cX11_momentOf 3 = .ok (.invokevirtual 208, 3) := by decide +kernel
theorem dX11_momentOf_6 : decode cX11_momentOf 6 = .ok (.iconst 2, 1) := by decide +kernel
theorem dX11_momentOf_7 : decode cX11_momentOf 7 = .ok (.iload_n 2, 1) := by decide +kernel
theorem dX11_momentOf_8 : decode cX11_momentOf 8 = .ok (.imul, 1) := by decide +kernel
theorem dX11_momentOf_9 : decode cX11_momentOf 9 = .ok (.aload_n 1, 1) := by decide +kernel
theorem dX11_momentOf_10 : decode cX11_momentOf 10 = .ok (.bipush 21, 2) := by decide +kernel
theorem dX11_momentOf_12 : decode cX11_momentOf 12 = .ok (.iaload, 1) := by decide +kernel
theorem dX11_momentOf_13 : decode cX11_momentOf 13 = .ok (.imul, 1) := by decide +kernel
theorem dX11_momentOf_14 : decode cX11_momentOf 14 = .ok (.iadd, 1) := by decide +kernel
theorem dX11_momentOf_15 : decode cX11_momentOf 15 = .ok (.ireturn, 1) := by decide +kernel
theorem dX11_pullOf_0 : decode cX11_pullOf 0 = .ok (.aload_n 0, 1) := by decide +kernel
theorem dX11_pullOf_1 : decode cX11_pullOf 1 = .ok (.aload_n 1, 1) := by decide +kernel
theorem dX11_pullOf_2 : decode cX11_pullOf 2 = .ok (.aload_n 0, 1) := by decide +kernel
theorem dX11_pullOf_3 : decode cX11_pullOf 3 = .ok (.aload_n 1, 1) := by decide +kernel
theorem dX11_pullOf_4 : decode cX11_pullOf 4 = .ok (.invokevirtual 211, 3) := by decide +kernel
theorem dX11_pullOf_7 : decode cX11_pullOf 7 = .ok (.invokevirtual 215, 3) := by decide +kernel
theorem dX11_pullOf_10 : decode cX11_pullOf 10 = .ok (.invokestatic 218, 3) := by decide +kernel
theorem dX11_pullOf_13 : decode cX11_pullOf 13 = .ok (.ireturn, 1) := by decide +kernel
theorem dX11_brother_0 : decode cX11_brother 0 = .ok (.aload_n 0, 1) := by decide +kernel
theorem dX11_brother_1 : decode cX11_brother 1 = .ok (.iconst 0, 1) := by decide +kernel
theorem dX11_brother_2 : decode cX11_brother 2 = .ok (.putfield 89, 3) := by decide +kernel
theorem dX11_brother_5 : decode cX11_brother 5 = .ok (.aload_n 0, 1) := by decide +kernel
theorem dX11_brother_6 : decode cX11_brother 6 = .ok (.iload_n 1, 1) := by decide +kernel
theorem dX11_brother_7 : decode cX11_brother 7 = .ok (.invokevirtual 221, 3) := by decide +kernel
theorem dX11_brother_10 : decode cX11_brother 10 = .ok (.ifCond .eq 12, 3) := by decide +kernel
theorem dX11_brother_13 : decode cX11_brother 13 = .ok (.iload_n 2, 1) := by decide +kernel
theorem dX11_brother_14 : decode cX11_brother 14 = .ok (.iconst 0, 1) := by decide +kernel
theorem dX11_brother_15 : decode cX11_brother 15 = .ok (.iconst 3, 1) := by decide +kernel
theorem dX11_brother_16 : decode cX11_brother 16 = .ok (.invokestatic 98, 3) := by decide +kernel
theorem dX11_brother_19 : decode cX11_brother 19 = .ok (.ifCond .ne 8, 3) := by decide +kernel
theorem dX11_brother_22 : decode cX11_brother 22 = .ok (.aload_n 0, 1) := by decide +kernel
theorem dX11_brother_23 : decode cX11_brother 23 = .ok (.invokevirtual 225, 3) := by decide +kernel
theorem dX11_brother_26 : decode cX11_brother 26 = .ok (.ireturn, 1) := by decide +kernel
theorem dX11_brother_27 : decode cX11_brother 27 = .ok (.iload_n 2, 1) := by decide +kernel
theorem dX11_brother_28 : decode cX11_brother 28 = .ok (.tableswitch 58 0 2 #[28, 35, 45], 28) := by decide +kernel
theorem dX11_brother_56 : decode cX11_brother 56 = .ok (.aload_n 0, 1) := by decide +kernel
theorem dX11_brother_57 : decode cX11_brother 57 = .ok (.getfield 9, 3) := by decide +kernel
theorem dX11_brother_60 : decode cX11_brother 60 = .ok (.iload_n 1, 1) := by decide +kernel
theorem dX11_brother_61 : decode cX11_brother 61 = .ok (.iaload, 1) := by decide +kernel
theorem dX11_brother_62 : decode cX11_brother 62 = .ok (.ireturn, 1) := by decide +kernel
theorem dX11_brother_63 : decode cX11_brother 63 = .ok (.aload_n 0, 1) := by decide +kernel
theorem dX11_brother_64 : decode cX11_brother 64 = .ok (.getfield 9, 3) := by decide +kernel
theorem dX11_brother_67 : decode cX11_brother 67 = .ok (.bipush 7, 2) := by decide +kernel
theorem dX11_brother_69 : decode cX11_brother 69 = .ok (.iload_n 1, 1) := by decide +kernel
theorem dX11_brother_70 : decode cX11_brother 70 = .ok (.iadd, 1) := by decide +kernel
theorem dX11_brother_71 : decode cX11_brother 71 = .ok (.iaload, 1) := by decide +kernel
theorem dX11_brother_72 : decode cX11_brother 72 = .ok (.ireturn, 1) := by decide +kernel
theorem dX11_brother_73 : decode cX11_brother 73 = .ok (.bipush 10, 2) := by decide +kernel
theorem dX11_brother_75 : decode cX11_brother 75 = .ok (.aload_n 0, 1) := by decide +kernel
theorem dX11_brother_76 : decode cX11_brother 76 = .ok (.getfield 9, 3) := by decide +kernel
theorem dX11_brother_79 : decode cX11_brother 79 = .ok (.bipush 14, 2) := by decide +kernel
theorem dX11_brother_81 : decode cX11_brother 81 = .ok (.iload_n 1, 1) := by decide +kernel
theorem dX11_brother_82 : decode cX11_brother 82 = .ok (.iadd, 1) := by decide +kernel
theorem dX11_brother_83 : decode cX11_brother 83 = .ok (.iaload, 1) := by decide +kernel
theorem dX11_brother_84 : decode cX11_brother 84 = .ok (.iadd, 1) := by decide +kernel
theorem dX11_brother_85 : decode cX11_brother 85 = .ok (.ireturn, 1) := by decide +kernel
theorem dX11_brother_86 : decode cX11_brother 86 = .ok (.aload_n 0, 1) := by decide +kernel
theorem dX11_brother_87 : decode cX11_brother 87 = .ok (.aload_n 0, 1) := by decide +kernel
theorem dX11_brother_88 : decode cX11_brother 88 = .ok (.getfield 9, 3) := by decide +kernel
theorem dX11_brother_91 : decode cX11_brother 91 = .ok (.iload_n 1, 1) := by decide +kernel
theorem dX11_brother_92 : decode cX11_brother 92 = .ok (.invokevirtual 204, 3) := by decide +kernel
theorem dX11_brother_95 : decode cX11_brother 95 = .ok (.ireturn, 1) := by decide +kernel
theorem dX11_price_0 : decode cX11_price 0 = .ok (.aload_n 0, 1) := by decide +kernel
theorem dX11_price_1 : decode cX11_price 1 = .ok (.iconst 0, 1) := by decide +kernel
theorem dX11_price_2 : decode cX11_price 2 = .ok (.putfield 89, 3) := by decide +kernel
theorem dX11_price_5 : decode cX11_price 5 = .ok (.iload_n 1, 1) := by decide +kernel
theorem dX11_price_6 : decode cX11_price 6 = .ok (.iconst 0, 1) := by decide +kernel
theorem dX11_price_7 : decode cX11_price 7 = .ok (.iconst 5, 1) := by decide +kernel
theorem dX11_price_8 : decode cX11_price 8 = .ok (.invokestatic 98, 3) := by decide +kernel
theorem dX11_price_11 : decode cX11_price 11 = .ok (.ifCond .eq 12, 3) := by decide +kernel
theorem dX11_price_14 : decode cX11_price 14 = .ok (.aload_n 0, 1) := by decide +kernel
theorem dX11_price_15 : decode cX11_price 15 = .ok (.getfield 13, 3) := by decide +kernel
theorem dX11_price_18 : decode cX11_price 18 = .ok (.iload_n 1, 1) := by decide +kernel
theorem dX11_price_19 : decode cX11_price 19 = .ok (.iaload, 1) := by decide +kernel
theorem dX11_price_20 : decode cX11_price 20 = .ok (.goto 7, 3) := by decide +kernel
theorem dX11_price_23 : decode cX11_price 23 = .ok (.aload_n 0, 1) := by decide +kernel
theorem dX11_price_24 : decode cX11_price 24 = .ok (.invokevirtual 225, 3) := by decide +kernel
theorem dX11_price_27 : decode cX11_price 27 = .ok (.ireturn, 1) := by decide +kernel
theorem dX11_gravity_0 : decode cX11_gravity 0 = .ok (.iconst 0, 1) := by decide +kernel
theorem dX11_gravity_1 : decode cX11_gravity 1 = .ok (.istore_n 1, 1) := by decide +kernel
theorem dX11_gravity_2 : decode cX11_gravity 2 = .ok (.iconst 0, 1) := by decide +kernel
theorem dX11_gravity_3 : decode cX11_gravity 3 = .ok (.istore_n 2, 1) := by decide +kernel
theorem dX11_gravity_4 : decode cX11_gravity 4 = .ok (.iload_n 2, 1) := by decide +kernel
theorem dX11_gravity_5 : decode cX11_gravity 5 = .ok (.aload_n 0, 1) := by decide +kernel
theorem dX11_gravity_6 : decode cX11_gravity 6 = .ok (.getfield 95, 3) := by decide +kernel
theorem dX11_gravity_9 : decode cX11_gravity 9 = .ok (.if_icmp .ge 18, 3) := by decide +kernel
theorem dX11_gravity_12 : decode cX11_gravity 12 = .ok (.iload_n 1, 1) := by decide +kernel
theorem dX11_gravity_13 : decode cX11_gravity 13 = .ok (.aload_n 0, 1) := by decide +kernel
theorem dX11_gravity_14 : decode cX11_gravity 14 = .ok (.getfield 9, 3) := by decide +kernel
theorem dX11_gravity_17 : decode cX11_gravity 17 = .ok (.iload_n 2, 1) := by decide +kernel
theorem dX11_gravity_18 : decode cX11_gravity 18 = .ok (.iaload, 1) := by decide +kernel
theorem dX11_gravity_19 : decode cX11_gravity 19 = .ok (.iadd, 1) := by decide +kernel
theorem dX11_gravity_20 : decode cX11_gravity 20 = .ok (.istore_n 1, 1) := by decide +kernel
theorem dX11_gravity_21 : decode cX11_gravity 21 = .ok (.iinc 2 1, 3) := by decide +kernel
theorem dX11_gravity_24 : decode cX11_gravity 24 = .ok (.goto (-20), 3) := by decide +kernel
theorem dX11_gravity_27 : decode cX11_gravity 27 = .ok (.iload_n 1, 1) := by decide +kernel
theorem dX11_gravity_28 : decode cX11_gravity 28 = .ok (.ireturn, 1) := by decide +kernel
theorem dX11_sheet_0 : decode cX11_sheet 0 = .ok (.aload_n 0, 1) := by decide +kernel
theorem dX11_sheet_1 : decode cX11_sheet 1 = .ok (.iconst 0, 1) := by decide +kernel
theorem dX11_sheet_2 : decode cX11_sheet 2 = .ok (.putfield 89, 3) := by decide +kernel
theorem dX11_sheet_5 : decode cX11_sheet 5 = .ok (.iload_n 1, 1) := by decide +kernel
theorem dX11_sheet_6 : decode cX11_sheet 6 = .ok (.iconst 0, 1) := by decide +kernel
theorem dX11_sheet_7 : decode cX11_sheet 7 = .ok (.iconst 3, 1) := by decide +kernel
theorem dX11_sheet_8 : decode cX11_sheet 8 = .ok (.invokestatic 98, 3) := by decide +kernel
theorem dX11_sheet_11 : decode cX11_sheet 11 = .ok (.ifCond .eq 9, 3) := by decide +kernel
theorem dX11_sheet_14 : decode cX11_sheet 14 = .ok (.iload_n 2, 1) := by decide +kernel
theorem dX11_sheet_15 : decode cX11_sheet 15 = .ok (.bipush 7, 2) := by decide +kernel
theorem dX11_sheet_17 : decode cX11_sheet 17 = .ok (.if_icmp .le 5, 3) := by decide +kernel
theorem dX11_sheet_20 : decode cX11_sheet 20 = .ok (.iconst (-1), 1) := by decide +kernel
theorem dX11_sheet_21 : decode cX11_sheet 21 = .ok (.ireturn, 1) := by decide +kernel
theorem dX11_sheet_22 : decode cX11_sheet 22 = .ok (.iload_n 1, 1) := by decide +kernel
theorem dX11_sheet_23 : decode cX11_sheet 23 = .ok (.iconst 3, 1) := by decide +kernel
theorem dX11_sheet_24 : decode cX11_sheet 24 = .ok (.if_icmp .ge 10, 3) := by decide +kernel
theorem dX11_sheet_27 : decode cX11_sheet 27 = .ok (.iload_n 2, 1) := by decide +kernel
theorem dX11_sheet_28 : decode cX11_sheet 28 = .ok (.ifCond .ge 6, 3) := by decide +kernel
theorem dX11_sheet_31 : decode cX11_sheet 31 = .ok (.bipush (-2), 2) := by decide +kernel
theorem dX11_sheet_33 : decode cX11_sheet 33 = .ok (.ireturn, 1) := by decide +kernel
theorem dX11_sheet_34 : decode cX11_sheet 34 = .ok (.iload_n 3, 1) := by decide +kernel
theorem dX11_sheet_35 : decode cX11_sheet 35 = .ok (.istore 5, 2) := by decide +kernel
theorem dX11_sheet_37 : decode cX11_sheet 37 = .ok (.iconst 0, 1) := by decide +kernel
theorem dX11_sheet_38 : decode cX11_sheet 38 = .ok (.istore 6, 2) := by decide +kernel
theorem dX11_sheet_40 : decode cX11_sheet 40 = .ok (.iload 6, 2) := by decide +kernel
theorem dX11_sheet_42 : decode cX11_sheet 42 = .ok (.aload_n 0, 1) := by decide +kernel
theorem dX11_sheet_43 : decode cX11_sheet 43 = .ok (.getfield 95, 3) := by decide +kernel
theorem dX11_sheet_46 : decode cX11_sheet 46 = .ok (.if_icmp .ge 74, 3) := by decide +kernel
theorem dX11_sheet_49 : decode cX11_sheet 49 = .ok (.iload_n 1, 1) := by decide +kernel
theorem dX11_sheet_50 : decode cX11_sheet 50 = .ok (.ifCond .ne 9, 3) := by decide +kernel
theorem dX11_sheet_53 : decode cX11_sheet 53 = .ok (.iload 5, 2) := by decide +kernel
theorem dX11_sheet_55 : decode cX11_sheet 55 = .ok (.i2b, 1) := by decide +kernel
theorem dX11_sheet_56 : decode cX11_sheet 56 = .ok (.goto 16, 3) := by decide +kernel
theorem dX11_sheet_59 : decode cX11_sheet 59 = .ok (.iload_n 1, 1) := by decide +kernel
theorem dX11_sheet_60 : decode cX11_sheet 60 = .ok (.iconst 1, 1) := by decide +kernel
theorem dX11_sheet_61 : decode cX11_sheet 61 = .ok (.if_icmp .ne 9, 3) := by decide +kernel
theorem dX11_sheet_64 : decode cX11_sheet 64 = .ok (.iload 5, 2) := by decide +kernel
theorem dX11_sheet_66 : decode cX11_sheet 66 = .ok (.i2s, 1) := by decide +kernel
theorem dX11_sheet_67 : decode cX11_sheet 67 = .ok (.goto 5, 3) := by decide +kernel
theorem dX11_sheet_70 : decode cX11_sheet 70 = .ok (.iload 5, 2) := by decide +kernel
theorem dX11_sheet_72 : decode cX11_sheet 72 = .ok (.istore 7, 2) := by decide +kernel
theorem dX11_sheet_74 : decode cX11_sheet 74 = .ok (.aload_n 0, 1) := by decide +kernel
theorem dX11_sheet_75 : decode cX11_sheet 75 = .ok (.getfield 9, 3) := by decide +kernel
theorem dX11_sheet_78 : decode cX11_sheet 78 = .ok (.iload 6, 2) := by decide +kernel
theorem dX11_sheet_80 : decode cX11_sheet 80 = .ok (.iload_n 1, 1) := by decide +kernel
theorem dX11_sheet_81 : decode cX11_sheet 81 = .ok (.iconst 3, 1) := by decide +kernel
theorem dX11_sheet_82 : decode cX11_sheet 82 = .ok (.if_icmp .eq 9, 3) := by decide +kernel
theorem dX11_sheet_85 : decode cX11_sheet 85 = .ok (.iload 6, 2) := by decide +kernel
theorem dX11_sheet_87 : decode cX11_sheet 87 = .ok (.iload_n 2, 1) := by decide +kernel
theorem dX11_sheet_88 : decode cX11_sheet 88 = .ok (.if_icmp .lt 7, 3) := by decide +kernel
theorem dX11_sheet_91 : decode cX11_sheet 91 = .ok (.iconst 0, 1) := by decide +kernel
theorem dX11_sheet_92 : decode cX11_sheet 92 = .ok (.goto 14, 3) := by decide +kernel
theorem dX11_sheet_95 : decode cX11_sheet 95 = .ok (.iconst 0, 1) := by decide +kernel
theorem dX11_sheet_96 : decode cX11_sheet 96 = .ok (.bipush 9, 2) := by decide +kernel
theorem dX11_sheet_98 : decode cX11_sheet 98 = .ok (.iload 7, 2) := by decide +kernel
theorem dX11_sheet_100 : decode cX11_sheet 100 = .ok (.invokestatic 197, 3) := by decide +kernel
theorem dX11_sheet_103 : decode cX11_sheet 103 = .ok (.invokestatic 201, 3) := by decide +kernel
theorem dX11_sheet_106 : decode cX11_sheet 106 = .ok (.iastore, 1) := by decide +kernel
theorem dX11_sheet_107 : decode cX11_sheet 107 = .ok (.iload 5, 2) := by decide +kernel
theorem dX11_sheet_109 : decode cX11_sheet 109 = .ok (.iload 4, 2) := by decide +kernel
theorem dX11_sheet_111 : decode cX11_sheet 111 = .ok (.iadd, 1) := by decide +kernel
theorem dX11_sheet_112 : decode cX11_sheet 112 = .ok (.istore 5, 2) := by decide +kernel
theorem dX11_sheet_114 : decode cX11_sheet 114 = .ok (.iinc 6 1, 3) := by decide +kernel
theorem dX11_sheet_117 : decode cX11_sheet 117 = .ok (.goto (-77), 3) := by decide +kernel
theorem dX11_sheet_120 : decode cX11_sheet 120 = .ok (.iload_n 1, 1) := by decide +kernel
theorem dX11_sheet_121 : decode cX11_sheet 121 = .ok (.iconst 3, 1) := by decide +kernel
theorem dX11_sheet_122 : decode cX11_sheet 122 = .ok (.if_icmp .ne 8, 3) := by decide +kernel
theorem dX11_sheet_125 : decode cX11_sheet 125 = .ok (.bipush (-3), 2) := by decide +kernel
theorem dX11_sheet_127 : decode cX11_sheet 127 = .ok (.goto 7, 3) := by decide +kernel
theorem dX11_sheet_130 : decode cX11_sheet 130 = .ok (.aload_n 0, 1) := by decide +kernel
theorem dX11_sheet_131 : decode cX11_sheet 131 = .ok (.invokevirtual 228, 3) := by decide +kernel
theorem dX11_sheet_134 : decode cX11_sheet 134 = .ok (.ireturn, 1) := by decide +kernel
theorem dX11_lay_0 : decode cX11_lay 0 = .ok (.iconst 0, 1) := by decide +kernel
theorem dX11_lay_1 : decode cX11_lay 1 = .ok (.istore_n 3, 1) := by decide +kernel
theorem dX11_lay_2 : decode cX11_lay 2 = .ok (.iload_n 3, 1) := by decide +kernel
theorem dX11_lay_3 : decode cX11_lay 3 = .ok (.bipush 26, 2) := by decide +kernel
theorem dX11_lay_5 : decode cX11_lay 5 = .ok (.if_icmp .ge 17, 3) := by decide +kernel
theorem dX11_lay_8 : decode cX11_lay 8 = .ok (.aload_n 1, 1) := by decide +kernel
theorem dX11_lay_9 : decode cX11_lay 9 = .ok (.iload_n 2, 1) := by decide +kernel
theorem dX11_lay_10 : decode cX11_lay 10 = .ok (.iload_n 3, 1) := by decide +kernel
theorem dX11_lay_11 : decode cX11_lay 11 = .ok (.iadd, 1) := by decide +kernel
theorem dX11_lay_12 : decode cX11_lay 12 = .ok (.aload_n 0, 1) := by decide +kernel
theorem dX11_lay_13 : decode cX11_lay 13 = .ok (.iload_n 3, 1) := by decide +kernel
theorem dX11_lay_14 : decode cX11_lay 14 = .ok (.iaload, 1) := by decide +kernel
theorem dX11_lay_15 : decode cX11_lay 15 = .ok (.iastore, 1) := by decide +kernel
theorem dX11_lay_16 : decode cX11_lay 16 = .ok (.iinc 3 1, 3) := by decide +kernel
theorem dX11_lay_19 : decode cX11_lay 19 = .ok (.goto (-17), 3) := by decide +kernel
theorem dX11_lay_22 : decode cX11_lay 22 = .ok (.return_, 1) := by decide +kernel
theorem dX11_remember_0 : decode cX11_remember 0 = .ok (.aload_n 0, 1) := by decide +kernel
theorem dX11_remember_1 : decode cX11_remember 1 = .ok (.getfield 154, 3) := by decide +kernel
theorem dX11_remember_4 : decode cX11_remember 4 = .ok (.bipush 12, 2) := by decide +kernel
theorem dX11_remember_6 : decode cX11_remember 6 = .ok (.if_icmp .ne 43, 3) := by decide +kernel
theorem dX11_remember_9 : decode cX11_remember 9 = .ok (.iconst 0, 1) := by decide +kernel
theorem dX11_remember_10 : decode cX11_remember 10 = .ok (.istore_n 2, 1) := by decide +kernel
theorem dX11_remember_11 : decode cX11_remember 11 = .ok (.iload_n 2, 1) := by decide +kernel
theorem dX11_remember_12 : decode cX11_remember 12 = .ok (.sipush 286, 3) := by decide +kernel
theorem dX11_remember_15 : decode cX11_remember 15 = .ok (.if_icmp .ge 24, 3) := by decide +kernel
theorem dX11_remember_18 : decode cX11_remember 18 = .ok (.aload_n 0, 1) := by decide +kernel
theorem dX11_remember_19 : decode cX11_remember 19 = .ok (.getfield 43, 3) := by decide +kernel
theorem dX11_remember_22 : decode cX11_remember 22 = .ok (.iload_n 2, 1) := by decide +kernel
theorem dX11_remember_23 : decode cX11_remember 23 = .ok (.aload_n 0, 1) := by decide +kernel
theorem dX11_remember_24 : decode cX11_remember 24 = .ok (.getfield 43, 3) := by decide +kernel
theorem dX11_remember_27 : decode cX11_remember 27 = .ok (.iload_n 2, 1) := by decide +kernel
theorem dX11_remember_28 : decode cX11_remember 28 = .ok (.bipush 26, 2) := by decide +kernel
theorem dX11_remember_30 : decode cX11_remember 30 = .ok (.iadd, 1) := by decide +kernel
theorem dX11_remember_31 : decode cX11_remember 31 = .ok (.iaload, 1) := by decide +kernel
theorem dX11_remember_32 : decode cX11_remember 32 = .ok (.iastore, 1) := by decide +kernel
theorem dX11_remember_33 : decode cX11_remember 33 = .ok (.iinc 2 1, 3) := by decide +kernel
theorem dX11_remember_36 : decode cX11_remember 36 = .ok (.goto (-25), 3) := by decide +kernel
theorem dX11_remember_39 : decode cX11_remember 39 = .ok (.aload_n 0, 1) := by decide +kernel
theorem dX11_remember_40 : decode cX11_remember 40 = .ok (.dup, 1) := by decide +kernel
theorem dX11_remember_41 : decode cX11_remember 41 = .ok (.getfield 154, 3) := by decide +kernel
theorem dX11_remember_44 : decode cX11_remember 44 = .ok (.iconst 1, 1) := by decide +kernel
theorem dX11_remember_45 : decode cX11_remember 45 = .ok (.isub, 1) := by decide +kernel
theorem dX11_remember_46 : decode cX11_remember 46 = .ok (.putfield 154, 3) := by decide +kernel
theorem dX11_remember_49 : decode cX11_remember 49 = .ok (.aload_n 1, 1) := by decide +kernel
theorem dX11_remember_50 : decode cX11_remember 50 = .ok (.aload_n 0, 1) := by decide +kernel
theorem dX11_remember_51 : decode cX11_remember 51 = .ok (.getfield 43, 3) := by decide +kernel
theorem dX11_remember_54 : decode cX11_remember 54 = .ok (.bipush 26, 2) := by decide +kernel
theorem dX11_remember_56 : decode cX11_remember 56 = .ok (.aload_n 0, 1) := by decide +kernel
theorem dX11_remember_57 : decode cX11_remember 57 = .ok (.getfield 154, 3) := by decide +kernel
theorem dX11_remember_60 : decode cX11_remember 60 = .ok (.imul, 1) := by decide +kernel
theorem dX11_remember_61 : decode cX11_remember 61 = .ok (.invokestatic 231, 3) := by decide +kernel
theorem dX11_remember_64 : decode cX11_remember 64 = .ok (.aload_n 0, 1) := by decide +kernel
theorem dX11_remember_65 : decode cX11_remember 65 = .ok (.dup, 1) := by decide +kernel
theorem dX11_remember_66 : decode cX11_remember 66 = .ok (.getfield 154, 3) := by decide +kernel
theorem dX11_remember_69 : decode cX11_remember 69 = .ok (.iconst 1, 1) := by decide +kernel
theorem dX11_remember_70 : decode cX11_remember 70 = .ok (.iadd, 1) := by decide +kernel
theorem dX11_remember_71 : decode cX11_remember 71 = .ok (.putfield 154, 3) := by decide +kernel
theorem dX11_remember_74 : decode cX11_remember 74 = .ok (.return_, 1) := by decide +kernel
theorem dX11_goHourBy_0 : decode cX11_goHourBy 0 = .ok (.aload_n 0, 1) := by decide +kernel
theorem dX11_goHourBy_1 : decode cX11_goHourBy 1 = .ok (.aload_n 1, 1) := by decide +kernel
theorem dX11_goHourBy_2 : decode cX11_goHourBy 2 = .ok (.iload_n 2, 1) := by decide +kernel
theorem dX11_goHourBy_3 : decode cX11_goHourBy 3 = .ok (.invokevirtual 215, 3) := by decide +kernel
theorem dX11_goHourBy_6 : decode cX11_goHourBy 6 = .ok (.invokestatic 218, 3) := by decide +kernel
theorem dX11_goHourBy_9 : decode cX11_goHourBy 9 = .ok (.aload_n 1, 1) := by decide +kernel
theorem dX11_goHourBy_10 : decode cX11_goHourBy 10 = .ok (.bipush 22, 2) := by decide +kernel
theorem dX11_goHourBy_12 : decode cX11_goHourBy 12 = .ok (.iaload, 1) := by decide +kernel
theorem dX11_goHourBy_13 : decode cX11_goHourBy 13 = .ok (.isub, 1) := by decide +kernel
theorem dX11_goHourBy_14 : decode cX11_goHourBy 14 = .ok (.istore_n 3, 1) := by decide +kernel
theorem dX11_goHourBy_15 : decode cX11_goHourBy 15 = .ok (.iload_n 3, 1) := by decide +kernel
theorem dX11_goHourBy_16 : decode cX11_goHourBy 16 = .ok (.ifCond .ne 7, 3) := by decide +kernel
theorem dX11_goHourBy_19 : decode cX11_goHourBy 19 = .ok (.iconst 0, 1) := by decide +kernel
theorem dX11_goHourBy_20 : decode cX11_goHourBy 20 = .ok (.goto 17, 3) := by decide +kernel
theorem dX11_goHourBy_23 : decode cX11_goHourBy 23 = .ok (.iload_n 3, 1) := by decide +kernel
theorem dX11_goHourBy_24 : decode cX11_goHourBy 24 = .ok (.invokestatic 192, 3) := by decide +kernel
theorem dX11_goHourBy_27 : decode cX11_goHourBy 27 = .ok (.bipush 6, 2) := by decide +kernel
theorem dX11_goHourBy_29 : decode cX11_goHourBy 29 = .ok (.if_icmp .lt 7, 3) := by decide +kernel
theorem dX11_goHourBy_32 : decode cX11_goHourBy 32 = .ok (.iconst 2, 1) := by decide +kernel
theorem dX11_goHourBy_33 : decode cX11_goHourBy 33 = .ok (.goto 4, 3) := by decide +kernel
theorem dX11_goHourBy_36 : decode cX11_goHourBy 36 = .ok (.iconst 1, 1) := by decide +kernel
theorem dX11_goHourBy_37 : decode cX11_goHourBy 37 = .ok (.istore 4, 2) := by decide +kernel
theorem dX11_goHourBy_39 : decode cX11_goHourBy 39 = .ok (.aload_n 1, 1) := by decide +kernel
theorem dX11_goHourBy_40 : decode cX11_goHourBy 40 = .ok (.bipush 22, 2) := by decide +kernel
theorem dX11_goHourBy_42 : decode cX11_goHourBy 42 = .ok (.dup2, 1) := by decide +kernel
theorem dX11_goHourBy_43 : decode cX11_goHourBy 43 = .ok (.iaload, 1) := by decide +kernel
theorem dX11_goHourBy_44 : decode cX11_goHourBy 44 = .ok (.iload_n 3, 1) := by decide +kernel
theorem dX11_goHourBy_45 : decode cX11_goHourBy 45 = .ok (.ifCond .le 8, 3) := by decide +kernel
theorem dX11_goHourBy_48 : decode cX11_goHourBy 48 = .ok (.iload 4, 2) := by decide +kernel
theorem dX11_goHourBy_50 : decode cX11_goHourBy 50 = .ok (.goto 6, 3) := by decide +kernel
theorem dX11_goHourBy_53 : decode cX11_goHourBy 53 = .ok (.iload 4, 2) := by decide +kernel
theorem dX11_goHourBy_55 : decode cX11_goHourBy 55 = .ok (.ineg, 1) := by decide +kernel
theorem dX11_goHourBy_56 : decode cX11_goHourBy 56 = .ok (.iadd, 1) := by decide +kernel
theorem dX11_goHourBy_57 : decode cX11_goHourBy 57 = .ok (.iastore, 1) := by decide +kernel
theorem dX11_goHourBy_58 : decode cX11_goHourBy 58 = .ok (.iload_n 2, 1) := by decide +kernel
theorem dX11_goHourBy_59 : decode cX11_goHourBy 59 = .ok (.invokestatic 192, 3) := by decide +kernel
theorem dX11_goHourBy_62 : decode cX11_goHourBy 62 = .ok (.aload_n 1, 1) := by decide +kernel
theorem dX11_goHourBy_63 : decode cX11_goHourBy 63 = .ok (.bipush 21, 2) := by decide +kernel
theorem dX11_goHourBy_65 : decode cX11_goHourBy 65 = .ok (.iaload, 1) := by decide +kernel
theorem dX11_goHourBy_66 : decode cX11_goHourBy 66 = .ok (.imul, 1) := by decide +kernel
theorem dX11_goHourBy_67 : decode cX11_goHourBy 67 = .ok (.iconst 3, 1) := by decide +kernel
theorem dX11_goHourBy_68 : decode cX11_goHourBy 68 = .ok (.idiv, 1) := by decide +kernel
theorem dX11_goHourBy_69 : decode cX11_goHourBy 69 = .ok (.aload_n 1, 1) := by decide +kernel
theorem dX11_goHourBy_70 : decode cX11_goHourBy 70 = .ok (.bipush 22, 2) := by decide +kernel
theorem dX11_goHourBy_72 : decode cX11_goHourBy 72 = .ok (.iaload, 1) := by decide +kernel
theorem dX11_goHourBy_73 : decode cX11_goHourBy 73 = .ok (.invokestatic 192, 3) := by decide +kernel
theorem dX11_goHourBy_76 : decode cX11_goHourBy 76 = .ok (.iconst 2, 1) := by decide +kernel
theorem dX11_goHourBy_77 : decode cX11_goHourBy 77 = .ok (.idiv, 1) := by decide +kernel
theorem dX11_goHourBy_78 : decode cX11_goHourBy 78 = .ok (.isub, 1) := by decide +kernel
theorem dX11_goHourBy_79 : decode cX11_goHourBy 79 = .ok (.istore 5, 2) := by decide +kernel
theorem dX11_goHourBy_81 : decode cX11_goHourBy 81 = .ok (.iload 5, 2) := by decide +kernel
theorem dX11_goHourBy_83 : decode cX11_goHourBy 83 = .ok (.ifCond .le 20, 3) := by decide +kernel
theorem dX11_goHourBy_86 : decode cX11_goHourBy 86 = .ok (.aload_n 1, 1) := by decide +kernel
theorem dX11_goHourBy_87 : decode cX11_goHourBy 87 = .ok (.bipush 23, 2) := by decide +kernel
theorem dX11_goHourBy_89 : decode cX11_goHourBy 89 = .ok (.sipush 9999, 3) := by decide +kernel
theorem dX11_goHourBy_92 : decode cX11_goHourBy 92 = .ok (.aload_n 1, 1) := by decide +kernel
theorem dX11_goHourBy_93 : decode cX11_goHourBy 93 = .ok (.bipush 23, 2) := by decide +kernel
theorem dX11_goHourBy_95 : decode cX11_goHourBy 95 = .ok (.iaload, 1) := by decide +kernel
theorem dX11_goHourBy_96 : decode cX11_goHourBy 96 = .ok (.iload 5, 2) := by decide +kernel
theorem dX11_goHourBy_98 : decode cX11_goHourBy 98 = .ok (.iadd, 1) := by decide +kernel
theorem dX11_goHourBy_99 : decode cX11_goHourBy 99 = .ok (.invokestatic 197, 3) := by decide +kernel
theorem dX11_goHourBy_102 : decode cX11_goHourBy 102 = .ok (.iastore, 1) := by decide +kernel
theorem dX11_goHourBy_103 : decode cX11_goHourBy 103 = .ok (.aload_n 1, 1) := by decide +kernel
theorem dX11_goHourBy_104 : decode cX11_goHourBy 104 = .ok (.bipush 22, 2) := by decide +kernel
theorem dX11_goHourBy_106 : decode cX11_goHourBy 106 = .ok (.iaload, 1) := by decide +kernel
theorem dX11_goHourBy_107 : decode cX11_goHourBy 107 = .ok (.invokestatic 192, 3) := by decide +kernel
theorem dX11_goHourBy_110 : decode cX11_goHourBy 110 = .ok (.bipush 15, 2) := by decide +kernel
theorem dX11_goHourBy_112 : decode cX11_goHourBy 112 = .ok (.if_icmp .lt 34, 3) := by decide +kernel
theorem dX11_goHourBy_115 : decode cX11_goHourBy 115 = .ok (.aload_n 0, 1) := by decide +kernel
theorem dX11_goHourBy_116 : decode cX11_goHourBy 116 = .ok (.dup, 1) := by decide +kernel
theorem dX11_goHourBy_117 : decode cX11_goHourBy 117 = .ok (.getfield 235, 3) := by decide +kernel
theorem dX11_goHourBy_120 : decode cX11_goHourBy 120 = .ok (.iconst 1, 1) := by decide +kernel
theorem dX11_goHourBy_121 : decode cX11_goHourBy 121 = .ok (.iadd, 1) := by decide +kernel
theorem dX11_goHourBy_122 : decode cX11_goHourBy 122 = .ok (.putfield 235, 3) := by decide +kernel
theorem dX11_goHourBy_125 : decode cX11_goHourBy 125 = .ok (.aload_n 1, 1) := by decide +kernel
theorem dX11_goHourBy_126 : decode cX11_goHourBy 126 = .ok (.bipush 24, 2) := by decide +kernel
theorem dX11_goHourBy_128 : decode cX11_goHourBy 128 = .ok (.sipush 999, 3) := by decide +kernel
theorem dX11_goHourBy_131 : decode cX11_goHourBy 131 = .ok (.aload_n 1, 1) := by decide +kernel
theorem dX11_goHourBy_132 : decode cX11_goHourBy 132 = .ok (.bipush 24, 2) := by decide +kernel
theorem dX11_goHourBy_134 : decode cX11_goHourBy 134 = .ok (.iaload, 1) := by decide +kernel
theorem dX11_goHourBy_135 : decode cX11_goHourBy 135 = .ok (.iconst 1, 1) := by decide +kernel
theorem dX11_goHourBy_136 : decode cX11_goHourBy 136 = .ok (.iadd, 1) := by decide +kernel
theorem dX11_goHourBy_137 : decode cX11_goHourBy 137 = .ok (.invokestatic 197, 3) := by decide +kernel
theorem dX11_goHourBy_140 : decode cX11_goHourBy 140 = .ok (.iastore, 1) := by decide +kernel
theorem dX11_goHourBy_141 : decode cX11_goHourBy 141 = .ok (.aload_n 1, 1) := by decide +kernel
theorem dX11_goHourBy_142 : decode cX11_goHourBy 142 = .ok (.bipush 21, 2) := by decide +kernel
theorem dX11_goHourBy_144 : decode cX11_goHourBy 144 = .ok (.iconst 0, 1) := by decide +kernel
theorem dX11_goHourBy_145 : decode cX11_goHourBy 145 = .ok (.iastore, 1) := by decide +kernel
theorem dX11_goHourBy_146 : decode cX11_goHourBy 146 = .ok (.aload_n 1, 1) := by decide +kernel
theorem dX11_goHourBy_147 : decode cX11_goHourBy 147 = .ok (.bipush 25, 2) := by decide +kernel
theorem dX11_goHourBy_149 : decode cX11_goHourBy 149 = .ok (.dup2, 1) := by decide +kernel
theorem dX11_goHourBy_150 : decode cX11_goHourBy 150 = .ok (.iaload, 1) := by decide +kernel
theorem dX11_goHourBy_151 : decode cX11_goHourBy 151 = .ok (.iconst 1, 1) := by decide +kernel
theorem dX11_goHourBy_152 : decode cX11_goHourBy 152 = .ok (.iadd, 1) := by decide +kernel
theorem dX11_goHourBy_153 : decode cX11_goHourBy 153 = .ok (.iastore, 1) := by decide +kernel
theorem dX11_goHourBy_154 : decode cX11_goHourBy 154 = .ok (.return_, 1) := by decide +kernel
theorem dX11_goHour_0 : decode cX11_goHour 0 = .ok (.aload_n 0, 1) := by decide +kernel
theorem dX11_goHour_1 : decode cX11_goHour 1 = .ok (.aload_n 1, 1) := by decide +kernel
theorem dX11_goHour_2 : decode cX11_goHour 2 = .ok (.aload_n 0, 1) := by decide +kernel
theorem dX11_goHour_3 : decode cX11_goHour 3 = .ok (.aload_n 1, 1) := by decide +kernel
theorem dX11_goHour_4 : decode cX11_goHour 4 = .ok (.invokevirtual 211, 3) := by decide +kernel
theorem dX11_goHour_7 : decode cX11_goHour 7 = .ok (.invokevirtual 238, 3) := by decide +kernel
theorem dX11_goHour_10 : decode cX11_goHour 10 = .ok (.return_, 1) := by decide +kernel
theorem dX11_goHours_0 : decode cX11_goHours 0 = .ok (.aload_n 0, 1) := by decide +kernel
theorem dX11_goHours_1 : decode cX11_goHours 1 = .ok (.iconst 0, 1) := by decide +kernel
theorem dX11_goHours_2 : decode cX11_goHours 2 = .ok (.putfield 235, 3) := by decide +kernel
theorem dX11_goHours_5 : decode cX11_goHours 5 = .ok (.iconst 0, 1) := by decide +kernel
theorem dX11_goHours_6 : decode cX11_goHours 6 = .ok (.istore_n 3, 1) := by decide +kernel
theorem dX11_goHours_7 : decode cX11_goHours 7 = .ok (.iload_n 3, 1) := by decide +kernel
theorem dX11_goHours_8 : decode cX11_goHours 8 = .ok (.iload_n 2, 1) := by decide +kernel
theorem dX11_goHours_9 : decode cX11_goHours 9 = .ok (.if_icmp .ge 14, 3) := by decide +kernel
theorem dX11_goHours_12 : decode cX11_goHours 12 = .ok (.aload_n 0, 1) := by decide +kernel
theorem dX11_goHours_13 : decode cX11_goHours 13 = .ok (.aload_n 1, 1) := by decide +kernel
theorem dX11_goHours_14 : decode cX11_goHours 14 = .ok (.invokevirtual 242, 3) := by decide +kernel
theorem dX11_goHours_17 : decode cX11_goHours 17 = .ok (.iinc 3 1, 3) := by decide +kernel
theorem dX11_goHours_20 : decode cX11_goHours 20 = .ok (.goto (-13), 3) := by decide +kernel
theorem dX11_goHours_23 : decode cX11_goHours 23 = .ok (.return_, 1) := by decide +kernel
theorem dX11_hours_0 : decode cX11_hours 0 = .ok (.aload_n 0, 1) := by decide +kernel
theorem dX11_hours_1 : decode cX11_hours 1 = .ok (.iconst 0, 1) := by decide +kernel
theorem dX11_hours_2 : decode cX11_hours 2 = .ok (.putfield 89, 3) := by decide +kernel
theorem dX11_hours_5 : decode cX11_hours 5 = .ok (.iload_n 1, 1) := by decide +kernel
theorem dX11_hours_6 : decode cX11_hours 6 = .ok (.iconst 0, 1) := by decide +kernel
theorem dX11_hours_7 : decode cX11_hours 7 = .ok (.bipush 60, 2) := by decide +kernel
theorem dX11_hours_9 : decode cX11_hours 9 = .ok (.invokestatic 98, 3) := by decide +kernel
theorem dX11_hours_12 : decode cX11_hours 12 = .ok (.ifCond .ne 5, 3) := by decide +kernel
theorem dX11_hours_15 : decode cX11_hours 15 = .ok (.iconst (-1), 1) := by decide +kernel
theorem dX11_hours_16 : decode cX11_hours 16 = .ok (.ireturn, 1) := by decide +kernel
theorem dX11_hours_17 : decode cX11_hours 17 = .ok (.iload_n 1, 1) := by decide +kernel
theorem dX11_hours_18 : decode cX11_hours 18 = .ok (.ifCond .le 11, 3) := by decide +kernel
theorem dX11_hours_21 : decode cX11_hours 21 = .ok (.aload_n 0, 1) := by decide +kernel
theorem dX11_hours_22 : decode cX11_hours 22 = .ok (.aload_n 0, 1) := by decide +kernel
theorem dX11_hours_23 : decode cX11_hours 23 = .ok (.getfield 9, 3) := by decide +kernel
theorem dX11_hours_26 : decode cX11_hours 26 = .ok (.invokevirtual 246, 3) := by decide +kernel
theorem dX11_hours_29 : decode cX11_hours 29 = .ok (.aload_n 0, 1) := by decide +kernel
theorem dX11_hours_30 : decode cX11_hours 30 = .ok (.getfield 9, 3) := by decide +kernel
theorem dX11_hours_33 : decode cX11_hours 33 = .ok (.bipush 23, 2) := by decide +kernel
theorem dX11_hours_35 : decode cX11_hours 35 = .ok (.iaload, 1) := by decide +kernel
theorem dX11_hours_36 : decode cX11_hours 36 = .ok (.istore_n 2, 1) := by decide +kernel
theorem dX11_hours_37 : decode cX11_hours 37 = .ok (.aload_n 0, 1) := by decide +kernel
theorem dX11_hours_38 : decode cX11_hours 38 = .ok (.aload_n 0, 1) := by decide +kernel
theorem dX11_hours_39 : decode cX11_hours 39 = .ok (.getfield 9, 3) := by decide +kernel
theorem dX11_hours_42 : decode cX11_hours 42 = .ok (.iload_n 1, 1) := by decide +kernel
theorem dX11_hours_43 : decode cX11_hours 43 = .ok (.invokevirtual 249, 3) := by decide +kernel
theorem dX11_hours_46 : decode cX11_hours 46 = .ok (.aload_n 0, 1) := by decide +kernel
theorem dX11_hours_47 : decode cX11_hours 47 = .ok (.iconst 0, 1) := by decide +kernel
theorem dX11_hours_48 : decode cX11_hours 48 = .ok (.putfield 92, 3) := by decide +kernel
theorem dX11_hours_51 : decode cX11_hours 51 = .ok (.aload_n 0, 1) := by decide +kernel
theorem dX11_hours_52 : decode cX11_hours 52 = .ok (.aload_n 0, 1) := by decide +kernel
theorem dX11_hours_53 : decode cX11_hours 53 = .ok (.getfield 9, 3) := by decide +kernel
theorem dX11_hours_56 : decode cX11_hours 56 = .ok (.bipush 23, 2) := by decide +kernel
theorem dX11_hours_58 : decode cX11_hours 58 = .ok (.iaload, 1) := by decide +kernel
theorem dX11_hours_59 : decode cX11_hours 59 = .ok (.iload_n 2, 1) := by decide +kernel
theorem dX11_hours_60 : decode cX11_hours 60 = .ok (.isub, 1) := by decide +kernel
theorem dX11_hours_61 : decode cX11_hours 61 = .ok (.i2l, 1) := by decide +kernel
theorem dX11_hours_62 : decode cX11_hours 62 = .ok (.invokevirtual 252, 3) := by decide +kernel
theorem dX11_hours_65 : decode cX11_hours 65 = .ok (.aload_n 0, 1) := by decide +kernel
theorem dX11_hours_66 : decode cX11_hours 66 = .ok (.aload_n 0, 1) := by decide +kernel
theorem dX11_hours_67 : decode cX11_hours 67 = .ok (.getfield 235, 3) := by decide +kernel
theorem dX11_hours_70 : decode cX11_hours 70 = .ok (.i2l, 1) := by decide +kernel
theorem dX11_hours_71 : decode cX11_hours 71 = .ok (.invokevirtual 252, 3) := by decide +kernel
theorem dX11_hours_74 : decode cX11_hours 74 = .ok (.bipush 100, 2) := by decide +kernel
theorem dX11_hours_76 : decode cX11_hours 76 = .ok (.aload_n 0, 1) := by decide +kernel
theorem dX11_hours_77 : decode cX11_hours 77 = .ok (.getfield 9, 3) := by decide +kernel
theorem dX11_hours_80 : decode cX11_hours 80 = .ok (.bipush 22, 2) := by decide +kernel
theorem dX11_hours_82 : decode cX11_hours 82 = .ok (.iaload, 1) := by decide +kernel
theorem dX11_hours_83 : decode cX11_hours 83 = .ok (.iadd, 1) := by decide +kernel
theorem dX11_hours_84 : decode cX11_hours 84 = .ok (.ireturn, 1) := by decide +kernel
theorem dX11_refusesTelling_0 : decode cX11_refusesTelling 0 = .ok (.aload_n 0, 1) := by decide +kernel
theorem dX11_refusesTelling_1 : decode cX11_refusesTelling 1 = .ok (.iload_n 1, 1) := by decide +kernel
theorem dX11_refusesTelling_2 : decode cX11_refusesTelling 2 = .ok (.invokevirtual 221, 3) := by decide +kernel
theorem dX11_refusesTelling_5 : decode cX11_refusesTelling 5 = .ok (.ifCond .eq 12, 3) := by decide +kernel
theorem dX11_refusesTelling_8 : decode cX11_refusesTelling 8 = .ok (.iload_n 2, 1) := by decide +kernel
theorem dX11_refusesTelling_9 : decode cX11_refusesTelling 9 = .ok (.iconst 0, 1) := by decide +kernel
theorem dX11_refusesTelling_10 : decode cX11_refusesTelling 10 = .ok (.iconst 5, 1) := by decide +kernel
theorem dX11_refusesTelling_11 : decode cX11_refusesTelling 11 = .ok (.invokestatic 98, 3) := by decide +kernel
theorem dX11_refusesTelling_14 : decode cX11_refusesTelling 14 = .ok (.ifCond .ne 5, 3) := by decide +kernel
theorem dX11_refusesTelling_17 : decode cX11_refusesTelling 17 = .ok (.iconst (-1), 1) := by decide +kernel
theorem dX11_refusesTelling_18 : decode cX11_refusesTelling 18 = .ok (.ireturn, 1) := by decide +kernel
theorem dX11_refusesTelling_19 : decode cX11_refusesTelling 19 = .ok (.aload_n 0, 1) := by decide +kernel
theorem dX11_refusesTelling_20 : decode cX11_refusesTelling 20 = .ok (.getfield 9, 3) := by decide +kernel
theorem dX11_refusesTelling_23 : decode cX11_refusesTelling 23 = .ok (.bipush 7, 2) := by decide +kernel
theorem dX11_refusesTelling_25 : decode cX11_refusesTelling 25 = .ok (.iload_n 1, 1) := by decide +kernel
theorem dX11_refusesTelling_26 : decode cX11_refusesTelling 26 = .ok (.iadd, 1) := by decide +kernel
theorem dX11_refusesTelling_27 : decode cX11_refusesTelling 27 = .ok (.iaload, 1) := by decide +kernel
theorem dX11_refusesTelling_28 : decode cX11_refusesTelling 28 = .ok (.iload_n 2, 1) := by decide +kernel
theorem dX11_refusesTelling_29 : decode cX11_refusesTelling 29 = .ok (.if_icmp .ne 8, 3) := by decide +kernel
theorem dX11_refusesTelling_32 : decode cX11_refusesTelling 32 = .ok (.bipush (-2), 2) := by decide +kernel
theorem dX11_refusesTelling_34 : decode cX11_refusesTelling 34 = .ok (.goto 4, 3) := by decide +kernel
theorem dX11_refusesTelling_37 : decode cX11_refusesTelling 37 = .ok (.iconst 0, 1) := by decide +kernel
theorem dX11_refusesTelling_38 : decode cX11_refusesTelling 38 = .ok (.ireturn, 1) := by decide +kernel
theorem dX11_tells_0 : decode cX11_tells 0 = .ok (.aload_n 0, 1) := by decide +kernel
theorem dX11_tells_1 : decode cX11_tells 1 = .ok (.iconst 0, 1) := by decide +kernel
theorem dX11_tells_2 : decode cX11_tells 2 = .ok (.putfield 89, 3) := by decide +kernel
theorem dX11_tells_5 : decode cX11_tells 5 = .ok (.aload_n 0, 1) := by decide +kernel
theorem dX11_tells_6 : decode cX11_tells 6 = .ok (.iload_n 1, 1) := by decide +kernel
theorem dX11_tells_7 : decode cX11_tells 7 = .ok (.iload_n 2, 1) := by decide +kernel
theorem dX11_tells_8 : decode cX11_tells 8 = .ok (.invokevirtual 256, 3) := by decide +kernel
theorem dX11_tells_11 : decode cX11_tells 11 = .ok (.istore_n 3, 1) := by decide +kernel
theorem dX11_tells_12 : decode cX11_tells 12 = .ok (.iload_n 3, 1) := by decide +kernel
theorem dX11_tells_13 : decode cX11_tells 13 = .ok (.ifCond .ge 5, 3) := by decide +kernel
theorem dX11_tells_16 : decode cX11_tells 16 = .ok (.iload_n 3, 1) := by decide +kernel
theorem dX11_tells_17 : decode cX11_tells 17 = .ok (.ireturn, 1) := by decide +kernel
theorem dX11_tells_18 : decode cX11_tells 18 = .ok (.aload_n 0, 1) := by decide +kernel
theorem dX11_tells_19 : decode cX11_tells 19 = .ok (.aload_n 0, 1) := by decide +kernel
theorem dX11_tells_20 : decode cX11_tells 20 = .ok (.getfield 9, 3) := by decide +kernel
theorem dX11_tells_23 : decode cX11_tells 23 = .ok (.invokevirtual 246, 3) := by decide +kernel
theorem dX11_tells_26 : decode cX11_tells 26 = .ok (.aload_n 0, 1) := by decide +kernel
theorem dX11_tells_27 : decode cX11_tells 27 = .ok (.getfield 9, 3) := by decide +kernel
theorem dX11_tells_30 : decode cX11_tells 30 = .ok (.bipush 7, 2) := by decide +kernel
theorem dX11_tells_32 : decode cX11_tells 32 = .ok (.iload_n 1, 1) := by decide +kernel
theorem dX11_tells_33 : decode cX11_tells 33 = .ok (.iadd, 1) := by decide +kernel
theorem dX11_tells_34 : decode cX11_tells 34 = .ok (.iaload, 1) := by decide +kernel
theorem dX11_tells_35 : decode cX11_tells 35 = .ok (.istore 4, 2) := by decide +kernel
theorem dX11_tells_37 : decode cX11_tells 37 = .ok (.aload_n 0, 1) := by decide +kernel
theorem dX11_tells_38 : decode cX11_tells 38 = .ok (.getfield 9, 3) := by decide +kernel
theorem dX11_tells_41 : decode cX11_tells 41 = .ok (.bipush 7, 2) := by decide +kernel
theorem dX11_tells_43 : decode cX11_tells 43 = .ok (.iload_n 1, 1) := by decide +kernel
theorem dX11_tells_44 : decode cX11_tells 44 = .ok (.iadd, 1) := by decide +kernel
theorem dX11_tells_45 : decode cX11_tells 45 = .ok (.iload_n 2, 1) := by decide +kernel
theorem dX11_tells_46 : decode cX11_tells 46 = .ok (.iastore, 1) := by decide +kernel
theorem dX11_tells_47 : decode cX11_tells 47 = .ok (.bipush 10, 2) := by decide +kernel
theorem dX11_tells_49 : decode cX11_tells 49 = .ok (.iload 4, 2) := by decide +kernel
theorem dX11_tells_51 : decode cX11_tells 51 = .ok (.iadd, 1) := by decide +kernel
theorem dX11_tells_52 : decode cX11_tells 52 = .ok (.ireturn, 1) := by decide +kernel
theorem dX11_refusesMove_0 : decode cX11_refusesMove 0 = .ok (.aload_n 0, 1) := by decide +kernel
theorem dX11_refusesMove_1 : decode cX11_refusesMove 1 = .ok (.iload_n 1, 1) := by decide +kernel
theorem dX11_refusesMove_2 : decode cX11_refusesMove 2 = .ok (.invokevirtual 221, 3) := by decide +kernel
theorem dX11_refusesMove_5 : decode cX11_refusesMove 5 = .ok (.ifCond .eq 13, 3) := by decide +kernel
theorem dX11_refusesMove_8 : decode cX11_refusesMove 8 = .ok (.iload_n 2, 1) := by decide +kernel
theorem dX11_refusesMove_9 : decode cX11_refusesMove 9 = .ok (.bipush (-5), 2) := by decide +kernel
theorem dX11_refusesMove_11 : decode cX11_refusesMove 11 = .ok (.iconst 5, 1) := by decide +kernel
theorem dX11_refusesMove_12 : decode cX11_refusesMove 12 = .ok (.invokestatic 98, 3) := by decide +kernel
theorem dX11_refusesMove_15 : decode cX11_refusesMove 15 = .ok (.ifCond .ne 5, 3) := by decide +kernel
theorem dX11_refusesMove_18 : decode cX11_refusesMove 18 = .ok (.iconst (-1), 1) := by decide +kernel
theorem dX11_refusesMove_19 : decode cX11_refusesMove 19 = .ok (.ireturn, 1) := by decide +kernel
theorem dX11_refusesMove_20 : decode cX11_refusesMove 20 = .ok (.aload_n 0, 1) := by decide +kernel
theorem dX11_refusesMove_21 : decode cX11_refusesMove 21 = .ok (.getfield 9, 3) := by decide +kernel
theorem dX11_refusesMove_24 : decode cX11_refusesMove 24 = .ok (.bipush 14, 2) := by decide +kernel
theorem dX11_refusesMove_26 : decode cX11_refusesMove 26 = .ok (.iload_n 1, 1) := by decide +kernel
theorem dX11_refusesMove_27 : decode cX11_refusesMove 27 = .ok (.iadd, 1) := by decide +kernel
theorem dX11_refusesMove_28 : decode cX11_refusesMove 28 = .ok (.iaload, 1) := by decide +kernel
theorem dX11_refusesMove_29 : decode cX11_refusesMove 29 = .ok (.iload_n 2, 1) := by decide +kernel
theorem dX11_refusesMove_30 : decode cX11_refusesMove 30 = .ok (.if_icmp .ne 8, 3) := by decide +kernel
theorem dX11_refusesMove_33 : decode cX11_refusesMove 33 = .ok (.bipush (-2), 2) := by decide +kernel
theorem dX11_refusesMove_35 : decode cX11_refusesMove 35 = .ok (.goto 4, 3) := by decide +kernel
theorem dX11_refusesMove_38 : decode cX11_refusesMove 38 = .ok (.iconst 0, 1) := by decide +kernel
theorem dX11_refusesMove_39 : decode cX11_refusesMove 39 = .ok (.ireturn, 1) := by decide +kernel
theorem dX11_moves_0 : decode cX11_moves 0 = .ok (.aload_n 0, 1) := by decide +kernel
theorem dX11_moves_1 : decode cX11_moves 1 = .ok (.iconst 0, 1) := by decide +kernel
theorem dX11_moves_2 : decode cX11_moves 2 = .ok (.putfield 89, 3) := by decide +kernel
theorem dX11_moves_5 : decode cX11_moves 5 = .ok (.aload_n 0, 1) := by decide +kernel
theorem dX11_moves_6 : decode cX11_moves 6 = .ok (.iload_n 1, 1) := by decide +kernel
theorem dX11_moves_7 : decode cX11_moves 7 = .ok (.iload_n 2, 1) := by decide +kernel
theorem dX11_moves_8 : decode cX11_moves 8 = .ok (.invokevirtual 259, 3) := by decide +kernel
theorem dX11_moves_11 : decode cX11_moves 11 = .ok (.istore_n 3, 1) := by decide +kernel
theorem dX11_moves_12 : decode cX11_moves 12 = .ok (.iload_n 3, 1) := by decide +kernel
theorem dX11_moves_13 : decode cX11_moves 13 = .ok (.ifCond .ge 5, 3) := by decide +kernel
theorem dX11_moves_16 : decode cX11_moves 16 = .ok (.iload_n 3, 1) := by decide +kernel
theorem dX11_moves_17 : decode cX11_moves 17 = .ok (.ireturn, 1) := by decide +kernel
theorem dX11_moves_18 : decode cX11_moves 18 = .ok (.aload_n 0, 1) := by decide +kernel
theorem dX11_moves_19 : decode cX11_moves 19 = .ok (.aload_n 0, 1) := by decide +kernel
theorem dX11_moves_20 : decode cX11_moves 20 = .ok (.getfield 9, 3) := by decide +kernel
theorem dX11_moves_23 : decode cX11_moves 23 = .ok (.invokevirtual 246, 3) := by decide +kernel
theorem dX11_moves_26 : decode cX11_moves 26 = .ok (.aload_n 0, 1) := by decide +kernel
theorem dX11_moves_27 : decode cX11_moves 27 = .ok (.getfield 9, 3) := by decide +kernel
theorem dX11_moves_30 : decode cX11_moves 30 = .ok (.bipush 14, 2) := by decide +kernel
theorem dX11_moves_32 : decode cX11_moves 32 = .ok (.iload_n 1, 1) := by decide +kernel
theorem dX11_moves_33 : decode cX11_moves 33 = .ok (.iadd, 1) := by decide +kernel
theorem dX11_moves_34 : decode cX11_moves 34 = .ok (.iaload, 1) := by decide +kernel
theorem dX11_moves_35 : decode cX11_moves 35 = .ok (.iload_n 2, 1) := by decide +kernel
theorem dX11_moves_36 : decode cX11_moves 36 = .ok (.isub, 1) := by decide +kernel
theorem dX11_moves_37 : decode cX11_moves 37 = .ok (.invokestatic 192, 3) := by decide +kernel
theorem dX11_moves_40 : decode cX11_moves 40 = .ok (.istore 4, 2) := by decide +kernel
theorem dX11_moves_42 : decode cX11_moves 42 = .ok (.aload_n 0, 1) := by decide +kernel
theorem dX11_moves_43 : decode cX11_moves 43 = .ok (.getfield 9, 3) := by decide +kernel
theorem dX11_moves_46 : decode cX11_moves 46 = .ok (.bipush 14, 2) := by decide +kernel
theorem dX11_moves_48 : decode cX11_moves 48 = .ok (.iload_n 1, 1) := by decide +kernel
theorem dX11_moves_49 : decode cX11_moves 49 = .ok (.iadd, 1) := by decide +kernel
theorem dX11_moves_50 : decode cX11_moves 50 = .ok (.iload_n 2, 1) := by decide +kernel
theorem dX11_moves_51 : decode cX11_moves 51 = .ok (.iastore, 1) := by decide +kernel
theorem dX11_moves_52 : decode cX11_moves 52 = .ok (.iload 4, 2) := by decide +kernel
theorem dX11_moves_54 : decode cX11_moves 54 = .ok (.ireturn, 1) := by decide +kernel
theorem dX11_refusesEase_0 : decode cX11_refusesEase 0 = .ok (.aload_n 0, 1) := by decide +kernel
theorem dX11_refusesEase_1 : decode cX11_refusesEase 1 = .ok (.iload_n 1, 1) := by decide +kernel
theorem dX11_refusesEase_2 : decode cX11_refusesEase 2 = .ok (.invokevirtual 221, 3) := by decide +kernel
theorem dX11_refusesEase_5 : decode cX11_refusesEase 5 = .ok (.ifCond .ne 5, 3) := by decide +kernel
theorem dX11_refusesEase_8 : decode cX11_refusesEase 8 = .ok (.iconst (-1), 1) := by decide +kernel
theorem dX11_refusesEase_9 : decode cX11_refusesEase 9 = .ok (.ireturn, 1) := by decide +kernel
theorem dX11_refusesEase_10 : decode cX11_refusesEase 10 = .ok (.aload_n 0, 1) := by decide +kernel
theorem dX11_refusesEase_11 : decode cX11_refusesEase 11 = .ok (.getfield 9, 3) := by decide +kernel
theorem dX11_refusesEase_14 : decode cX11_refusesEase 14 = .ok (.iload_n 1, 1) := by decide +kernel
theorem dX11_refusesEase_15 : decode cX11_refusesEase 15 = .ok (.iaload, 1) := by decide +kernel
theorem dX11_refusesEase_16 : decode cX11_refusesEase 16 = .ok (.ifCond .ne 8, 3) := by decide +kernel
theorem dX11_refusesEase_19 : decode cX11_refusesEase 19 = .ok (.bipush (-2), 2) := by decide +kernel
theorem dX11_refusesEase_21 : decode cX11_refusesEase 21 = .ok (.goto 4, 3) := by decide +kernel
theorem dX11_refusesEase_24 : decode cX11_refusesEase 24 = .ok (.iconst 0, 1) := by decide +kernel
theorem dX11_refusesEase_25 : decode cX11_refusesEase 25 = .ok (.ireturn, 1) := by decide +kernel
theorem dX11_eases_0 : decode cX11_eases 0 = .ok (.aload_n 0, 1) := by decide +kernel
theorem dX11_eases_1 : decode cX11_eases 1 = .ok (.iconst 0, 1) := by decide +kernel
theorem dX11_eases_2 : decode cX11_eases 2 = .ok (.putfield 89, 3) := by decide +kernel
theorem dX11_eases_5 : decode cX11_eases 5 = .ok (.aload_n 0, 1) := by decide +kernel
theorem dX11_eases_6 : decode cX11_eases 6 = .ok (.iload_n 1, 1) := by decide +kernel
theorem dX11_eases_7 : decode cX11_eases 7 = .ok (.invokevirtual 262, 3) := by decide +kernel
theorem dX11_eases_10 : decode cX11_eases 10 = .ok (.istore_n 2, 1) := by decide +kernel
theorem dX11_eases_11 : decode cX11_eases 11 = .ok (.iload_n 2, 1) := by decide +kernel
theorem dX11_eases_12 : decode cX11_eases 12 = .ok (.ifCond .ge 5, 3) := by decide +kernel
theorem dX11_eases_15 : decode cX11_eases 15 = .ok (.iload_n 2, 1) := by decide +kernel
theorem dX11_eases_16 : decode cX11_eases 16 = .ok (.ireturn, 1) := by decide +kernel
theorem dX11_eases_17 : decode cX11_eases 17 = .ok (.aload_n 0, 1) := by decide +kernel
theorem dX11_eases_18 : decode cX11_eases 18 = .ok (.aload_n 0, 1) := by decide +kernel
theorem dX11_eases_19 : decode cX11_eases 19 = .ok (.getfield 9, 3) := by decide +kernel
theorem dX11_eases_22 : decode cX11_eases 22 = .ok (.invokevirtual 246, 3) := by decide +kernel
theorem dX11_eases_25 : decode cX11_eases 25 = .ok (.aload_n 0, 1) := by decide +kernel
theorem dX11_eases_26 : decode cX11_eases 26 = .ok (.getfield 9, 3) := by decide +kernel
theorem dX11_eases_29 : decode cX11_eases 29 = .ok (.iload_n 1, 1) := by decide +kernel
theorem dX11_eases_30 : decode cX11_eases 30 = .ok (.dup2, 1) := by decide +kernel
theorem dX11_eases_31 : decode cX11_eases 31 = .ok (.iaload, 1) := by decide +kernel
theorem dX11_eases_32 : decode cX11_eases 32 = .ok (.iconst 1, 1) := by decide +kernel
theorem dX11_eases_33 : decode cX11_eases 33 = .ok (.isub, 1) := by decide +kernel
theorem dX11_eases_34 : decode cX11_eases 34 = .ok (.iastore, 1) := by decide +kernel
theorem dX11_eases_35 : decode cX11_eases 35 = .ok (.aload_n 0, 1) := by decide +kernel
theorem dX11_eases_36 : decode cX11_eases 36 = .ok (.getfield 9, 3) := by decide +kernel
theorem dX11_eases_39 : decode cX11_eases 39 = .ok (.iload_n 1, 1) := by decide +kernel
theorem dX11_eases_40 : decode cX11_eases 40 = .ok (.iaload, 1) := by decide +kernel
theorem dX11_eases_41 : decode cX11_eases 41 = .ok (.ireturn, 1) := by decide +kernel
theorem dX11_refusesPreaching_0 : decode cX11_refusesPreaching 0 = .ok (.aload_n 0, 1) := by decide +kernel
theorem dX11_refusesPreaching_1 : decode cX11_refusesPreaching 1 = .ok (.iload_n 1, 1) := by decide +kernel
theorem dX11_refusesPreaching_2 : decode cX11_refusesPreaching 2 = .ok (.invokevirtual 221, 3) := by decide +kernel
theorem dX11_refusesPreaching_5 : decode cX11_refusesPreaching 5 = .ok (.ifCond .eq 13, 3) := by decide +kernel
theorem dX11_refusesPreaching_8 : decode cX11_refusesPreaching 8 = .ok (.iload_n 2, 1) := by decide +kernel
theorem dX11_refusesPreaching_9 : decode cX11_refusesPreaching 9 = .ok (.iconst 1, 1) := by decide +kernel
theorem dX11_refusesPreaching_10 : decode cX11_refusesPreaching 10 = .ok (.bipush 9, 2) := by decide +kernel
theorem dX11_refusesPreaching_12 : decode cX11_refusesPreaching 12 = .ok (.invokestatic 98, 3) := by decide +kernel
theorem dX11_refusesPreaching_15 : decode cX11_refusesPreaching 15 = .ok (.ifCond .ne 5, 3) := by decide +kernel
theorem dX11_refusesPreaching_18 : decode cX11_refusesPreaching 18 = .ok (.iconst (-1), 1) := by decide +kernel
theorem dX11_refusesPreaching_19 : decode cX11_refusesPreaching 19 = .ok (.ireturn, 1) := by decide +kernel
theorem dX11_refusesPreaching_20 : decode cX11_refusesPreaching 20 = .ok (.aload_n 0, 1) := by decide +kernel
theorem dX11_refusesPreaching_21 : decode cX11_refusesPreaching 21 = .ok (.getfield 9, 3) := by decide +kernel
theorem dX11_refusesPreaching_24 : decode cX11_refusesPreaching 24 = .ok (.iload_n 1, 1) := by decide +kernel
theorem dX11_refusesPreaching_25 : decode cX11_refusesPreaching 25 = .ok (.iaload, 1) := by decide +kernel
theorem dX11_refusesPreaching_26 : decode cX11_refusesPreaching 26 = .ok (.bipush 9, 2) := by decide +kernel
theorem dX11_refusesPreaching_28 : decode cX11_refusesPreaching 28 = .ok (.if_icmp .ne 8, 3) := by decide +kernel
theorem dX11_refusesPreaching_31 : decode cX11_refusesPreaching 31 = .ok (.bipush (-2), 2) := by decide +kernel
theorem dX11_refusesPreaching_33 : decode cX11_refusesPreaching 33 = .ok (.goto 4, 3) := by decide +kernel
theorem dX11_refusesPreaching_36 : decode cX11_refusesPreaching 36 = .ok (.iconst 0, 1) := by decide +kernel
theorem dX11_refusesPreaching_37 : decode cX11_refusesPreaching 37 = .ok (.ireturn, 1) := by decide +kernel
theorem dX11_preaches_0 : decode cX11_preaches 0 = .ok (.aload_n 0, 1) := by decide +kernel
theorem dX11_preaches_1 : decode cX11_preaches 1 = .ok (.iconst 0, 1) := by decide +kernel
theorem dX11_preaches_2 : decode cX11_preaches 2 = .ok (.putfield 89, 3) := by decide +kernel
theorem dX11_preaches_5 : decode cX11_preaches 5 = .ok (.aload_n 0, 1) := by decide +kernel
theorem dX11_preaches_6 : decode cX11_preaches 6 = .ok (.iload_n 1, 1) := by decide +kernel
theorem dX11_preaches_7 : decode cX11_preaches 7 = .ok (.iload_n 2, 1) := by decide +kernel
theorem dX11_preaches_8 : decode cX11_preaches 8 = .ok (.invokevirtual 265, 3) := by decide +kernel
theorem dX11_preaches_11 : decode cX11_preaches 11 = .ok (.istore_n 3, 1) := by decide +kernel
theorem dX11_preaches_12 : decode cX11_preaches 12 = .ok (.iload_n 3, 1) := by decide +kernel
theorem dX11_preaches_13 : decode cX11_preaches 13 = .ok (.ifCond .ge 5, 3) := by decide +kernel
theorem dX11_preaches_16 : decode cX11_preaches 16 = .ok (.iload_n 3, 1) := by decide +kernel
theorem dX11_preaches_17 : decode cX11_preaches 17 = .ok (.ireturn, 1) := by decide +kernel
theorem dX11_preaches_18 : decode cX11_preaches 18 = .ok (.aload_n 0, 1) := by decide +kernel
theorem dX11_preaches_19 : decode cX11_preaches 19 = .ok (.aload_n 0, 1) := by decide +kernel
theorem dX11_preaches_20 : decode cX11_preaches 20 = .ok (.getfield 9, 3) := by decide +kernel
theorem dX11_preaches_23 : decode cX11_preaches 23 = .ok (.invokevirtual 246, 3) := by decide +kernel
theorem dX11_preaches_26 : decode cX11_preaches 26 = .ok (.aload_n 0, 1) := by decide +kernel
theorem dX11_preaches_27 : decode cX11_preaches 27 = .ok (.getfield 9, 3) := by decide +kernel
theorem dX11_preaches_30 : decode cX11_preaches 30 = .ok (.iload_n 1, 1) := by decide +kernel
theorem dX11_preaches_31 : decode cX11_preaches 31 = .ok (.bipush 9, 2) := by decide +kernel
theorem dX11_preaches_33 : decode cX11_preaches 33 = .ok (.aload_n 0, 1) := by decide +kernel
theorem dX11_preaches_34 : decode cX11_preaches 34 = .ok (.getfield 9, 3) := by decide +kernel
theorem dX11_preaches_37 : decode cX11_preaches 37 = .ok (.iload_n 1, 1) := by decide +kernel
theorem dX11_preaches_38 : decode cX11_preaches 38 = .ok (.iaload, 1) := by decide +kernel
theorem dX11_preaches_39 : decode cX11_preaches 39 = .ok (.iload_n 2, 1) := by decide +kernel
theorem dX11_preaches_40 : decode cX11_preaches 40 = .ok (.iadd, 1) := by decide +kernel
theorem dX11_preaches_41 : decode cX11_preaches 41 = .ok (.invokestatic 197, 3) := by decide +kernel
theorem dX11_preaches_44 : decode cX11_preaches 44 = .ok (.iastore, 1) := by decide +kernel
theorem dX11_preaches_45 : decode cX11_preaches 45 = .ok (.aload_n 0, 1) := by decide +kernel
theorem dX11_preaches_46 : decode cX11_preaches 46 = .ok (.getfield 9, 3) := by decide +kernel
theorem dX11_preaches_49 : decode cX11_preaches 49 = .ok (.iload_n 1, 1) := by decide +kernel
theorem dX11_preaches_50 : decode cX11_preaches 50 = .ok (.iaload, 1) := by decide +kernel
theorem dX11_preaches_51 : decode cX11_preaches 51 = .ok (.ireturn, 1) := by decide +kernel
theorem dX11_refusesSail_0 : decode cX11_refusesSail 0 = .ok (.iload_n 1, 1) := by decide +kernel
theorem dX11_refusesSail_1 : decode cX11_refusesSail 1 = .ok (.iconst 0, 1) := by decide +kernel
theorem dX11_refusesSail_2 : decode cX11_refusesSail 2 = .ok (.bipush 9, 2) := by decide +kernel
theorem dX11_refusesSail_4 : decode cX11_refusesSail 4 = .ok (.invokestatic 98, 3) := by decide +kernel
theorem dX11_refusesSail_7 : decode cX11_refusesSail 7 = .ok (.ifCond .ne 5, 3) := by decide +kernel
theorem dX11_refusesSail_10 : decode cX11_refusesSail 10 = .ok (.iconst (-1), 1) := by decide +kernel
theorem dX11_refusesSail_11 : decode cX11_refusesSail 11 = .ok (.ireturn, 1) := by decide +kernel
theorem dX11_refusesSail_12 : decode cX11_refusesSail 12 = .ok (.aload_n 0, 1) := by decide +kernel
theorem dX11_refusesSail_13 : decode cX11_refusesSail 13 = .ok (.getfield 9, 3) := by decide +kernel
theorem dX11_refusesSail_16 : decode cX11_refusesSail 16 = .ok (.bipush 21, 2) := by decide +kernel
theorem dX11_refusesSail_18 : decode cX11_refusesSail 18 = .ok (.iaload, 1) := by decide +kernel
theorem dX11_refusesSail_19 : decode cX11_refusesSail 19 = .ok (.iload_n 1, 1) := by decide +kernel
theorem dX11_refusesSail_20 : decode cX11_refusesSail 20 = .ok (.if_icmp .ne 8, 3) := by decide +kernel
theorem dX11_refusesSail_23 : decode cX11_refusesSail 23 = .ok (.bipush (-2), 2) := by decide +kernel
theorem dX11_refusesSail_25 : decode cX11_refusesSail 25 = .ok (.goto 4, 3) := by decide +kernel
theorem dX11_refusesSail_28 : decode cX11_refusesSail 28 = .ok (.iconst 0, 1) := by decide +kernel
theorem dX11_refusesSail_29 : decode cX11_refusesSail 29 = .ok (.ireturn, 1) := by decide +kernel
theorem dX11_sails_0 : decode cX11_sails 0 = .ok (.aload_n 0, 1) := by decide +kernel
theorem dX11_sails_1 : decode cX11_sails 1 = .ok (.iconst 0, 1) := by decide +kernel
theorem dX11_sails_2 : decode cX11_sails 2 = .ok (.putfield 89, 3) := by decide +kernel
theorem dX11_sails_5 : decode cX11_sails 5 = .ok (.aload_n 0, 1) := by decide +kernel
theorem dX11_sails_6 : decode cX11_sails 6 = .ok (.iload_n 1, 1) := by decide +kernel
theorem dX11_sails_7 : decode cX11_sails 7 = .ok (.invokevirtual 268, 3) := by decide +kernel
theorem dX11_sails_10 : decode cX11_sails 10 = .ok (.istore_n 2, 1) := by decide +kernel
theorem dX11_sails_11 : decode cX11_sails 11 = .ok (.iload_n 2, 1) := by decide +kernel
theorem dX11_sails_12 : decode cX11_sails 12 = .ok (.ifCond .ge 5, 3) := by decide +kernel
theorem dX11_sails_15 : decode cX11_sails 15 = .ok (.iload_n 2, 1) := by decide +kernel
theorem dX11_sails_16 : decode cX11_sails 16 = .ok (.ireturn, 1) := by decide +kernel
theorem dX11_sails_17 : decode cX11_sails 17 = .ok (.aload_n 0, 1) := by decide +kernel
theorem dX11_sails_18 : decode cX11_sails 18 = .ok (.aload_n 0, 1) := by decide +kernel
theorem dX11_sails_19 : decode cX11_sails 19 = .ok (.getfield 9, 3) := by decide +kernel
theorem dX11_sails_22 : decode cX11_sails 22 = .ok (.invokevirtual 246, 3) := by decide +kernel
theorem dX11_sails_25 : decode cX11_sails 25 = .ok (.aload_n 0, 1) := by decide +kernel
theorem dX11_sails_26 : decode cX11_sails 26 = .ok (.getfield 9, 3) := by decide +kernel
theorem dX11_sails_29 : decode cX11_sails 29 = .ok (.bipush 21, 2) := by decide +kernel
theorem dX11_sails_31 : decode cX11_sails 31 = .ok (.iaload, 1) := by decide +kernel
theorem dX11_sails_32 : decode cX11_sails 32 = .ok (.istore_n 3, 1) := by decide +kernel
theorem dX11_sails_33 : decode cX11_sails 33 = .ok (.aload_n 0, 1) := by decide +kernel
theorem dX11_sails_34 : decode cX11_sails 34 = .ok (.getfield 9, 3) := by decide +kernel
theorem dX11_sails_37 : decode cX11_sails 37 = .ok (.bipush 21, 2) := by decide +kernel
theorem dX11_sails_39 : decode cX11_sails 39 = .ok (.iload_n 1, 1) := by decide +kernel
theorem dX11_sails_40 : decode cX11_sails 40 = .ok (.iastore, 1) := by decide +kernel
theorem dX11_sails_41 : decode cX11_sails 41 = .ok (.bipush 10, 2) := by decide +kernel
theorem dX11_sails_43 : decode cX11_sails 43 = .ok (.iload_n 3, 1) := by decide +kernel
theorem dX11_sails_44 : decode cX11_sails 44 = .ok (.iadd, 1) := by decide +kernel
theorem dX11_sails_45 : decode cX11_sails 45 = .ok (.ireturn, 1) := by decide +kernel
theorem dX11_watch_0 : decode cX11_watch 0 = .ok (.aload_n 0, 1) := by decide +kernel
theorem dX11_watch_1 : decode cX11_watch 1 = .ok (.iconst 0, 1) := by decide +kernel
theorem dX11_watch_2 : decode cX11_watch 2 = .ok (.putfield 89, 3) := by decide +kernel
theorem dX11_watch_5 : decode cX11_watch 5 = .ok (.aload_n 0, 1) := by decide +kernel
theorem dX11_watch_6 : decode cX11_watch 6 = .ok (.bipush 60, 2) := by decide +kernel
theorem dX11_watch_8 : decode cX11_watch 8 = .ok (.invokevirtual 144, 3) := by decide +kernel
theorem dX11_watch_11 : decode cX11_watch 11 = .ok (.iconst 0, 1) := by decide +kernel
theorem dX11_watch_12 : decode cX11_watch 12 = .ok (.istore_n 1, 1) := by decide +kernel
theorem dX11_watch_13 : decode cX11_watch 13 = .ok (.aload_n 0, 1) := by decide +kernel
theorem dX11_watch_14 : decode cX11_watch 14 = .ok (.invokevirtual 124, 3) := by decide +kernel
theorem dX11_watch_17 : decode cX11_watch 17 = .ok (.ifCond .eq 27, 3) := by decide +kernel
theorem dX11_watch_20 : decode cX11_watch 20 = .ok (.aload_n 0, 1) := by decide +kernel
theorem dX11_watch_21 : decode cX11_watch 21 = .ok (.getfield 114, 3) := by decide +kernel
theorem dX11_watch_24 : decode cX11_watch 24 = .ok (.aload_n 0, 1) := by decide +kernel
theorem dX11_watch_25 : decode cX11_watch 25 = .ok (.getfield 108, 3) := by decide +kernel
theorem dX11_watch_28 : decode cX11_watch 28 = .ok (.if_icmp .ge 16, 3) := by decide +kernel
theorem dX11_watch_31 : decode cX11_watch 31 = .ok (.aload_n 0, 1) := by decide +kernel
theorem dX11_watch_32 : decode cX11_watch 32 = .ok (.iconst 3, 1) := by decide +kernel
theorem dX11_watch_33 : decode cX11_watch 33 = .ok (.iload_n 1, 1) := by decide +kernel
theorem dX11_watch_34 : decode cX11_watch 34 = .ok (.imul, 1) := by decide +kernel
theorem dX11_watch_35 : decode cX11_watch 35 = .ok (.invokevirtual 271, 3) := by decide +kernel
theorem dX11_watch_38 : decode cX11_watch 38 = .ok (.iinc 1 1, 3) := by decide +kernel
theorem dX11_watch_41 : decode cX11_watch 41 = .ok (.goto (-28), 3) := by decide +kernel
theorem dX11_watch_44 : decode cX11_watch 44 = .ok (.aload_n 0, 1) := by decide +kernel
theorem dX11_watch_45 : decode cX11_watch 45 = .ok (.invokevirtual 147, 3) := by decide +kernel
theorem dX11_watch_48 : decode cX11_watch 48 = .ok (.ifCond .ne 10, 3) := by decide +kernel
theorem dX11_watch_51 : decode cX11_watch 51 = .ok (.iconst (-1), 1) := by decide +kernel
theorem dX11_watch_52 : decode cX11_watch 52 = .ok (.aload_n 0, 1) := by decide +kernel
theorem dX11_watch_53 : decode cX11_watch 53 = .ok (.getfield 117, 3) := by decide +kernel
theorem dX11_watch_56 : decode cX11_watch 56 = .ok (.isub, 1) := by decide +kernel
theorem dX11_watch_57 : decode cX11_watch 57 = .ok (.ireturn, 1) := by decide +kernel
theorem dX11_watch_58 : decode cX11_watch 58 = .ok (.aload_n 0, 1) := by decide +kernel
theorem dX11_watch_59 : decode cX11_watch 59 = .ok (.getfield 9, 3) := by decide +kernel
theorem dX11_watch_62 : decode cX11_watch 62 = .ok (.aload_n 0, 1) := by decide +kernel
theorem dX11_watch_63 : decode cX11_watch 63 = .ok (.getfield 46, 3) := by decide +kernel
theorem dX11_watch_66 : decode cX11_watch 66 = .ok (.iconst 0, 1) := by decide +kernel
theorem dX11_watch_67 : decode cX11_watch 67 = .ok (.invokestatic 231, 3) := by decide +kernel
theorem dX11_watch_70 : decode cX11_watch 70 = .ok (.iconst 0, 1) := by decide +kernel
theorem dX11_watch_71 : decode cX11_watch 71 = .ok (.istore_n 2, 1) := by decide +kernel
theorem dX11_watch_72 : decode cX11_watch 72 = .ok (.iload_n 2, 1) := by decide +kernel
theorem dX11_watch_73 : decode cX11_watch 73 = .ok (.iload_n 1, 1) := by decide +kernel
theorem dX11_watch_74 : decode cX11_watch 74 = .ok (.if_icmp .ge 44, 3) := by decide +kernel
theorem dX11_watch_77 : decode cX11_watch 77 = .ok (.aload_n 0, 1) := by decide +kernel
theorem dX11_watch_78 : decode cX11_watch 78 = .ok (.aload_n 0, 1) := by decide +kernel
theorem dX11_watch_79 : decode cX11_watch 79 = .ok (.getfield 52, 3) := by decide +kernel
theorem dX11_watch_82 : decode cX11_watch 82 = .ok (.iconst 3, 1) := by decide +kernel
theorem dX11_watch_83 : decode cX11_watch 83 = .ok (.iload_n 2, 1) := by decide +kernel
theorem dX11_watch_84 : decode cX11_watch 84 = .ok (.imul, 1) := by decide +kernel
theorem dX11_watch_85 : decode cX11_watch 85 = .ok (.iaload, 1) := by decide +kernel
theorem dX11_watch_86 : decode cX11_watch 86 = .ok (.aload_n 0, 1) := by decide +kernel
theorem dX11_watch_87 : decode cX11_watch 87 = .ok (.getfield 52, 3) := by decide +kernel
theorem dX11_watch_90 : decode cX11_watch 90 = .ok (.iconst 3, 1) := by decide +kernel
theorem dX11_watch_91 : decode cX11_watch 91 = .ok (.iload_n 2, 1) := by decide +kernel
theorem dX11_watch_92 : decode cX11_watch 92 = .ok (.imul, 1) := by decide +kernel
theorem dX11_watch_93 : decode cX11_watch 93 = .ok (.iconst 1, 1) := by decide +kernel
theorem dX11_watch_94 : decode cX11_watch 94 = .ok (.iadd, 1) := by decide +kernel
theorem dX11_watch_95 : decode cX11_watch 95 = .ok (.iaload, 1) := by decide +kernel
theorem dX11_watch_96 : decode cX11_watch 96 = .ok (.aload_n 0, 1) := by decide +kernel
theorem dX11_watch_97 : decode cX11_watch 97 = .ok (.getfield 52, 3) := by decide +kernel
theorem dX11_watch_100 : decode cX11_watch 100 = .ok (.iconst 3, 1) := by decide +kernel
theorem dX11_watch_101 : decode cX11_watch 101 = .ok (.iload_n 2, 1) := by decide +kernel
theorem dX11_watch_102 : decode cX11_watch 102 = .ok (.imul, 1) := by decide +kernel
theorem dX11_watch_103 : decode cX11_watch 103 = .ok (.iconst 2, 1) := by decide +kernel
theorem dX11_watch_104 : decode cX11_watch 104 = .ok (.iadd, 1) := by decide +kernel
theorem dX11_watch_105 : decode cX11_watch 105 = .ok (.iaload, 1) := by decide +kernel
theorem dX11_watch_106 : decode cX11_watch 106 = .ok (.invokevirtual 274, 3) := by decide +kernel
theorem dX11_watch_109 : decode cX11_watch 109 = .ok (.ifCond .eq 9, 3) := by decide +kernel
theorem dX11_watch_112 : decode cX11_watch 112 = .ok (.iinc 2 1, 3) := by decide +kernel
theorem dX11_watch_115 : decode cX11_watch 115 = .ok (.goto (-43), 3) := by decide +kernel
theorem dX11_watch_118 : decode cX11_watch 118 = .ok (.iload_n 2, 1) := by decide +kernel
theorem dX11_watch_119 : decode cX11_watch 119 = .ok (.ifCond .le 11, 3) := by decide +kernel
theorem dX11_watch_122 : decode cX11_watch 122 = .ok (.aload_n 0, 1) := by decide +kernel
theorem dX11_watch_123 : decode cX11_watch 123 = .ok (.aload_n 0, 1) := by decide +kernel
theorem dX11_watch_124 : decode cX11_watch 124 = .ok (.getfield 46, 3) := by decide +kernel
theorem dX11_watch_127 : decode cX11_watch 127 = .ok (.invokevirtual 246, 3) := by decide +kernel
theorem dX11_watch_130 : decode cX11_watch 130 = .ok (.aload_n 0, 1) := by decide +kernel
theorem dX11_watch_131 : decode cX11_watch 131 = .ok (.iconst 0, 1) := by decide +kernel
theorem dX11_watch_132 : decode cX11_watch 132 = .ok (.putfield 92, 3) := by decide +kernel
theorem dX11_watch_135 : decode cX11_watch 135 = .ok (.aload_n 0, 1) := by decide +kernel
theorem dX11_watch_136 : decode cX11_watch 136 = .ok (.iload_n 2, 1) := by decide +kernel
theorem dX11_watch_137 : decode cX11_watch 137 = .ok (.iload_n 1, 1) := by decide +kernel
theorem dX11_watch_138 : decode cX11_watch 138 = .ok (.if_icmp .ge 7, 3) := by decide +kernel
theorem dX11_watch_141 : decode cX11_watch 141 = .ok (.lconst 1, 1) := by decide +kernel
theorem dX11_watch_142 : decode cX11_watch 142 = .ok (.goto 4, 3) := by decide +kernel
theorem dX11_watch_145 : decode cX11_watch 145 = .ok (.lconst 0, 1) := by decide +kernel
theorem dX11_watch_146 : decode cX11_watch 146 = .ok (.invokevirtual 252, 3) := by decide +kernel
theorem dX11_watch_149 : decode cX11_watch 149 = .ok (.aload_n 0, 1) := by decide +kernel
theorem dX11_watch_150 : decode cX11_watch 150 = .ok (.bipush 100, 2) := by decide +kernel
theorem dX11_watch_152 : decode cX11_watch 152 = .ok (.aload_n 0, 1) := by decide +kernel
theorem dX11_watch_153 : decode cX11_watch 153 = .ok (.getfield 9, 3) := by decide +kernel
theorem dX11_watch_156 : decode cX11_watch 156 = .ok (.bipush 22, 2) := by decide +kernel
theorem dX11_watch_158 : decode cX11_watch 158 = .ok (.iaload, 1) := by decide +kernel
theorem dX11_watch_159 : decode cX11_watch 159 = .ok (.iadd, 1) := by decide +kernel
theorem dX11_watch_160 : decode cX11_watch 160 = .ok (.i2l, 1) := by decide +kernel
theorem dX11_watch_161 : decode cX11_watch 161 = .ok (.invokevirtual 252, 3) := by decide +kernel
theorem dX11_watch_164 : decode cX11_watch 164 = .ok (.iload_n 2, 1) := by decide +kernel
theorem dX11_watch_165 : decode cX11_watch 165 = .ok (.ireturn, 1) := by decide +kernel
theorem dX11_readAct_0 : decode cX11_readAct 0 = .ok (.aload_n 0, 1) := by decide +kernel
theorem dX11_readAct_1 : decode cX11_readAct 1 = .ok (.invokevirtual 128, 3) := by decide +kernel
theorem dX11_readAct_4 : decode cX11_readAct 4 = .ok (.istore_n 2, 1) := by decide +kernel
theorem dX11_readAct_5 : decode cX11_readAct 5 = .ok (.iload_n 2, 1) := by decide +kernel
theorem dX11_readAct_6 : decode cX11_readAct 6 = .ok (.bipush 110, 2) := by decide +kernel
theorem dX11_readAct_8 : decode cX11_readAct 8 = .ok (.if_icmp .eq 42, 3) := by decide +kernel
theorem dX11_readAct_11 : decode cX11_readAct 11 = .ok (.iload_n 2, 1) := by decide +kernel
theorem dX11_readAct_12 : decode cX11_readAct 12 = .ok (.bipush 116, 2) := by decide +kernel
theorem dX11_readAct_14 : decode cX11_readAct 14 = .ok (.if_icmp .eq 36, 3) := by decide +kernel
theorem dX11_readAct_17 : decode cX11_readAct 17 = .ok (.iload_n 2, 1) := by decide +kernel
theorem dX11_readAct_18 : decode cX11_readAct 18 = .ok (.bipush 109, 2) := by decide +kernel
theorem dX11_readAct_20 : decode cX11_readAct 20 = .ok (.if_icmp .eq 30, 3) := by decide +kernel
theorem dX11_readAct_23 : decode cX11_readAct 23 = .ok (.iload_n 2, 1) := by decide +kernel
theorem dX11_readAct_24 : decode cX11_readAct 24 = .ok (.bipush 101, 2) := by decide +kernel
theorem dX11_readAct_26 : decode cX11_readAct 26 = .ok (.if_icmp .eq 24, 3) := by decide +kernel
theorem dX11_readAct_29 : decode cX11_readAct 29 = .ok (.iload_n 2, 1) := by decide +kernel
theorem dX11_readAct_30 : decode cX11_readAct 30 = .ok (.bipush 112, 2) := by decide +kernel
theorem dX11_readAct_32 : decode cX11_readAct 32 = .ok (.if_icmp .eq 18, 3) := by decide +kernel
theorem dX11_readAct_35 : decode cX11_readAct 35 = .ok (.iload_n 2, 1) := by decide +kernel
theorem dX11_readAct_36 : decode cX11_readAct 36 = .ok (.bipush 115, 2) := by decide +kernel
theorem dX11_readAct_38 : decode cX11_readAct 38 = .ok (.if_icmp .eq 12, 3) := by decide +kernel
theorem dX11_readAct_41 : decode cX11_readAct 41 = .ok (.aload_n 0, 1) := by decide +kernel
theorem dX11_readAct_42 : decode cX11_readAct 42 = .ok (.aload_n 0, 1) := by decide +kernel
theorem dX11_readAct_43 : decode cX11_readAct 43 = .ok (.getfield 114, 3) := by decide +kernel
theorem dX11_readAct_46 : decode cX11_readAct 46 = .ok (.invokevirtual 136, 3) := by decide +kernel
theorem dX11_readAct_49 : decode cX11_readAct 49 = .ok (.return_, 1) := by decide +kernel
theorem dX11_readAct_50 : decode cX11_readAct 50 = .ok (.aload_n 0, 1) := by decide +kernel
theorem dX11_readAct_51 : decode cX11_readAct 51 = .ok (.dup, 1) := by decide +kernel
theorem dX11_readAct_52 : decode cX11_readAct 52 = .ok (.getfield 114, 3) := by decide +kernel
theorem dX11_readAct_55 : decode cX11_readAct 55 = .ok (.iconst 1, 1) := by decide +kernel
theorem dX11_readAct_56 : decode cX11_readAct 56 = .ok (.iadd, 1) := by decide +kernel
theorem dX11_readAct_57 : decode cX11_readAct 57 = .ok (.putfield 114, 3) := by decide +kernel
theorem dX11_readAct_60 : decode cX11_readAct 60 = .ok (.aload_n 0, 1) := by decide +kernel
theorem dX11_readAct_61 : decode cX11_readAct 61 = .ok (.getfield 52, 3) := by decide +kernel
theorem dX11_readAct_64 : decode cX11_readAct 64 = .ok (.iload_n 1, 1) := by decide +kernel
theorem dX11_readAct_65 : decode cX11_readAct 65 = .ok (.iload_n 2, 1) := by decide +kernel
theorem dX11_readAct_66 : decode cX11_readAct 66 = .ok (.iastore, 1) := by decide +kernel
theorem dX11_readAct_67 : decode cX11_readAct 67 = .ok (.aload_n 0, 1) := by decide +kernel
theorem dX11_readAct_68 : decode cX11_readAct 68 = .ok (.getfield 52, 3) := by decide +kernel
theorem dX11_readAct_71 : decode cX11_readAct 71 = .ok (.iload_n 1, 1) := by decide +kernel
theorem dX11_readAct_72 : decode cX11_readAct 72 = .ok (.iconst 1, 1) := by decide +kernel
theorem dX11_readAct_73 : decode cX11_readAct 73 = .ok (.iadd, 1) := by decide +kernel
theorem dX11_readAct_74 : decode cX11_readAct 74 = .ok (.aload_n 0, 1) := by decide +kernel
theorem dX11_readAct_75 : decode cX11_readAct 75 = .ok (.bipush 48, 2) := by decide +kernel
theorem dX11_readAct_77 : decode cX11_readAct 77 = .ok (.bipush 10, 2) := by decide +kernel
theorem dX11_readAct_79 : decode cX11_readAct 79 = .ok (.invokevirtual 140, 3) := by decide +kernel
theorem dX11_readAct_82 : decode cX11_readAct 82 = .ok (.iastore, 1) := by decide +kernel
theorem dX11_readAct_83 : decode cX11_readAct 83 = .ok (.iload_n 2, 1) := by decide +kernel
theorem dX11_readAct_84 : decode cX11_readAct 84 = .ok (.bipush 116, 2) := by decide +kernel
theorem dX11_readAct_86 : decode cX11_readAct 86 = .ok (.if_icmp .ne 19, 3) := by decide +kernel
theorem dX11_readAct_89 : decode cX11_readAct 89 = .ok (.aload_n 0, 1) := by decide +kernel
theorem dX11_readAct_90 : decode cX11_readAct 90 = .ok (.getfield 52, 3) := by decide +kernel
theorem dX11_readAct_93 : decode cX11_readAct 93 = .ok (.iload_n 1, 1) := by decide +kernel
theorem dX11_readAct_94 : decode cX11_readAct 94 = .ok (.iconst 2, 1) := by decide +kernel
theorem dX11_readAct_95 : decode cX11_readAct 95 = .ok (.iadd, 1) := by decide +kernel
theorem dX11_readAct_96 : decode cX11_readAct 96 = .ok (.aload_n 0, 1) := by decide +kernel
theorem dX11_readAct_97 : decode cX11_readAct 97 = .ok (.bipush 48, 2) := by decide +kernel
theorem dX11_readAct_99 : decode cX11_readAct 99 = .ok (.bipush 6, 2) := by decide +kernel
theorem dX11_readAct_101 : decode cX11_readAct 101 = .ok (.invokevirtual 140, 3) := by decide +kernel
theorem dX11_readAct_104 : decode cX11_readAct 104 = .ok (.iastore, 1) := by decide +kernel
theorem dX11_readAct_105 : decode cX11_readAct 105 = .ok (.iload_n 2, 1) := by decide +kernel
theorem dX11_readAct_106 : decode cX11_readAct 106 = .ok (.bipush 109, 2) := by decide +kernel
theorem dX11_readAct_108 : decode cX11_readAct 108 = .ok (.if_icmp .ne 17, 3) := by decide +kernel
theorem dX11_readAct_111 : decode cX11_readAct 111 = .ok (.aload_n 0, 1) := by decide +kernel
theorem dX11_readAct_112 : decode cX11_readAct 112 = .ok (.getfield 52, 3) := by decide +kernel
theorem dX11_readAct_115 : decode cX11_readAct 115 = .ok (.iload_n 1, 1) := by decide +kernel
theorem dX11_readAct_116 : decode cX11_readAct 116 = .ok (.iconst 2, 1) := by decide +kernel
theorem dX11_readAct_117 : decode cX11_readAct 117 = .ok (.iadd, 1) := by decide +kernel
theorem dX11_readAct_118 : decode cX11_readAct 118 = .ok (.aload_n 0, 1) := by decide +kernel
theorem dX11_readAct_119 : decode cX11_readAct 119 = .ok (.bipush 6, 2) := by decide +kernel
theorem dX11_readAct_121 : decode cX11_readAct 121 = .ok (.invokevirtual 150, 3) := by decide +kernel
theorem dX11_readAct_124 : decode cX11_readAct 124 = .ok (.iastore, 1) := by decide +kernel
theorem dX11_readAct_125 : decode cX11_readAct 125 = .ok (.iload_n 2, 1) := by decide +kernel
theorem dX11_readAct_126 : decode cX11_readAct 126 = .ok (.bipush 112, 2) := by decide +kernel
theorem dX11_readAct_128 : decode cX11_readAct 128 = .ok (.if_icmp .ne 21, 3) := by decide +kernel
theorem dX11_readAct_131 : decode cX11_readAct 131 = .ok (.aload_n 0, 1) := by decide +kernel
theorem dX11_readAct_132 : decode cX11_readAct 132 = .ok (.getfield 52, 3) := by decide +kernel
theorem dX11_readAct_135 : decode cX11_readAct 135 = .ok (.iload_n 1, 1) := by decide +kernel
theorem dX11_readAct_136 : decode cX11_readAct 136 = .ok (.iconst 2, 1) := by decide +kernel
theorem dX11_readAct_137 : decode cX11_readAct 137 = .ok (.iadd, 1) := by decide +kernel
theorem dX11_readAct_138 : decode cX11_readAct 138 = .ok (.aload_n 0, 1) := by decide +kernel
theorem dX11_readAct_139 : decode cX11_readAct 139 = .ok (.bipush 49, 2) := by decide +kernel
theorem dX11_readAct_141 : decode cX11_readAct 141 = .ok (.bipush 9, 2) := by decide +kernel
theorem dX11_readAct_143 : decode cX11_readAct 143 = .ok (.invokevirtual 140, 3) := by decide +kernel
theorem dX11_readAct_146 : decode cX11_readAct 146 = .ok (.iconst 1, 1) := by decide +kernel
theorem dX11_readAct_147 : decode cX11_readAct 147 = .ok (.iadd, 1) := by decide +kernel
theorem dX11_readAct_148 : decode cX11_readAct 148 = .ok (.iastore, 1) := by decide +kernel
theorem dX11_readAct_149 : decode cX11_readAct 149 = .ok (.return_, 1) := by decide +kernel
theorem dX11_act_0 : decode cX11_act 0 = .ok (.iload_n 1, 1) := by decide +kernel
theorem dX11_act_1 : decode cX11_act 1 = .ok (.lookupswitch 162 #[(101, 108), (109, 85), (110, 51), (112, 130), (116, 62)], 51) := by decide +kernel
theorem dX11_act_52 : decode cX11_act 52 = .ok (.aload_n 0, 1) := by decide +kernel
theorem dX11_act_53 : decode cX11_act 53 = .ok (.aload_n 0, 1) := by decide +kernel
theorem dX11_act_54 : decode cX11_act 54 = .ok (.getfield 9, 3) := by decide +kernel
theorem dX11_act_57 : decode cX11_act 57 = .ok (.iload_n 2, 1) := by decide +kernel
theorem dX11_act_58 : decode cX11_act 58 = .ok (.invokevirtual 249, 3) := by decide +kernel
theorem dX11_act_61 : decode cX11_act 61 = .ok (.iconst 1, 1) := by decide +kernel
theorem dX11_act_62 : decode cX11_act 62 = .ok (.ireturn, 1) := by decide +kernel
theorem dX11_act_63 : decode cX11_act 63 = .ok (.aload_n 0, 1) := by decide +kernel
theorem dX11_act_64 : decode cX11_act 64 = .ok (.iload_n 2, 1) := by decide +kernel
theorem dX11_act_65 : decode cX11_act 65 = .ok (.iload_n 3, 1) := by decide +kernel
theorem dX11_act_66 : decode cX11_act 66 = .ok (.invokevirtual 256, 3) := by decide +kernel
theorem dX11_act_69 : decode cX11_act 69 = .ok (.ifCond .ge 5, 3) := by decide +kernel
theorem dX11_act_72 : decode cX11_act 72 = .ok (.iconst 0, 1) := by decide +kernel
theorem dX11_act_73 : decode cX11_act 73 = .ok (.ireturn, 1) := by decide +kernel
theorem dX11_act_74 : decode cX11_act 74 = .ok (.aload_n 0, 1) := by decide +kernel
theorem dX11_act_75 : decode cX11_act 75 = .ok (.getfield 9, 3) := by decide +kernel
theorem dX11_act_78 : decode cX11_act 78 = .ok (.bipush 7, 2) := by decide +kernel
theorem dX11_act_80 : decode cX11_act 80 = .ok (.iload_n 2, 1) := by decide +kernel
theorem dX11_act_81 : decode cX11_act 81 = .ok (.iadd, 1) := by decide +kernel
theorem dX11_act_82 : decode cX11_act 82 = .ok (.iload_n 3, 1) := by decide +kernel
theorem dX11_act_83 : decode cX11_act 83 = .ok (.iastore, 1) := by decide +kernel
theorem dX11_act_84 : decode cX11_act 84 = .ok (.iconst 1, 1) := by decide +kernel
theorem dX11_act_85 : decode cX11_act 85 = .ok (.ireturn, 1) := by decide +kernel
theorem dX11_act_86 : decode cX11_act 86 = .ok (.aload_n 0, 1) := by decide +kernel
theorem dX11_act_87 : decode cX11_act 87 = .ok (.iload_n 2, 1) := by decide +kernel
theorem dX11_act_88 : decode cX11_act 88 = .ok (.iload_n 3, 1) := by decide +kernel
theorem dX11_act_89 : decode cX11_act 89 = .ok (.invokevirtual 259, 3) := by decide +kernel
theorem dX11_act_92 : decode cX11_act 92 = .ok (.ifCond .ge 5, 3) := by decide +kernel
theorem dX11_act_95 : decode cX11_act 95 = .ok (.iconst 0, 1) := by decide +kernel
theorem dX11_act_96 : decode cX11_act 96 = .ok (.ireturn, 1) := by decide +kernel
theorem dX11_act_97 : decode cX11_act 97 = .ok (.aload_n 0, 1) := by decide +kernel
theorem dX11_act_98 : decode cX11_act 98 = .ok (.getfield 9, 3) := by decide +kernel
theorem dX11_act_101 : decode cX11_act 101 = .ok (.bipush 14, 2) := by decide +kernel
theorem dX11_act_103 : decode cX11_act 103 = .ok (.iload_n 2, 1) := by decide +kernel
theorem dX11_act_104 : decode cX11_act 104 = .ok (.iadd, 1) := by decide +kernel
theorem dX11_act_105 : decode cX11_act 105 = .ok (.iload_n 3, 1) := by decide +kernel
theorem dX11_act_106 : decode cX11_act 106 = .ok (.iastore, 1) := by decide +kernel
theorem dX11_act_107 : decode cX11_act 107 = .ok (.iconst 1, 1) := by decide +kernel
theorem dX11_act_108 : decode cX11_act 108 = .ok (.ireturn, 1) := by decide +kernel
theorem dX11_act_109 : decode cX11_act 109 = .ok (.aload_n 0, 1) := by decide +kernel
theorem dX11_act_110 : decode cX11_act 110 = .ok (.iload_n 2, 1) := by decide +kernel
theorem dX11_act_111 : decode cX11_act 111 = .ok (.invokevirtual 262, 3) := by decide +kernel
theorem dX11_act_114 : decode cX11_act 114 = .ok (.ifCond .ge 5, 3) := by decide +kernel
theorem dX11_act_117 : decode cX11_act 117 = .ok (.iconst 0, 1) := by decide +kernel
theorem dX11_act_118 : decode cX11_act 118 = .ok (.ireturn, 1) := by decide +kernel
theorem dX11_act_119 : decode cX11_act 119 = .ok (.aload_n 0, 1) := by decide +kernel
theorem dX11_act_120 : decode cX11_act 120 = .ok (.getfield 9, 3) := by decide +kernel
theorem dX11_act_123 : decode cX11_act 123 = .ok (.iload_n 2, 1) := by decide +kernel
theorem dX11_act_124 : decode cX11_act 124 = .ok (.dup2, 1) := by decide +kernel
theorem dX11_act_125 : decode cX11_act 125 = .ok (.iaload, 1) := by decide +kernel
theorem dX11_act_126 : decode cX11_act 126 = .ok (.iconst 1, 1) := by decide +kernel
theorem dX11_act_127 : decode cX11_act 127 = .ok (.isub, 1) := by decide +kernel
theorem dX11_act_128 : decode cX11_act 128 = .ok (.iastore, 1) := by decide +kernel
theorem dX11_act_129 : decode cX11_act 129 = .ok (.iconst 1, 1) := by decide +kernel
theorem dX11_act_130 : decode cX11_act 130 = .ok (.ireturn, 1) := by decide +kernel
theorem dX11_act_131 : decode cX11_act 131 = .ok (.aload_n 0, 1) := by decide +kernel
theorem dX11_act_132 : decode cX11_act 132 = .ok (.iload_n 2, 1) := by decide +kernel
theorem dX11_act_133 : decode cX11_act 133 = .ok (.iload_n 3, 1) := by decide +kernel
theorem dX11_act_134 : decode cX11_act 134 = .ok (.invokevirtual 265, 3) := by decide +kernel
theorem dX11_act_137 : decode cX11_act 137 = .ok (.ifCond .ge 5, 3) := by decide +kernel
theorem dX11_act_140 : decode cX11_act 140 = .ok (.iconst 0, 1) := by decide +kernel
theorem dX11_act_141 : decode cX11_act 141 = .ok (.ireturn, 1) := by decide +kernel
theorem dX11_act_142 : decode cX11_act 142 = .ok (.aload_n 0, 1) := by decide +kernel
theorem dX11_act_143 : decode cX11_act 143 = .ok (.getfield 9, 3) := by decide +kernel
theorem dX11_act_146 : decode cX11_act 146 = .ok (.iload_n 2, 1) := by decide +kernel
theorem dX11_act_147 : decode cX11_act 147 = .ok (.bipush 9, 2) := by decide +kernel
theorem dX11_act_149 : decode cX11_act 149 = .ok (.aload_n 0, 1) := by decide +kernel
theorem dX11_act_150 : decode cX11_act 150 = .ok (.getfield 9, 3) := by decide +kernel
theorem dX11_act_153 : decode cX11_act 153 = .ok (.iload_n 2, 1) := by decide +kernel
theorem dX11_act_154 : decode cX11_act 154 = .ok (.iaload, 1) := by decide +kernel
theorem dX11_act_155 : decode cX11_act 155 = .ok (.iload_n 3, 1) := by decide +kernel
theorem dX11_act_156 : decode cX11_act 156 = .ok (.iadd, 1) := by decide +kernel
theorem dX11_act_157 : decode cX11_act 157 = .ok (.invokestatic 197, 3) := by decide +kernel
theorem dX11_act_160 : decode cX11_act 160 = .ok (.iastore, 1) := by decide +kernel
theorem dX11_act_161 : decode cX11_act 161 = .ok (.iconst 1, 1) := by decide +kernel
theorem dX11_act_162 : decode cX11_act 162 = .ok (.ireturn, 1) := by decide +kernel
theorem dX11_act_163 : decode cX11_act 163 = .ok (.aload_n 0, 1) := by decide +kernel
theorem dX11_act_164 : decode cX11_act 164 = .ok (.iload_n 2, 1) := by decide +kernel
theorem dX11_act_165 : decode cX11_act 165 = .ok (.invokevirtual 268, 3) := by decide +kernel
theorem dX11_act_168 : decode cX11_act 168 = .ok (.ifCond .ge 5, 3) := by decide +kernel
theorem dX11_act_171 : decode cX11_act 171 = .ok (.iconst 0, 1) := by decide +kernel
theorem dX11_act_172 : decode cX11_act 172 = .ok (.ireturn, 1) := by decide +kernel
theorem dX11_act_173 : decode cX11_act 173 = .ok (.aload_n 0, 1) := by decide +kernel
theorem dX11_act_174 : decode cX11_act 174 = .ok (.getfield 9, 3) := by decide +kernel
theorem dX11_act_177 : decode cX11_act 177 = .ok (.bipush 21, 2) := by decide +kernel
theorem dX11_act_179 : decode cX11_act 179 = .ok (.iload_n 2, 1) := by decide +kernel
theorem dX11_act_180 : decode cX11_act 180 = .ok (.iastore, 1) := by decide +kernel
theorem dX11_act_181 : decode cX11_act 181 = .ok (.iconst 1, 1) := by decide +kernel
theorem dX11_act_182 : decode cX11_act 182 = .ok (.ireturn, 1) := by decide +kernel
theorem dX11_undo_0 : decode cX11_undo 0 = .ok (.aload_n 0, 1) := by decide +kernel
theorem dX11_undo_1 : decode cX11_undo 1 = .ok (.iconst 0, 1) := by decide +kernel
theorem dX11_undo_2 : decode cX11_undo 2 = .ok (.putfield 89, 3) := by decide +kernel
theorem dX11_undo_5 : decode cX11_undo 5 = .ok (.aload_n 0, 1) := by decide +kernel
theorem dX11_undo_6 : decode cX11_undo 6 = .ok (.getfield 154, 3) := by decide +kernel
theorem dX11_undo_9 : decode cX11_undo 9 = .ok (.ifCond .ne 5, 3) := by decide +kernel
theorem dX11_undo_12 : decode cX11_undo 12 = .ok (.iconst (-1), 1) := by decide +kernel
theorem dX11_undo_13 : decode cX11_undo 13 = .ok (.ireturn, 1) := by decide +kernel
theorem dX11_undo_14 : decode cX11_undo 14 = .ok (.aload_n 0, 1) := by decide +kernel
theorem dX11_undo_15 : decode cX11_undo 15 = .ok (.dup, 1) := by decide +kernel
theorem dX11_undo_16 : decode cX11_undo 16 = .ok (.getfield 154, 3) := by decide +kernel
theorem dX11_undo_19 : decode cX11_undo 19 = .ok (.iconst 1, 1) := by decide +kernel
theorem dX11_undo_20 : decode cX11_undo 20 = .ok (.isub, 1) := by decide +kernel
theorem dX11_undo_21 : decode cX11_undo 21 = .ok (.putfield 154, 3) := by decide +kernel
theorem dX11_undo_24 : decode cX11_undo 24 = .ok (.iconst 0, 1) := by decide +kernel
theorem dX11_undo_25 : decode cX11_undo 25 = .ok (.istore_n 1, 1) := by decide +kernel
theorem dX11_undo_26 : decode cX11_undo 26 = .ok (.iload_n 1, 1) := by decide +kernel
theorem dX11_undo_27 : decode cX11_undo 27 = .ok (.bipush 26, 2) := by decide +kernel
theorem dX11_undo_29 : decode cX11_undo 29 = .ok (.if_icmp .ge 29, 3) := by decide +kernel
theorem dX11_undo_32 : decode cX11_undo 32 = .ok (.aload_n 0, 1) := by decide +kernel
theorem dX11_undo_33 : decode cX11_undo 33 = .ok (.getfield 9, 3) := by decide +kernel
theorem dX11_undo_36 : decode cX11_undo 36 = .ok (.iload_n 1, 1) := by decide +kernel
theorem dX11_undo_37 : decode cX11_undo 37 = .ok (.aload_n 0, 1) := by decide +kernel
theorem dX11_undo_38 : decode cX11_undo 38 = .ok (.getfield 43, 3) := by decide +kernel
theorem dX11_undo_41 : decode cX11_undo 41 = .ok (.bipush 26, 2) := by decide +kernel
theorem dX11_undo_43 : decode cX11_undo 43 = .ok (.aload_n 0, 1) := by decide +kernel
theorem dX11_undo_44 : decode cX11_undo 44 = .ok (.getfield 154, 3) := by decide +kernel
theorem dX11_undo_47 : decode cX11_undo 47 = .ok (.imul, 1) := by decide +kernel
theorem dX11_undo_48 : decode cX11_undo 48 = .ok (.iload_n 1, 1) := by decide +kernel
theorem dX11_undo_49 : decode cX11_undo 49 = .ok (.iadd, 1) := by decide +kernel
theorem dX11_undo_50 : decode cX11_undo 50 = .ok (.iaload, 1) := by decide +kernel
theorem dX11_undo_51 : decode cX11_undo 51 = .ok (.iastore, 1) := by decide +kernel
theorem dX11_undo_52 : decode cX11_undo 52 = .ok (.iinc 1 1, 3) := by decide +kernel
theorem dX11_undo_55 : decode cX11_undo 55 = .ok (.goto (-29), 3) := by decide +kernel
theorem dX11_undo_58 : decode cX11_undo 58 = .ok (.aload_n 0, 1) := by decide +kernel
theorem dX11_undo_59 : decode cX11_undo 59 = .ok (.getfield 154, 3) := by decide +kernel
theorem dX11_undo_62 : decode cX11_undo 62 = .ok (.ireturn, 1) := by decide +kernel
theorem dX11_moment_0 : decode cX11_moment 0 = .ok (.aload_n 0, 1) := by decide +kernel
theorem dX11_moment_1 : decode cX11_moment 1 = .ok (.iconst 0, 1) := by decide +kernel
theorem dX11_moment_2 : decode cX11_moment 2 = .ok (.putfield 89, 3) := by decide +kernel
theorem dX11_moment_5 : decode cX11_moment 5 = .ok (.iconst 0, 1) := by decide +kernel
theorem dX11_moment_6 : decode cX11_moment 6 = .ok (.istore_n 1, 1) := by decide +kernel
theorem dX11_moment_7 : decode cX11_moment 7 = .ok (.iconst 0, 1) := by decide +kernel
theorem dX11_moment_8 : decode cX11_moment 8 = .ok (.istore_n 2, 1) := by decide +kernel
theorem dX11_moment_9 : decode cX11_moment 9 = .ok (.iconst 0, 1) := by decide +kernel
theorem dX11_moment_10 : decode cX11_moment 10 = .ok (.istore_n 3, 1) := by decide +kernel
theorem dX11_moment_11 : decode cX11_moment 11 = .ok (.iload_n 3, 1) := by decide +kernel
theorem dX11_moment_12 : decode cX11_moment 12 = .ok (.aload_n 0, 1) := by decide +kernel
theorem dX11_moment_13 : decode cX11_moment 13 = .ok (.getfield 95, 3) := by decide +kernel
theorem dX11_moment_16 : decode cX11_moment 16 = .ok (.if_icmp .ge 49, 3) := by decide +kernel
theorem dX11_moment_19 : decode cX11_moment 19 = .ok (.aload_n 0, 1) := by decide +kernel
theorem dX11_moment_20 : decode cX11_moment 20 = .ok (.aload_n 0, 1) := by decide +kernel
theorem dX11_moment_21 : decode cX11_moment 21 = .ok (.getfield 9, 3) := by decide +kernel
theorem dX11_moment_24 : decode cX11_moment 24 = .ok (.iload_n 3, 1) := by decide +kernel
theorem dX11_moment_25 : decode cX11_moment 25 = .ok (.invokevirtual 204, 3) := by decide +kernel
theorem dX11_moment_28 : decode cX11_moment 28 = .ok (.aload_n 0, 1) := by decide +kernel
theorem dX11_moment_29 : decode cX11_moment 29 = .ok (.getfield 9, 3) := by decide +kernel
theorem dX11_moment_32 : decode cX11_moment 32 = .ok (.bipush 14, 2) := by decide +kernel
theorem dX11_moment_34 : decode cX11_moment 34 = .ok (.iload_n 3, 1) := by decide +kernel
theorem dX11_moment_35 : decode cX11_moment 35 = .ok (.iadd, 1) := by decide +kernel
theorem dX11_moment_36 : decode cX11_moment 36 = .ok (.iaload, 1) := by decide +kernel
theorem dX11_moment_37 : decode cX11_moment 37 = .ok (.imul, 1) := by decide +kernel
theorem dX11_moment_38 : decode cX11_moment 38 = .ok (.istore 4, 2) := by decide +kernel
theorem dX11_moment_40 : decode cX11_moment 40 = .ok (.iload_n 1, 1) := by decide +kernel
theorem dX11_moment_41 : decode cX11_moment 41 = .ok (.iconst 0, 1) := by decide +kernel
theorem dX11_moment_42 : decode cX11_moment 42 = .ok (.iload 4, 2) := by decide +kernel
theorem dX11_moment_44 : decode cX11_moment 44 = .ok (.invokestatic 201, 3) := by decide +kernel
theorem dX11_moment_47 : decode cX11_moment 47 = .ok (.iadd, 1) := by decide +kernel
theorem dX11_moment_48 : decode cX11_moment 48 = .ok (.istore_n 1, 1) := by decide +kernel
theorem dX11_moment_49 : decode cX11_moment 49 = .ok (.iload_n 2, 1) := by decide +kernel
theorem dX11_moment_50 : decode cX11_moment 50 = .ok (.iconst 0, 1) := by decide +kernel
theorem dX11_moment_51 : decode cX11_moment 51 = .ok (.iload 4, 2) := by decide +kernel
theorem dX11_moment_53 : decode cX11_moment 53 = .ok (.ineg, 1) := by decide +kernel
theorem dX11_moment_54 : decode cX11_moment 54 = .ok (.invokestatic 201, 3) := by decide +kernel
theorem dX11_moment_57 : decode cX11_moment 57 = .ok (.iadd, 1) := by decide +kernel
theorem dX11_moment_58 : decode cX11_moment 58 = .ok (.istore_n 2, 1) := by decide +kernel
theorem dX11_moment_59 : decode cX11_moment 59 = .ok (.iinc 3 1, 3) := by decide +kernel
theorem dX11_moment_62 : decode cX11_moment 62 = .ok (.goto (-51), 3) := by decide +kernel
theorem dX11_moment_65 : decode cX11_moment 65 = .ok (.aload_n 0, 1) := by decide +kernel
theorem dX11_moment_66 : decode cX11_moment 66 = .ok (.iconst 0, 1) := by decide +kernel
theorem dX11_moment_67 : decode cX11_moment 67 = .ok (.putfield 92, 3) := by decide +kernel
theorem dX11_moment_70 : decode cX11_moment 70 = .ok (.aload_n 0, 1) := by decide +kernel
theorem dX11_moment_71 : decode cX11_moment 71 = .ok (.bipush 100, 2) := by decide +kernel
theorem dX11_moment_73 : decode cX11_moment 73 = .ok (.aload_n 0, 1) := by decide +kernel
theorem dX11_moment_74 : decode cX11_moment 74 = .ok (.aload_n 0, 1) := by decide +kernel
theorem dX11_moment_75 : decode cX11_moment 75 = .ok (.getfield 9, 3) := by decide +kernel
theorem dX11_moment_78 : decode cX11_moment 78 = .ok (.invokevirtual 277, 3) := by decide +kernel
theorem dX11_moment_81 : decode cX11_moment 81 = .ok (.iadd, 1) := by decide +kernel
theorem dX11_moment_82 : decode cX11_moment 82 = .ok (.i2l, 1) := by decide +kernel
theorem dX11_moment_83 : decode cX11_moment 83 = .ok (.invokevirtual 252, 3) := by decide +kernel
theorem dX11_moment_86 : decode cX11_moment 86 = .ok (.aload_n 0, 1) := by decide +kernel
theorem dX11_moment_87 : decode cX11_moment 87 = .ok (.iload_n 1, 1) := by decide +kernel
theorem dX11_moment_88 : decode cX11_moment 88 = .ok (.i2l, 1) := by decide +kernel
theorem dX11_moment_89 : decode cX11_moment 89 = .ok (.invokevirtual 252, 3) := by decide +kernel
theorem dX11_moment_92 : decode cX11_moment 92 = .ok (.aload_n 0, 1) := by decide +kernel
theorem dX11_moment_93 : decode cX11_moment 93 = .ok (.iload_n 2, 1) := by decide +kernel
theorem dX11_moment_94 : decode cX11_moment 94 = .ok (.i2l, 1) := by decide +kernel
theorem dX11_moment_95 : decode cX11_moment 95 = .ok (.invokevirtual 252, 3) := by decide +kernel
theorem dX11_moment_98 : decode cX11_moment 98 = .ok (.sipush 1000, 3) := by decide +kernel
theorem dX11_moment_101 : decode cX11_moment 101 = .ok (.aload_n 0, 1) := by decide +kernel
theorem dX11_moment_102 : decode cX11_moment 102 = .ok (.aload_n 0, 1) := by decide +kernel
theorem dX11_moment_103 : decode cX11_moment 103 = .ok (.getfield 9, 3) := by decide +kernel
theorem dX11_moment_106 : decode cX11_moment 106 = .ok (.aload_n 0, 1) := by decide +kernel
theorem dX11_moment_107 : decode cX11_moment 107 = .ok (.aload_n 0, 1) := by decide +kernel
theorem dX11_moment_108 : decode cX11_moment 108 = .ok (.getfield 9, 3) := by decide +kernel
theorem dX11_moment_111 : decode cX11_moment 111 = .ok (.invokevirtual 211, 3) := by decide +kernel
theorem dX11_moment_114 : decode cX11_moment 114 = .ok (.invokevirtual 215, 3) := by decide +kernel
theorem dX11_moment_117 : decode cX11_moment 117 = .ok (.iadd, 1) := by decide +kernel
theorem dX11_moment_118 : decode cX11_moment 118 = .ok (.ireturn, 1) := by decide +kernel
theorem dX11_goThen_0 : decode cX11_goThen 0 = .ok (.aload_n 0, 1) := by decide +kernel
theorem dX11_goThen_1 : decode cX11_goThen 1 = .ok (.getfield 9, 3) := by decide +kernel
theorem dX11_goThen_4 : decode cX11_goThen 4 = .ok (.aload_n 0, 1) := by decide +kernel
theorem dX11_goThen_5 : decode cX11_goThen 5 = .ok (.getfield 49, 3) := by decide +kernel
theorem dX11_goThen_8 : decode cX11_goThen 8 = .ok (.iconst 0, 1) := by decide +kernel
theorem dX11_goThen_9 : decode cX11_goThen 9 = .ok (.invokestatic 231, 3) := by decide +kernel
theorem dX11_goThen_12 : decode cX11_goThen 12 = .ok (.aload_n 0, 1) := by decide +kernel
theorem dX11_goThen_13 : decode cX11_goThen 13 = .ok (.aload_n 0, 1) := by decide +kernel
theorem dX11_goThen_14 : decode cX11_goThen 14 = .ok (.getfield 49, 3) := by decide +kernel
theorem dX11_goThen_17 : decode cX11_goThen 17 = .ok (.iload_n 1, 1) := by decide +kernel
theorem dX11_goThen_18 : decode cX11_goThen 18 = .ok (.invokevirtual 249, 3) := by decide +kernel
theorem dX11_goThen_21 : decode cX11_goThen 21 = .ok (.return_, 1) := by decide +kernel
theorem dX11_later_0 : decode cX11_later 0 = .ok (.aload_n 0, 1) := by decide +kernel
theorem dX11_later_1 : decode cX11_later 1 = .ok (.iconst 0, 1) := by decide +kernel
theorem dX11_later_2 : decode cX11_later 2 = .ok (.putfield 89, 3) := by decide +kernel
theorem dX11_later_5 : decode cX11_later 5 = .ok (.iload_n 1, 1) := by decide +kernel
theorem dX11_later_6 : decode cX11_later 6 = .ok (.iconst 0, 1) := by decide +kernel
theorem dX11_later_7 : decode cX11_later 7 = .ok (.bipush 99, 2) := by decide +kernel
theorem dX11_later_9 : decode cX11_later 9 = .ok (.invokestatic 98, 3) := by decide +kernel
theorem dX11_later_12 : decode cX11_later 12 = .ok (.ifCond .ne 5, 3) := by decide +kernel
theorem dX11_later_15 : decode cX11_later 15 = .ok (.iconst (-1), 1) := by decide +kernel
theorem dX11_later_16 : decode cX11_later 16 = .ok (.ireturn, 1) := by decide +kernel
theorem dX11_later_17 : decode cX11_later 17 = .ok (.aload_n 0, 1) := by decide +kernel
theorem dX11_later_18 : decode cX11_later 18 = .ok (.iload_n 1, 1) := by decide +kernel
theorem dX11_later_19 : decode cX11_later 19 = .ok (.invokevirtual 280, 3) := by decide +kernel
theorem dX11_later_22 : decode cX11_later 22 = .ok (.aload_n 0, 1) := by decide +kernel
theorem dX11_later_23 : decode cX11_later 23 = .ok (.iconst 0, 1) := by decide +kernel
theorem dX11_later_24 : decode cX11_later 24 = .ok (.putfield 92, 3) := by decide +kernel
theorem dX11_later_27 : decode cX11_later 27 = .ok (.aload_n 0, 1) := by decide +kernel
theorem dX11_later_28 : decode cX11_later 28 = .ok (.aload_n 0, 1) := by decide +kernel
theorem dX11_later_29 : decode cX11_later 29 = .ok (.getfield 49, 3) := by decide +kernel
theorem dX11_later_32 : decode cX11_later 32 = .ok (.bipush 23, 2) := by decide +kernel
theorem dX11_later_34 : decode cX11_later 34 = .ok (.iaload, 1) := by decide +kernel
theorem dX11_later_35 : decode cX11_later 35 = .ok (.aload_n 0, 1) := by decide +kernel
theorem dX11_later_36 : decode cX11_later 36 = .ok (.getfield 9, 3) := by decide +kernel
theorem dX11_later_39 : decode cX11_later 39 = .ok (.bipush 23, 2) := by decide +kernel
theorem dX11_later_41 : decode cX11_later 41 = .ok (.iaload, 1) := by decide +kernel
theorem dX11_later_42 : decode cX11_later 42 = .ok (.isub, 1) := by decide +kernel
theorem dX11_later_43 : decode cX11_later 43 = .ok (.i2l, 1) := by decide +kernel
theorem dX11_later_44 : decode cX11_later 44 = .ok (.invokevirtual 252, 3) := by decide +kernel
theorem dX11_later_47 : decode cX11_later 47 = .ok (.aload_n 0, 1) := by decide +kernel
theorem dX11_later_48 : decode cX11_later 48 = .ok (.aload_n 0, 1) := by decide +kernel
theorem dX11_later_49 : decode cX11_later 49 = .ok (.getfield 49, 3) := by decide +kernel
theorem dX11_later_52 : decode cX11_later 52 = .ok (.bipush 21, 2) := by decide +kernel
theorem dX11_later_54 : decode cX11_later 54 = .ok (.iaload, 1) := by decide +kernel
theorem dX11_later_55 : decode cX11_later 55 = .ok (.i2l, 1) := by decide +kernel
theorem dX11_later_56 : decode cX11_later 56 = .ok (.invokevirtual 252, 3) := by decide +kernel
theorem dX11_later_59 : decode cX11_later 59 = .ok (.bipush 100, 2) := by decide +kernel
theorem dX11_later_61 : decode cX11_later 61 = .ok (.aload_n 0, 1) := by decide +kernel
theorem dX11_later_62 : decode cX11_later 62 = .ok (.getfield 49, 3) := by decide +kernel
theorem dX11_later_65 : decode cX11_later 65 = .ok (.bipush 22, 2) := by decide +kernel
theorem dX11_later_67 : decode cX11_later 67 = .ok (.iaload, 1) := by decide +kernel
theorem dX11_later_68 : decode cX11_later 68 = .ok (.iadd, 1) := by decide +kernel
theorem dX11_later_69 : decode cX11_later 69 = .ok (.ireturn, 1) := by decide +kernel
theorem dX11_over_0 : decode cX11_over 0 = .ok (.aload_n 0, 1) := by decide +kernel
theorem dX11_over_1 : decode cX11_over 1 = .ok (.iconst 0, 1) := by decide +kernel
theorem dX11_over_2 : decode cX11_over 2 = .ok (.putfield 89, 3) := by decide +kernel
theorem dX11_over_5 : decode cX11_over 5 = .ok (.aload_n 0, 1) := by decide +kernel
theorem dX11_over_6 : decode cX11_over 6 = .ok (.iconst 0, 1) := by decide +kernel
theorem dX11_over_7 : decode cX11_over 7 = .ok (.invokevirtual 280, 3) := by decide +kernel
theorem dX11_over_10 : decode cX11_over 10 = .ok (.iconst 1, 1) := by decide +kernel
theorem dX11_over_11 : decode cX11_over 11 = .ok (.istore_n 1, 1) := by decide +kernel
theorem dX11_over_12 : decode cX11_over 12 = .ok (.iload_n 1, 1) := by decide +kernel
theorem dX11_over_13 : decode cX11_over 13 = .ok (.bipush 99, 2) := by decide +kernel
theorem dX11_over_15 : decode cX11_over 15 = .ok (.if_icmp .gt 49, 3) := by decide +kernel
theorem dX11_over_18 : decode cX11_over 18 = .ok (.aload_n 0, 1) := by decide +kernel
theorem dX11_over_19 : decode cX11_over 19 = .ok (.aload_n 0, 1) := by decide +kernel
theorem dX11_over_20 : decode cX11_over 20 = .ok (.getfield 49, 3) := by decide +kernel
theorem dX11_over_23 : decode cX11_over 23 = .ok (.invokevirtual 242, 3) := by decide +kernel
theorem dX11_over_26 : decode cX11_over 26 = .ok (.aload_n 0, 1) := by decide +kernel
theorem dX11_over_27 : decode cX11_over 27 = .ok (.getfield 235, 3) := by decide +kernel
theorem dX11_over_30 : decode cX11_over 30 = .ok (.ifCond .ne 6, 3) := by decide +kernel
theorem dX11_over_33 : decode cX11_over 33 = .ok (.goto 25, 3) := by decide +kernel
theorem dX11_over_36 : decode cX11_over 36 = .ok (.aload_n 0, 1) := by decide +kernel
theorem dX11_over_37 : decode cX11_over 37 = .ok (.iconst 0, 1) := by decide +kernel
theorem dX11_over_38 : decode cX11_over 38 = .ok (.putfield 92, 3) := by decide +kernel
theorem dX11_over_41 : decode cX11_over 41 = .ok (.aload_n 0, 1) := by decide +kernel
theorem dX11_over_42 : decode cX11_over 42 = .ok (.bipush 100, 2) := by decide +kernel
theorem dX11_over_44 : decode cX11_over 44 = .ok (.aload_n 0, 1) := by decide +kernel
theorem dX11_over_45 : decode cX11_over 45 = .ok (.getfield 49, 3) := by decide +kernel
theorem dX11_over_48 : decode cX11_over 48 = .ok (.bipush 22, 2) := by decide +kernel
theorem dX11_over_50 : decode cX11_over 50 = .ok (.iaload, 1) := by decide +kernel
theorem dX11_over_51 : decode cX11_over 51 = .ok (.iadd, 1) := by decide +kernel
theorem dX11_over_52 : decode cX11_over 52 = .ok (.i2l, 1) := by decide +kernel
theorem dX11_over_53 : decode cX11_over 53 = .ok (.invokevirtual 252, 3) := by decide +kernel
theorem dX11_over_56 : decode cX11_over 56 = .ok (.iload_n 1, 1) := by decide +kernel
theorem dX11_over_57 : decode cX11_over 57 = .ok (.ireturn, 1) := by decide +kernel
theorem dX11_over_58 : decode cX11_over 58 = .ok (.iinc 1 1, 3) := by decide +kernel
theorem dX11_over_61 : decode cX11_over 61 = .ok (.goto (-49), 3) := by decide +kernel
theorem dX11_over_64 : decode cX11_over 64 = .ok (.bipush (-2), 2) := by decide +kernel
theorem dX11_over_66 : decode cX11_over 66 = .ok (.ireturn, 1) := by decide +kernel
theorem dX11_when_0 : decode cX11_when 0 = .ok (.aload_n 0, 1) := by decide +kernel
theorem dX11_when_1 : decode cX11_when 1 = .ok (.iconst 0, 1) := by decide +kernel
theorem dX11_when_2 : decode cX11_when 2 = .ok (.putfield 89, 3) := by decide +kernel
theorem dX11_when_5 : decode cX11_when 5 = .ok (.iload_n 1, 1) := by decide +kernel
theorem dX11_when_6 : decode cX11_when 6 = .ok (.bipush (-20), 2) := by decide +kernel
theorem dX11_when_8 : decode cX11_when 8 = .ok (.bipush 20, 2) := by decide +kernel
theorem dX11_when_10 : decode cX11_when 10 = .ok (.invokestatic 98, 3) := by decide +kernel
theorem dX11_when_13 : decode cX11_when 13 = .ok (.ifCond .ne 5, 3) := by decide +kernel
theorem dX11_when_16 : decode cX11_when 16 = .ok (.iconst (-1), 1) := by decide +kernel
theorem dX11_when_17 : decode cX11_when 17 = .ok (.ireturn, 1) := by decide +kernel
theorem dX11_when_18 : decode cX11_when 18 = .ok (.bipush (-2), 2) := by decide +kernel
theorem dX11_when_20 : decode cX11_when 20 = .ok (.istore_n 2, 1) := by decide +kernel
theorem dX11_when_21 : decode cX11_when 21 = .ok (.iconst 0, 1) := by decide +kernel
theorem dX11_when_22 : decode cX11_when 22 = .ok (.istore_n 3, 1) := by decide +kernel
theorem dX11_when_23 : decode cX11_when 23 = .ok (.aload_n 0, 1) := by decide +kernel
theorem dX11_when_24 : decode cX11_when 24 = .ok (.getfield 9, 3) := by decide +kernel
theorem dX11_when_27 : decode cX11_when 27 = .ok (.aload_n 0, 1) := by decide +kernel
theorem dX11_when_28 : decode cX11_when 28 = .ok (.getfield 49, 3) := by decide +kernel
theorem dX11_when_31 : decode cX11_when 31 = .ok (.iconst 0, 1) := by decide +kernel
theorem dX11_when_32 : decode cX11_when 32 = .ok (.invokestatic 231, 3) := by decide +kernel
theorem dX11_when_35 : decode cX11_when 35 = .ok (.iconst 0, 1) := by decide +kernel
theorem dX11_when_36 : decode cX11_when 36 = .ok (.istore 4, 2) := by decide +kernel
theorem dX11_when_38 : decode cX11_when 38 = .ok (.iload 4, 2) := by decide +kernel
theorem dX11_when_40 : decode cX11_when 40 = .ok (.bipush 99, 2) := by decide +kernel
theorem dX11_when_42 : decode cX11_when 42 = .ok (.if_icmp .gt 44, 3) := by decide +kernel
theorem dX11_when_45 : decode cX11_when 45 = .ok (.aload_n 0, 1) := by decide +kernel
theorem dX11_when_46 : decode cX11_when 46 = .ok (.getfield 49, 3) := by decide +kernel
theorem dX11_when_49 : decode cX11_when 49 = .ok (.bipush 22, 2) := by decide +kernel
theorem dX11_when_51 : decode cX11_when 51 = .ok (.iaload, 1) := by decide +kernel
theorem dX11_when_52 : decode cX11_when 52 = .ok (.iload_n 1, 1) := by decide +kernel
theorem dX11_when_53 : decode cX11_when 53 = .ok (.if_icmp .ne 19, 3) := by decide +kernel
theorem dX11_when_56 : decode cX11_when 56 = .ok (.iload_n 2, 1) := by decide +kernel
theorem dX11_when_57 : decode cX11_when 57 = .ok (.bipush (-2), 2) := by decide +kernel
theorem dX11_when_59 : decode cX11_when 59 = .ok (.if_icmp .ne 8, 3) := by decide +kernel
theorem dX11_when_62 : decode cX11_when 62 = .ok (.iload 4, 2) := by decide +kernel
theorem dX11_when_64 : decode cX11_when 64 = .ok (.goto 4, 3) := by decide +kernel
theorem dX11_when_67 : decode cX11_when 67 = .ok (.iload_n 2, 1) := by decide +kernel
theorem dX11_when_68 : decode cX11_when 68 = .ok (.istore_n 2, 1) := by decide +kernel
theorem dX11_when_69 : decode cX11_when 69 = .ok (.iinc 3 1, 3) := by decide +kernel
theorem dX11_when_72 : decode cX11_when 72 = .ok (.aload_n 0, 1) := by decide +kernel
theorem dX11_when_73 : decode cX11_when 73 = .ok (.aload_n 0, 1) := by decide +kernel
theorem dX11_when_74 : decode cX11_when 74 = .ok (.getfield 49, 3) := by decide +kernel
theorem dX11_when_77 : decode cX11_when 77 = .ok (.invokevirtual 242, 3) := by decide +kernel
theorem dX11_when_80 : decode cX11_when 80 = .ok (.iinc 4 1, 3) := by decide +kernel
theorem dX11_when_83 : decode cX11_when 83 = .ok (.goto (-45), 3) := by decide +kernel
theorem dX11_when_86 : decode cX11_when 86 = .ok (.iload_n 2, 1) := by decide +kernel
theorem dX11_when_87 : decode cX11_when 87 = .ok (.bipush (-2), 2) := by decide +kernel
theorem dX11_when_89 : decode cX11_when 89 = .ok (.if_icmp .ne 6, 3) := by decide +kernel
theorem dX11_when_92 : decode cX11_when 92 = .ok (.bipush (-2), 2) := by decide +kernel
theorem dX11_when_94 : decode cX11_when 94 = .ok (.ireturn, 1) := by decide +kernel
theorem dX11_when_95 : decode cX11_when 95 = .ok (.aload_n 0, 1) := by decide +kernel
theorem dX11_when_96 : decode cX11_when 96 = .ok (.iconst 0, 1) := by decide +kernel
theorem dX11_when_97 : decode cX11_when 97 = .ok (.putfield 92, 3) := by decide +kernel
theorem dX11_when_100 : decode cX11_when 100 = .ok (.aload_n 0, 1) := by decide +kernel
theorem dX11_when_101 : decode cX11_when 101 = .ok (.iload_n 3, 1) := by decide +kernel
theorem dX11_when_102 : decode cX11_when 102 = .ok (.i2l, 1) := by decide +kernel
theorem dX11_when_103 : decode cX11_when 103 = .ok (.invokevirtual 252, 3) := by decide +kernel
theorem dX11_when_106 : decode cX11_when 106 = .ok (.iload_n 2, 1) := by decide +kernel
theorem dX11_when_107 : decode cX11_when 107 = .ok (.ireturn, 1) := by decide +kernel
theorem dX11_rolls_0 : decode cX11_rolls 0 = .ok (.aload_n 0, 1) := by decide +kernel
theorem dX11_rolls_1 : decode cX11_rolls 1 = .ok (.iconst 0, 1) := by decide +kernel
theorem dX11_rolls_2 : decode cX11_rolls 2 = .ok (.putfield 89, 3) := by decide +kernel
theorem dX11_rolls_5 : decode cX11_rolls 5 = .ok (.iload_n 1, 1) := by decide +kernel
theorem dX11_rolls_6 : decode cX11_rolls 6 = .ok (.iconst 0, 1) := by decide +kernel
theorem dX11_rolls_7 : decode cX11_rolls 7 = .ok (.bipush 99, 2) := by decide +kernel
theorem dX11_rolls_9 : decode cX11_rolls 9 = .ok (.invokestatic 98, 3) := by decide +kernel
theorem dX11_rolls_12 : decode cX11_rolls 12 = .ok (.ifCond .ne 5, 3) := by decide +kernel
theorem dX11_rolls_15 : decode cX11_rolls 15 = .ok (.iconst (-1), 1) := by decide +kernel
theorem dX11_rolls_16 : decode cX11_rolls 16 = .ok (.ireturn, 1) := by decide +kernel
theorem dX11_rolls_17 : decode cX11_rolls 17 = .ok (.ldc_w 283, 3) := by decide +kernel
theorem dX11_rolls_20 : decode cX11_rolls 20 = .ok (.istore_n 2, 1) := by decide +kernel
theorem dX11_rolls_21 : decode cX11_rolls 21 = .ok (.ldc_w 284, 3) := by decide +kernel
theorem dX11_rolls_24 : decode cX11_rolls 24 = .ok (.istore_n 3, 1) := by decide +kernel
theorem dX11_rolls_25 : decode cX11_rolls 25 = .ok (.iconst 0, 1) := by decide +kernel
theorem dX11_rolls_26 : decode cX11_rolls 26 = .ok (.istore 4, 2) := by decide +kernel
theorem dX11_rolls_28 : decode cX11_rolls 28 = .ok (.iconst 0, 1) := by decide +kernel
theorem dX11_rolls_29 : decode cX11_rolls 29 = .ok (.istore 5, 2) := by decide +kernel
theorem dX11_rolls_31 : decode cX11_rolls 31 = .ok (.aload_n 0, 1) := by decide +kernel
theorem dX11_rolls_32 : decode cX11_rolls 32 = .ok (.getfield 9, 3) := by decide +kernel
theorem dX11_rolls_35 : decode cX11_rolls 35 = .ok (.aload_n 0, 1) := by decide +kernel
theorem dX11_rolls_36 : decode cX11_rolls 36 = .ok (.getfield 49, 3) := by decide +kernel
theorem dX11_rolls_39 : decode cX11_rolls 39 = .ok (.iconst 0, 1) := by decide +kernel
theorem dX11_rolls_40 : decode cX11_rolls 40 = .ok (.invokestatic 231, 3) := by decide +kernel
theorem dX11_rolls_43 : decode cX11_rolls 43 = .ok (.iconst 0, 1) := by decide +kernel
theorem dX11_rolls_44 : decode cX11_rolls 44 = .ok (.istore 6, 2) := by decide +kernel
theorem dX11_rolls_46 : decode cX11_rolls 46 = .ok (.iload 6, 2) := by decide +kernel
theorem dX11_rolls_48 : decode cX11_rolls 48 = .ok (.iload_n 1, 1) := by decide +kernel
theorem dX11_rolls_49 : decode cX11_rolls 49 = .ok (.if_icmp .gt 81, 3) := by decide +kernel
theorem dX11_rolls_52 : decode cX11_rolls 52 = .ok (.aload_n 0, 1) := by decide +kernel
theorem dX11_rolls_53 : decode cX11_rolls 53 = .ok (.getfield 49, 3) := by decide +kernel
theorem dX11_rolls_56 : decode cX11_rolls 56 = .ok (.bipush 22, 2) := by decide +kernel
theorem dX11_rolls_58 : decode cX11_rolls 58 = .ok (.iaload, 1) := by decide +kernel
theorem dX11_rolls_59 : decode cX11_rolls 59 = .ok (.iload_n 2, 1) := by decide +kernel
theorem dX11_rolls_60 : decode cX11_rolls 60 = .ok (.if_icmp .le 8, 3) := by decide +kernel
theorem dX11_rolls_63 : decode cX11_rolls 63 = .ok (.iload 6, 2) := by decide +kernel
theorem dX11_rolls_65 : decode cX11_rolls 65 = .ok (.goto 5, 3) := by decide +kernel
theorem dX11_rolls_68 : decode cX11_rolls 68 = .ok (.iload 4, 2) := by decide +kernel
theorem dX11_rolls_70 : decode cX11_rolls 70 = .ok (.istore 4, 2) := by decide +kernel
theorem dX11_rolls_72 : decode cX11_rolls 72 = .ok (.iload_n 2, 1) := by decide +kernel
theorem dX11_rolls_73 : decode cX11_rolls 73 = .ok (.aload_n 0, 1) := by decide +kernel
theorem dX11_rolls_74 : decode cX11_rolls 74 = .ok (.getfield 49, 3) := by decide +kernel
theorem dX11_rolls_77 : decode cX11_rolls 77 = .ok (.bipush 22, 2) := by decide +kernel
theorem dX11_rolls_79 : decode cX11_rolls 79 = .ok (.iaload, 1) := by decide +kernel
theorem dX11_rolls_80 : decode cX11_rolls 80 = .ok (.invokestatic 201, 3) := by decide +kernel
theorem dX11_rolls_83 : decode cX11_rolls 83 = .ok (.istore_n 2, 1) := by decide +kernel
theorem dX11_rolls_84 : decode cX11_rolls 84 = .ok (.aload_n 0, 1) := by decide +kernel
theorem dX11_rolls_85 : decode cX11_rolls 85 = .ok (.getfield 49, 3) := by decide +kernel
theorem dX11_rolls_88 : decode cX11_rolls 88 = .ok (.bipush 22, 2) := by decide +kernel
theorem dX11_rolls_90 : decode cX11_rolls 90 = .ok (.iaload, 1) := by decide +kernel
theorem dX11_rolls_91 : decode cX11_rolls 91 = .ok (.iload_n 3, 1) := by decide +kernel
theorem dX11_rolls_92 : decode cX11_rolls 92 = .ok (.if_icmp .ge 8, 3) := by decide +kernel
theorem dX11_rolls_95 : decode cX11_rolls 95 = .ok (.iload 6, 2) := by decide +kernel
theorem dX11_rolls_97 : decode cX11_rolls 97 = .ok (.goto 5, 3) := by decide +kernel
theorem dX11_rolls_100 : decode cX11_rolls 100 = .ok (.iload 5, 2) := by decide +kernel
theorem dX11_rolls_102 : decode cX11_rolls 102 = .ok (.istore 5, 2) := by decide +kernel
theorem dX11_rolls_104 : decode cX11_rolls 104 = .ok (.iload_n 3, 1) := by decide +kernel
theorem dX11_rolls_105 : decode cX11_rolls 105 = .ok (.aload_n 0, 1) := by decide +kernel
theorem dX11_rolls_106 : decode cX11_rolls 106 = .ok (.getfield 49, 3) := by decide +kernel
theorem dX11_rolls_109 : decode cX11_rolls 109 = .ok (.bipush 22, 2) := by decide +kernel
theorem dX11_rolls_111 : decode cX11_rolls 111 = .ok (.iaload, 1) := by decide +kernel
theorem dX11_rolls_112 : decode cX11_rolls 112 = .ok (.invokestatic 197, 3) := by decide +kernel
theorem dX11_rolls_115 : decode cX11_rolls 115 = .ok (.istore_n 3, 1) := by decide +kernel
theorem dX11_rolls_116 : decode cX11_rolls 116 = .ok (.aload_n 0, 1) := by decide +kernel
theorem dX11_rolls_117 : decode cX11_rolls 117 = .ok (.aload_n 0, 1) := by decide +kernel
theorem dX11_rolls_118 : decode cX11_rolls 118 = .ok (.getfield 49, 3) := by decide +kernel
theorem dX11_rolls_121 : decode cX11_rolls 121 = .ok (.invokevirtual 242, 3) := by decide +kernel
theorem dX11_rolls_124 : decode cX11_rolls 124 = .ok (.iinc 6 1, 3) := by decide +kernel
theorem dX11_rolls_127 : decode cX11_rolls 127 = .ok (.goto (-81), 3) := by decide +kernel
theorem dX11_rolls_130 : decode cX11_rolls 130 = .ok (.aload_n 0, 1) := by decide +kernel
theorem dX11_rolls_131 : decode cX11_rolls 131 = .ok (.iconst 0, 1) := by decide +kernel
theorem dX11_rolls_132 : decode cX11_rolls 132 = .ok (.putfield 92, 3) := by decide +kernel
theorem dX11_rolls_135 : decode cX11_rolls 135 = .ok (.aload_n 0, 1) := by decide +kernel
theorem dX11_rolls_136 : decode cX11_rolls 136 = .ok (.iload 4, 2) := by decide +kernel
theorem dX11_rolls_138 : decode cX11_rolls 138 = .ok (.i2l, 1) := by decide +kernel
theorem dX11_rolls_139 : decode cX11_rolls 139 = .ok (.invokevirtual 252, 3) := by decide +kernel
theorem dX11_rolls_142 : decode cX11_rolls 142 = .ok (.aload_n 0, 1) := by decide +kernel
theorem dX11_rolls_143 : decode cX11_rolls 143 = .ok (.bipush 100, 2) := by decide +kernel
theorem dX11_rolls_145 : decode cX11_rolls 145 = .ok (.iload_n 3, 1) := by decide +kernel
theorem dX11_rolls_146 : decode cX11_rolls 146 = .ok (.iadd, 1) := by decide +kernel
theorem dX11_rolls_147 : decode cX11_rolls 147 = .ok (.i2l, 1) := by decide +kernel
theorem dX11_rolls_148 : decode cX11_rolls 148 = .ok (.invokevirtual 252, 3) := by decide +kernel
theorem dX11_rolls_151 : decode cX11_rolls 151 = .ok (.aload_n 0, 1) := by decide +kernel
theorem dX11_rolls_152 : decode cX11_rolls 152 = .ok (.iload 5, 2) := by decide +kernel
theorem dX11_rolls_154 : decode cX11_rolls 154 = .ok (.i2l, 1) := by decide +kernel
theorem dX11_rolls_155 : decode cX11_rolls 155 = .ok (.invokevirtual 252, 3) := by decide +kernel
theorem dX11_rolls_158 : decode cX11_rolls 158 = .ok (.bipush 100, 2) := by decide +kernel
theorem dX11_rolls_160 : decode cX11_rolls 160 = .ok (.iload_n 2, 1) := by decide +kernel
theorem dX11_rolls_161 : decode cX11_rolls 161 = .ok (.iadd, 1) := by decide +kernel
theorem dX11_rolls_162 : decode cX11_rolls 162 = .ok (.ireturn, 1) := by decide +kernel
theorem dX11_steady_0 : decode cX11_steady 0 = .ok (.aload_n 0, 1) := by decide +kernel
theorem dX11_steady_1 : decode cX11_steady 1 = .ok (.iconst 0, 1) := by decide +kernel
theorem dX11_steady_2 : decode cX11_steady 2 = .ok (.putfield 89, 3) := by decide +kernel
theorem dX11_steady_5 : decode cX11_steady 5 = .ok (.iload_n 1, 1) := by decide +kernel
theorem dX11_steady_6 : decode cX11_steady 6 = .ok (.iconst 1, 1) := by decide +kernel
theorem dX11_steady_7 : decode cX11_steady 7 = .ok (.bipush 99, 2) := by decide +kernel
theorem dX11_steady_9 : decode cX11_steady 9 = .ok (.invokestatic 98, 3) := by decide +kernel
theorem dX11_steady_12 : decode cX11_steady 12 = .ok (.ifCond .eq 13, 3) := by decide +kernel
theorem dX11_steady_15 : decode cX11_steady 15 = .ok (.iload_n 2, 1) := by decide +kernel
theorem dX11_steady_16 : decode cX11_steady 16 = .ok (.iconst 0, 1) := by decide +kernel
theorem dX11_steady_17 : decode cX11_steady 17 = .ok (.bipush 20, 2) := by decide +kernel
theorem dX11_steady_19 : decode cX11_steady 19 = .ok (.invokestatic 98, 3) := by decide +kernel
theorem dX11_steady_22 : decode cX11_steady 22 = .ok (.ifCond .ne 5, 3) := by decide +kernel
theorem dX11_steady_25 : decode cX11_steady 25 = .ok (.iconst (-1), 1) := by decide +kernel
theorem dX11_steady_26 : decode cX11_steady 26 = .ok (.ireturn, 1) := by decide +kernel
theorem dX11_steady_27 : decode cX11_steady 27 = .ok (.iconst 0, 1) := by decide +kernel
theorem dX11_steady_28 : decode cX11_steady 28 = .ok (.istore_n 3, 1) := by decide +kernel
theorem dX11_steady_29 : decode cX11_steady 29 = .ok (.iconst 0, 1) := by decide +kernel
theorem dX11_steady_30 : decode cX11_steady 30 = .ok (.istore 4, 2) := by decide +kernel
theorem dX11_steady_32 : decode cX11_steady 32 = .ok (.iconst 0, 1) := by decide +kernel
theorem dX11_steady_33 : decode cX11_steady 33 = .ok (.istore 5, 2) := by decide +kernel
theorem dX11_steady_35 : decode cX11_steady 35 = .ok (.aload_n 0, 1) := by decide +kernel
theorem dX11_steady_36 : decode cX11_steady 36 = .ok (.getfield 9, 3) := by decide +kernel
theorem dX11_steady_39 : decode cX11_steady 39 = .ok (.aload_n 0, 1) := by decide +kernel
theorem dX11_steady_40 : decode cX11_steady 40 = .ok (.getfield 49, 3) := by decide +kernel
theorem dX11_steady_43 : decode cX11_steady 43 = .ok (.iconst 0, 1) := by decide +kernel
theorem dX11_steady_44 : decode cX11_steady 44 = .ok (.invokestatic 231, 3) := by decide +kernel
theorem dX11_steady_47 : decode cX11_steady 47 = .ok (.iconst 1, 1) := by decide +kernel
theorem dX11_steady_48 : decode cX11_steady 48 = .ok (.istore 6, 2) := by decide +kernel
theorem dX11_steady_50 : decode cX11_steady 50 = .ok (.iload 6, 2) := by decide +kernel
theorem dX11_steady_52 : decode cX11_steady 52 = .ok (.iload_n 1, 1) := by decide +kernel
theorem dX11_steady_53 : decode cX11_steady 53 = .ok (.if_icmp .gt 62, 3) := by decide +kernel
theorem dX11_steady_56 : decode cX11_steady 56 = .ok (.aload_n 0, 1) := by decide +kernel
theorem dX11_steady_57 : decode cX11_steady 57 = .ok (.aload_n 0, 1) := by decide +kernel
theorem dX11_steady_58 : decode cX11_steady 58 = .ok (.getfield 49, 3) := by decide +kernel
theorem dX11_steady_61 : decode cX11_steady 61 = .ok (.invokevirtual 242, 3) := by decide +kernel
theorem dX11_steady_64 : decode cX11_steady 64 = .ok (.aload_n 0, 1) := by decide +kernel
theorem dX11_steady_65 : decode cX11_steady 65 = .ok (.getfield 49, 3) := by decide +kernel
theorem dX11_steady_68 : decode cX11_steady 68 = .ok (.bipush 22, 2) := by decide +kernel
theorem dX11_steady_70 : decode cX11_steady 70 = .ok (.iaload, 1) := by decide +kernel
theorem dX11_steady_71 : decode cX11_steady 71 = .ok (.invokestatic 192, 3) := by decide +kernel
theorem dX11_steady_74 : decode cX11_steady 74 = .ok (.iload_n 2, 1) := by decide +kernel
theorem dX11_steady_75 : decode cX11_steady 75 = .ok (.if_icmp .gt 10, 3) := by decide +kernel
theorem dX11_steady_78 : decode cX11_steady 78 = .ok (.iload 5, 2) := by decide +kernel
theorem dX11_steady_80 : decode cX11_steady 80 = .ok (.iconst 1, 1) := by decide +kernel
theorem dX11_steady_81 : decode cX11_steady 81 = .ok (.iadd, 1) := by decide +kernel
theorem dX11_steady_82 : decode cX11_steady 82 = .ok (.goto 4, 3) := by decide +kernel
theorem dX11_steady_85 : decode cX11_steady 85 = .ok (.iconst 0, 1) := by decide +kernel
theorem dX11_steady_86 : decode cX11_steady 86 = .ok (.istore 5, 2) := by decide +kernel
theorem dX11_steady_88 : decode cX11_steady 88 = .ok (.iload 5, 2) := by decide +kernel
theorem dX11_steady_90 : decode cX11_steady 90 = .ok (.iload_n 3, 1) := by decide +kernel
theorem dX11_steady_91 : decode cX11_steady 91 = .ok (.if_icmp .gt 6, 3) := by decide +kernel
theorem dX11_steady_94 : decode cX11_steady 94 = .ok (.goto 15, 3) := by decide +kernel
theorem dX11_steady_97 : decode cX11_steady 97 = .ok (.iload 5, 2) := by decide +kernel
theorem dX11_steady_99 : decode cX11_steady 99 = .ok (.istore_n 3, 1) := by decide +kernel
theorem dX11_steady_100 : decode cX11_steady 100 = .ok (.iload 6, 2) := by decide +kernel
theorem dX11_steady_102 : decode cX11_steady 102 = .ok (.iload 5, 2) := by decide +kernel
theorem dX11_steady_104 : decode cX11_steady 104 = .ok (.isub, 1) := by decide +kernel
theorem dX11_steady_105 : decode cX11_steady 105 = .ok (.iconst 1, 1) := by decide +kernel
theorem dX11_steady_106 : decode cX11_steady 106 = .ok (.iadd, 1) := by decide +kernel
theorem dX11_steady_107 : decode cX11_steady 107 = .ok (.istore 4, 2) := by decide +kernel
theorem dX11_steady_109 : decode cX11_steady 109 = .ok (.iinc 6 1, 3) := by decide +kernel
theorem dX11_steady_112 : decode cX11_steady 112 = .ok (.goto (-62), 3) := by decide +kernel
theorem dX11_steady_115 : decode cX11_steady 115 = .ok (.aload_n 0, 1) := by decide +kernel
theorem dX11_steady_116 : decode cX11_steady 116 = .ok (.iconst 0, 1) := by decide +kernel
theorem dX11_steady_117 : decode cX11_steady 117 = .ok (.putfield 92, 3) := by decide +kernel
theorem dX11_steady_120 : decode cX11_steady 120 = .ok (.aload_n 0, 1) := by decide +kernel
theorem dX11_steady_121 : decode cX11_steady 121 = .ok (.iload 4, 2) := by decide +kernel
theorem dX11_steady_123 : decode cX11_steady 123 = .ok (.i2l, 1) := by decide +kernel
theorem dX11_steady_124 : decode cX11_steady 124 = .ok (.invokevirtual 252, 3) := by decide +kernel
theorem dX11_steady_127 : decode cX11_steady 127 = .ok (.iload_n 3, 1) := by decide +kernel
theorem dX11_steady_128 : decode cX11_steady 128 = .ok (.ireturn, 1) := by decide +kernel
theorem dX11_makes_0 : decode cX11_makes 0 = .ok (.aload_n 0, 1) := by decide +kernel
theorem dX11_makes_1 : decode cX11_makes 1 = .ok (.iconst 0, 1) := by decide +kernel
theorem dX11_makes_2 : decode cX11_makes 2 = .ok (.putfield 89, 3) := by decide +kernel
theorem dX11_makes_5 : decode cX11_makes 5 = .ok (.iload_n 1, 1) := by decide +kernel
theorem dX11_makes_6 : decode cX11_makes 6 = .ok (.iconst 0, 1) := by decide +kernel
theorem dX11_makes_7 : decode cX11_makes 7 = .ok (.sipush 9999, 3) := by decide +kernel
theorem dX11_makes_10 : decode cX11_makes 10 = .ok (.invokestatic 98, 3) := by decide +kernel
theorem dX11_makes_13 : decode cX11_makes 13 = .ok (.ifCond .ne 5, 3) := by decide +kernel
theorem dX11_makes_16 : decode cX11_makes 16 = .ok (.iconst (-1), 1) := by decide +kernel
theorem dX11_makes_17 : decode cX11_makes 17 = .ok (.ireturn, 1) := by decide +kernel
theorem dX11_makes_18 : decode cX11_makes 18 = .ok (.aload_n 0, 1) := by decide +kernel
theorem dX11_makes_19 : decode cX11_makes 19 = .ok (.getfield 9, 3) := by decide +kernel
theorem dX11_makes_22 : decode cX11_makes 22 = .ok (.aload_n 0, 1) := by decide +kernel
theorem dX11_makes_23 : decode cX11_makes 23 = .ok (.getfield 49, 3) := by decide +kernel
theorem dX11_makes_26 : decode cX11_makes 26 = .ok (.iconst 0, 1) := by decide +kernel
theorem dX11_makes_27 : decode cX11_makes 27 = .ok (.invokestatic 231, 3) := by decide +kernel
theorem dX11_makes_30 : decode cX11_makes 30 = .ok (.iconst 0, 1) := by decide +kernel
theorem dX11_makes_31 : decode cX11_makes 31 = .ok (.istore_n 2, 1) := by decide +kernel
theorem dX11_makes_32 : decode cX11_makes 32 = .ok (.iload_n 2, 1) := by decide +kernel
theorem dX11_makes_33 : decode cX11_makes 33 = .ok (.bipush 99, 2) := by decide +kernel
theorem dX11_makes_35 : decode cX11_makes 35 = .ok (.if_icmp .gt 59, 3) := by decide +kernel
theorem dX11_makes_38 : decode cX11_makes 38 = .ok (.aload_n 0, 1) := by decide +kernel
theorem dX11_makes_39 : decode cX11_makes 39 = .ok (.getfield 49, 3) := by decide +kernel
theorem dX11_makes_42 : decode cX11_makes 42 = .ok (.bipush 23, 2) := by decide +kernel
theorem dX11_makes_44 : decode cX11_makes 44 = .ok (.iaload, 1) := by decide +kernel
theorem dX11_makes_45 : decode cX11_makes 45 = .ok (.iload_n 1, 1) := by decide +kernel
theorem dX11_makes_46 : decode cX11_makes 46 = .ok (.if_icmp .lt 34, 3) := by decide +kernel
theorem dX11_makes_49 : decode cX11_makes 49 = .ok (.aload_n 0, 1) := by decide +kernel
theorem dX11_makes_50 : decode cX11_makes 50 = .ok (.iconst 0, 1) := by decide +kernel
theorem dX11_makes_51 : decode cX11_makes 51 = .ok (.putfield 92, 3) := by decide +kernel
theorem dX11_makes_54 : decode cX11_makes 54 = .ok (.aload_n 0, 1) := by decide +kernel
theorem dX11_makes_55 : decode cX11_makes 55 = .ok (.aload_n 0, 1) := by decide +kernel
theorem dX11_makes_56 : decode cX11_makes 56 = .ok (.getfield 49, 3) := by decide +kernel
theorem dX11_makes_59 : decode cX11_makes 59 = .ok (.bipush 23, 2) := by decide +kernel
theorem dX11_makes_61 : decode cX11_makes 61 = .ok (.iaload, 1) := by decide +kernel
theorem dX11_makes_62 : decode cX11_makes 62 = .ok (.i2l, 1) := by decide +kernel
theorem dX11_makes_63 : decode cX11_makes 63 = .ok (.invokevirtual 252, 3) := by decide +kernel
theorem dX11_makes_66 : decode cX11_makes 66 = .ok (.aload_n 0, 1) := by decide +kernel
theorem dX11_makes_67 : decode cX11_makes 67 = .ok (.aload_n 0, 1) := by decide +kernel
theorem dX11_makes_68 : decode cX11_makes 68 = .ok (.getfield 49, 3) := by decide +kernel
theorem dX11_makes_71 : decode cX11_makes 71 = .ok (.bipush 21, 2) := by decide +kernel
theorem dX11_makes_73 : decode cX11_makes 73 = .ok (.iaload, 1) := by decide +kernel
theorem dX11_makes_74 : decode cX11_makes 74 = .ok (.i2l, 1) := by decide +kernel
theorem dX11_makes_75 : decode cX11_makes 75 = .ok (.invokevirtual 252, 3) := by decide +kernel
theorem dX11_makes_78 : decode cX11_makes 78 = .ok (.iload_n 2, 1) := by decide +kernel
theorem dX11_makes_79 : decode cX11_makes 79 = .ok (.ireturn, 1) := by decide +kernel
theorem dX11_makes_80 : decode cX11_makes 80 = .ok (.aload_n 0, 1) := by decide +kernel
theorem dX11_makes_81 : decode cX11_makes 81 = .ok (.aload_n 0, 1) := by decide +kernel
theorem dX11_makes_82 : decode cX11_makes 82 = .ok (.getfield 49, 3) := by decide +kernel
theorem dX11_makes_85 : decode cX11_makes 85 = .ok (.invokevirtual 242, 3) := by decide +kernel
theorem dX11_makes_88 : decode cX11_makes 88 = .ok (.iinc 2 1, 3) := by decide +kernel
theorem dX11_makes_91 : decode cX11_makes 91 = .ok (.goto (-59), 3) := by decide +kernel
theorem dX11_makes_94 : decode cX11_makes 94 = .ok (.bipush (-2), 2) := by decide +kernel
theorem dX11_makes_96 : decode cX11_makes 96 = .ok (.ireturn, 1) := by decide +kernel
theorem dX11_stands_0 : decode cX11_stands 0 = .ok (.aload_n 0, 1) := by decide +kernel
theorem dX11_stands_1 : decode cX11_stands 1 = .ok (.aload_n 0, 1) := by decide +kernel
theorem dX11_stands_2 : decode cX11_stands 2 = .ok (.getfield 49, 3) := by decide +kernel
theorem dX11_stands_5 : decode cX11_stands 5 = .ok (.invokevirtual 277, 3) := by decide +kernel
theorem dX11_stands_8 : decode cX11_stands 8 = .ok (.invokestatic 192, 3) := by decide +kernel
theorem dX11_stands_11 : decode cX11_stands 11 = .ok (.iload_n 1, 1) := by decide +kernel
theorem dX11_stands_12 : decode cX11_stands 12 = .ok (.if_icmp .gt 7, 3) := by decide +kernel
theorem dX11_stands_15 : decode cX11_stands 15 = .ok (.iconst 1, 1) := by decide +kernel
theorem dX11_stands_16 : decode cX11_stands 16 = .ok (.goto 4, 3) := by decide +kernel
theorem dX11_stands_19 : decode cX11_stands 19 = .ok (.iconst 0, 1) := by decide +kernel
theorem dX11_stands_20 : decode cX11_stands 20 = .ok (.ireturn, 1) := by decide +kernel
theorem dX11_isTelling_0 : decode cX11_isTelling 0 = .ok (.aload_n 0, 1) := by decide +kernel
theorem dX11_isTelling_1 : decode cX11_isTelling 1 = .ok (.iload_n 1, 1) := by decide +kernel
theorem dX11_isTelling_2 : decode cX11_isTelling 2 = .ok (.bipush 10, 2) := by decide +kernel
theorem dX11_isTelling_4 : decode cX11_isTelling 4 = .ok (.idiv, 1) := by decide +kernel
theorem dX11_isTelling_5 : decode cX11_isTelling 5 = .ok (.invokevirtual 221, 3) := by decide +kernel
theorem dX11_isTelling_8 : decode cX11_isTelling 8 = .ok (.ifCond .eq 35, 3) := by decide +kernel
theorem dX11_isTelling_11 : decode cX11_isTelling 11 = .ok (.iload_n 1, 1) := by decide +kernel
theorem dX11_isTelling_12 : decode cX11_isTelling 12 = .ok (.bipush 10, 2) := by decide +kernel
theorem dX11_isTelling_14 : decode cX11_isTelling 14 = .ok (.irem, 1) := by decide +kernel
theorem dX11_isTelling_15 : decode cX11_isTelling 15 = .ok (.bipush 6, 2) := by decide +kernel
theorem dX11_isTelling_17 : decode cX11_isTelling 17 = .ok (.if_icmp .ge 26, 3) := by decide +kernel
theorem dX11_isTelling_20 : decode cX11_isTelling 20 = .ok (.aload_n 0, 1) := by decide +kernel
theorem dX11_isTelling_21 : decode cX11_isTelling 21 = .ok (.getfield 9, 3) := by decide +kernel
theorem dX11_isTelling_24 : decode cX11_isTelling 24 = .ok (.bipush 7, 2) := by decide +kernel
theorem dX11_isTelling_26 : decode cX11_isTelling 26 = .ok (.iload_n 1, 1) := by decide +kernel
theorem dX11_isTelling_27 : decode cX11_isTelling 27 = .ok (.bipush 10, 2) := by decide +kernel
theorem dX11_isTelling_29 : decode cX11_isTelling 29 = .ok (.idiv, 1) := by decide +kernel
theorem dX11_isTelling_30 : decode cX11_isTelling 30 = .ok (.iadd, 1) := by decide +kernel
theorem dX11_isTelling_31 : decode cX11_isTelling 31 = .ok (.iaload, 1) := by decide +kernel
theorem dX11_isTelling_32 : decode cX11_isTelling 32 = .ok (.iload_n 1, 1) := by decide +kernel
theorem dX11_isTelling_33 : decode cX11_isTelling 33 = .ok (.bipush 10, 2) := by decide +kernel
theorem dX11_isTelling_35 : decode cX11_isTelling 35 = .ok (.irem, 1) := by decide +kernel
theorem dX11_isTelling_36 : decode cX11_isTelling 36 = .ok (.if_icmp .eq 7, 3) := by decide +kernel
theorem dX11_isTelling_39 : decode cX11_isTelling 39 = .ok (.iconst 1, 1) := by decide +kernel
theorem dX11_isTelling_40 : decode cX11_isTelling 40 = .ok (.goto 4, 3) := by decide +kernel
theorem dX11_isTelling_43 : decode cX11_isTelling 43 = .ok (.iconst 0, 1) := by decide +kernel
theorem dX11_isTelling_44 : decode cX11_isTelling 44 = .ok (.ireturn, 1) := by decide +kernel
theorem dX11_think_0 : decode cX11_think 0 = .ok (.aload_n 0, 1) := by decide +kernel
theorem dX11_think_1 : decode cX11_think 1 = .ok (.getfield 49, 3) := by decide +kernel
theorem dX11_think_4 : decode cX11_think 4 = .ok (.bipush 7, 2) := by decide +kernel
theorem dX11_think_6 : decode cX11_think 6 = .ok (.iload_n 1, 1) := by decide +kernel
theorem dX11_think_7 : decode cX11_think 7 = .ok (.bipush 10, 2) := by decide +kernel
theorem dX11_think_9 : decode cX11_think 9 = .ok (.idiv, 1) := by decide +kernel
theorem dX11_think_10 : decode cX11_think 10 = .ok (.iadd, 1) := by decide +kernel
theorem dX11_think_11 : decode cX11_think 11 = .ok (.iload_n 1, 1) := by decide +kernel
theorem dX11_think_12 : decode cX11_think 12 = .ok (.bipush 10, 2) := by decide +kernel
theorem dX11_think_14 : decode cX11_think 14 = .ok (.irem, 1) := by decide +kernel
theorem dX11_think_15 : decode cX11_think 15 = .ok (.iastore, 1) := by decide +kernel
theorem dX11_think_16 : decode cX11_think 16 = .ok (.return_, 1) := by decide +kernel
theorem dX11_unthink_0 : decode cX11_unthink 0 = .ok (.aload_n 0, 1) := by decide +kernel
theorem dX11_unthink_1 : decode cX11_unthink 1 = .ok (.getfield 49, 3) := by decide +kernel
theorem dX11_unthink_4 : decode cX11_unthink 4 = .ok (.bipush 7, 2) := by decide +kernel
theorem dX11_unthink_6 : decode cX11_unthink 6 = .ok (.iload_n 1, 1) := by decide +kernel
theorem dX11_unthink_7 : decode cX11_unthink 7 = .ok (.bipush 10, 2) := by decide +kernel
theorem dX11_unthink_9 : decode cX11_unthink 9 = .ok (.idiv, 1) := by decide +kernel
theorem dX11_unthink_10 : decode cX11_unthink 10 = .ok (.iadd, 1) := by decide +kernel
theorem dX11_unthink_11 : decode cX11_unthink 11 = .ok (.aload_n 0, 1) := by decide +kernel
theorem dX11_unthink_12 : decode cX11_unthink 12 = .ok (.getfield 9, 3) := by decide +kernel
theorem dX11_unthink_15 : decode cX11_unthink 15 = .ok (.bipush 7, 2) := by decide +kernel
theorem dX11_unthink_17 : decode cX11_unthink 17 = .ok (.iload_n 1, 1) := by decide +kernel
theorem dX11_unthink_18 : decode cX11_unthink 18 = .ok (.bipush 10, 2) := by decide +kernel
theorem dX11_unthink_20 : decode cX11_unthink 20 = .ok (.idiv, 1) := by decide +kernel
theorem dX11_unthink_21 : decode cX11_unthink 21 = .ok (.iadd, 1) := by decide +kernel
theorem dX11_unthink_22 : decode cX11_unthink 22 = .ok (.iaload, 1) := by decide +kernel
theorem dX11_unthink_23 : decode cX11_unthink 23 = .ok (.iastore, 1) := by decide +kernel
theorem dX11_unthink_24 : decode cX11_unthink 24 = .ok (.return_, 1) := by decide +kernel
theorem dX11_steps_0 : decode cX11_steps 0 = .ok (.aload_n 0, 1) := by decide +kernel
theorem dX11_steps_1 : decode cX11_steps 1 = .ok (.iconst 0, 1) := by decide +kernel
theorem dX11_steps_2 : decode cX11_steps 2 = .ok (.putfield 89, 3) := by decide +kernel
theorem dX11_steps_5 : decode cX11_steps 5 = .ok (.iload_n 1, 1) := by decide +kernel
theorem dX11_steps_6 : decode cX11_steps 6 = .ok (.iconst 0, 1) := by decide +kernel
theorem dX11_steps_7 : decode cX11_steps 7 = .ok (.bipush 20, 2) := by decide +kernel
theorem dX11_steps_9 : decode cX11_steps 9 = .ok (.invokestatic 98, 3) := by decide +kernel
theorem dX11_steps_12 : decode cX11_steps 12 = .ok (.ifCond .ne 5, 3) := by decide +kernel
theorem dX11_steps_15 : decode cX11_steps 15 = .ok (.iconst (-1), 1) := by decide +kernel
theorem dX11_steps_16 : decode cX11_steps 16 = .ok (.ireturn, 1) := by decide +kernel
theorem dX11_steps_17 : decode cX11_steps 17 = .ok (.aload_n 0, 1) := by decide +kernel
theorem dX11_steps_18 : decode cX11_steps 18 = .ok (.getfield 9, 3) := by decide +kernel
theorem dX11_steps_21 : decode cX11_steps 21 = .ok (.aload_n 0, 1) := by decide +kernel
theorem dX11_steps_22 : decode cX11_steps 22 = .ok (.getfield 49, 3) := by decide +kernel
theorem dX11_steps_25 : decode cX11_steps 25 = .ok (.iconst 0, 1) := by decide +kernel
theorem dX11_steps_26 : decode cX11_steps 26 = .ok (.invokestatic 231, 3) := by decide +kernel
theorem dX11_steps_29 : decode cX11_steps 29 = .ok (.aload_n 0, 1) := by decide +kernel
theorem dX11_steps_30 : decode cX11_steps 30 = .ok (.iload_n 1, 1) := by decide +kernel
theorem dX11_steps_31 : decode cX11_steps 31 = .ok (.invokevirtual 285, 3) := by decide +kernel
theorem dX11_steps_34 : decode cX11_steps 34 = .ok (.ifCond .eq 10, 3) := by decide +kernel
theorem dX11_steps_37 : decode cX11_steps 37 = .ok (.aload_n 0, 1) := by decide +kernel
theorem dX11_steps_38 : decode cX11_steps 38 = .ok (.iconst 0, 1) := by decide +kernel
theorem dX11_steps_39 : decode cX11_steps 39 = .ok (.putfield 92, 3) := by decide +kernel
theorem dX11_steps_42 : decode cX11_steps 42 = .ok (.iconst 0, 1) := by decide +kernel
theorem dX11_steps_43 : decode cX11_steps 43 = .ok (.ireturn, 1) := by decide +kernel
theorem dX11_steps_44 : decode cX11_steps 44 = .ok (.iconst 0, 1) := by decide +kernel
theorem dX11_steps_45 : decode cX11_steps 45 = .ok (.istore_n 2, 1) := by decide +kernel
theorem dX11_steps_46 : decode cX11_steps 46 = .ok (.iload_n 2, 1) := by decide +kernel
theorem dX11_steps_47 : decode cX11_steps 47 = .ok (.bipush 10, 2) := by decide +kernel
theorem dX11_steps_49 : decode cX11_steps 49 = .ok (.aload_n 0, 1) := by decide +kernel
theorem dX11_steps_50 : decode cX11_steps 50 = .ok (.getfield 95, 3) := by decide +kernel
theorem dX11_steps_53 : decode cX11_steps 53 = .ok (.imul, 1) := by decide +kernel
theorem dX11_steps_54 : decode cX11_steps 54 = .ok (.if_icmp .ge 56, 3) := by decide +kernel
theorem dX11_steps_57 : decode cX11_steps 57 = .ok (.aload_n 0, 1) := by decide +kernel
theorem dX11_steps_58 : decode cX11_steps 58 = .ok (.iload_n 2, 1) := by decide +kernel
theorem dX11_steps_59 : decode cX11_steps 59 = .ok (.invokevirtual 288, 3) := by decide +kernel
theorem dX11_steps_62 : decode cX11_steps 62 = .ok (.ifCond .ne 6, 3) := by decide +kernel
theorem dX11_steps_65 : decode cX11_steps 65 = .ok (.goto 39, 3) := by decide +kernel
theorem dX11_steps_68 : decode cX11_steps 68 = .ok (.aload_n 0, 1) := by decide +kernel
theorem dX11_steps_69 : decode cX11_steps 69 = .ok (.iload_n 2, 1) := by decide +kernel
theorem dX11_steps_70 : decode cX11_steps 70 = .ok (.invokevirtual 291, 3) := by decide +kernel
theorem dX11_steps_73 : decode cX11_steps 73 = .ok (.aload_n 0, 1) := by decide +kernel
theorem dX11_steps_74 : decode cX11_steps 74 = .ok (.iload_n 1, 1) := by decide +kernel
theorem dX11_steps_75 : decode cX11_steps 75 = .ok (.invokevirtual 285, 3) := by decide +kernel
theorem dX11_steps_78 : decode cX11_steps 78 = .ok (.istore_n 3, 1) := by decide +kernel
theorem dX11_steps_79 : decode cX11_steps 79 = .ok (.aload_n 0, 1) := by decide +kernel
theorem dX11_steps_80 : decode cX11_steps 80 = .ok (.iload_n 2, 1) := by decide +kernel
theorem dX11_steps_81 : decode cX11_steps 81 = .ok (.invokevirtual 294, 3) := by decide +kernel
theorem dX11_steps_84 : decode cX11_steps 84 = .ok (.iload_n 3, 1) := by decide +kernel
theorem dX11_steps_85 : decode cX11_steps 85 = .ok (.ifCond .ne 6, 3) := by decide +kernel
theorem dX11_steps_88 : decode cX11_steps 88 = .ok (.goto 16, 3) := by decide +kernel
theorem dX11_steps_91 : decode cX11_steps 91 = .ok (.aload_n 0, 1) := by decide +kernel
theorem dX11_steps_92 : decode cX11_steps 92 = .ok (.iconst 0, 1) := by decide +kernel
theorem dX11_steps_93 : decode cX11_steps 93 = .ok (.putfield 92, 3) := by decide +kernel
theorem dX11_steps_96 : decode cX11_steps 96 = .ok (.aload_n 0, 1) := by decide +kernel
theorem dX11_steps_97 : decode cX11_steps 97 = .ok (.iload_n 2, 1) := by decide +kernel
theorem dX11_steps_98 : decode cX11_steps 98 = .ok (.i2l, 1) := by decide +kernel
theorem dX11_steps_99 : decode cX11_steps 99 = .ok (.invokevirtual 252, 3) := by decide +kernel
theorem dX11_steps_102 : decode cX11_steps 102 = .ok (.iconst 1, 1) := by decide +kernel
theorem dX11_steps_103 : decode cX11_steps 103 = .ok (.ireturn, 1) := by decide +kernel
theorem dX11_steps_104 : decode cX11_steps 104 = .ok (.iinc 2 1, 3) := by decide +kernel
theorem dX11_steps_107 : decode cX11_steps 107 = .ok (.goto (-61), 3) := by decide +kernel
theorem dX11_steps_110 : decode cX11_steps 110 = .ok (.iconst 0, 1) := by decide +kernel
theorem dX11_steps_111 : decode cX11_steps 111 = .ok (.istore_n 2, 1) := by decide +kernel
theorem dX11_steps_112 : decode cX11_steps 112 = .ok (.iload_n 2, 1) := by decide +kernel
theorem dX11_steps_113 : decode cX11_steps 113 = .ok (.bipush 10, 2) := by decide +kernel
theorem dX11_steps_115 : decode cX11_steps 115 = .ok (.aload_n 0, 1) := by decide +kernel
theorem dX11_steps_116 : decode cX11_steps 116 = .ok (.getfield 95, 3) := by decide +kernel
theorem dX11_steps_119 : decode cX11_steps 119 = .ok (.imul, 1) := by decide +kernel
theorem dX11_steps_120 : decode cX11_steps 120 = .ok (.if_icmp .ge 109, 3) := by decide +kernel
theorem dX11_steps_123 : decode cX11_steps 123 = .ok (.bipush 10, 2) := by decide +kernel
theorem dX11_steps_125 : decode cX11_steps 125 = .ok (.iload_n 2, 1) := by decide +kernel
theorem dX11_steps_126 : decode cX11_steps 126 = .ok (.bipush 10, 2) := by decide +kernel
theorem dX11_steps_128 : decode cX11_steps 128 = .ok (.idiv, 1) := by decide +kernel
theorem dX11_steps_129 : decode cX11_steps 129 = .ok (.iconst 1, 1) := by decide +kernel
theorem dX11_steps_130 : decode cX11_steps 130 = .ok (.iadd, 1) := by decide +kernel
theorem dX11_steps_131 : decode cX11_steps 131 = .ok (.imul, 1) := by decide +kernel
theorem dX11_steps_132 : decode cX11_steps 132 = .ok (.istore_n 3, 1) := by decide +kernel
theorem dX11_steps_133 : decode cX11_steps 133 = .ok (.iload_n 3, 1) := by decide +kernel
theorem dX11_steps_134 : decode cX11_steps 134 = .ok (.bipush 10, 2) := by decide +kernel
theorem dX11_steps_136 : decode cX11_steps 136 = .ok (.aload_n 0, 1) := by decide +kernel
theorem dX11_steps_137 : decode cX11_steps 137 = .ok (.getfield 95, 3) := by decide +kernel
theorem dX11_steps_140 : decode cX11_steps 140 = .ok (.imul, 1) := by decide +kernel
theorem dX11_steps_141 : decode cX11_steps 141 = .ok (.if_icmp .ge 82, 3) := by decide +kernel
theorem dX11_steps_144 : decode cX11_steps 144 = .ok (.aload_n 0, 1) := by decide +kernel
theorem dX11_steps_145 : decode cX11_steps 145 = .ok (.iload_n 2, 1) := by decide +kernel
theorem dX11_steps_146 : decode cX11_steps 146 = .ok (.invokevirtual 288, 3) := by decide +kernel
theorem dX11_steps_149 : decode cX11_steps 149 = .ok (.ifCond .eq 68, 3) := by decide +kernel
theorem dX11_steps_152 : decode cX11_steps 152 = .ok (.aload_n 0, 1) := by decide +kernel
theorem dX11_steps_153 : decode cX11_steps 153 = .ok (.iload_n 3, 1) := by decide +kernel
theorem dX11_steps_154 : decode cX11_steps 154 = .ok (.invokevirtual 288, 3) := by decide +kernel
theorem dX11_steps_157 : decode cX11_steps 157 = .ok (.ifCond .ne 6, 3) := by decide +kernel
theorem dX11_steps_160 : decode cX11_steps 160 = .ok (.goto 57, 3) := by decide +kernel
theorem dX11_steps_163 : decode cX11_steps 163 = .ok (.aload_n 0, 1) := by decide +kernel
theorem dX11_steps_164 : decode cX11_steps 164 = .ok (.iload_n 2, 1) := by decide +kernel
theorem dX11_steps_165 : decode cX11_steps 165 = .ok (.invokevirtual 291, 3) := by decide +kernel
theorem dX11_steps_168 : decode cX11_steps 168 = .ok (.aload_n 0, 1) := by decide +kernel
theorem dX11_steps_169 : decode cX11_steps 169 = .ok (.iload_n 3, 1) := by decide +kernel
theorem dX11_steps_170 : decode cX11_steps 170 = .ok (.invokevirtual 291, 3) := by decide +kernel
theorem dX11_steps_173 : decode cX11_steps 173 = .ok (.aload_n 0, 1) := by decide +kernel
theorem dX11_steps_174 : decode cX11_steps 174 = .ok (.iload_n 1, 1) := by decide +kernel
theorem dX11_steps_175 : decode cX11_steps 175 = .ok (.invokevirtual 285, 3) := by decide +kernel
theorem dX11_steps_178 : decode cX11_steps 178 = .ok (.istore 4, 2) := by decide +kernel
theorem dX11_steps_180 : decode cX11_steps 180 = .ok (.aload_n 0, 1) := by decide +kernel
theorem dX11_steps_181 : decode cX11_steps 181 = .ok (.iload_n 2, 1) := by decide +kernel
theorem dX11_steps_182 : decode cX11_steps 182 = .ok (.invokevirtual 294, 3) := by decide +kernel
theorem dX11_steps_185 : decode cX11_steps 185 = .ok (.aload_n 0, 1) := by decide +kernel
theorem dX11_steps_186 : decode cX11_steps 186 = .ok (.iload_n 3, 1) := by decide +kernel
theorem dX11_steps_187 : decode cX11_steps 187 = .ok (.invokevirtual 294, 3) := by decide +kernel
theorem dX11_steps_190 : decode cX11_steps 190 = .ok (.iload 4, 2) := by decide +kernel
theorem dX11_steps_192 : decode cX11_steps 192 = .ok (.ifCond .ne 6, 3) := by decide +kernel
theorem dX11_steps_195 : decode cX11_steps 195 = .ok (.goto 22, 3) := by decide +kernel
theorem dX11_steps_198 : decode cX11_steps 198 = .ok (.aload_n 0, 1) := by decide +kernel
theorem dX11_steps_199 : decode cX11_steps 199 = .ok (.iconst 0, 1) := by decide +kernel
theorem dX11_steps_200 : decode cX11_steps 200 = .ok (.putfield 92, 3) := by decide +kernel
theorem dX11_steps_203 : decode cX11_steps 203 = .ok (.aload_n 0, 1) := by decide +kernel
theorem dX11_steps_204 : decode cX11_steps 204 = .ok (.iload_n 2, 1) := by decide +kernel
theorem dX11_steps_205 : decode cX11_steps 205 = .ok (.i2l, 1) := by decide +kernel
theorem dX11_steps_206 : decode cX11_steps 206 = .ok (.invokevirtual 252, 3) := by decide +kernel
theorem dX11_steps_209 : decode cX11_steps 209 = .ok (.aload_n 0, 1) := by decide +kernel
theorem dX11_steps_210 : decode cX11_steps 210 = .ok (.iload_n 3, 1) := by decide +kernel
theorem dX11_steps_211 : decode cX11_steps 211 = .ok (.i2l, 1) := by decide +kernel
theorem dX11_steps_212 : decode cX11_steps 212 = .ok (.invokevirtual 252, 3) := by decide +kernel
theorem dX11_steps_215 : decode cX11_steps 215 = .ok (.iconst 2, 1) := by decide +kernel
theorem dX11_steps_216 : decode cX11_steps 216 = .ok (.ireturn, 1) := by decide +kernel
theorem dX11_steps_217 : decode cX11_steps 217 = .ok (.iinc 3 1, 3) := by decide +kernel
theorem dX11_steps_220 : decode cX11_steps 220 = .ok (.goto (-87), 3) := by decide +kernel
theorem dX11_steps_223 : decode cX11_steps 223 = .ok (.iinc 2 1, 3) := by decide +kernel
theorem dX11_steps_226 : decode cX11_steps 226 = .ok (.goto (-114), 3) := by decide +kernel
theorem dX11_steps_229 : decode cX11_steps 229 = .ok (.bipush (-2), 2) := by decide +kernel
theorem dX11_steps_231 : decode cX11_steps 231 = .ok (.ireturn, 1) := by decide +kernel
theorem dX11_leaguesBy_0 : decode cX11_leaguesBy 0 = .ok (.aload_n 0, 1) := by decide +kernel
theorem dX11_leaguesBy_1 : decode cX11_leaguesBy 1 = .ok (.getfield 9, 3) := by decide +kernel
theorem dX11_leaguesBy_4 : decode cX11_leaguesBy 4 = .ok (.aload_n 0, 1) := by decide +kernel
theorem dX11_leaguesBy_5 : decode cX11_leaguesBy 5 = .ok (.getfield 49, 3) := by decide +kernel
theorem dX11_leaguesBy_8 : decode cX11_leaguesBy 8 = .ok (.iconst 0, 1) := by decide +kernel
theorem dX11_leaguesBy_9 : decode cX11_leaguesBy 9 = .ok (.invokestatic 231, 3) := by decide +kernel
theorem dX11_leaguesBy_12 : decode cX11_leaguesBy 12 = .ok (.aload_n 0, 1) := by decide +kernel
theorem dX11_leaguesBy_13 : decode cX11_leaguesBy 13 = .ok (.getfield 49, 3) := by decide +kernel
theorem dX11_leaguesBy_16 : decode cX11_leaguesBy 16 = .ok (.bipush 21, 2) := by decide +kernel
theorem dX11_leaguesBy_18 : decode cX11_leaguesBy 18 = .ok (.iload_n 1, 1) := by decide +kernel
theorem dX11_leaguesBy_19 : decode cX11_leaguesBy 19 = .ok (.iastore, 1) := by decide +kernel
theorem dX11_leaguesBy_20 : decode cX11_leaguesBy 20 = .ok (.aload_n 0, 1) := by decide +kernel
theorem dX11_leaguesBy_21 : decode cX11_leaguesBy 21 = .ok (.aload_n 0, 1) := by decide +kernel
theorem dX11_leaguesBy_22 : decode cX11_leaguesBy 22 = .ok (.getfield 49, 3) := by decide +kernel
theorem dX11_leaguesBy_25 : decode cX11_leaguesBy 25 = .ok (.iload_n 2, 1) := by decide +kernel
theorem dX11_leaguesBy_26 : decode cX11_leaguesBy 26 = .ok (.invokevirtual 249, 3) := by decide +kernel
theorem dX11_leaguesBy_29 : decode cX11_leaguesBy 29 = .ok (.aload_n 0, 1) := by decide +kernel
theorem dX11_leaguesBy_30 : decode cX11_leaguesBy 30 = .ok (.getfield 49, 3) := by decide +kernel
theorem dX11_leaguesBy_33 : decode cX11_leaguesBy 33 = .ok (.bipush 23, 2) := by decide +kernel
theorem dX11_leaguesBy_35 : decode cX11_leaguesBy 35 = .ok (.iaload, 1) := by decide +kernel
theorem dX11_leaguesBy_36 : decode cX11_leaguesBy 36 = .ok (.aload_n 0, 1) := by decide +kernel
theorem dX11_leaguesBy_37 : decode cX11_leaguesBy 37 = .ok (.getfield 9, 3) := by decide +kernel
theorem dX11_leaguesBy_40 : decode cX11_leaguesBy 40 = .ok (.bipush 23, 2) := by decide +kernel
theorem dX11_leaguesBy_42 : decode cX11_leaguesBy 42 = .ok (.iaload, 1) := by decide +kernel
theorem dX11_leaguesBy_43 : decode cX11_leaguesBy 43 = .ok (.isub, 1) := by decide +kernel
theorem dX11_leaguesBy_44 : decode cX11_leaguesBy 44 = .ok (.ireturn, 1) := by decide +kernel
theorem dX11_best_0 : decode cX11_best 0 = .ok (.aload_n 0, 1) := by decide +kernel
theorem dX11_best_1 : decode cX11_best 1 = .ok (.iconst 0, 1) := by decide +kernel
theorem dX11_best_2 : decode cX11_best 2 = .ok (.putfield 89, 3) := by decide +kernel
theorem dX11_best_5 : decode cX11_best 5 = .ok (.iload_n 1, 1) := by decide +kernel
theorem dX11_best_6 : decode cX11_best 6 = .ok (.iconst 1, 1) := by decide +kernel
theorem dX11_best_7 : decode cX11_best 7 = .ok (.bipush 60, 2) := by decide +kernel
theorem dX11_best_9 : decode cX11_best 9 = .ok (.invokestatic 98, 3) := by decide +kernel
theorem dX11_best_12 : decode cX11_best 12 = .ok (.ifCond .ne 5, 3) := by decide +kernel
theorem dX11_best_15 : decode cX11_best 15 = .ok (.iconst (-1), 1) := by decide +kernel
theorem dX11_best_16 : decode cX11_best 16 = .ok (.ireturn, 1) := by decide +kernel
theorem dX11_best_17 : decode cX11_best 17 = .ok (.iconst 0, 1) := by decide +kernel
theorem dX11_best_18 : decode cX11_best 18 = .ok (.istore_n 2, 1) := by decide +kernel
theorem dX11_best_19 : decode cX11_best 19 = .ok (.iconst (-1), 1) := by decide +kernel
theorem dX11_best_20 : decode cX11_best 20 = .ok (.istore_n 3, 1) := by decide +kernel
theorem dX11_best_21 : decode cX11_best 21 = .ok (.iconst 0, 1) := by decide +kernel
theorem dX11_best_22 : decode cX11_best 22 = .ok (.istore 4, 2) := by decide +kernel
theorem dX11_best_24 : decode cX11_best 24 = .ok (.iload 4, 2) := by decide +kernel
theorem dX11_best_26 : decode cX11_best 26 = .ok (.bipush 9, 2) := by decide +kernel
theorem dX11_best_28 : decode cX11_best 28 = .ok (.if_icmp .gt 34, 3) := by decide +kernel
theorem dX11_best_31 : decode cX11_best 31 = .ok (.aload_n 0, 1) := by decide +kernel
theorem dX11_best_32 : decode cX11_best 32 = .ok (.iload 4, 2) := by decide +kernel
theorem dX11_best_34 : decode cX11_best 34 = .ok (.iload_n 1, 1) := by decide +kernel
theorem dX11_best_35 : decode cX11_best 35 = .ok (.invokevirtual 297, 3) := by decide +kernel
theorem dX11_best_38 : decode cX11_best 38 = .ok (.iload_n 3, 1) := by decide +kernel
theorem dX11_best_39 : decode cX11_best 39 = .ok (.if_icmp .gt 6, 3) := by decide +kernel
theorem dX11_best_42 : decode cX11_best 42 = .ok (.goto 14, 3) := by decide +kernel
theorem dX11_best_45 : decode cX11_best 45 = .ok (.iload 4, 2) := by decide +kernel
theorem dX11_best_47 : decode cX11_best 47 = .ok (.istore_n 2, 1) := by decide +kernel
theorem dX11_best_48 : decode cX11_best 48 = .ok (.aload_n 0, 1) := by decide +kernel
theorem dX11_best_49 : decode cX11_best 49 = .ok (.iload 4, 2) := by decide +kernel
theorem dX11_best_51 : decode cX11_best 51 = .ok (.iload_n 1, 1) := by decide +kernel
theorem dX11_best_52 : decode cX11_best 52 = .ok (.invokevirtual 297, 3) := by decide +kernel
theorem dX11_best_55 : decode cX11_best 55 = .ok (.istore_n 3, 1) := by decide +kernel
theorem dX11_best_56 : decode cX11_best 56 = .ok (.iinc 4 1, 3) := by decide +kernel
theorem dX11_best_59 : decode cX11_best 59 = .ok (.goto (-35), 3) := by decide +kernel
theorem dX11_best_62 : decode cX11_best 62 = .ok (.aload_n 0, 1) := by decide +kernel
theorem dX11_best_63 : decode cX11_best 63 = .ok (.iconst 0, 1) := by decide +kernel
theorem dX11_best_64 : decode cX11_best 64 = .ok (.putfield 92, 3) := by decide +kernel
theorem dX11_best_67 : decode cX11_best 67 = .ok (.aload_n 0, 1) := by decide +kernel
theorem dX11_best_68 : decode cX11_best 68 = .ok (.iload_n 3, 1) := by decide +kernel
theorem dX11_best_69 : decode cX11_best 69 = .ok (.i2l, 1) := by decide +kernel
theorem dX11_best_70 : decode cX11_best 70 = .ok (.invokevirtual 252, 3) := by decide +kernel
theorem dX11_best_73 : decode cX11_best 73 = .ok (.aload_n 0, 1) := by decide +kernel
theorem dX11_best_74 : decode cX11_best 74 = .ok (.aload_n 0, 1) := by decide +kernel
theorem dX11_best_75 : decode cX11_best 75 = .ok (.aload_n 0, 1) := by decide +kernel
theorem dX11_best_76 : decode cX11_best 76 = .ok (.getfield 9, 3) := by decide +kernel
theorem dX11_best_79 : decode cX11_best 79 = .ok (.bipush 21, 2) := by decide +kernel
theorem dX11_best_81 : decode cX11_best 81 = .ok (.iaload, 1) := by decide +kernel
theorem dX11_best_82 : decode cX11_best 82 = .ok (.iload_n 1, 1) := by decide +kernel
theorem dX11_best_83 : decode cX11_best 83 = .ok (.invokevirtual 297, 3) := by decide +kernel
theorem dX11_best_86 : decode cX11_best 86 = .ok (.i2l, 1) := by decide +kernel
theorem dX11_best_87 : decode cX11_best 87 = .ok (.invokevirtual 252, 3) := by decide +kernel
theorem dX11_best_90 : decode cX11_best 90 = .ok (.iload_n 2, 1) := by decide +kernel
theorem dX11_best_91 : decode cX11_best 91 = .ok (.ireturn, 1) := by decide +kernel
theorem dX11_pullAt_0 : decode cX11_pullAt 0 = .ok (.aload_n 0, 1) := by decide +kernel
theorem dX11_pullAt_1 : decode cX11_pullAt 1 = .ok (.getfield 9, 3) := by decide +kernel
theorem dX11_pullAt_4 : decode cX11_pullAt 4 = .ok (.aload_n 0, 1) := by decide +kernel
theorem dX11_pullAt_5 : decode cX11_pullAt 5 = .ok (.getfield 49, 3) := by decide +kernel
theorem dX11_pullAt_8 : decode cX11_pullAt 8 = .ok (.iconst 0, 1) := by decide +kernel
theorem dX11_pullAt_9 : decode cX11_pullAt 9 = .ok (.invokestatic 231, 3) := by decide +kernel
theorem dX11_pullAt_12 : decode cX11_pullAt 12 = .ok (.aload_n 0, 1) := by decide +kernel
theorem dX11_pullAt_13 : decode cX11_pullAt 13 = .ok (.getfield 49, 3) := by decide +kernel
theorem dX11_pullAt_16 : decode cX11_pullAt 16 = .ok (.bipush 14, 2) := by decide +kernel
theorem dX11_pullAt_18 : decode cX11_pullAt 18 = .ok (.iload_n 1, 1) := by decide +kernel
theorem dX11_pullAt_19 : decode cX11_pullAt 19 = .ok (.iadd, 1) := by decide +kernel
theorem dX11_pullAt_20 : decode cX11_pullAt 20 = .ok (.iload_n 2, 1) := by decide +kernel
theorem dX11_pullAt_21 : decode cX11_pullAt 21 = .ok (.iastore, 1) := by decide +kernel
theorem dX11_pullAt_22 : decode cX11_pullAt 22 = .ok (.aload_n 0, 1) := by decide +kernel
theorem dX11_pullAt_23 : decode cX11_pullAt 23 = .ok (.aload_n 0, 1) := by decide +kernel
theorem dX11_pullAt_24 : decode cX11_pullAt 24 = .ok (.getfield 49, 3) := by decide +kernel
theorem dX11_pullAt_27 : decode cX11_pullAt 27 = .ok (.invokevirtual 277, 3) := by decide +kernel
theorem dX11_pullAt_30 : decode cX11_pullAt 30 = .ok (.ireturn, 1) := by decide +kernel
theorem dX11_trims_0 : decode cX11_trims 0 = .ok (.aload_n 0, 1) := by decide +kernel
theorem dX11_trims_1 : decode cX11_trims 1 = .ok (.iconst 0, 1) := by decide +kernel
theorem dX11_trims_2 : decode cX11_trims 2 = .ok (.putfield 89, 3) := by decide +kernel
theorem dX11_trims_5 : decode cX11_trims 5 = .ok (.aload_n 0, 1) := by decide +kernel
theorem dX11_trims_6 : decode cX11_trims 6 = .ok (.iload_n 1, 1) := by decide +kernel
theorem dX11_trims_7 : decode cX11_trims 7 = .ok (.invokevirtual 221, 3) := by decide +kernel
theorem dX11_trims_10 : decode cX11_trims 10 = .ok (.ifCond .ne 5, 3) := by decide +kernel
theorem dX11_trims_13 : decode cX11_trims 13 = .ok (.iconst (-1), 1) := by decide +kernel
theorem dX11_trims_14 : decode cX11_trims 14 = .ok (.ireturn, 1) := by decide +kernel
theorem dX11_trims_15 : decode cX11_trims 15 = .ok (.bipush (-5), 2) := by decide +kernel
theorem dX11_trims_17 : decode cX11_trims 17 = .ok (.istore_n 2, 1) := by decide +kernel
theorem dX11_trims_18 : decode cX11_trims 18 = .ok (.bipush (-5), 2) := by decide +kernel
theorem dX11_trims_20 : decode cX11_trims 20 = .ok (.istore_n 3, 1) := by decide +kernel
theorem dX11_trims_21 : decode cX11_trims 21 = .ok (.iload_n 3, 1) := by decide +kernel
theorem dX11_trims_22 : decode cX11_trims 22 = .ok (.iconst 5, 1) := by decide +kernel
theorem dX11_trims_23 : decode cX11_trims 23 = .ok (.if_icmp .gt 36, 3) := by decide +kernel
theorem dX11_trims_26 : decode cX11_trims 26 = .ok (.aload_n 0, 1) := by decide +kernel
theorem dX11_trims_27 : decode cX11_trims 27 = .ok (.iload_n 1, 1) := by decide +kernel
theorem dX11_trims_28 : decode cX11_trims 28 = .ok (.iload_n 3, 1) := by decide +kernel
theorem dX11_trims_29 : decode cX11_trims 29 = .ok (.invokevirtual 300, 3) := by decide +kernel
theorem dX11_trims_32 : decode cX11_trims 32 = .ok (.invokestatic 192, 3) := by decide +kernel
theorem dX11_trims_35 : decode cX11_trims 35 = .ok (.aload_n 0, 1) := by decide +kernel
theorem dX11_trims_36 : decode cX11_trims 36 = .ok (.iload_n 1, 1) := by decide +kernel
theorem dX11_trims_37 : decode cX11_trims 37 = .ok (.iload_n 2, 1) := by decide +kernel
theorem dX11_trims_38 : decode cX11_trims 38 = .ok (.invokevirtual 300, 3) := by decide +kernel
theorem dX11_trims_41 : decode cX11_trims 41 = .ok (.invokestatic 192, 3) := by decide +kernel
theorem dX11_trims_44 : decode cX11_trims 44 = .ok (.if_icmp .ge 7, 3) := by decide +kernel
theorem dX11_trims_47 : decode cX11_trims 47 = .ok (.iload_n 3, 1) := by decide +kernel
theorem dX11_trims_48 : decode cX11_trims 48 = .ok (.goto 4, 3) := by decide +kernel
theorem dX11_trims_51 : decode cX11_trims 51 = .ok (.iload_n 2, 1) := by decide +kernel
theorem dX11_trims_52 : decode cX11_trims 52 = .ok (.istore_n 2, 1) := by decide +kernel
theorem dX11_trims_53 : decode cX11_trims 53 = .ok (.iinc 3 1, 3) := by decide +kernel
theorem dX11_trims_56 : decode cX11_trims 56 = .ok (.goto (-35), 3) := by decide +kernel
theorem dX11_trims_59 : decode cX11_trims 59 = .ok (.aload_n 0, 1) := by decide +kernel
theorem dX11_trims_60 : decode cX11_trims 60 = .ok (.iconst 0, 1) := by decide +kernel
theorem dX11_trims_61 : decode cX11_trims 61 = .ok (.putfield 92, 3) := by decide +kernel
theorem dX11_trims_64 : decode cX11_trims 64 = .ok (.aload_n 0, 1) := by decide +kernel
theorem dX11_trims_65 : decode cX11_trims 65 = .ok (.bipush 100, 2) := by decide +kernel
theorem dX11_trims_67 : decode cX11_trims 67 = .ok (.aload_n 0, 1) := by decide +kernel
theorem dX11_trims_68 : decode cX11_trims 68 = .ok (.iload_n 1, 1) := by decide +kernel
theorem dX11_trims_69 : decode cX11_trims 69 = .ok (.iload_n 2, 1) := by decide +kernel
theorem dX11_trims_70 : decode cX11_trims 70 = .ok (.invokevirtual 300, 3) := by decide +kernel
theorem dX11_trims_73 : decode cX11_trims 73 = .ok (.iadd, 1) := by decide +kernel
theorem dX11_trims_74 : decode cX11_trims 74 = .ok (.i2l, 1) := by decide +kernel
theorem dX11_trims_75 : decode cX11_trims 75 = .ok (.invokevirtual 252, 3) := by decide +kernel
theorem dX11_trims_78 : decode cX11_trims 78 = .ok (.bipush 10, 2) := by decide +kernel
theorem dX11_trims_80 : decode cX11_trims 80 = .ok (.iload_n 2, 1) := by decide +kernel
theorem dX11_trims_81 : decode cX11_trims 81 = .ok (.iadd, 1) := by decide +kernel
theorem dX11_trims_82 : decode cX11_trims 82 = .ok (.ireturn, 1) := by decide +kernel
theorem dX11_pullWithout_0 : decode cX11_pullWithout 0 = .ok (.aload_n 0, 1) := by decide +kernel
theorem dX11_pullWithout_1 : decode cX11_pullWithout 1 = .ok (.aload_n 0, 1) := by decide +kernel
theorem dX11_pullWithout_2 : decode cX11_pullWithout 2 = .ok (.getfield 9, 3) := by decide +kernel
theorem dX11_pullWithout_5 : decode cX11_pullWithout 5 = .ok (.iload_n 1, 1) := by decide +kernel
theorem dX11_pullWithout_6 : decode cX11_pullWithout 6 = .ok (.invokevirtual 208, 3) := by decide +kernel
theorem dX11_pullWithout_9 : decode cX11_pullWithout 9 = .ok (.iconst 2, 1) := by decide +kernel
theorem dX11_pullWithout_10 : decode cX11_pullWithout 10 = .ok (.aload_n 0, 1) := by decide +kernel
theorem dX11_pullWithout_11 : decode cX11_pullWithout 11 = .ok (.aload_n 0, 1) := by decide +kernel
theorem dX11_pullWithout_12 : decode cX11_pullWithout 12 = .ok (.getfield 9, 3) := by decide +kernel
theorem dX11_pullWithout_15 : decode cX11_pullWithout 15 = .ok (.invokevirtual 211, 3) := by decide +kernel
theorem dX11_pullWithout_18 : decode cX11_pullWithout 18 = .ok (.imul, 1) := by decide +kernel
theorem dX11_pullWithout_19 : decode cX11_pullWithout 19 = .ok (.aload_n 0, 1) := by decide +kernel
theorem dX11_pullWithout_20 : decode cX11_pullWithout 20 = .ok (.getfield 9, 3) := by decide +kernel
theorem dX11_pullWithout_23 : decode cX11_pullWithout 23 = .ok (.bipush 21, 2) := by decide +kernel
theorem dX11_pullWithout_25 : decode cX11_pullWithout 25 = .ok (.iaload, 1) := by decide +kernel
theorem dX11_pullWithout_26 : decode cX11_pullWithout 26 = .ok (.imul, 1) := by decide +kernel
theorem dX11_pullWithout_27 : decode cX11_pullWithout 27 = .ok (.iadd, 1) := by decide +kernel
theorem dX11_pullWithout_28 : decode cX11_pullWithout 28 = .ok (.invokestatic 218, 3) := by decide +kernel
theorem dX11_pullWithout_31 : decode cX11_pullWithout 31 = .ok (.ireturn, 1) := by decide +kernel
theorem dX11_frees_0 : decode cX11_frees 0 = .ok (.aload_n 0, 1) := by decide +kernel
theorem dX11_frees_1 : decode cX11_frees 1 = .ok (.iconst 0, 1) := by decide +kernel
theorem dX11_frees_2 : decode cX11_frees 2 = .ok (.putfield 89, 3) := by decide +kernel
theorem dX11_frees_5 : decode cX11_frees 5 = .ok (.aload_n 0, 1) := by decide +kernel
theorem dX11_frees_6 : decode cX11_frees 6 = .ok (.getfield 95, 3) := by decide +kernel
theorem dX11_frees_9 : decode cX11_frees 9 = .ok (.ifCond .ne 6, 3) := by decide +kernel
theorem dX11_frees_12 : decode cX11_frees 12 = .ok (.bipush (-2), 2) := by decide +kernel
theorem dX11_frees_14 : decode cX11_frees 14 = .ok (.ireturn, 1) := by decide +kernel
theorem dX11_frees_15 : decode cX11_frees 15 = .ok (.iconst 0, 1) := by decide +kernel
theorem dX11_frees_16 : decode cX11_frees 16 = .ok (.istore_n 1, 1) := by decide +kernel
theorem dX11_frees_17 : decode cX11_frees 17 = .ok (.iconst 1, 1) := by decide +kernel
theorem dX11_frees_18 : decode cX11_frees 18 = .ok (.istore_n 2, 1) := by decide +kernel
theorem dX11_frees_19 : decode cX11_frees 19 = .ok (.iload_n 2, 1) := by decide +kernel
theorem dX11_frees_20 : decode cX11_frees 20 = .ok (.aload_n 0, 1) := by decide +kernel
theorem dX11_frees_21 : decode cX11_frees 21 = .ok (.getfield 95, 3) := by decide +kernel
theorem dX11_frees_24 : decode cX11_frees 24 = .ok (.if_icmp .ge 34, 3) := by decide +kernel
theorem dX11_frees_27 : decode cX11_frees 27 = .ok (.aload_n 0, 1) := by decide +kernel
theorem dX11_frees_28 : decode cX11_frees 28 = .ok (.iload_n 2, 1) := by decide +kernel
theorem dX11_frees_29 : decode cX11_frees 29 = .ok (.invokevirtual 303, 3) := by decide +kernel
theorem dX11_frees_32 : decode cX11_frees 32 = .ok (.invokestatic 192, 3) := by decide +kernel
theorem dX11_frees_35 : decode cX11_frees 35 = .ok (.aload_n 0, 1) := by decide +kernel
theorem dX11_frees_36 : decode cX11_frees 36 = .ok (.iload_n 1, 1) := by decide +kernel
theorem dX11_frees_37 : decode cX11_frees 37 = .ok (.invokevirtual 303, 3) := by decide +kernel
theorem dX11_frees_40 : decode cX11_frees 40 = .ok (.invokestatic 192, 3) := by decide +kernel
theorem dX11_frees_43 : decode cX11_frees 43 = .ok (.if_icmp .ge 7, 3) := by decide +kernel
theorem dX11_frees_46 : decode cX11_frees 46 = .ok (.iload_n 2, 1) := by decide +kernel
theorem dX11_frees_47 : decode cX11_frees 47 = .ok (.goto 4, 3) := by decide +kernel
theorem dX11_frees_50 : decode cX11_frees 50 = .ok (.iload_n 1, 1) := by decide +kernel
theorem dX11_frees_51 : decode cX11_frees 51 = .ok (.istore_n 1, 1) := by decide +kernel
theorem dX11_frees_52 : decode cX11_frees 52 = .ok (.iinc 2 1, 3) := by decide +kernel
theorem dX11_frees_55 : decode cX11_frees 55 = .ok (.goto (-36), 3) := by decide +kernel
theorem dX11_frees_58 : decode cX11_frees 58 = .ok (.aload_n 0, 1) := by decide +kernel
theorem dX11_frees_59 : decode cX11_frees 59 = .ok (.iconst 0, 1) := by decide +kernel
theorem dX11_frees_60 : decode cX11_frees 60 = .ok (.putfield 92, 3) := by decide +kernel
theorem dX11_frees_63 : decode cX11_frees 63 = .ok (.aload_n 0, 1) := by decide +kernel
theorem dX11_frees_64 : decode cX11_frees 64 = .ok (.bipush 100, 2) := by decide +kernel
theorem dX11_frees_66 : decode cX11_frees 66 = .ok (.aload_n 0, 1) := by decide +kernel
theorem dX11_frees_67 : decode cX11_frees 67 = .ok (.iload_n 1, 1) := by decide +kernel
theorem dX11_frees_68 : decode cX11_frees 68 = .ok (.invokevirtual 303, 3) := by decide +kernel
theorem dX11_frees_71 : decode cX11_frees 71 = .ok (.iadd, 1) := by decide +kernel
theorem dX11_frees_72 : decode cX11_frees 72 = .ok (.i2l, 1) := by decide +kernel
theorem dX11_frees_73 : decode cX11_frees 73 = .ok (.invokevirtual 252, 3) := by decide +kernel
theorem dX11_frees_76 : decode cX11_frees 76 = .ok (.aload_n 0, 1) := by decide +kernel
theorem dX11_frees_77 : decode cX11_frees 77 = .ok (.bipush 100, 2) := by decide +kernel
theorem dX11_frees_79 : decode cX11_frees 79 = .ok (.aload_n 0, 1) := by decide +kernel
theorem dX11_frees_80 : decode cX11_frees 80 = .ok (.aload_n 0, 1) := by decide +kernel
theorem dX11_frees_81 : decode cX11_frees 81 = .ok (.getfield 9, 3) := by decide +kernel
theorem dX11_frees_84 : decode cX11_frees 84 = .ok (.invokevirtual 277, 3) := by decide +kernel
theorem dX11_frees_87 : decode cX11_frees 87 = .ok (.iadd, 1) := by decide +kernel
theorem dX11_frees_88 : decode cX11_frees 88 = .ok (.i2l, 1) := by decide +kernel
theorem dX11_frees_89 : decode cX11_frees 89 = .ok (.invokevirtual 252, 3) := by decide +kernel
theorem dX11_frees_92 : decode cX11_frees 92 = .ok (.iload_n 1, 1) := by decide +kernel
theorem dX11_frees_93 : decode cX11_frees 93 = .ok (.ireturn, 1) := by decide +kernel
theorem dX11_bears_0 : decode cX11_bears 0 = .ok (.aload_n 0, 1) := by decide +kernel
theorem dX11_bears_1 : decode cX11_bears 1 = .ok (.iconst 0, 1) := by decide +kernel
theorem dX11_bears_2 : decode cX11_bears 2 = .ok (.putfield 89, 3) := by decide +kernel
theorem dX11_bears_5 : decode cX11_bears 5 = .ok (.bipush 9, 2) := by decide +kernel
theorem dX11_bears_7 : decode cX11_bears 7 = .ok (.istore_n 1, 1) := by decide +kernel
theorem dX11_bears_8 : decode cX11_bears 8 = .ok (.iload_n 1, 1) := by decide +kernel
theorem dX11_bears_9 : decode cX11_bears 9 = .ok (.ifCond .lt 77, 3) := by decide +kernel
theorem dX11_bears_12 : decode cX11_bears 12 = .ok (.aload_n 0, 1) := by decide +kernel
theorem dX11_bears_13 : decode cX11_bears 13 = .ok (.aload_n 0, 1) := by decide +kernel
theorem dX11_bears_14 : decode cX11_bears 14 = .ok (.getfield 9, 3) := by decide +kernel
theorem dX11_bears_17 : decode cX11_bears 17 = .ok (.iload_n 1, 1) := by decide +kernel
theorem dX11_bears_18 : decode cX11_bears 18 = .ok (.invokevirtual 215, 3) := by decide +kernel
theorem dX11_bears_21 : decode cX11_bears 21 = .ok (.invokestatic 218, 3) := by decide +kernel
theorem dX11_bears_24 : decode cX11_bears 24 = .ok (.bipush 15, 2) := by decide +kernel
theorem dX11_bears_26 : decode cX11_bears 26 = .ok (.if_icmp .lt 6, 3) := by decide +kernel
theorem dX11_bears_29 : decode cX11_bears 29 = .ok (.goto 51, 3) := by decide +kernel
theorem dX11_bears_32 : decode cX11_bears 32 = .ok (.aload_n 0, 1) := by decide +kernel
theorem dX11_bears_33 : decode cX11_bears 33 = .ok (.iconst 0, 1) := by decide +kernel
theorem dX11_bears_34 : decode cX11_bears 34 = .ok (.putfield 92, 3) := by decide +kernel
theorem dX11_bears_37 : decode cX11_bears 37 = .ok (.aload_n 0, 1) := by decide +kernel
theorem dX11_bears_38 : decode cX11_bears 38 = .ok (.bipush 100, 2) := by decide +kernel
theorem dX11_bears_40 : decode cX11_bears 40 = .ok (.aload_n 0, 1) := by decide +kernel
theorem dX11_bears_41 : decode cX11_bears 41 = .ok (.aload_n 0, 1) := by decide +kernel
theorem dX11_bears_42 : decode cX11_bears 42 = .ok (.getfield 9, 3) := by decide +kernel
theorem dX11_bears_45 : decode cX11_bears 45 = .ok (.iload_n 1, 1) := by decide +kernel
theorem dX11_bears_46 : decode cX11_bears 46 = .ok (.invokevirtual 215, 3) := by decide +kernel
theorem dX11_bears_49 : decode cX11_bears 49 = .ok (.invokestatic 218, 3) := by decide +kernel
theorem dX11_bears_52 : decode cX11_bears 52 = .ok (.iadd, 1) := by decide +kernel
theorem dX11_bears_53 : decode cX11_bears 53 = .ok (.i2l, 1) := by decide +kernel
theorem dX11_bears_54 : decode cX11_bears 54 = .ok (.invokevirtual 252, 3) := by decide +kernel
theorem dX11_bears_57 : decode cX11_bears 57 = .ok (.aload_n 0, 1) := by decide +kernel
theorem dX11_bears_58 : decode cX11_bears 58 = .ok (.bipush 100, 2) := by decide +kernel
theorem dX11_bears_60 : decode cX11_bears 60 = .ok (.aload_n 0, 1) := by decide +kernel
theorem dX11_bears_61 : decode cX11_bears 61 = .ok (.aload_n 0, 1) := by decide +kernel
theorem dX11_bears_62 : decode cX11_bears 62 = .ok (.getfield 9, 3) := by decide +kernel
theorem dX11_bears_65 : decode cX11_bears 65 = .ok (.bipush 9, 2) := by decide +kernel
theorem dX11_bears_67 : decode cX11_bears 67 = .ok (.invokevirtual 215, 3) := by decide +kernel
theorem dX11_bears_70 : decode cX11_bears 70 = .ok (.invokestatic 218, 3) := by decide +kernel
theorem dX11_bears_73 : decode cX11_bears 73 = .ok (.iadd, 1) := by decide +kernel
theorem dX11_bears_74 : decode cX11_bears 74 = .ok (.i2l, 1) := by decide +kernel
theorem dX11_bears_75 : decode cX11_bears 75 = .ok (.invokevirtual 252, 3) := by decide +kernel
theorem dX11_bears_78 : decode cX11_bears 78 = .ok (.iload_n 1, 1) := by decide +kernel
theorem dX11_bears_79 : decode cX11_bears 79 = .ok (.ireturn, 1) := by decide +kernel
theorem dX11_bears_80 : decode cX11_bears 80 = .ok (.iinc 1 (-1), 3) := by decide +kernel
theorem dX11_bears_83 : decode cX11_bears 83 = .ok (.goto (-75), 3) := by decide +kernel
theorem dX11_bears_86 : decode cX11_bears 86 = .ok (.bipush (-2), 2) := by decide +kernel
theorem dX11_bears_88 : decode cX11_bears 88 = .ok (.ireturn, 1) := by decide +kernel
theorem dX11_weightsOf_0 : decode cX11_weightsOf 0 = .ok (.iconst 0, 1) := by decide +kernel
theorem dX11_weightsOf_1 : decode cX11_weightsOf 1 = .ok (.istore_n 2, 1) := by decide +kernel
theorem dX11_weightsOf_2 : decode cX11_weightsOf 2 = .ok (.iconst 0, 1) := by decide +kernel
theorem dX11_weightsOf_3 : decode cX11_weightsOf 3 = .ok (.istore_n 3, 1) := by decide +kernel
theorem dX11_weightsOf_4 : decode cX11_weightsOf 4 = .ok (.iload_n 3, 1) := by decide +kernel
theorem dX11_weightsOf_5 : decode cX11_weightsOf 5 = .ok (.aload_n 0, 1) := by decide +kernel
theorem dX11_weightsOf_6 : decode cX11_weightsOf 6 = .ok (.getfield 95, 3) := by decide +kernel
theorem dX11_weightsOf_9 : decode cX11_weightsOf 9 = .ok (.if_icmp .ge 33, 3) := by decide +kernel
theorem dX11_weightsOf_12 : decode cX11_weightsOf 12 = .ok (.iload_n 2, 1) := by decide +kernel
theorem dX11_weightsOf_13 : decode cX11_weightsOf 13 = .ok (.iload_n 1, 1) := by decide +kernel
theorem dX11_weightsOf_14 : decode cX11_weightsOf 14 = .ok (.iload_n 3, 1) := by decide +kernel
theorem dX11_weightsOf_15 : decode cX11_weightsOf 15 = .ok (.invokestatic 306, 3) := by decide +kernel
theorem dX11_weightsOf_18 : decode cX11_weightsOf 18 = .ok (.ifCond .eq 15, 3) := by decide +kernel
theorem dX11_weightsOf_21 : decode cX11_weightsOf 21 = .ok (.aload_n 0, 1) := by decide +kernel
theorem dX11_weightsOf_22 : decode cX11_weightsOf 22 = .ok (.aload_n 0, 1) := by decide +kernel
theorem dX11_weightsOf_23 : decode cX11_weightsOf 23 = .ok (.getfield 9, 3) := by decide +kernel
theorem dX11_weightsOf_26 : decode cX11_weightsOf 26 = .ok (.iload_n 3, 1) := by decide +kernel
theorem dX11_weightsOf_27 : decode cX11_weightsOf 27 = .ok (.invokevirtual 204, 3) := by decide +kernel
theorem dX11_weightsOf_30 : decode cX11_weightsOf 30 = .ok (.goto 4, 3) := by decide +kernel
theorem dX11_weightsOf_33 : decode cX11_weightsOf 33 = .ok (.iconst 0, 1) := by decide +kernel
theorem dX11_weightsOf_34 : decode cX11_weightsOf 34 = .ok (.iadd, 1) := by decide +kernel
theorem dX11_weightsOf_35 : decode cX11_weightsOf 35 = .ok (.istore_n 2, 1) := by decide +kernel
theorem dX11_weightsOf_36 : decode cX11_weightsOf 36 = .ok (.iinc 3 1, 3) := by decide +kernel
theorem dX11_weightsOf_39 : decode cX11_weightsOf 39 = .ok (.goto (-35), 3) := by decide +kernel
theorem dX11_weightsOf_42 : decode cX11_weightsOf 42 = .ok (.iload_n 2, 1) := by decide +kernel
theorem dX11_weightsOf_43 : decode cX11_weightsOf 43 = .ok (.ireturn, 1) := by decide +kernel
theorem dX11_differing_0 : decode cX11_differing 0 = .ok (.aload_n 0, 1) := by decide +kernel
theorem dX11_differing_1 : decode cX11_differing 1 = .ok (.aload_n 0, 1) := by decide +kernel
theorem dX11_differing_2 : decode cX11_differing 2 = .ok (.invokevirtual 310, 3) := by decide +kernel
theorem dX11_differing_5 : decode cX11_differing 5 = .ok (.invokevirtual 313, 3) := by decide +kernel
theorem dX11_differing_8 : decode cX11_differing 8 = .ok (.iconst 2, 1) := by decide +kernel
theorem dX11_differing_9 : decode cX11_differing 9 = .ok (.aload_n 0, 1) := by decide +kernel
theorem dX11_differing_10 : decode cX11_differing 10 = .ok (.iload_n 1, 1) := by decide +kernel
theorem dX11_differing_11 : decode cX11_differing 11 = .ok (.invokevirtual 313, 3) := by decide +kernel
theorem dX11_differing_14 : decode cX11_differing 14 = .ok (.imul, 1) := by decide +kernel
theorem dX11_differing_15 : decode cX11_differing 15 = .ok (.isub, 1) := by decide +kernel
theorem dX11_differing_16 : decode cX11_differing 16 = .ok (.invokestatic 192, 3) := by decide +kernel
theorem dX11_differing_19 : decode cX11_differing 19 = .ok (.ireturn, 1) := by decide +kernel
theorem dX11_parties_0 : decode cX11_parties 0 = .ok (.aload_n 0, 1) := by decide +kernel
theorem dX11_parties_1 : decode cX11_parties 1 = .ok (.iconst 0, 1) := by decide +kernel
theorem dX11_parties_2 : decode cX11_parties 2 = .ok (.putfield 89, 3) := by decide +kernel
theorem dX11_parties_5 : decode cX11_parties 5 = .ok (.iconst 0, 1) := by decide +kernel
theorem dX11_parties_6 : decode cX11_parties 6 = .ok (.istore_n 1, 1) := by decide +kernel
theorem dX11_parties_7 : decode cX11_parties 7 = .ok (.iconst 1, 1) := by decide +kernel
theorem dX11_parties_8 : decode cX11_parties 8 = .ok (.istore_n 2, 1) := by decide +kernel
theorem dX11_parties_9 : decode cX11_parties 9 = .ok (.iload_n 2, 1) := by decide +kernel
theorem dX11_parties_10 : decode cX11_parties 10 = .ok (.aload_n 0, 1) := by decide +kernel
theorem dX11_parties_11 : decode cX11_parties 11 = .ok (.invokevirtual 310, 3) := by decide +kernel
theorem dX11_parties_14 : decode cX11_parties 14 = .ok (.if_icmp .gt 28, 3) := by decide +kernel
theorem dX11_parties_17 : decode cX11_parties 17 = .ok (.aload_n 0, 1) := by decide +kernel
theorem dX11_parties_18 : decode cX11_parties 18 = .ok (.iload_n 2, 1) := by decide +kernel
theorem dX11_parties_19 : decode cX11_parties 19 = .ok (.invokevirtual 316, 3) := by decide +kernel
theorem dX11_parties_22 : decode cX11_parties 22 = .ok (.aload_n 0, 1) := by decide +kernel
theorem dX11_parties_23 : decode cX11_parties 23 = .ok (.iload_n 1, 1) := by decide +kernel
theorem dX11_parties_24 : decode cX11_parties 24 = .ok (.invokevirtual 316, 3) := by decide +kernel
theorem dX11_parties_27 : decode cX11_parties 27 = .ok (.if_icmp .ge 7, 3) := by decide +kernel
theorem dX11_parties_30 : decode cX11_parties 30 = .ok (.iload_n 2, 1) := by decide +kernel
theorem dX11_parties_31 : decode cX11_parties 31 = .ok (.goto 4, 3) := by decide +kernel
theorem dX11_parties_34 : decode cX11_parties 34 = .ok (.iload_n 1, 1) := by decide +kernel
theorem dX11_parties_35 : decode cX11_parties 35 = .ok (.istore_n 1, 1) := by decide +kernel
theorem dX11_parties_36 : decode cX11_parties 36 = .ok (.iinc 2 1, 3) := by decide +kernel
theorem dX11_parties_39 : decode cX11_parties 39 = .ok (.goto (-30), 3) := by decide +kernel
theorem dX11_parties_42 : decode cX11_parties 42 = .ok (.aload_n 0, 1) := by decide +kernel
theorem dX11_parties_43 : decode cX11_parties 43 = .ok (.iconst 0, 1) := by decide +kernel
theorem dX11_parties_44 : decode cX11_parties 44 = .ok (.putfield 92, 3) := by decide +kernel
theorem dX11_parties_47 : decode cX11_parties 47 = .ok (.aload_n 0, 1) := by decide +kernel
theorem dX11_parties_48 : decode cX11_parties 48 = .ok (.iload_n 1, 1) := by decide +kernel
theorem dX11_parties_49 : decode cX11_parties 49 = .ok (.i2l, 1) := by decide +kernel
theorem dX11_parties_50 : decode cX11_parties 50 = .ok (.invokevirtual 252, 3) := by decide +kernel
theorem dX11_parties_53 : decode cX11_parties 53 = .ok (.aload_n 0, 1) := by decide +kernel
theorem dX11_parties_54 : decode cX11_parties 54 = .ok (.aload_n 0, 1) := by decide +kernel
theorem dX11_parties_55 : decode cX11_parties 55 = .ok (.iload_n 1, 1) := by decide +kernel
theorem dX11_parties_56 : decode cX11_parties 56 = .ok (.invokevirtual 313, 3) := by decide +kernel
theorem dX11_parties_59 : decode cX11_parties 59 = .ok (.i2l, 1) := by decide +kernel
theorem dX11_parties_60 : decode cX11_parties 60 = .ok (.invokevirtual 252, 3) := by decide +kernel
theorem dX11_parties_63 : decode cX11_parties 63 = .ok (.aload_n 0, 1) := by decide +kernel
theorem dX11_parties_64 : decode cX11_parties 64 = .ok (.iload_n 1, 1) := by decide +kernel
theorem dX11_parties_65 : decode cX11_parties 65 = .ok (.invokevirtual 316, 3) := by decide +kernel
theorem dX11_parties_68 : decode cX11_parties 68 = .ok (.ireturn, 1) := by decide +kernel
theorem dX11_just_0 : decode cX11_just 0 = .ok (.aload_n 0, 1) := by decide +kernel
theorem dX11_just_1 : decode cX11_just 1 = .ok (.iconst 0, 1) := by decide +kernel
theorem dX11_just_2 : decode cX11_just 2 = .ok (.putfield 89, 3) := by decide +kernel
theorem dX11_just_5 : decode cX11_just 5 = .ok (.iload_n 1, 1) := by decide +kernel
theorem dX11_just_6 : decode cX11_just 6 = .ok (.iconst 0, 1) := by decide +kernel
theorem dX11_just_7 : decode cX11_just 7 = .ok (.sipush 140, 3) := by decide +kernel
theorem dX11_just_10 : decode cX11_just 10 = .ok (.invokestatic 98, 3) := by decide +kernel
theorem dX11_just_13 : decode cX11_just 13 = .ok (.ifCond .ne 5, 3) := by decide +kernel
theorem dX11_just_16 : decode cX11_just 16 = .ok (.iconst (-1), 1) := by decide +kernel
theorem dX11_just_17 : decode cX11_just 17 = .ok (.ireturn, 1) := by decide +kernel
theorem dX11_just_18 : decode cX11_just 18 = .ok (.iconst (-1), 1) := by decide +kernel
theorem dX11_just_19 : decode cX11_just 19 = .ok (.istore_n 2, 1) := by decide +kernel
theorem dX11_just_20 : decode cX11_just 20 = .ok (.iconst 0, 1) := by decide +kernel
theorem dX11_just_21 : decode cX11_just 21 = .ok (.istore_n 3, 1) := by decide +kernel
theorem dX11_just_22 : decode cX11_just 22 = .ok (.iconst 0, 1) := by decide +kernel
theorem dX11_just_23 : decode cX11_just 23 = .ok (.istore 4, 2) := by decide +kernel
theorem dX11_just_25 : decode cX11_just 25 = .ok (.iload 4, 2) := by decide +kernel
theorem dX11_just_27 : decode cX11_just 27 = .ok (.aload_n 0, 1) := by decide +kernel
theorem dX11_just_28 : decode cX11_just 28 = .ok (.invokevirtual 310, 3) := by decide +kernel
theorem dX11_just_31 : decode cX11_just 31 = .ok (.if_icmp .gt 49, 3) := by decide +kernel
theorem dX11_just_34 : decode cX11_just 34 = .ok (.aload_n 0, 1) := by decide +kernel
theorem dX11_just_35 : decode cX11_just 35 = .ok (.iload 4, 2) := by decide +kernel
theorem dX11_just_37 : decode cX11_just 37 = .ok (.invokevirtual 313, 3) := by decide +kernel
theorem dX11_just_40 : decode cX11_just 40 = .ok (.iload_n 1, 1) := by decide +kernel
theorem dX11_just_41 : decode cX11_just 41 = .ok (.if_icmp .eq 6, 3) := by decide +kernel
theorem dX11_just_44 : decode cX11_just 44 = .ok (.goto 30, 3) := by decide +kernel
theorem dX11_just_47 : decode cX11_just 47 = .ok (.iload_n 2, 1) := by decide +kernel
theorem dX11_just_48 : decode cX11_just 48 = .ok (.iconst (-1), 1) := by decide +kernel
theorem dX11_just_49 : decode cX11_just 49 = .ok (.if_icmp .eq 15, 3) := by decide +kernel
theorem dX11_just_52 : decode cX11_just 52 = .ok (.iload 4, 2) := by decide +kernel
theorem dX11_just_54 : decode cX11_just 54 = .ok (.invokestatic 319, 3) := by decide +kernel
theorem dX11_just_57 : decode cX11_just 57 = .ok (.iload_n 2, 1) := by decide +kernel
theorem dX11_just_58 : decode cX11_just 58 = .ok (.invokestatic 319, 3) := by decide +kernel
theorem dX11_just_61 : decode cX11_just 61 = .ok (.if_icmp .ge 8, 3) := by decide +kernel
theorem dX11_just_64 : decode cX11_just 64 = .ok (.iload 4, 2) := by decide +kernel
theorem dX11_just_66 : decode cX11_just 66 = .ok (.goto 4, 3) := by decide +kernel
theorem dX11_just_69 : decode cX11_just 69 = .ok (.iload_n 2, 1) := by decide +kernel
theorem dX11_just_70 : decode cX11_just 70 = .ok (.istore_n 2, 1) := by decide +kernel
theorem dX11_just_71 : decode cX11_just 71 = .ok (.iinc 3 1, 3) := by decide +kernel
theorem dX11_just_74 : decode cX11_just 74 = .ok (.iinc 4 1, 3) := by decide +kernel
theorem dX11_just_77 : decode cX11_just 77 = .ok (.goto (-52), 3) := by decide +kernel
theorem dX11_just_80 : decode cX11_just 80 = .ok (.iload_n 2, 1) := by decide +kernel
theorem dX11_just_81 : decode cX11_just 81 = .ok (.iconst (-1), 1) := by decide +kernel
theorem dX11_just_82 : decode cX11_just 82 = .ok (.if_icmp .ne 6, 3) := by decide +kernel
theorem dX11_just_85 : decode cX11_just 85 = .ok (.bipush (-2), 2) := by decide +kernel
theorem dX11_just_87 : decode cX11_just 87 = .ok (.ireturn, 1) := by decide +kernel
theorem dX11_just_88 : decode cX11_just 88 = .ok (.aload_n 0, 1) := by decide +kernel
theorem dX11_just_89 : decode cX11_just 89 = .ok (.iconst 0, 1) := by decide +kernel
theorem dX11_just_90 : decode cX11_just 90 = .ok (.putfield 92, 3) := by decide +kernel
theorem dX11_just_93 : decode cX11_just 93 = .ok (.aload_n 0, 1) := by decide +kernel
theorem dX11_just_94 : decode cX11_just 94 = .ok (.iload_n 2, 1) := by decide +kernel
theorem dX11_just_95 : decode cX11_just 95 = .ok (.i2l, 1) := by decide +kernel
theorem dX11_just_96 : decode cX11_just 96 = .ok (.invokevirtual 252, 3) := by decide +kernel
theorem dX11_just_99 : decode cX11_just 99 = .ok (.aload_n 0, 1) := by decide +kernel
theorem dX11_just_100 : decode cX11_just 100 = .ok (.iload_n 3, 1) := by decide +kernel
theorem dX11_just_101 : decode cX11_just 101 = .ok (.i2l, 1) := by decide +kernel
theorem dX11_just_102 : decode cX11_just 102 = .ok (.invokevirtual 252, 3) := by decide +kernel
theorem dX11_just_105 : decode cX11_just 105 = .ok (.iload_n 2, 1) := by decide +kernel
theorem dX11_just_106 : decode cX11_just 106 = .ok (.invokestatic 319, 3) := by decide +kernel
theorem dX11_just_109 : decode cX11_just 109 = .ok (.ireturn, 1) := by decide +kernel
theorem dX11_pullSwapped_0 : decode cX11_pullSwapped 0 = .ok (.aload_n 0, 1) := by decide +kernel
theorem dX11_pullSwapped_1 : decode cX11_pullSwapped 1 = .ok (.getfield 9, 3) := by decide +kernel
theorem dX11_pullSwapped_4 : decode cX11_pullSwapped 4 = .ok (.aload_n 0, 1) := by decide +kernel
theorem dX11_pullSwapped_5 : decode cX11_pullSwapped 5 = .ok (.getfield 49, 3) := by decide +kernel
theorem dX11_pullSwapped_8 : decode cX11_pullSwapped 8 = .ok (.iconst 0, 1) := by decide +kernel
theorem dX11_pullSwapped_9 : decode cX11_pullSwapped 9 = .ok (.invokestatic 231, 3) := by decide +kernel
theorem dX11_pullSwapped_12 : decode cX11_pullSwapped 12 = .ok (.aload_n 0, 1) := by decide +kernel
theorem dX11_pullSwapped_13 : decode cX11_pullSwapped 13 = .ok (.getfield 49, 3) := by decide +kernel
theorem dX11_pullSwapped_16 : decode cX11_pullSwapped 16 = .ok (.bipush 14, 2) := by decide +kernel
theorem dX11_pullSwapped_18 : decode cX11_pullSwapped 18 = .ok (.iload_n 1, 1) := by decide +kernel
theorem dX11_pullSwapped_19 : decode cX11_pullSwapped 19 = .ok (.iadd, 1) := by decide +kernel
theorem dX11_pullSwapped_20 : decode cX11_pullSwapped 20 = .ok (.aload_n 0, 1) := by decide +kernel
theorem dX11_pullSwapped_21 : decode cX11_pullSwapped 21 = .ok (.getfield 9, 3) := by decide +kernel
theorem dX11_pullSwapped_24 : decode cX11_pullSwapped 24 = .ok (.bipush 14, 2) := by decide +kernel
theorem dX11_pullSwapped_26 : decode cX11_pullSwapped 26 = .ok (.iload_n 2, 1) := by decide +kernel
theorem dX11_pullSwapped_27 : decode cX11_pullSwapped 27 = .ok (.iadd, 1) := by decide +kernel
theorem dX11_pullSwapped_28 : decode cX11_pullSwapped 28 = .ok (.iaload, 1) := by decide +kernel
theorem dX11_pullSwapped_29 : decode cX11_pullSwapped 29 = .ok (.iastore, 1) := by decide +kernel
theorem dX11_pullSwapped_30 : decode cX11_pullSwapped 30 = .ok (.aload_n 0, 1) := by decide +kernel
theorem dX11_pullSwapped_31 : decode cX11_pullSwapped 31 = .ok (.getfield 49, 3) := by decide +kernel
theorem dX11_pullSwapped_34 : decode cX11_pullSwapped 34 = .ok (.bipush 14, 2) := by decide +kernel
theorem dX11_pullSwapped_36 : decode cX11_pullSwapped 36 = .ok (.iload_n 2, 1) := by decide +kernel
theorem dX11_pullSwapped_37 : decode cX11_pullSwapped 37 = .ok (.iadd, 1) := by decide +kernel
theorem dX11_pullSwapped_38 : decode cX11_pullSwapped 38 = .ok (.aload_n 0, 1) := by decide +kernel
theorem dX11_pullSwapped_39 : decode cX11_pullSwapped 39 = .ok (.getfield 9, 3) := by decide +kernel
theorem dX11_pullSwapped_42 : decode cX11_pullSwapped 42 = .ok (.bipush 14, 2) := by decide +kernel
theorem dX11_pullSwapped_44 : decode cX11_pullSwapped 44 = .ok (.iload_n 1, 1) := by decide +kernel
theorem dX11_pullSwapped_45 : decode cX11_pullSwapped 45 = .ok (.iadd, 1) := by decide +kernel
theorem dX11_pullSwapped_46 : decode cX11_pullSwapped 46 = .ok (.iaload, 1) := by decide +kernel
theorem dX11_pullSwapped_47 : decode cX11_pullSwapped 47 = .ok (.iastore, 1) := by decide +kernel
theorem dX11_pullSwapped_48 : decode cX11_pullSwapped 48 = .ok (.aload_n 0, 1) := by decide +kernel
theorem dX11_pullSwapped_49 : decode cX11_pullSwapped 49 = .ok (.aload_n 0, 1) := by decide +kernel
theorem dX11_pullSwapped_50 : decode cX11_pullSwapped 50 = .ok (.getfield 49, 3) := by decide +kernel
theorem dX11_pullSwapped_53 : decode cX11_pullSwapped 53 = .ok (.invokevirtual 277, 3) := by decide +kernel
theorem dX11_pullSwapped_56 : decode cX11_pullSwapped 56 = .ok (.ireturn, 1) := by decide +kernel
theorem dX11_swaps_0 : decode cX11_swaps 0 = .ok (.aload_n 0, 1) := by decide +kernel
theorem dX11_swaps_1 : decode cX11_swaps 1 = .ok (.iconst 0, 1) := by decide +kernel
theorem dX11_swaps_2 : decode cX11_swaps 2 = .ok (.putfield 89, 3) := by decide +kernel
theorem dX11_swaps_5 : decode cX11_swaps 5 = .ok (.iconst (-1), 1) := by decide +kernel
theorem dX11_swaps_6 : decode cX11_swaps 6 = .ok (.istore_n 1, 1) := by decide +kernel
theorem dX11_swaps_7 : decode cX11_swaps 7 = .ok (.ldc_w 284, 3) := by decide +kernel
theorem dX11_swaps_10 : decode cX11_swaps 10 = .ok (.istore_n 2, 1) := by decide +kernel
theorem dX11_swaps_11 : decode cX11_swaps 11 = .ok (.iconst 0, 1) := by decide +kernel
theorem dX11_swaps_12 : decode cX11_swaps 12 = .ok (.istore_n 3, 1) := by decide +kernel
theorem dX11_swaps_13 : decode cX11_swaps 13 = .ok (.iload_n 3, 1) := by decide +kernel
theorem dX11_swaps_14 : decode cX11_swaps 14 = .ok (.aload_n 0, 1) := by decide +kernel
theorem dX11_swaps_15 : decode cX11_swaps 15 = .ok (.getfield 95, 3) := by decide +kernel
theorem dX11_swaps_18 : decode cX11_swaps 18 = .ok (.if_icmp .ge 61, 3) := by decide +kernel
theorem dX11_swaps_21 : decode cX11_swaps 21 = .ok (.iload_n 3, 1) := by decide +kernel
theorem dX11_swaps_22 : decode cX11_swaps 22 = .ok (.iconst 1, 1) := by decide +kernel
theorem dX11_swaps_23 : decode cX11_swaps 23 = .ok (.iadd, 1) := by decide +kernel
theorem dX11_swaps_24 : decode cX11_swaps 24 = .ok (.istore 4, 2) := by decide +kernel
theorem dX11_swaps_26 : decode cX11_swaps 26 = .ok (.iload 4, 2) := by decide +kernel
theorem dX11_swaps_28 : decode cX11_swaps 28 = .ok (.aload_n 0, 1) := by decide +kernel
theorem dX11_swaps_29 : decode cX11_swaps 29 = .ok (.getfield 95, 3) := by decide +kernel
theorem dX11_swaps_32 : decode cX11_swaps 32 = .ok (.if_icmp .ge 41, 3) := by decide +kernel
theorem dX11_swaps_35 : decode cX11_swaps 35 = .ok (.aload_n 0, 1) := by decide +kernel
theorem dX11_swaps_36 : decode cX11_swaps 36 = .ok (.iload_n 3, 1) := by decide +kernel
theorem dX11_swaps_37 : decode cX11_swaps 37 = .ok (.iload 4, 2) := by decide +kernel
theorem dX11_swaps_39 : decode cX11_swaps 39 = .ok (.invokevirtual 324, 3) := by decide +kernel
theorem dX11_swaps_42 : decode cX11_swaps 42 = .ok (.invokestatic 192, 3) := by decide +kernel
theorem dX11_swaps_45 : decode cX11_swaps 45 = .ok (.istore 5, 2) := by decide +kernel
theorem dX11_swaps_47 : decode cX11_swaps 47 = .ok (.iload 5, 2) := by decide +kernel
theorem dX11_swaps_49 : decode cX11_swaps 49 = .ok (.iload_n 2, 1) := by decide +kernel
theorem dX11_swaps_50 : decode cX11_swaps 50 = .ok (.if_icmp .lt 6, 3) := by decide +kernel
theorem dX11_swaps_53 : decode cX11_swaps 53 = .ok (.goto 14, 3) := by decide +kernel
theorem dX11_swaps_56 : decode cX11_swaps 56 = .ok (.bipush 10, 2) := by decide +kernel
theorem dX11_swaps_58 : decode cX11_swaps 58 = .ok (.iload_n 3, 1) := by decide +kernel
theorem dX11_swaps_59 : decode cX11_swaps 59 = .ok (.imul, 1) := by decide +kernel
theorem dX11_swaps_60 : decode cX11_swaps 60 = .ok (.iload 4, 2) := by decide +kernel
theorem dX11_swaps_62 : decode cX11_swaps 62 = .ok (.iadd, 1) := by decide +kernel
theorem dX11_swaps_63 : decode cX11_swaps 63 = .ok (.istore_n 1, 1) := by decide +kernel
theorem dX11_swaps_64 : decode cX11_swaps 64 = .ok (.iload 5, 2) := by decide +kernel
theorem dX11_swaps_66 : decode cX11_swaps 66 = .ok (.istore_n 2, 1) := by decide +kernel
theorem dX11_swaps_67 : decode cX11_swaps 67 = .ok (.iinc 4 1, 3) := by decide +kernel
theorem dX11_swaps_70 : decode cX11_swaps 70 = .ok (.goto (-44), 3) := by decide +kernel
theorem dX11_swaps_73 : decode cX11_swaps 73 = .ok (.iinc 3 1, 3) := by decide +kernel
theorem dX11_swaps_76 : decode cX11_swaps 76 = .ok (.goto (-63), 3) := by decide +kernel
theorem dX11_swaps_79 : decode cX11_swaps 79 = .ok (.iload_n 1, 1) := by decide +kernel
theorem dX11_swaps_80 : decode cX11_swaps 80 = .ok (.iconst (-1), 1) := by decide +kernel
theorem dX11_swaps_81 : decode cX11_swaps 81 = .ok (.if_icmp .ne 6, 3) := by decide +kernel
theorem dX11_swaps_84 : decode cX11_swaps 84 = .ok (.bipush (-2), 2) := by decide +kernel
theorem dX11_swaps_86 : decode cX11_swaps 86 = .ok (.ireturn, 1) := by decide +kernel
theorem dX11_swaps_87 : decode cX11_swaps 87 = .ok (.aload_n 0, 1) := by decide +kernel
theorem dX11_swaps_88 : decode cX11_swaps 88 = .ok (.iconst 0, 1) := by decide +kernel
theorem dX11_swaps_89 : decode cX11_swaps 89 = .ok (.putfield 92, 3) := by decide +kernel
theorem dX11_swaps_92 : decode cX11_swaps 92 = .ok (.aload_n 0, 1) := by decide +kernel
theorem dX11_swaps_93 : decode cX11_swaps 93 = .ok (.bipush 100, 2) := by decide +kernel
theorem dX11_swaps_95 : decode cX11_swaps 95 = .ok (.aload_n 0, 1) := by decide +kernel
theorem dX11_swaps_96 : decode cX11_swaps 96 = .ok (.iload_n 1, 1) := by decide +kernel
theorem dX11_swaps_97 : decode cX11_swaps 97 = .ok (.bipush 10, 2) := by decide +kernel
theorem dX11_swaps_99 : decode cX11_swaps 99 = .ok (.idiv, 1) := by decide +kernel
theorem dX11_swaps_100 : decode cX11_swaps 100 = .ok (.iload_n 1, 1) := by decide +kernel
theorem dX11_swaps_101 : decode cX11_swaps 101 = .ok (.bipush 10, 2) := by decide +kernel
theorem dX11_swaps_103 : decode cX11_swaps 103 = .ok (.irem, 1) := by decide +kernel
theorem dX11_swaps_104 : decode cX11_swaps 104 = .ok (.invokevirtual 324, 3) := by decide +kernel
theorem dX11_swaps_107 : decode cX11_swaps 107 = .ok (.iadd, 1) := by decide +kernel
theorem dX11_swaps_108 : decode cX11_swaps 108 = .ok (.i2l, 1) := by decide +kernel
theorem dX11_swaps_109 : decode cX11_swaps 109 = .ok (.invokevirtual 252, 3) := by decide +kernel
theorem dX11_swaps_112 : decode cX11_swaps 112 = .ok (.iload_n 1, 1) := by decide +kernel
theorem dX11_swaps_113 : decode cX11_swaps 113 = .ok (.ireturn, 1) := by decide +kernel
theorem dX11_line_0 : decode cX11_line 0 = .ok (.aload_n 0, 1) := by decide +kernel
theorem dX11_line_1 : decode cX11_line 1 = .ok (.iconst 0, 1) := by decide +kernel
theorem dX11_line_2 : decode cX11_line 2 = .ok (.putfield 89, 3) := by decide +kernel
theorem dX11_line_5 : decode cX11_line 5 = .ok (.iconst 0, 1) := by decide +kernel
theorem dX11_line_6 : decode cX11_line 6 = .ok (.istore_n 1, 1) := by decide +kernel
theorem dX11_line_7 : decode cX11_line 7 = .ok (.aload_n 0, 1) := by decide +kernel
theorem dX11_line_8 : decode cX11_line 8 = .ok (.iconst 0, 1) := by decide +kernel
theorem dX11_line_9 : decode cX11_line 9 = .ok (.putfield 92, 3) := by decide +kernel
theorem dX11_line_12 : decode cX11_line 12 = .ok (.iconst 0, 1) := by decide +kernel
theorem dX11_line_13 : decode cX11_line 13 = .ok (.istore_n 2, 1) := by decide +kernel
theorem dX11_line_14 : decode cX11_line 14 = .ok (.iload_n 2, 1) := by decide +kernel
theorem dX11_line_15 : decode cX11_line 15 = .ok (.aload_n 0, 1) := by decide +kernel
theorem dX11_line_16 : decode cX11_line 16 = .ok (.getfield 95, 3) := by decide +kernel
theorem dX11_line_19 : decode cX11_line 19 = .ok (.if_icmp .ge 80, 3) := by decide +kernel
theorem dX11_line_22 : decode cX11_line 22 = .ok (.iconst (-1), 1) := by decide +kernel
theorem dX11_line_23 : decode cX11_line 23 = .ok (.istore_n 3, 1) := by decide +kernel
theorem dX11_line_24 : decode cX11_line 24 = .ok (.iconst 0, 1) := by decide +kernel
theorem dX11_line_25 : decode cX11_line 25 = .ok (.istore 4, 2) := by decide +kernel
theorem dX11_line_27 : decode cX11_line 27 = .ok (.iload 4, 2) := by decide +kernel
theorem dX11_line_29 : decode cX11_line 29 = .ok (.aload_n 0, 1) := by decide +kernel
theorem dX11_line_30 : decode cX11_line 30 = .ok (.getfield 95, 3) := by decide +kernel
theorem dX11_line_33 : decode cX11_line 33 = .ok (.if_icmp .ge 48, 3) := by decide +kernel
theorem dX11_line_36 : decode cX11_line 36 = .ok (.iload_n 1, 1) := by decide +kernel
theorem dX11_line_37 : decode cX11_line 37 = .ok (.iload 4, 2) := by decide +kernel
theorem dX11_line_39 : decode cX11_line 39 = .ok (.invokestatic 306, 3) := by decide +kernel
theorem dX11_line_42 : decode cX11_line 42 = .ok (.ifCond .ne 33, 3) := by decide +kernel
theorem dX11_line_45 : decode cX11_line 45 = .ok (.iload_n 3, 1) := by decide +kernel
theorem dX11_line_46 : decode cX11_line 46 = .ok (.iconst (-1), 1) := by decide +kernel
theorem dX11_line_47 : decode cX11_line 47 = .ok (.if_icmp .eq 25, 3) := by decide +kernel
theorem dX11_line_50 : decode cX11_line 50 = .ok (.aload_n 0, 1) := by decide +kernel
theorem dX11_line_51 : decode cX11_line 51 = .ok (.aload_n 0, 1) := by decide +kernel
theorem dX11_line_52 : decode cX11_line 52 = .ok (.getfield 9, 3) := by decide +kernel
theorem dX11_line_55 : decode cX11_line 55 = .ok (.iload 4, 2) := by decide +kernel
theorem dX11_line_57 : decode cX11_line 57 = .ok (.invokevirtual 204, 3) := by decide +kernel
theorem dX11_line_60 : decode cX11_line 60 = .ok (.aload_n 0, 1) := by decide +kernel
theorem dX11_line_61 : decode cX11_line 61 = .ok (.aload_n 0, 1) := by decide +kernel
theorem dX11_line_62 : decode cX11_line 62 = .ok (.getfield 9, 3) := by decide +kernel
theorem dX11_line_65 : decode cX11_line 65 = .ok (.iload_n 3, 1) := by decide +kernel
theorem dX11_line_66 : decode cX11_line 66 = .ok (.invokevirtual 204, 3) := by decide +kernel
theorem dX11_line_69 : decode cX11_line 69 = .ok (.if_icmp .le 6, 3) := by decide +kernel
theorem dX11_line_72 : decode cX11_line 72 = .ok (.iload 4, 2) := by decide +kernel
theorem dX11_line_74 : decode cX11_line 74 = .ok (.istore_n 3, 1) := by decide +kernel
theorem dX11_line_75 : decode cX11_line 75 = .ok (.iinc 4 1, 3) := by decide +kernel
theorem dX11_line_78 : decode cX11_line 78 = .ok (.goto (-51), 3) := by decide +kernel
theorem dX11_line_81 : decode cX11_line 81 = .ok (.iload_n 1, 1) := by decide +kernel
theorem dX11_line_82 : decode cX11_line 82 = .ok (.iconst 1, 1) := by decide +kernel
theorem dX11_line_83 : decode cX11_line 83 = .ok (.iload_n 3, 1) := by decide +kernel
theorem dX11_line_84 : decode cX11_line 84 = .ok (.ishl, 1) := by decide +kernel
theorem dX11_line_85 : decode cX11_line 85 = .ok (.ior, 1) := by decide +kernel
theorem dX11_line_86 : decode cX11_line 86 = .ok (.istore_n 1, 1) := by decide +kernel
theorem dX11_line_87 : decode cX11_line 87 = .ok (.aload_n 0, 1) := by decide +kernel
theorem dX11_line_88 : decode cX11_line 88 = .ok (.iload_n 3, 1) := by decide +kernel
theorem dX11_line_89 : decode cX11_line 89 = .ok (.i2l, 1) := by decide +kernel
theorem dX11_line_90 : decode cX11_line 90 = .ok (.invokevirtual 252, 3) := by decide +kernel
theorem dX11_line_93 : decode cX11_line 93 = .ok (.iinc 2 1, 3) := by decide +kernel
theorem dX11_line_96 : decode cX11_line 96 = .ok (.goto (-82), 3) := by decide +kernel
theorem dX11_line_99 : decode cX11_line 99 = .ok (.aload_n 0, 1) := by decide +kernel
theorem dX11_line_100 : decode cX11_line 100 = .ok (.getfield 95, 3) := by decide +kernel
theorem dX11_line_103 : decode cX11_line 103 = .ok (.ireturn, 1) := by decide +kernel
theorem dX11_areApart_0 : decode cX11_areApart 0 = .ok (.iconst 0, 1) := by decide +kernel
theorem dX11_areApart_1 : decode cX11_areApart 1 = .ok (.istore_n 2, 1) := by decide +kernel
theorem dX11_areApart_2 : decode cX11_areApart 2 = .ok (.iload_n 2, 1) := by decide +kernel
theorem dX11_areApart_3 : decode cX11_areApart 3 = .ok (.aload_n 0, 1) := by decide +kernel
theorem dX11_areApart_4 : decode cX11_areApart 4 = .ok (.getfield 95, 3) := by decide +kernel
theorem dX11_areApart_7 : decode cX11_areApart 7 = .ok (.if_icmp .ge 82, 3) := by decide +kernel
theorem dX11_areApart_10 : decode cX11_areApart 10 = .ok (.iconst 0, 1) := by decide +kernel
theorem dX11_areApart_11 : decode cX11_areApart 11 = .ok (.istore_n 3, 1) := by decide +kernel
theorem dX11_areApart_12 : decode cX11_areApart 12 = .ok (.iload_n 3, 1) := by decide +kernel
theorem dX11_areApart_13 : decode cX11_areApart 13 = .ok (.iload_n 2, 1) := by decide +kernel
theorem dX11_areApart_14 : decode cX11_areApart 14 = .ok (.if_icmp .ge 69, 3) := by decide +kernel
theorem dX11_areApart_17 : decode cX11_areApart 17 = .ok (.iload_n 1, 1) := by decide +kernel
theorem dX11_areApart_18 : decode cX11_areApart 18 = .ok (.iload_n 2, 1) := by decide +kernel
theorem dX11_areApart_19 : decode cX11_areApart 19 = .ok (.invokestatic 306, 3) := by decide +kernel
theorem dX11_areApart_22 : decode cX11_areApart 22 = .ok (.ifCond .eq 55, 3) := by decide +kernel
theorem dX11_areApart_25 : decode cX11_areApart 25 = .ok (.iload_n 1, 1) := by decide +kernel
theorem dX11_areApart_26 : decode cX11_areApart 26 = .ok (.iload_n 3, 1) := by decide +kernel
theorem dX11_areApart_27 : decode cX11_areApart 27 = .ok (.invokestatic 306, 3) := by decide +kernel
theorem dX11_areApart_30 : decode cX11_areApart 30 = .ok (.ifCond .eq 47, 3) := by decide +kernel
theorem dX11_areApart_33 : decode cX11_areApart 33 = .ok (.aload_n 0, 1) := by decide +kernel
theorem dX11_areApart_34 : decode cX11_areApart 34 = .ok (.getfield 9, 3) := by decide +kernel
theorem dX11_areApart_37 : decode cX11_areApart 37 = .ok (.bipush 7, 2) := by decide +kernel
theorem dX11_areApart_39 : decode cX11_areApart 39 = .ok (.iload_n 2, 1) := by decide +kernel
theorem dX11_areApart_40 : decode cX11_areApart 40 = .ok (.iadd, 1) := by decide +kernel
theorem dX11_areApart_41 : decode cX11_areApart 41 = .ok (.iaload, 1) := by decide +kernel
theorem dX11_areApart_42 : decode cX11_areApart 42 = .ok (.aload_n 0, 1) := by decide +kernel
theorem dX11_areApart_43 : decode cX11_areApart 43 = .ok (.getfield 9, 3) := by decide +kernel
theorem dX11_areApart_46 : decode cX11_areApart 46 = .ok (.bipush 7, 2) := by decide +kernel
theorem dX11_areApart_48 : decode cX11_areApart 48 = .ok (.iload_n 3, 1) := by decide +kernel
theorem dX11_areApart_49 : decode cX11_areApart 49 = .ok (.iadd, 1) := by decide +kernel
theorem dX11_areApart_50 : decode cX11_areApart 50 = .ok (.iaload, 1) := by decide +kernel
theorem dX11_areApart_51 : decode cX11_areApart 51 = .ok (.if_icmp .eq 24, 3) := by decide +kernel
theorem dX11_areApart_54 : decode cX11_areApart 54 = .ok (.aload_n 0, 1) := by decide +kernel
theorem dX11_areApart_55 : decode cX11_areApart 55 = .ok (.getfield 9, 3) := by decide +kernel
theorem dX11_areApart_58 : decode cX11_areApart 58 = .ok (.bipush 14, 2) := by decide +kernel
theorem dX11_areApart_60 : decode cX11_areApart 60 = .ok (.iload_n 2, 1) := by decide +kernel
theorem dX11_areApart_61 : decode cX11_areApart 61 = .ok (.iadd, 1) := by decide +kernel
theorem dX11_areApart_62 : decode cX11_areApart 62 = .ok (.iaload, 1) := by decide +kernel
theorem dX11_areApart_63 : decode cX11_areApart 63 = .ok (.aload_n 0, 1) := by decide +kernel
theorem dX11_areApart_64 : decode cX11_areApart 64 = .ok (.getfield 9, 3) := by decide +kernel
theorem dX11_areApart_67 : decode cX11_areApart 67 = .ok (.bipush 14, 2) := by decide +kernel
theorem dX11_areApart_69 : decode cX11_areApart 69 = .ok (.iload_n 3, 1) := by decide +kernel
theorem dX11_areApart_70 : decode cX11_areApart 70 = .ok (.iadd, 1) := by decide +kernel
theorem dX11_areApart_71 : decode cX11_areApart 71 = .ok (.iaload, 1) := by decide +kernel
theorem dX11_areApart_72 : decode cX11_areApart 72 = .ok (.if_icmp .ne 5, 3) := by decide +kernel
theorem dX11_areApart_75 : decode cX11_areApart 75 = .ok (.iconst 0, 1) := by decide +kernel
theorem dX11_areApart_76 : decode cX11_areApart 76 = .ok (.ireturn, 1) := by decide +kernel
theorem dX11_areApart_77 : decode cX11_areApart 77 = .ok (.iinc 3 1, 3) := by decide +kernel
theorem dX11_areApart_80 : decode cX11_areApart 80 = .ok (.goto (-68), 3) := by decide +kernel
theorem dX11_areApart_83 : decode cX11_areApart 83 = .ok (.iinc 2 1, 3) := by decide +kernel
theorem dX11_areApart_86 : decode cX11_areApart 86 = .ok (.goto (-84), 3) := by decide +kernel
theorem dX11_areApart_89 : decode cX11_areApart 89 = .ok (.iconst 1, 1) := by decide +kernel
theorem dX11_areApart_90 : decode cX11_areApart 90 = .ok (.ireturn, 1) := by decide +kernel
theorem dX11_apart_0 : decode cX11_apart 0 = .ok (.aload_n 0, 1) := by decide +kernel
theorem dX11_apart_1 : decode cX11_apart 1 = .ok (.iconst 0, 1) := by decide +kernel
theorem dX11_apart_2 : decode cX11_apart 2 = .ok (.putfield 89, 3) := by decide +kernel
theorem dX11_apart_5 : decode cX11_apart 5 = .ok (.iconst 0, 1) := by decide +kernel
theorem dX11_apart_6 : decode cX11_apart 6 = .ok (.istore_n 1, 1) := by decide +kernel
theorem dX11_apart_7 : decode cX11_apart 7 = .ok (.iconst 1, 1) := by decide +kernel
theorem dX11_apart_8 : decode cX11_apart 8 = .ok (.istore_n 2, 1) := by decide +kernel
theorem dX11_apart_9 : decode cX11_apart 9 = .ok (.iload_n 2, 1) := by decide +kernel
theorem dX11_apart_10 : decode cX11_apart 10 = .ok (.aload_n 0, 1) := by decide +kernel
theorem dX11_apart_11 : decode cX11_apart 11 = .ok (.invokevirtual 310, 3) := by decide +kernel
theorem dX11_apart_14 : decode cX11_apart 14 = .ok (.if_icmp .gt 34, 3) := by decide +kernel
theorem dX11_apart_17 : decode cX11_apart 17 = .ok (.iload_n 2, 1) := by decide +kernel
theorem dX11_apart_18 : decode cX11_apart 18 = .ok (.invokestatic 319, 3) := by decide +kernel
theorem dX11_apart_21 : decode cX11_apart 21 = .ok (.iload_n 1, 1) := by decide +kernel
theorem dX11_apart_22 : decode cX11_apart 22 = .ok (.invokestatic 319, 3) := by decide +kernel
theorem dX11_apart_25 : decode cX11_apart 25 = .ok (.if_icmp .le 15, 3) := by decide +kernel
theorem dX11_apart_28 : decode cX11_apart 28 = .ok (.aload_n 0, 1) := by decide +kernel
theorem dX11_apart_29 : decode cX11_apart 29 = .ok (.iload_n 2, 1) := by decide +kernel
theorem dX11_apart_30 : decode cX11_apart 30 = .ok (.invokevirtual 327, 3) := by decide +kernel
theorem dX11_apart_33 : decode cX11_apart 33 = .ok (.ifCond .eq 7, 3) := by decide +kernel
theorem dX11_apart_36 : decode cX11_apart 36 = .ok (.iload_n 2, 1) := by decide +kernel
theorem dX11_apart_37 : decode cX11_apart 37 = .ok (.goto 4, 3) := by decide +kernel
theorem dX11_apart_40 : decode cX11_apart 40 = .ok (.iload_n 1, 1) := by decide +kernel
theorem dX11_apart_41 : decode cX11_apart 41 = .ok (.istore_n 1, 1) := by decide +kernel
theorem dX11_apart_42 : decode cX11_apart 42 = .ok (.iinc 2 1, 3) := by decide +kernel
theorem dX11_apart_45 : decode cX11_apart 45 = .ok (.goto (-36), 3) := by decide +kernel
theorem dX11_apart_48 : decode cX11_apart 48 = .ok (.aload_n 0, 1) := by decide +kernel
theorem dX11_apart_49 : decode cX11_apart 49 = .ok (.iconst 0, 1) := by decide +kernel
theorem dX11_apart_50 : decode cX11_apart 50 = .ok (.putfield 92, 3) := by decide +kernel
theorem dX11_apart_53 : decode cX11_apart 53 = .ok (.aload_n 0, 1) := by decide +kernel
theorem dX11_apart_54 : decode cX11_apart 54 = .ok (.iload_n 1, 1) := by decide +kernel
theorem dX11_apart_55 : decode cX11_apart 55 = .ok (.i2l, 1) := by decide +kernel
theorem dX11_apart_56 : decode cX11_apart 56 = .ok (.invokevirtual 252, 3) := by decide +kernel
theorem dX11_apart_59 : decode cX11_apart 59 = .ok (.iload_n 1, 1) := by decide +kernel
theorem dX11_apart_60 : decode cX11_apart 60 = .ok (.invokestatic 319, 3) := by decide +kernel
theorem dX11_apart_63 : decode cX11_apart 63 = .ok (.ireturn, 1) := by decide +kernel
theorem dX11_saw_0 : decode cX11_saw 0 = .ok (.aload_n 0, 1) := by decide +kernel
theorem dX11_saw_1 : decode cX11_saw 1 = .ok (.iconst 0, 1) := by decide +kernel
theorem dX11_saw_2 : decode cX11_saw 2 = .ok (.putfield 89, 3) := by decide +kernel
theorem dX11_saw_5 : decode cX11_saw 5 = .ok (.iload_n 1, 1) := by decide +kernel
theorem dX11_saw_6 : decode cX11_saw 6 = .ok (.bipush (-9), 2) := by decide +kernel
theorem dX11_saw_8 : decode cX11_saw 8 = .ok (.bipush 9, 2) := by decide +kernel
theorem dX11_saw_10 : decode cX11_saw 10 = .ok (.invokestatic 98, 3) := by decide +kernel
theorem dX11_saw_13 : decode cX11_saw 13 = .ok (.ifCond .eq 33, 3) := by decide +kernel
theorem dX11_saw_16 : decode cX11_saw 16 = .ok (.iload_n 2, 1) := by decide +kernel
theorem dX11_saw_17 : decode cX11_saw 17 = .ok (.iconst 0, 1) := by decide +kernel
theorem dX11_saw_18 : decode cX11_saw 18 = .ok (.bipush 9, 2) := by decide +kernel
theorem dX11_saw_20 : decode cX11_saw 20 = .ok (.invokestatic 98, 3) := by decide +kernel
theorem dX11_saw_23 : decode cX11_saw 23 = .ok (.ifCond .eq 23, 3) := by decide +kernel
theorem dX11_saw_26 : decode cX11_saw 26 = .ok (.iload_n 3, 1) := by decide +kernel
theorem dX11_saw_27 : decode cX11_saw 27 = .ok (.bipush (-20), 2) := by decide +kernel
theorem dX11_saw_29 : decode cX11_saw 29 = .ok (.bipush 20, 2) := by decide +kernel
theorem dX11_saw_31 : decode cX11_saw 31 = .ok (.invokestatic 98, 3) := by decide +kernel
theorem dX11_saw_34 : decode cX11_saw 34 = .ok (.ifCond .eq 12, 3) := by decide +kernel
theorem dX11_saw_37 : decode cX11_saw 37 = .ok (.aload_n 0, 1) := by decide +kernel
theorem dX11_saw_38 : decode cX11_saw 38 = .ok (.getfield 330, 3) := by decide +kernel
theorem dX11_saw_41 : decode cX11_saw 41 = .ok (.bipush 10, 2) := by decide +kernel
theorem dX11_saw_43 : decode cX11_saw 43 = .ok (.if_icmp .ne 5, 3) := by decide +kernel
theorem dX11_saw_46 : decode cX11_saw 46 = .ok (.iconst (-1), 1) := by decide +kernel
theorem dX11_saw_47 : decode cX11_saw 47 = .ok (.ireturn, 1) := by decide +kernel
theorem dX11_saw_48 : decode cX11_saw 48 = .ok (.aload_n 0, 1) := by decide +kernel
theorem dX11_saw_49 : decode cX11_saw 49 = .ok (.getfield 55, 3) := by decide +kernel
theorem dX11_saw_52 : decode cX11_saw 52 = .ok (.aload_n 0, 1) := by decide +kernel
theorem dX11_saw_53 : decode cX11_saw 53 = .ok (.getfield 330, 3) := by decide +kernel
theorem dX11_saw_56 : decode cX11_saw 56 = .ok (.iload_n 1, 1) := by decide +kernel
theorem dX11_saw_57 : decode cX11_saw 57 = .ok (.iastore, 1) := by decide +kernel
theorem dX11_saw_58 : decode cX11_saw 58 = .ok (.aload_n 0, 1) := by decide +kernel
theorem dX11_saw_59 : decode cX11_saw 59 = .ok (.getfield 58, 3) := by decide +kernel
theorem dX11_saw_62 : decode cX11_saw 62 = .ok (.aload_n 0, 1) := by decide +kernel
theorem dX11_saw_63 : decode cX11_saw 63 = .ok (.getfield 330, 3) := by decide +kernel
theorem dX11_saw_66 : decode cX11_saw 66 = .ok (.iload_n 2, 1) := by decide +kernel
theorem dX11_saw_67 : decode cX11_saw 67 = .ok (.iastore, 1) := by decide +kernel
theorem dX11_saw_68 : decode cX11_saw 68 = .ok (.aload_n 0, 1) := by decide +kernel
theorem dX11_saw_69 : decode cX11_saw 69 = .ok (.getfield 61, 3) := by decide +kernel
theorem dX11_saw_72 : decode cX11_saw 72 = .ok (.aload_n 0, 1) := by decide +kernel
theorem dX11_saw_73 : decode cX11_saw 73 = .ok (.getfield 330, 3) := by decide +kernel
theorem dX11_saw_76 : decode cX11_saw 76 = .ok (.iload_n 3, 1) := by decide +kernel
theorem dX11_saw_77 : decode cX11_saw 77 = .ok (.iastore, 1) := by decide +kernel
theorem dX11_saw_78 : decode cX11_saw 78 = .ok (.aload_n 0, 1) := by decide +kernel
theorem dX11_saw_79 : decode cX11_saw 79 = .ok (.dup, 1) := by decide +kernel
theorem dX11_saw_80 : decode cX11_saw 80 = .ok (.getfield 330, 3) := by decide +kernel
theorem dX11_saw_83 : decode cX11_saw 83 = .ok (.iconst 1, 1) := by decide +kernel
theorem dX11_saw_84 : decode cX11_saw 84 = .ok (.iadd, 1) := by decide +kernel
theorem dX11_saw_85 : decode cX11_saw 85 = .ok (.putfield 330, 3) := by decide +kernel
theorem dX11_saw_88 : decode cX11_saw 88 = .ok (.aload_n 0, 1) := by decide +kernel
theorem dX11_saw_89 : decode cX11_saw 89 = .ok (.getfield 330, 3) := by decide +kernel
theorem dX11_saw_92 : decode cX11_saw 92 = .ok (.ireturn, 1) := by decide +kernel
theorem dX11_denies_0 : decode cX11_denies 0 = .ok (.aload_n 0, 1) := by decide +kernel
theorem dX11_denies_1 : decode cX11_denies 1 = .ok (.iconst 0, 1) := by decide +kernel
theorem dX11_denies_2 : decode cX11_denies 2 = .ok (.putfield 89, 3) := by decide +kernel
theorem dX11_denies_5 : decode cX11_denies 5 = .ok (.aload_n 0, 1) := by decide +kernel
theorem dX11_denies_6 : decode cX11_denies 6 = .ok (.getfield 330, 3) := by decide +kernel
theorem dX11_denies_9 : decode cX11_denies 9 = .ok (.istore_n 1, 1) := by decide +kernel
theorem dX11_denies_10 : decode cX11_denies 10 = .ok (.aload_n 0, 1) := by decide +kernel
theorem dX11_denies_11 : decode cX11_denies 11 = .ok (.iconst 0, 1) := by decide +kernel
theorem dX11_denies_12 : decode cX11_denies 12 = .ok (.putfield 330, 3) := by decide +kernel
theorem dX11_denies_15 : decode cX11_denies 15 = .ok (.iload_n 1, 1) := by decide +kernel
theorem dX11_denies_16 : decode cX11_denies 16 = .ok (.ireturn, 1) := by decide +kernel
theorem dX11_laySides_0 : decode cX11_laySides 0 = .ok (.aload_n 0, 1) := by decide +kernel
theorem dX11_laySides_1 : decode cX11_laySides 1 = .ok (.getfield 9, 3) := by decide +kernel
theorem dX11_laySides_4 : decode cX11_laySides 4 = .ok (.aload_n 0, 1) := by decide +kernel
theorem dX11_laySides_5 : decode cX11_laySides 5 = .ok (.getfield 49, 3) := by decide +kernel
theorem dX11_laySides_8 : decode cX11_laySides 8 = .ok (.iconst 0, 1) := by decide +kernel
theorem dX11_laySides_9 : decode cX11_laySides 9 = .ok (.invokestatic 231, 3) := by decide +kernel
theorem dX11_laySides_12 : decode cX11_laySides 12 = .ok (.iconst 0, 1) := by decide +kernel
theorem dX11_laySides_13 : decode cX11_laySides 13 = .ok (.istore_n 2, 1) := by decide +kernel
theorem dX11_laySides_14 : decode cX11_laySides 14 = .ok (.iload_n 2, 1) := by decide +kernel
theorem dX11_laySides_15 : decode cX11_laySides 15 = .ok (.bipush 6, 2) := by decide +kernel
theorem dX11_laySides_17 : decode cX11_laySides 17 = .ok (.if_icmp .ge 34, 3) := by decide +kernel
theorem dX11_laySides_20 : decode cX11_laySides 20 = .ok (.aload_n 0, 1) := by decide +kernel
theorem dX11_laySides_21 : decode cX11_laySides 21 = .ok (.getfield 49, 3) := by decide +kernel
theorem dX11_laySides_24 : decode cX11_laySides 24 = .ok (.bipush 7, 2) := by decide +kernel
theorem dX11_laySides_26 : decode cX11_laySides 26 = .ok (.iload_n 1, 1) := by decide +kernel
theorem dX11_laySides_27 : decode cX11_laySides 27 = .ok (.iadd, 1) := by decide +kernel
theorem dX11_laySides_28 : decode cX11_laySides 28 = .ok (.iload_n 2, 1) := by decide +kernel
theorem dX11_laySides_29 : decode cX11_laySides 29 = .ok (.iastore, 1) := by decide +kernel
theorem dX11_laySides_30 : decode cX11_laySides 30 = .ok (.aload_n 0, 1) := by decide +kernel
theorem dX11_laySides_31 : decode cX11_laySides 31 = .ok (.getfield 64, 3) := by decide +kernel
theorem dX11_laySides_34 : decode cX11_laySides 34 = .ok (.iload_n 2, 1) := by decide +kernel
theorem dX11_laySides_35 : decode cX11_laySides 35 = .ok (.aload_n 0, 1) := by decide +kernel
theorem dX11_laySides_36 : decode cX11_laySides 36 = .ok (.aload_n 0, 1) := by decide +kernel
theorem dX11_laySides_37 : decode cX11_laySides 37 = .ok (.getfield 49, 3) := by decide +kernel
theorem dX11_laySides_40 : decode cX11_laySides 40 = .ok (.iconst (-1), 1) := by decide +kernel
theorem dX11_laySides_41 : decode cX11_laySides 41 = .ok (.invokevirtual 208, 3) := by decide +kernel
theorem dX11_laySides_44 : decode cX11_laySides 44 = .ok (.iastore, 1) := by decide +kernel
theorem dX11_laySides_45 : decode cX11_laySides 45 = .ok (.iinc 2 1, 3) := by decide +kernel
theorem dX11_laySides_48 : decode cX11_laySides 48 = .ok (.goto (-34), 3) := by decide +kernel
theorem dX11_laySides_51 : decode cX11_laySides 51 = .ok (.return_, 1) := by decide +kernel
theorem dX11_pullSeen_0 : decode cX11_pullSeen 0 = .ok (.aload_n 0, 1) := by decide +kernel
theorem dX11_pullSeen_1 : decode cX11_pullSeen 1 = .ok (.getfield 64, 3) := by decide +kernel
theorem dX11_pullSeen_4 : decode cX11_pullSeen 4 = .ok (.iload_n 1, 1) := by decide +kernel
theorem dX11_pullSeen_5 : decode cX11_pullSeen 5 = .ok (.iaload, 1) := by decide +kernel
theorem dX11_pullSeen_6 : decode cX11_pullSeen 6 = .ok (.iconst 2, 1) := by decide +kernel
theorem dX11_pullSeen_7 : decode cX11_pullSeen 7 = .ok (.iload_n 2, 1) := by decide +kernel
theorem dX11_pullSeen_8 : decode cX11_pullSeen 8 = .ok (.imul, 1) := by decide +kernel
theorem dX11_pullSeen_9 : decode cX11_pullSeen 9 = .ok (.iload_n 3, 1) := by decide +kernel
theorem dX11_pullSeen_10 : decode cX11_pullSeen 10 = .ok (.imul, 1) := by decide +kernel
theorem dX11_pullSeen_11 : decode cX11_pullSeen 11 = .ok (.iadd, 1) := by decide +kernel
theorem dX11_pullSeen_12 : decode cX11_pullSeen 12 = .ok (.invokestatic 218, 3) := by decide +kernel
theorem dX11_pullSeen_15 : decode cX11_pullSeen 15 = .ok (.ireturn, 1) := by decide +kernel
theorem dX11_thinkable_0 : decode cX11_thinkable 0 = .ok (.iconst 0, 1) := by decide +kernel
theorem dX11_thinkable_1 : decode cX11_thinkable 1 = .ok (.istore_n 1, 1) := by decide +kernel
theorem dX11_thinkable_2 : decode cX11_thinkable 2 = .ok (.iconst 0, 1) := by decide +kernel
theorem dX11_thinkable_3 : decode cX11_thinkable 3 = .ok (.istore_n 2, 1) := by decide +kernel
theorem dX11_thinkable_4 : decode cX11_thinkable 4 = .ok (.iload_n 2, 1) := by decide +kernel
theorem dX11_thinkable_5 : decode cX11_thinkable 5 = .ok (.bipush 6, 2) := by decide +kernel
theorem dX11_thinkable_7 : decode cX11_thinkable 7 = .ok (.if_icmp .ge 82, 3) := by decide +kernel
theorem dX11_thinkable_10 : decode cX11_thinkable 10 = .ok (.iconst 1, 1) := by decide +kernel
theorem dX11_thinkable_11 : decode cX11_thinkable 11 = .ok (.istore_n 3, 1) := by decide +kernel
theorem dX11_thinkable_12 : decode cX11_thinkable 12 = .ok (.iconst 0, 1) := by decide +kernel
theorem dX11_thinkable_13 : decode cX11_thinkable 13 = .ok (.istore 4, 2) := by decide +kernel
theorem dX11_thinkable_15 : decode cX11_thinkable 15 = .ok (.iload 4, 2) := by decide +kernel
theorem dX11_thinkable_17 : decode cX11_thinkable 17 = .ok (.aload_n 0, 1) := by decide +kernel
theorem dX11_thinkable_18 : decode cX11_thinkable 18 = .ok (.getfield 330, 3) := by decide +kernel
theorem dX11_thinkable_21 : decode cX11_thinkable 21 = .ok (.if_icmp .ge 48, 3) := by decide +kernel
theorem dX11_thinkable_24 : decode cX11_thinkable 24 = .ok (.iload_n 3, 1) := by decide +kernel
theorem dX11_thinkable_25 : decode cX11_thinkable 25 = .ok (.ifCond .eq 36, 3) := by decide +kernel
theorem dX11_thinkable_28 : decode cX11_thinkable 28 = .ok (.aload_n 0, 1) := by decide +kernel
theorem dX11_thinkable_29 : decode cX11_thinkable 29 = .ok (.iload_n 2, 1) := by decide +kernel
theorem dX11_thinkable_30 : decode cX11_thinkable 30 = .ok (.aload_n 0, 1) := by decide +kernel
theorem dX11_thinkable_31 : decode cX11_thinkable 31 = .ok (.getfield 55, 3) := by decide +kernel
theorem dX11_thinkable_34 : decode cX11_thinkable 34 = .ok (.iload 4, 2) := by decide +kernel
theorem dX11_thinkable_36 : decode cX11_thinkable 36 = .ok (.iaload, 1) := by decide +kernel
theorem dX11_thinkable_37 : decode cX11_thinkable 37 = .ok (.aload_n 0, 1) := by decide +kernel
theorem dX11_thinkable_38 : decode cX11_thinkable 38 = .ok (.getfield 58, 3) := by decide +kernel
theorem dX11_thinkable_41 : decode cX11_thinkable 41 = .ok (.iload 4, 2) := by decide +kernel
theorem dX11_thinkable_43 : decode cX11_thinkable 43 = .ok (.iaload, 1) := by decide +kernel
theorem dX11_thinkable_44 : decode cX11_thinkable 44 = .ok (.invokevirtual 333, 3) := by decide +kernel
theorem dX11_thinkable_47 : decode cX11_thinkable 47 = .ok (.aload_n 0, 1) := by decide +kernel
theorem dX11_thinkable_48 : decode cX11_thinkable 48 = .ok (.getfield 61, 3) := by decide +kernel
theorem dX11_thinkable_51 : decode cX11_thinkable 51 = .ok (.iload 4, 2) := by decide +kernel
theorem dX11_thinkable_53 : decode cX11_thinkable 53 = .ok (.iaload, 1) := by decide +kernel
theorem dX11_thinkable_54 : decode cX11_thinkable 54 = .ok (.if_icmp .ne 7, 3) := by decide +kernel
theorem dX11_thinkable_57 : decode cX11_thinkable 57 = .ok (.iconst 1, 1) := by decide +kernel
theorem dX11_thinkable_58 : decode cX11_thinkable 58 = .ok (.goto 4, 3) := by decide +kernel
theorem dX11_thinkable_61 : decode cX11_thinkable 61 = .ok (.iconst 0, 1) := by decide +kernel
theorem dX11_thinkable_62 : decode cX11_thinkable 62 = .ok (.istore_n 3, 1) := by decide +kernel
theorem dX11_thinkable_63 : decode cX11_thinkable 63 = .ok (.iinc 4 1, 3) := by decide +kernel
theorem dX11_thinkable_66 : decode cX11_thinkable 66 = .ok (.goto (-51), 3) := by decide +kernel
theorem dX11_thinkable_69 : decode cX11_thinkable 69 = .ok (.iload_n 1, 1) := by decide +kernel
theorem dX11_thinkable_70 : decode cX11_thinkable 70 = .ok (.iload_n 3, 1) := by decide +kernel
theorem dX11_thinkable_71 : decode cX11_thinkable 71 = .ok (.ifCond .eq 9, 3) := by decide +kernel
theorem dX11_thinkable_74 : decode cX11_thinkable 74 = .ok (.iconst 1, 1) := by decide +kernel
theorem dX11_thinkable_75 : decode cX11_thinkable 75 = .ok (.iload_n 2, 1) := by decide +kernel
theorem dX11_thinkable_76 : decode cX11_thinkable 76 = .ok (.ishl, 1) := by decide +kernel
theorem dX11_thinkable_77 : decode cX11_thinkable 77 = .ok (.goto 4, 3) := by decide +kernel
theorem dX11_thinkable_80 : decode cX11_thinkable 80 = .ok (.iconst 0, 1) := by decide +kernel
theorem dX11_thinkable_81 : decode cX11_thinkable 81 = .ok (.ior, 1) := by decide +kernel
theorem dX11_thinkable_82 : decode cX11_thinkable 82 = .ok (.istore_n 1, 1) := by decide +kernel
theorem dX11_thinkable_83 : decode cX11_thinkable 83 = .ok (.iinc 2 1, 3) := by decide +kernel
theorem dX11_thinkable_86 : decode cX11_thinkable 86 = .ok (.goto (-82), 3) := by decide +kernel
theorem dX11_thinkable_89 : decode cX11_thinkable 89 = .ok (.iload_n 1, 1) := by decide +kernel
theorem dX11_thinkable_90 : decode cX11_thinkable 90 = .ok (.ireturn, 1) := by decide +kernel
theorem dX11_minds_0 : decode cX11_minds 0 = .ok (.aload_n 0, 1) := by decide +kernel
theorem dX11_minds_1 : decode cX11_minds 1 = .ok (.iconst 0, 1) := by decide +kernel
theorem dX11_minds_2 : decode cX11_minds 2 = .ok (.putfield 89, 3) := by decide +kernel
theorem dX11_minds_5 : decode cX11_minds 5 = .ok (.aload_n 0, 1) := by decide +kernel
theorem dX11_minds_6 : decode cX11_minds 6 = .ok (.iload_n 1, 1) := by decide +kernel
theorem dX11_minds_7 : decode cX11_minds 7 = .ok (.invokevirtual 221, 3) := by decide +kernel
theorem dX11_minds_10 : decode cX11_minds 10 = .ok (.ifCond .ne 5, 3) := by decide +kernel
theorem dX11_minds_13 : decode cX11_minds 13 = .ok (.iconst (-1), 1) := by decide +kernel
theorem dX11_minds_14 : decode cX11_minds 14 = .ok (.ireturn, 1) := by decide +kernel
theorem dX11_minds_15 : decode cX11_minds 15 = .ok (.aload_n 0, 1) := by decide +kernel
theorem dX11_minds_16 : decode cX11_minds 16 = .ok (.iload_n 1, 1) := by decide +kernel
theorem dX11_minds_17 : decode cX11_minds 17 = .ok (.invokevirtual 337, 3) := by decide +kernel
theorem dX11_minds_20 : decode cX11_minds 20 = .ok (.aload_n 0, 1) := by decide +kernel
theorem dX11_minds_21 : decode cX11_minds 21 = .ok (.invokevirtual 340, 3) := by decide +kernel
theorem dX11_minds_24 : decode cX11_minds 24 = .ok (.istore_n 2, 1) := by decide +kernel
theorem dX11_minds_25 : decode cX11_minds 25 = .ok (.aload_n 0, 1) := by decide +kernel
theorem dX11_minds_26 : decode cX11_minds 26 = .ok (.iconst 0, 1) := by decide +kernel
theorem dX11_minds_27 : decode cX11_minds 27 = .ok (.putfield 92, 3) := by decide +kernel
theorem dX11_minds_30 : decode cX11_minds 30 = .ok (.aload_n 0, 1) := by decide +kernel
theorem dX11_minds_31 : decode cX11_minds 31 = .ok (.iload_n 2, 1) := by decide +kernel
theorem dX11_minds_32 : decode cX11_minds 32 = .ok (.invokestatic 319, 3) := by decide +kernel
theorem dX11_minds_35 : decode cX11_minds 35 = .ok (.i2l, 1) := by decide +kernel
theorem dX11_minds_36 : decode cX11_minds 36 = .ok (.invokevirtual 252, 3) := by decide +kernel
theorem dX11_minds_39 : decode cX11_minds 39 = .ok (.aload_n 0, 1) := by decide +kernel
theorem dX11_minds_40 : decode cX11_minds 40 = .ok (.iload_n 2, 1) := by decide +kernel
theorem dX11_minds_41 : decode cX11_minds 41 = .ok (.aload_n 0, 1) := by decide +kernel
theorem dX11_minds_42 : decode cX11_minds 42 = .ok (.getfield 9, 3) := by decide +kernel
theorem dX11_minds_45 : decode cX11_minds 45 = .ok (.bipush 7, 2) := by decide +kernel
theorem dX11_minds_47 : decode cX11_minds 47 = .ok (.iload_n 1, 1) := by decide +kernel
theorem dX11_minds_48 : decode cX11_minds 48 = .ok (.iadd, 1) := by decide +kernel
theorem dX11_minds_49 : decode cX11_minds 49 = .ok (.iaload, 1) := by decide +kernel
theorem dX11_minds_50 : decode cX11_minds 50 = .ok (.ishr, 1) := by decide +kernel
theorem dX11_minds_51 : decode cX11_minds 51 = .ok (.iconst 1, 1) := by decide +kernel
theorem dX11_minds_52 : decode cX11_minds 52 = .ok (.iand, 1) := by decide +kernel
theorem dX11_minds_53 : decode cX11_minds 53 = .ok (.i2l, 1) := by decide +kernel
theorem dX11_minds_54 : decode cX11_minds 54 = .ok (.invokevirtual 252, 3) := by decide +kernel
theorem dX11_minds_57 : decode cX11_minds 57 = .ok (.iload_n 2, 1) := by decide +kernel
theorem dX11_minds_58 : decode cX11_minds 58 = .ok (.ireturn, 1) := by decide +kernel
theorem dX11_looks_0 : decode cX11_looks 0 = .ok (.aload_n 0, 1) := by decide +kernel
theorem dX11_looks_1 : decode cX11_looks 1 = .ok (.iconst 0, 1) := by decide +kernel
theorem dX11_looks_2 : decode cX11_looks 2 = .ok (.putfield 89, 3) := by decide +kernel
theorem dX11_looks_5 : decode cX11_looks 5 = .ok (.aload_n 0, 1) := by decide +kernel
theorem dX11_looks_6 : decode cX11_looks 6 = .ok (.iload_n 1, 1) := by decide +kernel
theorem dX11_looks_7 : decode cX11_looks 7 = .ok (.invokevirtual 221, 3) := by decide +kernel
theorem dX11_looks_10 : decode cX11_looks 10 = .ok (.ifCond .ne 5, 3) := by decide +kernel
theorem dX11_looks_13 : decode cX11_looks 13 = .ok (.iconst (-1), 1) := by decide +kernel
theorem dX11_looks_14 : decode cX11_looks 14 = .ok (.ireturn, 1) := by decide +kernel
theorem dX11_looks_15 : decode cX11_looks 15 = .ok (.aload_n 0, 1) := by decide +kernel
theorem dX11_looks_16 : decode cX11_looks 16 = .ok (.iload_n 1, 1) := by decide +kernel
theorem dX11_looks_17 : decode cX11_looks 17 = .ok (.invokevirtual 337, 3) := by decide +kernel
theorem dX11_looks_20 : decode cX11_looks 20 = .ok (.aload_n 0, 1) := by decide +kernel
theorem dX11_looks_21 : decode cX11_looks 21 = .ok (.invokevirtual 340, 3) := by decide +kernel
theorem dX11_looks_24 : decode cX11_looks 24 = .ok (.istore_n 2, 1) := by decide +kernel
theorem dX11_looks_25 : decode cX11_looks 25 = .ok (.iload_n 2, 1) := by decide +kernel
theorem dX11_looks_26 : decode cX11_looks 26 = .ok (.ifCond .ne 6, 3) := by decide +kernel
theorem dX11_looks_29 : decode cX11_looks 29 = .ok (.bipush (-2), 2) := by decide +kernel
theorem dX11_looks_31 : decode cX11_looks 31 = .ok (.ireturn, 1) := by decide +kernel
theorem dX11_looks_32 : decode cX11_looks 32 = .ok (.iconst (-1), 1) := by decide +kernel
theorem dX11_looks_33 : decode cX11_looks 33 = .ok (.istore_n 3, 1) := by decide +kernel
theorem dX11_looks_34 : decode cX11_looks 34 = .ok (.ldc_w 284, 3) := by decide +kernel
theorem dX11_looks_37 : decode cX11_looks 37 = .ok (.istore 4, 2) := by decide +kernel
theorem dX11_looks_39 : decode cX11_looks 39 = .ok (.bipush (-9), 2) := by decide +kernel
theorem dX11_looks_41 : decode cX11_looks 41 = .ok (.istore 5, 2) := by decide +kernel
theorem dX11_looks_43 : decode cX11_looks 43 = .ok (.iload 5, 2) := by decide +kernel
theorem dX11_looks_45 : decode cX11_looks 45 = .ok (.bipush 9, 2) := by decide +kernel
theorem dX11_looks_47 : decode cX11_looks 47 = .ok (.if_icmp .gt 149, 3) := by decide +kernel
theorem dX11_looks_50 : decode cX11_looks 50 = .ok (.iconst 0, 1) := by decide +kernel
theorem dX11_looks_51 : decode cX11_looks 51 = .ok (.istore 6, 2) := by decide +kernel
theorem dX11_looks_53 : decode cX11_looks 53 = .ok (.iload 6, 2) := by decide +kernel
theorem dX11_looks_55 : decode cX11_looks 55 = .ok (.bipush 9, 2) := by decide +kernel
theorem dX11_looks_57 : decode cX11_looks 57 = .ok (.if_icmp .gt 133, 3) := by decide +kernel
theorem dX11_looks_60 : decode cX11_looks 60 = .ok (.iconst 0, 1) := by decide +kernel
theorem dX11_looks_61 : decode cX11_looks 61 = .ok (.istore 7, 2) := by decide +kernel
theorem dX11_looks_63 : decode cX11_looks 63 = .ok (.iconst 0, 1) := by decide +kernel
theorem dX11_looks_64 : decode cX11_looks 64 = .ok (.istore 8, 2) := by decide +kernel
theorem dX11_looks_66 : decode cX11_looks 66 = .ok (.iload 8, 2) := by decide +kernel
theorem dX11_looks_68 : decode cX11_looks 68 = .ok (.bipush 6, 2) := by decide +kernel
theorem dX11_looks_70 : decode cX11_looks 70 = .ok (.if_icmp .ge 88, 3) := by decide +kernel
theorem dX11_looks_73 : decode cX11_looks 73 = .ok (.iconst 0, 1) := by decide +kernel
theorem dX11_looks_74 : decode cX11_looks 74 = .ok (.istore 9, 2) := by decide +kernel
theorem dX11_looks_76 : decode cX11_looks 76 = .ok (.iconst 0, 1) := by decide +kernel
theorem dX11_looks_77 : decode cX11_looks 77 = .ok (.istore 10, 2) := by decide +kernel
theorem dX11_looks_79 : decode cX11_looks 79 = .ok (.iload 10, 2) := by decide +kernel
theorem dX11_looks_81 : decode cX11_looks 81 = .ok (.bipush 6, 2) := by decide +kernel
theorem dX11_looks_83 : decode cX11_looks 83 = .ok (.if_icmp .ge 60, 3) := by decide +kernel
theorem dX11_looks_86 : decode cX11_looks 86 = .ok (.iload 9, 2) := by decide +kernel
theorem dX11_looks_88 : decode cX11_looks 88 = .ok (.iload_n 2, 1) := by decide +kernel
theorem dX11_looks_89 : decode cX11_looks 89 = .ok (.iload 8, 2) := by decide +kernel
theorem dX11_looks_91 : decode cX11_looks 91 = .ok (.invokestatic 306, 3) := by decide +kernel
theorem dX11_looks_94 : decode cX11_looks 94 = .ok (.ifCond .eq 39, 3) := by decide +kernel
theorem dX11_looks_97 : decode cX11_looks 97 = .ok (.iload_n 2, 1) := by decide +kernel
theorem dX11_looks_98 : decode cX11_looks 98 = .ok (.iload 10, 2) := by decide +kernel
theorem dX11_looks_100 : decode cX11_looks 100 = .ok (.invokestatic 306, 3) := by decide +kernel
theorem dX11_looks_103 : decode cX11_looks 103 = .ok (.ifCond .eq 30, 3) := by decide +kernel
theorem dX11_looks_106 : decode cX11_looks 106 = .ok (.aload_n 0, 1) := by decide +kernel
theorem dX11_looks_107 : decode cX11_looks 107 = .ok (.iload 10, 2) := by decide +kernel
theorem dX11_looks_109 : decode cX11_looks 109 = .ok (.iload 5, 2) := by decide +kernel
theorem dX11_looks_111 : decode cX11_looks 111 = .ok (.iload 6, 2) := by decide +kernel
theorem dX11_looks_113 : decode cX11_looks 113 = .ok (.invokevirtual 333, 3) := by decide +kernel
theorem dX11_looks_116 : decode cX11_looks 116 = .ok (.aload_n 0, 1) := by decide +kernel
theorem dX11_looks_117 : decode cX11_looks 117 = .ok (.iload 8, 2) := by decide +kernel
theorem dX11_looks_119 : decode cX11_looks 119 = .ok (.iload 5, 2) := by decide +kernel
theorem dX11_looks_121 : decode cX11_looks 121 = .ok (.iload 6, 2) := by decide +kernel
theorem dX11_looks_123 : decode cX11_looks 123 = .ok (.invokevirtual 333, 3) := by decide +kernel
theorem dX11_looks_126 : decode cX11_looks 126 = .ok (.if_icmp .ne 7, 3) := by decide +kernel
theorem dX11_looks_129 : decode cX11_looks 129 = .ok (.iconst 1, 1) := by decide +kernel
theorem dX11_looks_130 : decode cX11_looks 130 = .ok (.goto 4, 3) := by decide +kernel
theorem dX11_looks_133 : decode cX11_looks 133 = .ok (.iconst 0, 1) := by decide +kernel
theorem dX11_looks_134 : decode cX11_looks 134 = .ok (.iadd, 1) := by decide +kernel
theorem dX11_looks_135 : decode cX11_looks 135 = .ok (.istore 9, 2) := by decide +kernel
theorem dX11_looks_137 : decode cX11_looks 137 = .ok (.iinc 10 1, 3) := by decide +kernel
theorem dX11_looks_140 : decode cX11_looks 140 = .ok (.goto (-61), 3) := by decide +kernel
theorem dX11_looks_143 : decode cX11_looks 143 = .ok (.iload 7, 2) := by decide +kernel
theorem dX11_looks_145 : decode cX11_looks 145 = .ok (.iload 9, 2) := by decide +kernel
theorem dX11_looks_147 : decode cX11_looks 147 = .ok (.invokestatic 201, 3) := by decide +kernel
theorem dX11_looks_150 : decode cX11_looks 150 = .ok (.istore 7, 2) := by decide +kernel
theorem dX11_looks_152 : decode cX11_looks 152 = .ok (.iinc 8 1, 3) := by decide +kernel
theorem dX11_looks_155 : decode cX11_looks 155 = .ok (.goto (-89), 3) := by decide +kernel
theorem dX11_looks_158 : decode cX11_looks 158 = .ok (.iload 7, 2) := by decide +kernel
theorem dX11_looks_160 : decode cX11_looks 160 = .ok (.iload 4, 2) := by decide +kernel
theorem dX11_looks_162 : decode cX11_looks 162 = .ok (.if_icmp .lt 6, 3) := by decide +kernel
theorem dX11_looks_165 : decode cX11_looks 165 = .ok (.goto 19, 3) := by decide +kernel
theorem dX11_looks_168 : decode cX11_looks 168 = .ok (.bipush 10, 2) := by decide +kernel
theorem dX11_looks_170 : decode cX11_looks 170 = .ok (.bipush 9, 2) := by decide +kernel
theorem dX11_looks_172 : decode cX11_looks 172 = .ok (.iload 5, 2) := by decide +kernel
theorem dX11_looks_174 : decode cX11_looks 174 = .ok (.iadd, 1) := by decide +kernel
theorem dX11_looks_175 : decode cX11_looks 175 = .ok (.imul, 1) := by decide +kernel
theorem dX11_looks_176 : decode cX11_looks 176 = .ok (.iload 6, 2) := by decide +kernel
theorem dX11_looks_178 : decode cX11_looks 178 = .ok (.iadd, 1) := by decide +kernel
theorem dX11_looks_179 : decode cX11_looks 179 = .ok (.istore_n 3, 1) := by decide +kernel
theorem dX11_looks_180 : decode cX11_looks 180 = .ok (.iload 7, 2) := by decide +kernel
theorem dX11_looks_182 : decode cX11_looks 182 = .ok (.istore 4, 2) := by decide +kernel
theorem dX11_looks_184 : decode cX11_looks 184 = .ok (.iinc 6 1, 3) := by decide +kernel
theorem dX11_looks_187 : decode cX11_looks 187 = .ok (.goto (-134), 3) := by decide +kernel
theorem dX11_looks_190 : decode cX11_looks 190 = .ok (.iinc 5 1, 3) := by decide +kernel
theorem dX11_looks_193 : decode cX11_looks 193 = .ok (.goto (-150), 3) := by decide +kernel
theorem dX11_looks_196 : decode cX11_looks 196 = .ok (.aload_n 0, 1) := by decide +kernel
theorem dX11_looks_197 : decode cX11_looks 197 = .ok (.iconst 0, 1) := by decide +kernel
theorem dX11_looks_198 : decode cX11_looks 198 = .ok (.putfield 92, 3) := by decide +kernel
theorem dX11_looks_201 : decode cX11_looks 201 = .ok (.aload_n 0, 1) := by decide +kernel
theorem dX11_looks_202 : decode cX11_looks 202 = .ok (.iload 4, 2) := by decide +kernel
theorem dX11_looks_204 : decode cX11_looks 204 = .ok (.i2l, 1) := by decide +kernel
theorem dX11_looks_205 : decode cX11_looks 205 = .ok (.invokevirtual 252, 3) := by decide +kernel
theorem dX11_looks_208 : decode cX11_looks 208 = .ok (.iload_n 3, 1) := by decide +kernel
theorem dX11_looks_209 : decode cX11_looks 209 = .ok (.ireturn, 1) := by decide +kernel
theorem dX11_highOf_0 : decode cX11_highOf 0 = .ok (.iload_n 0, 1) := by decide +kernel
theorem dX11_highOf_1 : decode cX11_highOf 1 = .ok (.iconst 1, 1) := by decide +kernel
theorem dX11_highOf_2 : decode cX11_highOf 2 = .ok (.if_icmp .eq 8, 3) := by decide +kernel
theorem dX11_highOf_5 : decode cX11_highOf 5 = .ok (.iload_n 0, 1) := by decide +kernel
theorem dX11_highOf_6 : decode cX11_highOf 6 = .ok (.iconst 3, 1) := by decide +kernel
theorem dX11_highOf_7 : decode cX11_highOf 7 = .ok (.if_icmp .ne 7, 3) := by decide +kernel
theorem dX11_highOf_10 : decode cX11_highOf 10 = .ok (.iconst 5, 1) := by decide +kernel
theorem dX11_highOf_11 : decode cX11_highOf 11 = .ok (.goto 14, 3) := by decide +kernel
theorem dX11_highOf_14 : decode cX11_highOf 14 = .ok (.iload_n 0, 1) := by decide +kernel
theorem dX11_highOf_15 : decode cX11_highOf 15 = .ok (.iconst 2, 1) := by decide +kernel
theorem dX11_highOf_16 : decode cX11_highOf 16 = .ok (.if_icmp .ne 7, 3) := by decide +kernel
theorem dX11_highOf_19 : decode cX11_highOf 19 = .ok (.iconst 1, 1) := by decide +kernel
theorem dX11_highOf_20 : decode cX11_highOf 20 = .ok (.goto 5, 3) := by decide +kernel
theorem dX11_highOf_23 : decode cX11_highOf 23 = .ok (.bipush 9, 2) := by decide +kernel
theorem dX11_highOf_25 : decode cX11_highOf 25 = .ok (.ireturn, 1) := by decide +kernel
theorem dX11_heard_0 : decode cX11_heard 0 = .ok (.aload_n 0, 1) := by decide +kernel
theorem dX11_heard_1 : decode cX11_heard 1 = .ok (.iconst 0, 1) := by decide +kernel
theorem dX11_heard_2 : decode cX11_heard 2 = .ok (.putfield 89, 3) := by decide +kernel
theorem dX11_heard_5 : decode cX11_heard 5 = .ok (.iload_n 1, 1) := by decide +kernel
theorem dX11_heard_6 : decode cX11_heard 6 = .ok (.iconst 0, 1) := by decide +kernel
theorem dX11_heard_7 : decode cX11_heard 7 = .ok (.iconst 4, 1) := by decide +kernel
theorem dX11_heard_8 : decode cX11_heard 8 = .ok (.invokestatic 98, 3) := by decide +kernel
theorem dX11_heard_11 : decode cX11_heard 11 = .ok (.ifCond .eq 24, 3) := by decide +kernel
theorem dX11_heard_14 : decode cX11_heard 14 = .ok (.iload_n 2, 1) := by decide +kernel
theorem dX11_heard_15 : decode cX11_heard 15 = .ok (.iconst 0, 1) := by decide +kernel
theorem dX11_heard_16 : decode cX11_heard 16 = .ok (.iload_n 1, 1) := by decide +kernel
theorem dX11_heard_17 : decode cX11_heard 17 = .ok (.invokestatic 343, 3) := by decide +kernel
theorem dX11_heard_20 : decode cX11_heard 20 = .ok (.invokestatic 98, 3) := by decide +kernel
theorem dX11_heard_23 : decode cX11_heard 23 = .ok (.ifCond .eq 12, 3) := by decide +kernel
theorem dX11_heard_26 : decode cX11_heard 26 = .ok (.aload_n 0, 1) := by decide +kernel
theorem dX11_heard_27 : decode cX11_heard 27 = .ok (.getfield 346, 3) := by decide +kernel
theorem dX11_heard_30 : decode cX11_heard 30 = .ok (.bipush 12, 2) := by decide +kernel
theorem dX11_heard_32 : decode cX11_heard 32 = .ok (.if_icmp .ne 5, 3) := by decide +kernel
theorem dX11_heard_35 : decode cX11_heard 35 = .ok (.iconst (-1), 1) := by decide +kernel
theorem dX11_heard_36 : decode cX11_heard 36 = .ok (.ireturn, 1) := by decide +kernel
theorem dX11_heard_37 : decode cX11_heard 37 = .ok (.aload_n 0, 1) := by decide +kernel
theorem dX11_heard_38 : decode cX11_heard 38 = .ok (.getfield 67, 3) := by decide +kernel
theorem dX11_heard_41 : decode cX11_heard 41 = .ok (.aload_n 0, 1) := by decide +kernel
theorem dX11_heard_42 : decode cX11_heard 42 = .ok (.getfield 346, 3) := by decide +kernel
theorem dX11_heard_45 : decode cX11_heard 45 = .ok (.iload_n 1, 1) := by decide +kernel
theorem dX11_heard_46 : decode cX11_heard 46 = .ok (.iastore, 1) := by decide +kernel
theorem dX11_heard_47 : decode cX11_heard 47 = .ok (.aload_n 0, 1) := by decide +kernel
theorem dX11_heard_48 : decode cX11_heard 48 = .ok (.getfield 70, 3) := by decide +kernel
theorem dX11_heard_51 : decode cX11_heard 51 = .ok (.aload_n 0, 1) := by decide +kernel
theorem dX11_heard_52 : decode cX11_heard 52 = .ok (.getfield 346, 3) := by decide +kernel
theorem dX11_heard_55 : decode cX11_heard 55 = .ok (.iload_n 2, 1) := by decide +kernel
theorem dX11_heard_56 : decode cX11_heard 56 = .ok (.iastore, 1) := by decide +kernel
theorem dX11_heard_57 : decode cX11_heard 57 = .ok (.aload_n 0, 1) := by decide +kernel
theorem dX11_heard_58 : decode cX11_heard 58 = .ok (.dup, 1) := by decide +kernel
theorem dX11_heard_59 : decode cX11_heard 59 = .ok (.getfield 346, 3) := by decide +kernel
theorem dX11_heard_62 : decode cX11_heard 62 = .ok (.iconst 1, 1) := by decide +kernel
theorem dX11_heard_63 : decode cX11_heard 63 = .ok (.iadd, 1) := by decide +kernel
theorem dX11_heard_64 : decode cX11_heard 64 = .ok (.putfield 346, 3) := by decide +kernel
theorem dX11_heard_67 : decode cX11_heard 67 = .ok (.aload_n 0, 1) := by decide +kernel
theorem dX11_heard_68 : decode cX11_heard 68 = .ok (.getfield 346, 3) := by decide +kernel
theorem dX11_heard_71 : decode cX11_heard 71 = .ok (.ireturn, 1) := by decide +kernel
theorem dX11_forget_0 : decode cX11_forget 0 = .ok (.aload_n 0, 1) := by decide +kernel
theorem dX11_forget_1 : decode cX11_forget 1 = .ok (.iconst 0, 1) := by decide +kernel
theorem dX11_forget_2 : decode cX11_forget 2 = .ok (.putfield 89, 3) := by decide +kernel
theorem dX11_forget_5 : decode cX11_forget 5 = .ok (.aload_n 0, 1) := by decide +kernel
theorem dX11_forget_6 : decode cX11_forget 6 = .ok (.getfield 346, 3) := by decide +kernel
theorem dX11_forget_9 : decode cX11_forget 9 = .ok (.istore_n 1, 1) := by decide +kernel
theorem dX11_forget_10 : decode cX11_forget 10 = .ok (.aload_n 0, 1) := by decide +kernel
theorem dX11_forget_11 : decode cX11_forget 11 = .ok (.iconst 0, 1) := by decide +kernel
theorem dX11_forget_12 : decode cX11_forget 12 = .ok (.putfield 346, 3) := by decide +kernel
theorem dX11_forget_15 : decode cX11_forget 15 = .ok (.iload_n 1, 1) := by decide +kernel
theorem dX11_forget_16 : decode cX11_forget 16 = .ok (.ireturn, 1) := by decide +kernel
theorem dX11_isSo_0 : decode cX11_isSo 0 = .ok (.iload_n 2, 1) := by decide +kernel
theorem dX11_isSo_1 : decode cX11_isSo 1 = .ok (.tableswitch 124 0 3 #[31, 47, 66, 102], 31) := by decide +kernel
theorem dX11_isSo_32 : decode cX11_isSo 32 = .ok (.aload_n 0, 1) := by decide +kernel
theorem dX11_isSo_33 : decode cX11_isSo 33 = .ok (.getfield 9, 3) := by decide +kernel
theorem dX11_isSo_36 : decode cX11_isSo 36 = .ok (.iload_n 1, 1) := by decide +kernel
theorem dX11_isSo_37 : decode cX11_isSo 37 = .ok (.iaload, 1) := by decide +kernel
theorem dX11_isSo_38 : decode cX11_isSo 38 = .ok (.iload_n 3, 1) := by decide +kernel
theorem dX11_isSo_39 : decode cX11_isSo 39 = .ok (.if_icmp .lt 7, 3) := by decide +kernel
theorem dX11_isSo_42 : decode cX11_isSo 42 = .ok (.iconst 1, 1) := by decide +kernel
theorem dX11_isSo_43 : decode cX11_isSo 43 = .ok (.goto 4, 3) := by decide +kernel
theorem dX11_isSo_46 : decode cX11_isSo 46 = .ok (.iconst 0, 1) := by decide +kernel
theorem dX11_isSo_47 : decode cX11_isSo 47 = .ok (.ireturn, 1) := by decide +kernel
theorem dX11_isSo_48 : decode cX11_isSo 48 = .ok (.aload_n 0, 1) := by decide +kernel
theorem dX11_isSo_49 : decode cX11_isSo 49 = .ok (.getfield 9, 3) := by decide +kernel
theorem dX11_isSo_52 : decode cX11_isSo 52 = .ok (.bipush 7, 2) := by decide +kernel
theorem dX11_isSo_54 : decode cX11_isSo 54 = .ok (.iload_n 1, 1) := by decide +kernel
theorem dX11_isSo_55 : decode cX11_isSo 55 = .ok (.iadd, 1) := by decide +kernel
theorem dX11_isSo_56 : decode cX11_isSo 56 = .ok (.iaload, 1) := by decide +kernel
theorem dX11_isSo_57 : decode cX11_isSo 57 = .ok (.iload_n 3, 1) := by decide +kernel
theorem dX11_isSo_58 : decode cX11_isSo 58 = .ok (.if_icmp .ne 7, 3) := by decide +kernel
theorem dX11_isSo_61 : decode cX11_isSo 61 = .ok (.iconst 1, 1) := by decide +kernel
theorem dX11_isSo_62 : decode cX11_isSo 62 = .ok (.goto 4, 3) := by decide +kernel
theorem dX11_isSo_65 : decode cX11_isSo 65 = .ok (.iconst 0, 1) := by decide +kernel
theorem dX11_isSo_66 : decode cX11_isSo 66 = .ok (.ireturn, 1) := by decide +kernel
theorem dX11_isSo_67 : decode cX11_isSo 67 = .ok (.aload_n 0, 1) := by decide +kernel
theorem dX11_isSo_68 : decode cX11_isSo 68 = .ok (.getfield 9, 3) := by decide +kernel
theorem dX11_isSo_71 : decode cX11_isSo 71 = .ok (.bipush 14, 2) := by decide +kernel
theorem dX11_isSo_73 : decode cX11_isSo 73 = .ok (.iload_n 1, 1) := by decide +kernel
theorem dX11_isSo_74 : decode cX11_isSo 74 = .ok (.iadd, 1) := by decide +kernel
theorem dX11_isSo_75 : decode cX11_isSo 75 = .ok (.iaload, 1) := by decide +kernel
theorem dX11_isSo_76 : decode cX11_isSo 76 = .ok (.ifCond .le 7, 3) := by decide +kernel
theorem dX11_isSo_79 : decode cX11_isSo 79 = .ok (.iconst 1, 1) := by decide +kernel
theorem dX11_isSo_80 : decode cX11_isSo 80 = .ok (.goto 4, 3) := by decide +kernel
theorem dX11_isSo_83 : decode cX11_isSo 83 = .ok (.iconst 0, 1) := by decide +kernel
theorem dX11_isSo_84 : decode cX11_isSo 84 = .ok (.iload_n 3, 1) := by decide +kernel
theorem dX11_isSo_85 : decode cX11_isSo 85 = .ok (.iconst 1, 1) := by decide +kernel
theorem dX11_isSo_86 : decode cX11_isSo 86 = .ok (.if_icmp .ne 7, 3) := by decide +kernel
theorem dX11_isSo_89 : decode cX11_isSo 89 = .ok (.iconst 1, 1) := by decide +kernel
theorem dX11_isSo_90 : decode cX11_isSo 90 = .ok (.goto 4, 3) := by decide +kernel
theorem dX11_isSo_93 : decode cX11_isSo 93 = .ok (.iconst 0, 1) := by decide +kernel
theorem dX11_isSo_94 : decode cX11_isSo 94 = .ok (.if_icmp .ne 7, 3) := by decide +kernel
theorem dX11_isSo_97 : decode cX11_isSo 97 = .ok (.iconst 1, 1) := by decide +kernel
theorem dX11_isSo_98 : decode cX11_isSo 98 = .ok (.goto 4, 3) := by decide +kernel
theorem dX11_isSo_101 : decode cX11_isSo 101 = .ok (.iconst 0, 1) := by decide +kernel
theorem dX11_isSo_102 : decode cX11_isSo 102 = .ok (.ireturn, 1) := by decide +kernel
theorem dX11_isSo_103 : decode cX11_isSo 103 = .ok (.aload_n 0, 1) := by decide +kernel
theorem dX11_isSo_104 : decode cX11_isSo 104 = .ok (.getfield 9, 3) := by decide +kernel
theorem dX11_isSo_107 : decode cX11_isSo 107 = .ok (.bipush 14, 2) := by decide +kernel
theorem dX11_isSo_109 : decode cX11_isSo 109 = .ok (.iload_n 1, 1) := by decide +kernel
theorem dX11_isSo_110 : decode cX11_isSo 110 = .ok (.iadd, 1) := by decide +kernel
theorem dX11_isSo_111 : decode cX11_isSo 111 = .ok (.iaload, 1) := by decide +kernel
theorem dX11_isSo_112 : decode cX11_isSo 112 = .ok (.invokestatic 192, 3) := by decide +kernel
theorem dX11_isSo_115 : decode cX11_isSo 115 = .ok (.iload_n 3, 1) := by decide +kernel
theorem dX11_isSo_116 : decode cX11_isSo 116 = .ok (.if_icmp .ne 7, 3) := by decide +kernel
theorem dX11_isSo_119 : decode cX11_isSo 119 = .ok (.iconst 1, 1) := by decide +kernel
theorem dX11_isSo_120 : decode cX11_isSo 120 = .ok (.goto 4, 3) := by decide +kernel
theorem dX11_isSo_123 : decode cX11_isSo 123 = .ok (.iconst 0, 1) := by decide +kernel
theorem dX11_isSo_124 : decode cX11_isSo 124 = .ok (.ireturn, 1) := by decide +kernel
theorem dX11_isSo_125 : decode cX11_isSo 125 = .ok (.aload_n 0, 1) := by decide +kernel
theorem dX11_isSo_126 : decode cX11_isSo 126 = .ok (.aload_n 0, 1) := by decide +kernel
theorem dX11_isSo_127 : decode cX11_isSo 127 = .ok (.getfield 9, 3) := by decide +kernel
theorem dX11_isSo_130 : decode cX11_isSo 130 = .ok (.iload_n 1, 1) := by decide +kernel
theorem dX11_isSo_131 : decode cX11_isSo 131 = .ok (.invokevirtual 204, 3) := by decide +kernel
theorem dX11_isSo_134 : decode cX11_isSo 134 = .ok (.iload_n 3, 1) := by decide +kernel
theorem dX11_isSo_135 : decode cX11_isSo 135 = .ok (.if_icmp .lt 7, 3) := by decide +kernel
theorem dX11_isSo_138 : decode cX11_isSo 138 = .ok (.iconst 1, 1) := by decide +kernel
theorem dX11_isSo_139 : decode cX11_isSo 139 = .ok (.goto 4, 3) := by decide +kernel
theorem dX11_isSo_142 : decode cX11_isSo 142 = .ok (.iconst 0, 1) := by decide +kernel
theorem dX11_isSo_143 : decode cX11_isSo 143 = .ok (.ireturn, 1) := by decide +kernel
theorem dX11_fitting_0 : decode cX11_fitting 0 = .ok (.iconst 0, 1) := by decide +kernel
theorem dX11_fitting_1 : decode cX11_fitting 1 = .ok (.istore_n 1, 1) := by decide +kernel
theorem dX11_fitting_2 : decode cX11_fitting 2 = .ok (.iconst 0, 1) := by decide +kernel
theorem dX11_fitting_3 : decode cX11_fitting 3 = .ok (.istore_n 2, 1) := by decide +kernel
theorem dX11_fitting_4 : decode cX11_fitting 4 = .ok (.iload_n 2, 1) := by decide +kernel
theorem dX11_fitting_5 : decode cX11_fitting 5 = .ok (.aload_n 0, 1) := by decide +kernel
theorem dX11_fitting_6 : decode cX11_fitting 6 = .ok (.getfield 95, 3) := by decide +kernel
theorem dX11_fitting_9 : decode cX11_fitting 9 = .ok (.if_icmp .ge 75, 3) := by decide +kernel
theorem dX11_fitting_12 : decode cX11_fitting 12 = .ok (.iconst 1, 1) := by decide +kernel
theorem dX11_fitting_13 : decode cX11_fitting 13 = .ok (.istore_n 3, 1) := by decide +kernel
theorem dX11_fitting_14 : decode cX11_fitting 14 = .ok (.iconst 0, 1) := by decide +kernel
theorem dX11_fitting_15 : decode cX11_fitting 15 = .ok (.istore 4, 2) := by decide +kernel
theorem dX11_fitting_17 : decode cX11_fitting 17 = .ok (.iload 4, 2) := by decide +kernel
theorem dX11_fitting_19 : decode cX11_fitting 19 = .ok (.aload_n 0, 1) := by decide +kernel
theorem dX11_fitting_20 : decode cX11_fitting 20 = .ok (.getfield 346, 3) := by decide +kernel
theorem dX11_fitting_23 : decode cX11_fitting 23 = .ok (.if_icmp .ge 41, 3) := by decide +kernel
theorem dX11_fitting_26 : decode cX11_fitting 26 = .ok (.iload_n 3, 1) := by decide +kernel
theorem dX11_fitting_27 : decode cX11_fitting 27 = .ok (.ifCond .eq 29, 3) := by decide +kernel
theorem dX11_fitting_30 : decode cX11_fitting 30 = .ok (.aload_n 0, 1) := by decide +kernel
theorem dX11_fitting_31 : decode cX11_fitting 31 = .ok (.iload_n 2, 1) := by decide +kernel
theorem dX11_fitting_32 : decode cX11_fitting 32 = .ok (.aload_n 0, 1) := by decide +kernel
theorem dX11_fitting_33 : decode cX11_fitting 33 = .ok (.getfield 67, 3) := by decide +kernel
theorem dX11_fitting_36 : decode cX11_fitting 36 = .ok (.iload 4, 2) := by decide +kernel
theorem dX11_fitting_38 : decode cX11_fitting 38 = .ok (.iaload, 1) := by decide +kernel
theorem dX11_fitting_39 : decode cX11_fitting 39 = .ok (.aload_n 0, 1) := by decide +kernel
theorem dX11_fitting_40 : decode cX11_fitting 40 = .ok (.getfield 70, 3) := by decide +kernel
theorem dX11_fitting_43 : decode cX11_fitting 43 = .ok (.iload 4, 2) := by decide +kernel
theorem dX11_fitting_45 : decode cX11_fitting 45 = .ok (.iaload, 1) := by decide +kernel
theorem dX11_fitting_46 : decode cX11_fitting 46 = .ok (.invokevirtual 349, 3) := by decide +kernel
theorem dX11_fitting_49 : decode cX11_fitting 49 = .ok (.ifCond .eq 7, 3) := by decide +kernel
theorem dX11_fitting_52 : decode cX11_fitting 52 = .ok (.iconst 1, 1) := by decide +kernel
theorem dX11_fitting_53 : decode cX11_fitting 53 = .ok (.goto 4, 3) := by decide +kernel
theorem dX11_fitting_56 : decode cX11_fitting 56 = .ok (.iconst 0, 1) := by decide +kernel
theorem dX11_fitting_57 : decode cX11_fitting 57 = .ok (.istore_n 3, 1) := by decide +kernel
theorem dX11_fitting_58 : decode cX11_fitting 58 = .ok (.iinc 4 1, 3) := by decide +kernel
theorem dX11_fitting_61 : decode cX11_fitting 61 = .ok (.goto (-44), 3) := by decide +kernel
theorem dX11_fitting_64 : decode cX11_fitting 64 = .ok (.iload_n 1, 1) := by decide +kernel
theorem dX11_fitting_65 : decode cX11_fitting 65 = .ok (.iload_n 3, 1) := by decide +kernel
theorem dX11_fitting_66 : decode cX11_fitting 66 = .ok (.ifCond .eq 9, 3) := by decide +kernel
theorem dX11_fitting_69 : decode cX11_fitting 69 = .ok (.iconst 1, 1) := by decide +kernel
theorem dX11_fitting_70 : decode cX11_fitting 70 = .ok (.iload_n 2, 1) := by decide +kernel
theorem dX11_fitting_71 : decode cX11_fitting 71 = .ok (.ishl, 1) := by decide +kernel
theorem dX11_fitting_72 : decode cX11_fitting 72 = .ok (.goto 4, 3) := by decide +kernel
theorem dX11_fitting_75 : decode cX11_fitting 75 = .ok (.iconst 0, 1) := by decide +kernel
theorem dX11_fitting_76 : decode cX11_fitting 76 = .ok (.ior, 1) := by decide +kernel
theorem dX11_fitting_77 : decode cX11_fitting 77 = .ok (.istore_n 1, 1) := by decide +kernel
theorem dX11_fitting_78 : decode cX11_fitting 78 = .ok (.iinc 2 1, 3) := by decide +kernel
theorem dX11_fitting_81 : decode cX11_fitting 81 = .ok (.goto (-77), 3) := by decide +kernel
theorem dX11_fitting_84 : decode cX11_fitting 84 = .ok (.iload_n 1, 1) := by decide +kernel
theorem dX11_fitting_85 : decode cX11_fitting 85 = .ok (.ireturn, 1) := by decide +kernel
theorem dX11_fits_0 : decode cX11_fits 0 = .ok (.aload_n 0, 1) := by decide +kernel
theorem dX11_fits_1 : decode cX11_fits 1 = .ok (.iconst 0, 1) := by decide +kernel
theorem dX11_fits_2 : decode cX11_fits 2 = .ok (.putfield 89, 3) := by decide +kernel
theorem dX11_fits_5 : decode cX11_fits 5 = .ok (.aload_n 0, 1) := by decide +kernel
theorem dX11_fits_6 : decode cX11_fits 6 = .ok (.invokevirtual 352, 3) := by decide +kernel
theorem dX11_fits_9 : decode cX11_fits 9 = .ok (.istore_n 1, 1) := by decide +kernel
theorem dX11_fits_10 : decode cX11_fits 10 = .ok (.aload_n 0, 1) := by decide +kernel
theorem dX11_fits_11 : decode cX11_fits 11 = .ok (.iconst 0, 1) := by decide +kernel
theorem dX11_fits_12 : decode cX11_fits 12 = .ok (.putfield 92, 3) := by decide +kernel
theorem dX11_fits_15 : decode cX11_fits 15 = .ok (.aload_n 0, 1) := by decide +kernel
theorem dX11_fits_16 : decode cX11_fits 16 = .ok (.iload_n 1, 1) := by decide +kernel
theorem dX11_fits_17 : decode cX11_fits 17 = .ok (.invokestatic 319, 3) := by decide +kernel
theorem dX11_fits_20 : decode cX11_fits 20 = .ok (.i2l, 1) := by decide +kernel
theorem dX11_fits_21 : decode cX11_fits 21 = .ok (.invokevirtual 252, 3) := by decide +kernel
theorem dX11_fits_24 : decode cX11_fits 24 = .ok (.iload_n 1, 1) := by decide +kernel
theorem dX11_fits_25 : decode cX11_fits 25 = .ok (.ireturn, 1) := by decide +kernel
theorem dX11_asks_0 : decode cX11_asks 0 = .ok (.aload_n 0, 1) := by decide +kernel
theorem dX11_asks_1 : decode cX11_asks 1 = .ok (.iconst 0, 1) := by decide +kernel
theorem dX11_asks_2 : decode cX11_asks 2 = .ok (.putfield 89, 3) := by decide +kernel
theorem dX11_asks_5 : decode cX11_asks 5 = .ok (.aload_n 0, 1) := by decide +kernel
theorem dX11_asks_6 : decode cX11_asks 6 = .ok (.invokevirtual 352, 3) := by decide +kernel
theorem dX11_asks_9 : decode cX11_asks 9 = .ok (.istore_n 1, 1) := by decide +kernel
theorem dX11_asks_10 : decode cX11_asks 10 = .ok (.iload_n 1, 1) := by decide +kernel
theorem dX11_asks_11 : decode cX11_asks 11 = .ok (.ifCond .ne 6, 3) := by decide +kernel
theorem dX11_asks_14 : decode cX11_asks 14 = .ok (.bipush (-2), 2) := by decide +kernel
theorem dX11_asks_16 : decode cX11_asks 16 = .ok (.ireturn, 1) := by decide +kernel
theorem dX11_asks_17 : decode cX11_asks 17 = .ok (.iconst (-1), 1) := by decide +kernel
theorem dX11_asks_18 : decode cX11_asks 18 = .ok (.istore_n 2, 1) := by decide +kernel
theorem dX11_asks_19 : decode cX11_asks 19 = .ok (.ldc_w 284, 3) := by decide +kernel
theorem dX11_asks_22 : decode cX11_asks 22 = .ok (.istore_n 3, 1) := by decide +kernel
theorem dX11_asks_23 : decode cX11_asks 23 = .ok (.iconst 0, 1) := by decide +kernel
theorem dX11_asks_24 : decode cX11_asks 24 = .ok (.istore 4, 2) := by decide +kernel
theorem dX11_asks_26 : decode cX11_asks 26 = .ok (.iload 4, 2) := by decide +kernel
theorem dX11_asks_28 : decode cX11_asks 28 = .ok (.bipush 50, 2) := by decide +kernel
theorem dX11_asks_30 : decode cX11_asks 30 = .ok (.if_icmp .ge 116, 3) := by decide +kernel
theorem dX11_asks_33 : decode cX11_asks 33 = .ok (.iload 4, 2) := by decide +kernel
theorem dX11_asks_35 : decode cX11_asks 35 = .ok (.bipush 10, 2) := by decide +kernel
theorem dX11_asks_37 : decode cX11_asks 37 = .ok (.irem, 1) := by decide +kernel
theorem dX11_asks_38 : decode cX11_asks 38 = .ok (.iload 4, 2) := by decide +kernel
theorem dX11_asks_40 : decode cX11_asks 40 = .ok (.bipush 10, 2) := by decide +kernel
theorem dX11_asks_42 : decode cX11_asks 42 = .ok (.idiv, 1) := by decide +kernel
theorem dX11_asks_43 : decode cX11_asks 43 = .ok (.invokestatic 343, 3) := by decide +kernel
theorem dX11_asks_46 : decode cX11_asks 46 = .ok (.if_icmp .le 6, 3) := by decide +kernel
theorem dX11_asks_49 : decode cX11_asks 49 = .ok (.goto 91, 3) := by decide +kernel
theorem dX11_asks_52 : decode cX11_asks 52 = .ok (.iconst 0, 1) := by decide +kernel
theorem dX11_asks_53 : decode cX11_asks 53 = .ok (.istore 5, 2) := by decide +kernel
theorem dX11_asks_55 : decode cX11_asks 55 = .ok (.iconst 0, 1) := by decide +kernel
theorem dX11_asks_56 : decode cX11_asks 56 = .ok (.istore 6, 2) := by decide +kernel
theorem dX11_asks_58 : decode cX11_asks 58 = .ok (.iload 6, 2) := by decide +kernel
theorem dX11_asks_60 : decode cX11_asks 60 = .ok (.aload_n 0, 1) := by decide +kernel
theorem dX11_asks_61 : decode cX11_asks 61 = .ok (.getfield 95, 3) := by decide +kernel
theorem dX11_asks_64 : decode cX11_asks 64 = .ok (.if_icmp .ge 47, 3) := by decide +kernel
theorem dX11_asks_67 : decode cX11_asks 67 = .ok (.iload 5, 2) := by decide +kernel
theorem dX11_asks_69 : decode cX11_asks 69 = .ok (.iload_n 1, 1) := by decide +kernel
theorem dX11_asks_70 : decode cX11_asks 70 = .ok (.iload 6, 2) := by decide +kernel
theorem dX11_asks_72 : decode cX11_asks 72 = .ok (.invokestatic 306, 3) := by decide +kernel
theorem dX11_asks_75 : decode cX11_asks 75 = .ok (.ifCond .eq 26, 3) := by decide +kernel
theorem dX11_asks_78 : decode cX11_asks 78 = .ok (.aload_n 0, 1) := by decide +kernel
theorem dX11_asks_79 : decode cX11_asks 79 = .ok (.iload 6, 2) := by decide +kernel
theorem dX11_asks_81 : decode cX11_asks 81 = .ok (.iload 4, 2) := by decide +kernel
theorem dX11_asks_83 : decode cX11_asks 83 = .ok (.bipush 10, 2) := by decide +kernel
theorem dX11_asks_85 : decode cX11_asks 85 = .ok (.idiv, 1) := by decide +kernel
theorem dX11_asks_86 : decode cX11_asks 86 = .ok (.iload 4, 2) := by decide +kernel
theorem dX11_asks_88 : decode cX11_asks 88 = .ok (.bipush 10, 2) := by decide +kernel
theorem dX11_asks_90 : decode cX11_asks 90 = .ok (.irem, 1) := by decide +kernel
theorem dX11_asks_91 : decode cX11_asks 91 = .ok (.invokevirtual 349, 3) := by decide +kernel
theorem dX11_asks_94 : decode cX11_asks 94 = .ok (.ifCond .eq 7, 3) := by decide +kernel
theorem dX11_asks_97 : decode cX11_asks 97 = .ok (.iconst 1, 1) := by decide +kernel
theorem dX11_asks_98 : decode cX11_asks 98 = .ok (.goto 4, 3) := by decide +kernel
theorem dX11_asks_101 : decode cX11_asks 101 = .ok (.iconst 0, 1) := by decide +kernel
theorem dX11_asks_102 : decode cX11_asks 102 = .ok (.iadd, 1) := by decide +kernel
theorem dX11_asks_103 : decode cX11_asks 103 = .ok (.istore 5, 2) := by decide +kernel
theorem dX11_asks_105 : decode cX11_asks 105 = .ok (.iinc 6 1, 3) := by decide +kernel
theorem dX11_asks_108 : decode cX11_asks 108 = .ok (.goto (-50), 3) := by decide +kernel
theorem dX11_asks_111 : decode cX11_asks 111 = .ok (.iload 5, 2) := by decide +kernel
theorem dX11_asks_113 : decode cX11_asks 113 = .ok (.iload_n 1, 1) := by decide +kernel
theorem dX11_asks_114 : decode cX11_asks 114 = .ok (.invokestatic 319, 3) := by decide +kernel
theorem dX11_asks_117 : decode cX11_asks 117 = .ok (.iload 5, 2) := by decide +kernel
theorem dX11_asks_119 : decode cX11_asks 119 = .ok (.isub, 1) := by decide +kernel
theorem dX11_asks_120 : decode cX11_asks 120 = .ok (.invokestatic 201, 3) := by decide +kernel
theorem dX11_asks_123 : decode cX11_asks 123 = .ok (.istore 6, 2) := by decide +kernel
theorem dX11_asks_125 : decode cX11_asks 125 = .ok (.iload 6, 2) := by decide +kernel
theorem dX11_asks_127 : decode cX11_asks 127 = .ok (.iload_n 3, 1) := by decide +kernel
theorem dX11_asks_128 : decode cX11_asks 128 = .ok (.if_icmp .lt 6, 3) := by decide +kernel
theorem dX11_asks_131 : decode cX11_asks 131 = .ok (.goto 9, 3) := by decide +kernel
theorem dX11_asks_134 : decode cX11_asks 134 = .ok (.iload 4, 2) := by decide +kernel
theorem dX11_asks_136 : decode cX11_asks 136 = .ok (.istore_n 2, 1) := by decide +kernel
theorem dX11_asks_137 : decode cX11_asks 137 = .ok (.iload 6, 2) := by decide +kernel
theorem dX11_asks_139 : decode cX11_asks 139 = .ok (.istore_n 3, 1) := by decide +kernel
theorem dX11_asks_140 : decode cX11_asks 140 = .ok (.iinc 4 1, 3) := by decide +kernel
theorem dX11_asks_143 : decode cX11_asks 143 = .ok (.goto (-117), 3) := by decide +kernel
theorem dX11_asks_146 : decode cX11_asks 146 = .ok (.aload_n 0, 1) := by decide +kernel
theorem dX11_asks_147 : decode cX11_asks 147 = .ok (.iconst 0, 1) := by decide +kernel
theorem dX11_asks_148 : decode cX11_asks 148 = .ok (.putfield 92, 3) := by decide +kernel
theorem dX11_asks_151 : decode cX11_asks 151 = .ok (.aload_n 0, 1) := by decide +kernel
theorem dX11_asks_152 : decode cX11_asks 152 = .ok (.iload_n 3, 1) := by decide +kernel
theorem dX11_asks_153 : decode cX11_asks 153 = .ok (.i2l, 1) := by decide +kernel
theorem dX11_asks_154 : decode cX11_asks 154 = .ok (.invokevirtual 252, 3) := by decide +kernel
theorem dX11_asks_157 : decode cX11_asks 157 = .ok (.iload_n 2, 1) := by decide +kernel
theorem dX11_asks_158 : decode cX11_asks 158 = .ok (.ireturn, 1) := by decide +kernel
theorem dX11_common_0 : decode cX11_common 0 = .ok (.lload_n 2, 1) := by decide +kernel
theorem dX11_common_1 : decode cX11_common 1 = .ok (.lconst 0, 1) := by decide +kernel
theorem dX11_common_2 : decode cX11_common 2 = .ok (.lcmp, 1) := by decide +kernel
theorem dX11_common_3 : decode cX11_common 3 = .ok (.ifCond .ne 7, 3) := by decide +kernel
theorem dX11_common_6 : decode cX11_common 6 = .ok (.lload_n 0, 1) := by decide +kernel
theorem dX11_common_7 : decode cX11_common 7 = .ok (.goto 10, 3) := by decide +kernel
theorem dX11_common_10 : decode cX11_common 10 = .ok (.lload_n 2, 1) := by decide +kernel
theorem dX11_common_11 : decode cX11_common 11 = .ok (.lload_n 0, 1) := by decide +kernel
theorem dX11_common_12 : decode cX11_common 12 = .ok (.lload_n 2, 1) := by decide +kernel
theorem dX11_common_13 : decode cX11_common 13 = .ok (.lrem, 1) := by decide +kernel
theorem dX11_common_14 : decode cX11_common 14 = .ok (.invokestatic 355, 3) := by decide +kernel
theorem dX11_common_17 : decode cX11_common 17 = .ok (.lreturn, 1) := by decide +kernel
theorem dX11_grave_0 : decode cX11_grave 0 = .ok (.aload_n 0, 1) := by decide +kernel
theorem dX11_grave_1 : decode cX11_grave 1 = .ok (.iconst 0, 1) := by decide +kernel
theorem dX11_grave_2 : decode cX11_grave 2 = .ok (.putfield 89, 3) := by decide +kernel
theorem dX11_grave_5 : decode cX11_grave 5 = .ok (.iload_n 1, 1) := by decide +kernel
theorem dX11_grave_6 : decode cX11_grave 6 = .ok (.iconst 0, 1) := by decide +kernel
theorem dX11_grave_7 : decode cX11_grave 7 = .ok (.bipush 8, 2) := by decide +kernel
theorem dX11_grave_9 : decode cX11_grave 9 = .ok (.invokestatic 98, 3) := by decide +kernel
theorem dX11_grave_12 : decode cX11_grave 12 = .ok (.ifCond .eq 13, 3) := by decide +kernel
theorem dX11_grave_15 : decode cX11_grave 15 = .ok (.iload_n 2, 1) := by decide +kernel
theorem dX11_grave_16 : decode cX11_grave 16 = .ok (.iconst 0, 1) := by decide +kernel
theorem dX11_grave_17 : decode cX11_grave 17 = .ok (.bipush 10, 2) := by decide +kernel
theorem dX11_grave_19 : decode cX11_grave 19 = .ok (.invokestatic 98, 3) := by decide +kernel
theorem dX11_grave_22 : decode cX11_grave 22 = .ok (.ifCond .ne 5, 3) := by decide +kernel
theorem dX11_grave_25 : decode cX11_grave 25 = .ok (.iconst (-1), 1) := by decide +kernel
theorem dX11_grave_26 : decode cX11_grave 26 = .ok (.ireturn, 1) := by decide +kernel
theorem dX11_grave_27 : decode cX11_grave 27 = .ok (.lconst 0, 1) := by decide +kernel
theorem dX11_grave_28 : decode cX11_grave 28 = .ok (.lstore_n 3, 1) := by decide +kernel
theorem dX11_grave_29 : decode cX11_grave 29 = .ok (.lconst 1, 1) := by decide +kernel
theorem dX11_grave_30 : decode cX11_grave 30 = .ok (.lstore 5, 2) := by decide +kernel
theorem dX11_grave_32 : decode cX11_grave 32 = .ok (.iconst 0, 1) := by decide +kernel
theorem dX11_grave_33 : decode cX11_grave 33 = .ok (.istore 7, 2) := by decide +kernel
theorem dX11_grave_35 : decode cX11_grave 35 = .ok (.iload 7, 2) := by decide +kernel
theorem dX11_grave_37 : decode cX11_grave 37 = .ok (.iload_n 1, 1) := by decide +kernel
theorem dX11_grave_38 : decode cX11_grave 38 = .ok (.if_icmp .ge 17, 3) := by decide +kernel
theorem dX11_grave_41 : decode cX11_grave 41 = .ok (.lload 5, 2) := by decide +kernel
theorem dX11_grave_43 : decode cX11_grave 43 = .ok (.ldc2_w 359, 3) := by decide +kernel
theorem dX11_grave_46 : decode cX11_grave 46 = .ok (.lmul, 1) := by decide +kernel
theorem dX11_grave_47 : decode cX11_grave 47 = .ok (.lstore 5, 2) := by decide +kernel
theorem dX11_grave_49 : decode cX11_grave 49 = .ok (.iinc 7 1, 3) := by decide +kernel
theorem dX11_grave_52 : decode cX11_grave 52 = .ok (.goto (-17), 3) := by decide +kernel
theorem dX11_grave_55 : decode cX11_grave 55 = .ok (.iconst 0, 1) := by decide +kernel
theorem dX11_grave_56 : decode cX11_grave 56 = .ok (.istore 7, 2) := by decide +kernel
theorem dX11_grave_58 : decode cX11_grave 58 = .ok (.iload 7, 2) := by decide +kernel
theorem dX11_grave_60 : decode cX11_grave 60 = .ok (.iconst 1, 1) := by decide +kernel
theorem dX11_grave_61 : decode cX11_grave 61 = .ok (.iload_n 1, 1) := by decide +kernel
theorem dX11_grave_62 : decode cX11_grave 62 = .ok (.ishl, 1) := by decide +kernel
theorem dX11_grave_63 : decode cX11_grave 63 = .ok (.if_icmp .ge 110, 3) := by decide +kernel
theorem dX11_grave_66 : decode cX11_grave 66 = .ok (.lconst 1, 1) := by decide +kernel
theorem dX11_grave_67 : decode cX11_grave 67 = .ok (.lstore 8, 2) := by decide +kernel
theorem dX11_grave_69 : decode cX11_grave 69 = .ok (.aload_n 0, 1) := by decide +kernel
theorem dX11_grave_70 : decode cX11_grave 70 = .ok (.getfield 9, 3) := by decide +kernel
theorem dX11_grave_73 : decode cX11_grave 73 = .ok (.aload_n 0, 1) := by decide +kernel
theorem dX11_grave_74 : decode cX11_grave 74 = .ok (.getfield 49, 3) := by decide +kernel
theorem dX11_grave_77 : decode cX11_grave 77 = .ok (.iconst 0, 1) := by decide +kernel
theorem dX11_grave_78 : decode cX11_grave 78 = .ok (.invokestatic 231, 3) := by decide +kernel
theorem dX11_grave_81 : decode cX11_grave 81 = .ok (.aload_n 0, 1) := by decide +kernel
theorem dX11_grave_82 : decode cX11_grave 82 = .ok (.iconst 0, 1) := by decide +kernel
theorem dX11_grave_83 : decode cX11_grave 83 = .ok (.putfield 235, 3) := by decide +kernel
theorem dX11_grave_86 : decode cX11_grave 86 = .ok (.iconst 0, 1) := by decide +kernel
theorem dX11_grave_87 : decode cX11_grave 87 = .ok (.istore 10, 2) := by decide +kernel
theorem dX11_grave_89 : decode cX11_grave 89 = .ok (.iload 10, 2) := by decide +kernel
theorem dX11_grave_91 : decode cX11_grave 91 = .ok (.iload_n 1, 1) := by decide +kernel
theorem dX11_grave_92 : decode cX11_grave 92 = .ok (.if_icmp .ge 59, 3) := by decide +kernel
theorem dX11_grave_95 : decode cX11_grave 95 = .ok (.lload 8, 2) := by decide +kernel
theorem dX11_grave_97 : decode cX11_grave 97 = .ok (.iload 7, 2) := by decide +kernel
theorem dX11_grave_99 : decode cX11_grave 99 = .ok (.iload 10, 2) := by decide +kernel
theorem dX11_grave_101 : decode cX11_grave 101 = .ok (.invokestatic 306, 3) := by decide +kernel
theorem dX11_grave_104 : decode cX11_grave 104 = .ok (.ifCond .eq 8, 3) := by decide +kernel
theorem dX11_grave_107 : decode cX11_grave 107 = .ok (.iload_n 2, 1) := by decide +kernel
theorem dX11_grave_108 : decode cX11_grave 108 = .ok (.i2l, 1) := by decide +kernel
theorem dX11_grave_109 : decode cX11_grave 109 = .ok (.goto 8, 3) := by decide +kernel
theorem dX11_grave_112 : decode cX11_grave 112 = .ok (.bipush 10, 2) := by decide +kernel
theorem dX11_grave_114 : decode cX11_grave 114 = .ok (.iload_n 2, 1) := by decide +kernel
theorem dX11_grave_115 : decode cX11_grave 115 = .ok (.isub, 1) := by decide +kernel
theorem dX11_grave_116 : decode cX11_grave 116 = .ok (.i2l, 1) := by decide +kernel
theorem dX11_grave_117 : decode cX11_grave 117 = .ok (.lmul, 1) := by decide +kernel
theorem dX11_grave_118 : decode cX11_grave 118 = .ok (.lstore 8, 2) := by decide +kernel
theorem dX11_grave_120 : decode cX11_grave 120 = .ok (.aload_n 0, 1) := by decide +kernel
theorem dX11_grave_121 : decode cX11_grave 121 = .ok (.aload_n 0, 1) := by decide +kernel
theorem dX11_grave_122 : decode cX11_grave 122 = .ok (.getfield 49, 3) := by decide +kernel
theorem dX11_grave_125 : decode cX11_grave 125 = .ok (.iload 7, 2) := by decide +kernel
theorem dX11_grave_127 : decode cX11_grave 127 = .ok (.iload 10, 2) := by decide +kernel
theorem dX11_grave_129 : decode cX11_grave 129 = .ok (.invokestatic 306, 3) := by decide +kernel
theorem dX11_grave_132 : decode cX11_grave 132 = .ok (.ifCond .eq 8, 3) := by decide +kernel
theorem dX11_grave_135 : decode cX11_grave 135 = .ok (.bipush 9, 2) := by decide +kernel
theorem dX11_grave_137 : decode cX11_grave 137 = .ok (.goto 5, 3) := by decide +kernel
theorem dX11_grave_140 : decode cX11_grave 140 = .ok (.bipush (-9), 2) := by decide +kernel
theorem dX11_grave_142 : decode cX11_grave 142 = .ok (.invokevirtual 238, 3) := by decide +kernel
theorem dX11_grave_145 : decode cX11_grave 145 = .ok (.iinc 10 1, 3) := by decide +kernel
theorem dX11_grave_148 : decode cX11_grave 148 = .ok (.goto (-59), 3) := by decide +kernel
theorem dX11_grave_151 : decode cX11_grave 151 = .ok (.lload_n 3, 1) := by decide +kernel
theorem dX11_grave_152 : decode cX11_grave 152 = .ok (.aload_n 0, 1) := by decide +kernel
theorem dX11_grave_153 : decode cX11_grave 153 = .ok (.getfield 235, 3) := by decide +kernel
theorem dX11_grave_156 : decode cX11_grave 156 = .ok (.ifCond .le 8, 3) := by decide +kernel
theorem dX11_grave_159 : decode cX11_grave 159 = .ok (.lload 8, 2) := by decide +kernel
theorem dX11_grave_161 : decode cX11_grave 161 = .ok (.goto 4, 3) := by decide +kernel
theorem dX11_grave_164 : decode cX11_grave 164 = .ok (.lconst 0, 1) := by decide +kernel
theorem dX11_grave_165 : decode cX11_grave 165 = .ok (.ladd, 1) := by decide +kernel
theorem dX11_grave_166 : decode cX11_grave 166 = .ok (.lstore_n 3, 1) := by decide +kernel
theorem dX11_grave_167 : decode cX11_grave 167 = .ok (.iinc 7 1, 3) := by decide +kernel
theorem dX11_grave_170 : decode cX11_grave 170 = .ok (.goto (-112), 3) := by decide +kernel
theorem dX11_grave_173 : decode cX11_grave 173 = .ok (.lload_n 3, 1) := by decide +kernel
theorem dX11_grave_174 : decode cX11_grave 174 = .ok (.lload 5, 2) := by decide +kernel
theorem dX11_grave_176 : decode cX11_grave 176 = .ok (.invokestatic 355, 3) := by decide +kernel
theorem dX11_grave_179 : decode cX11_grave 179 = .ok (.lstore 7, 2) := by decide +kernel
theorem dX11_grave_181 : decode cX11_grave 181 = .ok (.aload_n 0, 1) := by decide +kernel
theorem dX11_grave_182 : decode cX11_grave 182 = .ok (.iconst 0, 1) := by decide +kernel
theorem dX11_grave_183 : decode cX11_grave 183 = .ok (.putfield 92, 3) := by decide +kernel
theorem dX11_grave_186 : decode cX11_grave 186 = .ok (.aload_n 0, 1) := by decide +kernel
theorem dX11_grave_187 : decode cX11_grave 187 = .ok (.lload_n 3, 1) := by decide +kernel
theorem dX11_grave_188 : decode cX11_grave 188 = .ok (.lload 7, 2) := by decide +kernel
theorem dX11_grave_190 : decode cX11_grave 190 = .ok (.ldiv, 1) := by decide +kernel
theorem dX11_grave_191 : decode cX11_grave 191 = .ok (.invokevirtual 252, 3) := by decide +kernel
theorem dX11_grave_194 : decode cX11_grave 194 = .ok (.aload_n 0, 1) := by decide +kernel
theorem dX11_grave_195 : decode cX11_grave 195 = .ok (.lload 5, 2) := by decide +kernel
theorem dX11_grave_197 : decode cX11_grave 197 = .ok (.lload 7, 2) := by decide +kernel
theorem dX11_grave_199 : decode cX11_grave 199 = .ok (.ldiv, 1) := by decide +kernel
theorem dX11_grave_200 : decode cX11_grave 200 = .ok (.invokevirtual 252, 3) := by decide +kernel
theorem dX11_grave_203 : decode cX11_grave 203 = .ok (.iconst 0, 1) := by decide +kernel
theorem dX11_grave_204 : decode cX11_grave 204 = .ok (.ireturn, 1) := by decide +kernel
theorem dX11_cakeOf_0 : decode cX11_cakeOf 0 = .ok (.bipush 64, 2) := by decide +kernel
theorem dX11_cakeOf_2 : decode cX11_cakeOf 2 = .ok (.iload_n 0, 1) := by decide +kernel
theorem dX11_cakeOf_3 : decode cX11_cakeOf 3 = .ok (.imul, 1) := by decide +kernel
theorem dX11_cakeOf_4 : decode cX11_cakeOf 4 = .ok (.bipush 8, 2) := by decide +kernel
theorem dX11_cakeOf_6 : decode cX11_cakeOf 6 = .ok (.iload_n 1, 1) := by decide +kernel
theorem dX11_cakeOf_7 : decode cX11_cakeOf 7 = .ok (.imul, 1) := by decide +kernel
theorem dX11_cakeOf_8 : decode cX11_cakeOf 8 = .ok (.iadd, 1) := by decide +kernel
theorem dX11_cakeOf_9 : decode cX11_cakeOf 9 = .ok (.iload_n 2, 1) := by decide +kernel
theorem dX11_cakeOf_10 : decode cX11_cakeOf 10 = .ok (.iadd, 1) := by decide +kernel
theorem dX11_cakeOf_11 : decode cX11_cakeOf 11 = .ok (.ireturn, 1) := by decide +kernel
theorem dX11_pieceOf_0 : decode cX11_pieceOf 0 = .ok (.aload_n 0, 1) := by decide +kernel
theorem dX11_pieceOf_1 : decode cX11_pieceOf 1 = .ok (.getfield 77, 3) := by decide +kernel
theorem dX11_pieceOf_4 : decode cX11_pieceOf 4 = .ok (.iconst 0, 1) := by decide +kernel
theorem dX11_pieceOf_5 : decode cX11_pieceOf 5 = .ok (.iload_n 1, 1) := by decide +kernel
theorem dX11_pieceOf_6 : decode cX11_pieceOf 6 = .ok (.iastore, 1) := by decide +kernel
theorem dX11_pieceOf_7 : decode cX11_pieceOf 7 = .ok (.aload_n 0, 1) := by decide +kernel
theorem dX11_pieceOf_8 : decode cX11_pieceOf 8 = .ok (.getfield 77, 3) := by decide +kernel
theorem dX11_pieceOf_11 : decode cX11_pieceOf 11 = .ok (.iconst 1, 1) := by decide +kernel
theorem dX11_pieceOf_12 : decode cX11_pieceOf 12 = .ok (.iload_n 2, 1) := by decide +kernel
theorem dX11_pieceOf_13 : decode cX11_pieceOf 13 = .ok (.iastore, 1) := by decide +kernel
theorem dX11_pieceOf_14 : decode cX11_pieceOf 14 = .ok (.aload_n 0, 1) := by decide +kernel
theorem dX11_pieceOf_15 : decode cX11_pieceOf 15 = .ok (.getfield 77, 3) := by decide +kernel
theorem dX11_pieceOf_18 : decode cX11_pieceOf 18 = .ok (.iconst 2, 1) := by decide +kernel
theorem dX11_pieceOf_19 : decode cX11_pieceOf 19 = .ok (.iload_n 3, 1) := by decide +kernel
theorem dX11_pieceOf_20 : decode cX11_pieceOf 20 = .ok (.iastore, 1) := by decide +kernel
theorem dX11_pieceOf_21 : decode cX11_pieceOf 21 = .ok (.iconst 0, 1) := by decide +kernel
theorem dX11_pieceOf_22 : decode cX11_pieceOf 22 = .ok (.istore 4, 2) := by decide +kernel
theorem dX11_pieceOf_24 : decode cX11_pieceOf 24 = .ok (.iload 4, 2) := by decide +kernel
theorem dX11_pieceOf_26 : decode cX11_pieceOf 26 = .ok (.iconst 3, 1) := by decide +kernel
theorem dX11_pieceOf_27 : decode cX11_pieceOf 27 = .ok (.if_icmp .ge 104, 3) := by decide +kernel
theorem dX11_pieceOf_30 : decode cX11_pieceOf 30 = .ok (.iload 4, 2) := by decide +kernel
theorem dX11_pieceOf_32 : decode cX11_pieceOf 32 = .ok (.ifCond .ne 7, 3) := by decide +kernel
theorem dX11_pieceOf_35 : decode cX11_pieceOf 35 = .ok (.iconst 1, 1) := by decide +kernel
theorem dX11_pieceOf_36 : decode cX11_pieceOf 36 = .ok (.goto 4, 3) := by decide +kernel
theorem dX11_pieceOf_39 : decode cX11_pieceOf 39 = .ok (.iconst 0, 1) := by decide +kernel
theorem dX11_pieceOf_40 : decode cX11_pieceOf 40 = .ok (.istore 5, 2) := by decide +kernel
theorem dX11_pieceOf_42 : decode cX11_pieceOf 42 = .ok (.iload 5, 2) := by decide +kernel
theorem dX11_pieceOf_44 : decode cX11_pieceOf 44 = .ok (.aload_n 0, 1) := by decide +kernel
theorem dX11_pieceOf_45 : decode cX11_pieceOf 45 = .ok (.getfield 77, 3) := by decide +kernel
theorem dX11_pieceOf_48 : decode cX11_pieceOf 48 = .ok (.iload 4, 2) := by decide +kernel
theorem dX11_pieceOf_50 : decode cX11_pieceOf 50 = .ok (.iaload, 1) := by decide +kernel
theorem dX11_pieceOf_51 : decode cX11_pieceOf 51 = .ok (.if_icmp .ge 74, 3) := by decide +kernel
theorem dX11_pieceOf_54 : decode cX11_pieceOf 54 = .ok (.iload 4, 2) := by decide +kernel
theorem dX11_pieceOf_56 : decode cX11_pieceOf 56 = .ok (.ifCond .ne 8, 3) := by decide +kernel
theorem dX11_pieceOf_59 : decode cX11_pieceOf 59 = .ok (.iload 5, 2) := by decide +kernel
theorem dX11_pieceOf_61 : decode cX11_pieceOf 61 = .ok (.goto 4, 3) := by decide +kernel
theorem dX11_pieceOf_64 : decode cX11_pieceOf 64 = .ok (.iload_n 1, 1) := by decide +kernel
theorem dX11_pieceOf_65 : decode cX11_pieceOf 65 = .ok (.istore 6, 2) := by decide +kernel
theorem dX11_pieceOf_67 : decode cX11_pieceOf 67 = .ok (.iload 4, 2) := by decide +kernel
theorem dX11_pieceOf_69 : decode cX11_pieceOf 69 = .ok (.iconst 1, 1) := by decide +kernel
theorem dX11_pieceOf_70 : decode cX11_pieceOf 70 = .ok (.if_icmp .gt 12, 3) := by decide +kernel
theorem dX11_pieceOf_73 : decode cX11_pieceOf 73 = .ok (.iload_n 2, 1) := by decide +kernel
theorem dX11_pieceOf_74 : decode cX11_pieceOf 74 = .ok (.iload 5, 2) := by decide +kernel
theorem dX11_pieceOf_76 : decode cX11_pieceOf 76 = .ok (.invokestatic 197, 3) := by decide +kernel
theorem dX11_pieceOf_79 : decode cX11_pieceOf 79 = .ok (.goto 4, 3) := by decide +kernel
theorem dX11_pieceOf_82 : decode cX11_pieceOf 82 = .ok (.iload_n 2, 1) := by decide +kernel
theorem dX11_pieceOf_83 : decode cX11_pieceOf 83 = .ok (.istore 7, 2) := by decide +kernel
theorem dX11_pieceOf_85 : decode cX11_pieceOf 85 = .ok (.iload_n 3, 1) := by decide +kernel
theorem dX11_pieceOf_86 : decode cX11_pieceOf 86 = .ok (.iload 5, 2) := by decide +kernel
theorem dX11_pieceOf_88 : decode cX11_pieceOf 88 = .ok (.invokestatic 197, 3) := by decide +kernel
theorem dX11_pieceOf_91 : decode cX11_pieceOf 91 = .ok (.istore 8, 2) := by decide +kernel
theorem dX11_pieceOf_93 : decode cX11_pieceOf 93 = .ok (.aload_n 0, 1) := by decide +kernel
theorem dX11_pieceOf_94 : decode cX11_pieceOf 94 = .ok (.getfield 73, 3) := by decide +kernel
theorem dX11_pieceOf_97 : decode cX11_pieceOf 97 = .ok (.iload 6, 2) := by decide +kernel
theorem dX11_pieceOf_99 : decode cX11_pieceOf 99 = .ok (.iload 7, 2) := by decide +kernel
theorem dX11_pieceOf_101 : decode cX11_pieceOf 101 = .ok (.iload 8, 2) := by decide +kernel
theorem dX11_pieceOf_103 : decode cX11_pieceOf 103 = .ok (.invokestatic 361, 3) := by decide +kernel
theorem dX11_pieceOf_106 : decode cX11_pieceOf 106 = .ok (.baload, 1) := by decide +kernel
theorem dX11_pieceOf_107 : decode cX11_pieceOf 107 = .ok (.ifCond .eq 12, 3) := by decide +kernel
theorem dX11_pieceOf_110 : decode cX11_pieceOf 110 = .ok (.bipush 10, 2) := by decide +kernel
theorem dX11_pieceOf_112 : decode cX11_pieceOf 112 = .ok (.iload 4, 2) := by decide +kernel
theorem dX11_pieceOf_114 : decode cX11_pieceOf 114 = .ok (.imul, 1) := by decide +kernel
theorem dX11_pieceOf_115 : decode cX11_pieceOf 115 = .ok (.iload 5, 2) := by decide +kernel
theorem dX11_pieceOf_117 : decode cX11_pieceOf 117 = .ok (.iadd, 1) := by decide +kernel
theorem dX11_pieceOf_118 : decode cX11_pieceOf 118 = .ok (.ireturn, 1) := by decide +kernel
theorem dX11_pieceOf_119 : decode cX11_pieceOf 119 = .ok (.iinc 5 1, 3) := by decide +kernel
theorem dX11_pieceOf_122 : decode cX11_pieceOf 122 = .ok (.goto (-80), 3) := by decide +kernel
theorem dX11_pieceOf_125 : decode cX11_pieceOf 125 = .ok (.iinc 4 1, 3) := by decide +kernel
theorem dX11_pieceOf_128 : decode cX11_pieceOf 128 = .ok (.goto (-104), 3) := by decide +kernel
theorem dX11_pieceOf_131 : decode cX11_pieceOf 131 = .ok (.iconst (-1), 1) := by decide +kernel
theorem dX11_pieceOf_132 : decode cX11_pieceOf 132 = .ok (.ireturn, 1) := by decide +kernel
theorem dX11_cake_0 : decode cX11_cake 0 = .ok (.aload_n 0, 1) := by decide +kernel
theorem dX11_cake_1 : decode cX11_cake 1 = .ok (.iconst 0, 1) := by decide +kernel
theorem dX11_cake_2 : decode cX11_cake 2 = .ok (.putfield 89, 3) := by decide +kernel
theorem dX11_cake_5 : decode cX11_cake 5 = .ok (.iload_n 1, 1) := by decide +kernel
theorem dX11_cake_6 : decode cX11_cake 6 = .ok (.iconst 1, 1) := by decide +kernel
theorem dX11_cake_7 : decode cX11_cake 7 = .ok (.iconst 3, 1) := by decide +kernel
theorem dX11_cake_8 : decode cX11_cake 8 = .ok (.invokestatic 98, 3) := by decide +kernel
theorem dX11_cake_11 : decode cX11_cake 11 = .ok (.ifCond .eq 13, 3) := by decide +kernel
theorem dX11_cake_14 : decode cX11_cake 14 = .ok (.iload_n 2, 1) := by decide +kernel
theorem dX11_cake_15 : decode cX11_cake 15 = .ok (.iconst 1, 1) := by decide +kernel
theorem dX11_cake_16 : decode cX11_cake 16 = .ok (.bipush 7, 2) := by decide +kernel
theorem dX11_cake_18 : decode cX11_cake 18 = .ok (.invokestatic 98, 3) := by decide +kernel
theorem dX11_cake_21 : decode cX11_cake 21 = .ok (.ifCond .ne 5, 3) := by decide +kernel
theorem dX11_cake_24 : decode cX11_cake 24 = .ok (.iconst (-1), 1) := by decide +kernel
theorem dX11_cake_25 : decode cX11_cake 25 = .ok (.ireturn, 1) := by decide +kernel
theorem dX11_cake_26 : decode cX11_cake 26 = .ok (.iconst 1, 1) := by decide +kernel
theorem dX11_cake_27 : decode cX11_cake 27 = .ok (.istore_n 3, 1) := by decide +kernel
theorem dX11_cake_28 : decode cX11_cake 28 = .ok (.iload_n 3, 1) := by decide +kernel
theorem dX11_cake_29 : decode cX11_cake 29 = .ok (.iload_n 2, 1) := by decide +kernel
theorem dX11_cake_30 : decode cX11_cake 30 = .ok (.if_icmp .gt 71, 3) := by decide +kernel
theorem dX11_cake_33 : decode cX11_cake 33 = .ok (.iconst 0, 1) := by decide +kernel
theorem dX11_cake_34 : decode cX11_cake 34 = .ok (.istore 4, 2) := by decide +kernel
theorem dX11_cake_36 : decode cX11_cake 36 = .ok (.iload 4, 2) := by decide +kernel
theorem dX11_cake_38 : decode cX11_cake 38 = .ok (.iload_n 3, 1) := by decide +kernel
theorem dX11_cake_39 : decode cX11_cake 39 = .ok (.if_icmp .gt 56, 3) := by decide +kernel
theorem dX11_cake_42 : decode cX11_cake 42 = .ok (.iconst 0, 1) := by decide +kernel
theorem dX11_cake_43 : decode cX11_cake 43 = .ok (.istore 5, 2) := by decide +kernel
theorem dX11_cake_45 : decode cX11_cake 45 = .ok (.iload 5, 2) := by decide +kernel
theorem dX11_cake_47 : decode cX11_cake 47 = .ok (.iload 4, 2) := by decide +kernel
theorem dX11_cake_49 : decode cX11_cake 49 = .ok (.if_icmp .gt 40, 3) := by decide +kernel
theorem dX11_cake_52 : decode cX11_cake 52 = .ok (.aload_n 0, 1) := by decide +kernel
theorem dX11_cake_53 : decode cX11_cake 53 = .ok (.getfield 73, 3) := by decide +kernel
theorem dX11_cake_56 : decode cX11_cake 56 = .ok (.iload_n 3, 1) := by decide +kernel
theorem dX11_cake_57 : decode cX11_cake 57 = .ok (.iload 4, 2) := by decide +kernel
theorem dX11_cake_59 : decode cX11_cake 59 = .ok (.iload 5, 2) := by decide +kernel
theorem dX11_cake_61 : decode cX11_cake 61 = .ok (.invokestatic 361, 3) := by decide +kernel
theorem dX11_cake_64 : decode cX11_cake 64 = .ok (.aload_n 0, 1) := by decide +kernel
theorem dX11_cake_65 : decode cX11_cake 65 = .ok (.iload_n 3, 1) := by decide +kernel
theorem dX11_cake_66 : decode cX11_cake 66 = .ok (.iload 4, 2) := by decide +kernel
theorem dX11_cake_68 : decode cX11_cake 68 = .ok (.iload 5, 2) := by decide +kernel
theorem dX11_cake_70 : decode cX11_cake 70 = .ok (.invokevirtual 364, 3) := by decide +kernel
theorem dX11_cake_73 : decode cX11_cake 73 = .ok (.iconst (-1), 1) := by decide +kernel
theorem dX11_cake_74 : decode cX11_cake 74 = .ok (.if_icmp .ne 7, 3) := by decide +kernel
theorem dX11_cake_77 : decode cX11_cake 77 = .ok (.iconst 1, 1) := by decide +kernel
theorem dX11_cake_78 : decode cX11_cake 78 = .ok (.goto 4, 3) := by decide +kernel
theorem dX11_cake_81 : decode cX11_cake 81 = .ok (.iconst 0, 1) := by decide +kernel
theorem dX11_cake_82 : decode cX11_cake 82 = .ok (.bastore, 1) := by decide +kernel
theorem dX11_cake_83 : decode cX11_cake 83 = .ok (.iinc 5 1, 3) := by decide +kernel
theorem dX11_cake_86 : decode cX11_cake 86 = .ok (.goto (-41), 3) := by decide +kernel
theorem dX11_cake_89 : decode cX11_cake 89 = .ok (.iinc 4 1, 3) := by decide +kernel
theorem dX11_cake_92 : decode cX11_cake 92 = .ok (.goto (-56), 3) := by decide +kernel
theorem dX11_cake_95 : decode cX11_cake 95 = .ok (.iinc 3 1, 3) := by decide +kernel
theorem dX11_cake_98 : decode cX11_cake 98 = .ok (.goto (-70), 3) := by decide +kernel
theorem dX11_cake_101 : decode cX11_cake 101 = .ok (.aload_n 0, 1) := by decide +kernel
theorem dX11_cake_102 : decode cX11_cake 102 = .ok (.iload_n 2, 1) := by decide +kernel
theorem dX11_cake_103 : decode cX11_cake 103 = .ok (.iload_n 1, 1) := by decide +kernel
theorem dX11_cake_104 : decode cX11_cake 104 = .ok (.iconst 1, 1) := by decide +kernel
theorem dX11_cake_105 : decode cX11_cake 105 = .ok (.if_icmp .le 7, 3) := by decide +kernel
theorem dX11_cake_108 : decode cX11_cake 108 = .ok (.iload_n 2, 1) := by decide +kernel
theorem dX11_cake_109 : decode cX11_cake 109 = .ok (.goto 4, 3) := by decide +kernel
theorem dX11_cake_112 : decode cX11_cake 112 = .ok (.iconst 0, 1) := by decide +kernel
theorem dX11_cake_113 : decode cX11_cake 113 = .ok (.iload_n 1, 1) := by decide +kernel
theorem dX11_cake_114 : decode cX11_cake 114 = .ok (.iconst 2, 1) := by decide +kernel
theorem dX11_cake_115 : decode cX11_cake 115 = .ok (.if_icmp .le 7, 3) := by decide +kernel
theorem dX11_cake_118 : decode cX11_cake 118 = .ok (.iload_n 2, 1) := by decide +kernel
theorem dX11_cake_119 : decode cX11_cake 119 = .ok (.goto 4, 3) := by decide +kernel
theorem dX11_cake_122 : decode cX11_cake 122 = .ok (.iconst 0, 1) := by decide +kernel
theorem dX11_cake_123 : decode cX11_cake 123 = .ok (.invokevirtual 364, 3) := by decide +kernel
theorem dX11_cake_126 : decode cX11_cake 126 = .ok (.istore_n 3, 1) := by decide +kernel
theorem dX11_cake_127 : decode cX11_cake 127 = .ok (.iload_n 3, 1) := by decide +kernel
theorem dX11_cake_128 : decode cX11_cake 128 = .ok (.iconst (-1), 1) := by decide +kernel
theorem dX11_cake_129 : decode cX11_cake 129 = .ok (.if_icmp .ne 8, 3) := by decide +kernel
theorem dX11_cake_132 : decode cX11_cake 132 = .ok (.bipush (-2), 2) := by decide +kernel
theorem dX11_cake_134 : decode cX11_cake 134 = .ok (.goto 4, 3) := by decide +kernel
theorem dX11_cake_137 : decode cX11_cake 137 = .ok (.iload_n 3, 1) := by decide +kernel
theorem dX11_cake_138 : decode cX11_cake 138 = .ok (.ireturn, 1) := by decide +kernel
theorem dX11_gets_0 : decode cX11_gets 0 = .ok (.iload_n 0, 1) := by decide +kernel
theorem dX11_gets_1 : decode cX11_gets 1 = .ok (.iload_n 1, 1) := by decide +kernel
theorem dX11_gets_2 : decode cX11_gets 2 = .ok (.iadd, 1) := by decide +kernel
theorem dX11_gets_3 : decode cX11_gets 3 = .ok (.iload_n 2, 1) := by decide +kernel
theorem dX11_gets_4 : decode cX11_gets 4 = .ok (.if_icmp .lt 8, 3) := by decide +kernel
theorem dX11_gets_7 : decode cX11_gets 7 = .ok (.bipush 9, 2) := by decide +kernel
theorem dX11_gets_9 : decode cX11_gets 9 = .ok (.goto 4, 3) := by decide +kernel
theorem dX11_gets_12 : decode cX11_gets 12 = .ok (.iconst 0, 1) := by decide +kernel
theorem dX11_gets_13 : decode cX11_gets 13 = .ok (.iload_n 0, 1) := by decide +kernel
theorem dX11_gets_14 : decode cX11_gets 14 = .ok (.isub, 1) := by decide +kernel
theorem dX11_gets_15 : decode cX11_gets 15 = .ok (.iload_n 0, 1) := by decide +kernel
theorem dX11_gets_16 : decode cX11_gets 16 = .ok (.iload_n 1, 1) := by decide +kernel
theorem dX11_gets_17 : decode cX11_gets 17 = .ok (.if_icmp .le 7, 3) := by decide +kernel
theorem dX11_gets_20 : decode cX11_gets 20 = .ok (.iconst 2, 1) := by decide +kernel
theorem dX11_gets_21 : decode cX11_gets 21 = .ok (.goto 4, 3) := by decide +kernel
theorem dX11_gets_24 : decode cX11_gets 24 = .ok (.iconst 0, 1) := by decide +kernel
theorem dX11_gets_25 : decode cX11_gets 25 = .ok (.isub, 1) := by decide +kernel
theorem dX11_gets_26 : decode cX11_gets 26 = .ok (.ireturn, 1) := by decide +kernel
theorem dX11_isBest_0 : decode cX11_isBest 0 = .ok (.iconst 0, 1) := by decide +kernel
theorem dX11_isBest_1 : decode cX11_isBest 1 = .ok (.istore_n 3, 1) := by decide +kernel
theorem dX11_isBest_2 : decode cX11_isBest 2 = .ok (.iload_n 3, 1) := by decide +kernel
theorem dX11_isBest_3 : decode cX11_isBest 3 = .ok (.bipush 9, 2) := by decide +kernel
theorem dX11_isBest_5 : decode cX11_isBest 5 = .ok (.if_icmp .gt 26, 3) := by decide +kernel
theorem dX11_isBest_8 : decode cX11_isBest 8 = .ok (.iload_n 3, 1) := by decide +kernel
theorem dX11_isBest_9 : decode cX11_isBest 9 = .ok (.iload_n 1, 1) := by decide +kernel
theorem dX11_isBest_10 : decode cX11_isBest 10 = .ok (.iload_n 2, 1) := by decide +kernel
theorem dX11_isBest_11 : decode cX11_isBest 11 = .ok (.invokestatic 367, 3) := by decide +kernel
theorem dX11_isBest_14 : decode cX11_isBest 14 = .ok (.iload_n 0, 1) := by decide +kernel
theorem dX11_isBest_15 : decode cX11_isBest 15 = .ok (.iload_n 1, 1) := by decide +kernel
theorem dX11_isBest_16 : decode cX11_isBest 16 = .ok (.iload_n 2, 1) := by decide +kernel
theorem dX11_isBest_17 : decode cX11_isBest 17 = .ok (.invokestatic 367, 3) := by decide +kernel
theorem dX11_isBest_20 : decode cX11_isBest 20 = .ok (.if_icmp .le 5, 3) := by decide +kernel
theorem dX11_isBest_23 : decode cX11_isBest 23 = .ok (.iconst 0, 1) := by decide +kernel
theorem dX11_isBest_24 : decode cX11_isBest 24 = .ok (.ireturn, 1) := by decide +kernel
theorem dX11_isBest_25 : decode cX11_isBest 25 = .ok (.iinc 3 1, 3) := by decide +kernel
theorem dX11_isBest_28 : decode cX11_isBest 28 = .ok (.goto (-26), 3) := by decide +kernel
theorem dX11_isBest_31 : decode cX11_isBest 31 = .ok (.iconst 1, 1) := by decide +kernel
theorem dX11_isBest_32 : decode cX11_isBest 32 = .ok (.ireturn, 1) := by decide +kernel
theorem dX11_rests_0 : decode cX11_rests 0 = .ok (.aload_n 0, 1) := by decide +kernel
theorem dX11_rests_1 : decode cX11_rests 1 = .ok (.iconst 0, 1) := by decide +kernel
theorem dX11_rests_2 : decode cX11_rests 2 = .ok (.putfield 89, 3) := by decide +kernel
theorem dX11_rests_5 : decode cX11_rests 5 = .ok (.iload_n 1, 1) := by decide +kernel
theorem dX11_rests_6 : decode cX11_rests 6 = .ok (.iconst 0, 1) := by decide +kernel
theorem dX11_rests_7 : decode cX11_rests 7 = .ok (.bipush 18, 2) := by decide +kernel
theorem dX11_rests_9 : decode cX11_rests 9 = .ok (.invokestatic 98, 3) := by decide +kernel
theorem dX11_rests_12 : decode cX11_rests 12 = .ok (.ifCond .ne 5, 3) := by decide +kernel
theorem dX11_rests_15 : decode cX11_rests 15 = .ok (.iconst (-1), 1) := by decide +kernel
theorem dX11_rests_16 : decode cX11_rests 16 = .ok (.ireturn, 1) := by decide +kernel
theorem dX11_rests_17 : decode cX11_rests 17 = .ok (.iconst 0, 1) := by decide +kernel
theorem dX11_rests_18 : decode cX11_rests 18 = .ok (.istore_n 2, 1) := by decide +kernel
theorem dX11_rests_19 : decode cX11_rests 19 = .ok (.aload_n 0, 1) := by decide +kernel
theorem dX11_rests_20 : decode cX11_rests 20 = .ok (.iconst 0, 1) := by decide +kernel
theorem dX11_rests_21 : decode cX11_rests 21 = .ok (.putfield 92, 3) := by decide +kernel
theorem dX11_rests_24 : decode cX11_rests 24 = .ok (.iconst 0, 1) := by decide +kernel
theorem dX11_rests_25 : decode cX11_rests 25 = .ok (.istore_n 3, 1) := by decide +kernel
theorem dX11_rests_26 : decode cX11_rests 26 = .ok (.iload_n 3, 1) := by decide +kernel
theorem dX11_rests_27 : decode cX11_rests 27 = .ok (.bipush 9, 2) := by decide +kernel
theorem dX11_rests_29 : decode cX11_rests 29 = .ok (.if_icmp .gt 68, 3) := by decide +kernel
theorem dX11_rests_32 : decode cX11_rests 32 = .ok (.iconst 0, 1) := by decide +kernel
theorem dX11_rests_33 : decode cX11_rests 33 = .ok (.istore 4, 2) := by decide +kernel
theorem dX11_rests_35 : decode cX11_rests 35 = .ok (.iload 4, 2) := by decide +kernel
theorem dX11_rests_37 : decode cX11_rests 37 = .ok (.bipush 9, 2) := by decide +kernel
theorem dX11_rests_39 : decode cX11_rests 39 = .ok (.if_icmp .gt 52, 3) := by decide +kernel
theorem dX11_rests_42 : decode cX11_rests 42 = .ok (.iload_n 3, 1) := by decide +kernel
theorem dX11_rests_43 : decode cX11_rests 43 = .ok (.iload 4, 2) := by decide +kernel
theorem dX11_rests_45 : decode cX11_rests 45 = .ok (.iload_n 1, 1) := by decide +kernel
theorem dX11_rests_46 : decode cX11_rests 46 = .ok (.invokestatic 370, 3) := by decide +kernel
theorem dX11_rests_49 : decode cX11_rests 49 = .ok (.ifCond .eq 36, 3) := by decide +kernel
theorem dX11_rests_52 : decode cX11_rests 52 = .ok (.iload 4, 2) := by decide +kernel
theorem dX11_rests_54 : decode cX11_rests 54 = .ok (.iload_n 3, 1) := by decide +kernel
theorem dX11_rests_55 : decode cX11_rests 55 = .ok (.iload_n 1, 1) := by decide +kernel
theorem dX11_rests_56 : decode cX11_rests 56 = .ok (.invokestatic 370, 3) := by decide +kernel
theorem dX11_rests_59 : decode cX11_rests 59 = .ok (.ifCond .ne 6, 3) := by decide +kernel
theorem dX11_rests_62 : decode cX11_rests 62 = .ok (.goto 23, 3) := by decide +kernel
theorem dX11_rests_65 : decode cX11_rests 65 = .ok (.iload_n 2, 1) := by decide +kernel
theorem dX11_rests_66 : decode cX11_rests 66 = .ok (.ifCond .ne 16, 3) := by decide +kernel
theorem dX11_rests_69 : decode cX11_rests 69 = .ok (.aload_n 0, 1) := by decide +kernel
theorem dX11_rests_70 : decode cX11_rests 70 = .ok (.iload_n 3, 1) := by decide +kernel
theorem dX11_rests_71 : decode cX11_rests 71 = .ok (.i2l, 1) := by decide +kernel
theorem dX11_rests_72 : decode cX11_rests 72 = .ok (.invokevirtual 252, 3) := by decide +kernel
theorem dX11_rests_75 : decode cX11_rests 75 = .ok (.aload_n 0, 1) := by decide +kernel
theorem dX11_rests_76 : decode cX11_rests 76 = .ok (.iload 4, 2) := by decide +kernel
theorem dX11_rests_78 : decode cX11_rests 78 = .ok (.i2l, 1) := by decide +kernel
theorem dX11_rests_79 : decode cX11_rests 79 = .ok (.invokevirtual 252, 3) := by decide +kernel
theorem dX11_rests_82 : decode cX11_rests 82 = .ok (.iinc 2 1, 3) := by decide +kernel
theorem dX11_rests_85 : decode cX11_rests 85 = .ok (.iinc 4 1, 3) := by decide +kernel
theorem dX11_rests_88 : decode cX11_rests 88 = .ok (.goto (-53), 3) := by decide +kernel
theorem dX11_rests_91 : decode cX11_rests 91 = .ok (.iinc 3 1, 3) := by decide +kernel
theorem dX11_rests_94 : decode cX11_rests 94 = .ok (.goto (-68), 3) := by decide +kernel
theorem dX11_rests_97 : decode cX11_rests 97 = .ok (.iload_n 2, 1) := by decide +kernel
theorem dX11_rests_98 : decode cX11_rests 98 = .ok (.ireturn, 1) := by decide +kernel
theorem dX11_law_0 : decode cX11_law 0 = .ok (.aload_n 0, 1) := by decide +kernel
theorem dX11_law_1 : decode cX11_law 1 = .ok (.iconst 0, 1) := by decide +kernel
theorem dX11_law_2 : decode cX11_law 2 = .ok (.putfield 89, 3) := by decide +kernel
theorem dX11_law_5 : decode cX11_law 5 = .ok (.aload_n 0, 1) := by decide +kernel
theorem dX11_law_6 : decode cX11_law 6 = .ok (.getfield 102, 3) := by decide +kernel
theorem dX11_law_9 : decode cX11_law 9 = .ok (.istore_n 1, 1) := by decide +kernel
theorem dX11_law_10 : decode cX11_law 10 = .ok (.aload_n 0, 1) := by decide +kernel
theorem dX11_law_11 : decode cX11_law 11 = .ok (.invokevirtual 186, 3) := by decide +kernel
theorem dX11_law_14 : decode cX11_law 14 = .ok (.ifCond .ne 12, 3) := by decide +kernel
theorem dX11_law_17 : decode cX11_law 17 = .ok (.ldc_w 373, 3) := by decide +kernel
theorem dX11_law_20 : decode cX11_law 20 = .ok (.aload_n 0, 1) := by decide +kernel
theorem dX11_law_21 : decode cX11_law 21 = .ok (.getfield 117, 3) := by decide +kernel
theorem dX11_law_24 : decode cX11_law 24 = .ok (.isub, 1) := by decide +kernel
theorem dX11_law_25 : decode cX11_law 25 = .ok (.ireturn, 1) := by decide +kernel
theorem dX11_law_26 : decode cX11_law 26 = .ok (.aload_n 0, 1) := by decide +kernel
theorem dX11_law_27 : decode cX11_law 27 = .ok (.bipush 20, 2) := by decide +kernel
theorem dX11_law_29 : decode cX11_law 29 = .ok (.invokevirtual 280, 3) := by decide +kernel
theorem dX11_law_32 : decode cX11_law 32 = .ok (.aload_n 0, 1) := by decide +kernel
theorem dX11_law_33 : decode cX11_law 33 = .ok (.getfield 49, 3) := by decide +kernel
theorem dX11_law_36 : decode cX11_law 36 = .ok (.bipush 23, 2) := by decide +kernel
theorem dX11_law_38 : decode cX11_law 38 = .ok (.iaload, 1) := by decide +kernel
theorem dX11_law_39 : decode cX11_law 39 = .ok (.aload_n 0, 1) := by decide +kernel
theorem dX11_law_40 : decode cX11_law 40 = .ok (.getfield 9, 3) := by decide +kernel
theorem dX11_law_43 : decode cX11_law 43 = .ok (.bipush 23, 2) := by decide +kernel
theorem dX11_law_45 : decode cX11_law 45 = .ok (.iaload, 1) := by decide +kernel
theorem dX11_law_46 : decode cX11_law 46 = .ok (.isub, 1) := by decide +kernel
theorem dX11_law_47 : decode cX11_law 47 = .ok (.istore_n 2, 1) := by decide +kernel
theorem dX11_law_48 : decode cX11_law 48 = .ok (.aload_n 0, 1) := by decide +kernel
theorem dX11_law_49 : decode cX11_law 49 = .ok (.getfield 49, 3) := by decide +kernel
theorem dX11_law_52 : decode cX11_law 52 = .ok (.bipush 22, 2) := by decide +kernel
theorem dX11_law_54 : decode cX11_law 54 = .ok (.iaload, 1) := by decide +kernel
theorem dX11_law_55 : decode cX11_law 55 = .ok (.istore_n 3, 1) := by decide +kernel
theorem dX11_law_56 : decode cX11_law 56 = .ok (.aload_n 0, 1) := by decide +kernel
theorem dX11_law_57 : decode cX11_law 57 = .ok (.getfield 34, 3) := by decide +kernel
theorem dX11_law_60 : decode cX11_law 60 = .ok (.astore 4, 2) := by decide +kernel
theorem dX11_law_62 : decode cX11_law 62 = .ok (.aload_n 0, 1) := by decide +kernel
theorem dX11_law_63 : decode cX11_law 63 = .ok (.getfield 189, 3) := by decide +kernel
theorem dX11_law_66 : decode cX11_law 66 = .ok (.istore 5, 2) := by decide +kernel
theorem dX11_law_68 : decode cX11_law 68 = .ok (.aload_n 0, 1) := by decide +kernel
theorem dX11_law_69 : decode cX11_law 69 = .ok (.aload_n 0, 1) := by decide +kernel
theorem dX11_law_70 : decode cX11_law 70 = .ok (.getfield 37, 3) := by decide +kernel
theorem dX11_law_73 : decode cX11_law 73 = .ok (.putfield 34, 3) := by decide +kernel
theorem dX11_law_76 : decode cX11_law 76 = .ok (.aload_n 0, 1) := by decide +kernel
theorem dX11_law_77 : decode cX11_law 77 = .ok (.iload_n 1, 1) := by decide +kernel
theorem dX11_law_78 : decode cX11_law 78 = .ok (.putfield 189, 3) := by decide +kernel
theorem dX11_law_81 : decode cX11_law 81 = .ok (.iconst 0, 1) := by decide +kernel
theorem dX11_law_82 : decode cX11_law 82 = .ok (.istore 6, 2) := by decide +kernel
theorem dX11_law_84 : decode cX11_law 84 = .ok (.iload 6, 2) := by decide +kernel
theorem dX11_law_86 : decode cX11_law 86 = .ok (.iload_n 1, 1) := by decide +kernel
theorem dX11_law_87 : decode cX11_law 87 = .ok (.if_icmp .ge 23, 3) := by decide +kernel
theorem dX11_law_90 : decode cX11_law 90 = .ok (.aload_n 0, 1) := by decide +kernel
theorem dX11_law_91 : decode cX11_law 91 = .ok (.getfield 34, 3) := by decide +kernel
theorem dX11_law_94 : decode cX11_law 94 = .ok (.iload 6, 2) := by decide +kernel
theorem dX11_law_96 : decode cX11_law 96 = .ok (.aload_n 0, 1) := by decide +kernel
theorem dX11_law_97 : decode cX11_law 97 = .ok (.getfield 23, 3) := by decide +kernel
theorem dX11_law_100 : decode cX11_law 100 = .ok (.iload 6, 2) := by decide +kernel
theorem dX11_law_102 : decode cX11_law 102 = .ok (.baload, 1) := by decide +kernel
theorem dX11_law_103 : decode cX11_law 103 = .ok (.bastore, 1) := by decide +kernel
theorem dX11_law_104 : decode cX11_law 104 = .ok (.iinc 6 1, 3) := by decide +kernel
theorem dX11_law_107 : decode cX11_law 107 = .ok (.goto (-23), 3) := by decide +kernel
theorem dX11_law_110 : decode cX11_law 110 = .ok (.aload_n 0, 1) := by decide +kernel
theorem dX11_law_111 : decode cX11_law 111 = .ok (.bipush 20, 2) := by decide +kernel
theorem dX11_law_113 : decode cX11_law 113 = .ok (.invokevirtual 280, 3) := by decide +kernel
theorem dX11_law_116 : decode cX11_law 116 = .ok (.aload_n 0, 1) := by decide +kernel
theorem dX11_law_117 : decode cX11_law 117 = .ok (.aload 4, 2) := by decide +kernel
theorem dX11_law_119 : decode cX11_law 119 = .ok (.putfield 34, 3) := by decide +kernel
theorem dX11_law_122 : decode cX11_law 122 = .ok (.aload_n 0, 1) := by decide +kernel
theorem dX11_law_123 : decode cX11_law 123 = .ok (.iload 5, 2) := by decide +kernel
theorem dX11_law_125 : decode cX11_law 125 = .ok (.putfield 189, 3) := by decide +kernel
theorem dX11_law_128 : decode cX11_law 128 = .ok (.aload_n 0, 1) := by decide +kernel
theorem dX11_law_129 : decode cX11_law 129 = .ok (.getfield 49, 3) := by decide +kernel
theorem dX11_law_132 : decode cX11_law 132 = .ok (.bipush 23, 2) := by decide +kernel
theorem dX11_law_134 : decode cX11_law 134 = .ok (.iaload, 1) := by decide +kernel
theorem dX11_law_135 : decode cX11_law 135 = .ok (.aload_n 0, 1) := by decide +kernel
theorem dX11_law_136 : decode cX11_law 136 = .ok (.getfield 9, 3) := by decide +kernel
theorem dX11_law_139 : decode cX11_law 139 = .ok (.bipush 23, 2) := by decide +kernel
theorem dX11_law_141 : decode cX11_law 141 = .ok (.iaload, 1) := by decide +kernel
theorem dX11_law_142 : decode cX11_law 142 = .ok (.isub, 1) := by decide +kernel
theorem dX11_law_143 : decode cX11_law 143 = .ok (.istore 6, 2) := by decide +kernel
theorem dX11_law_145 : decode cX11_law 145 = .ok (.aload_n 0, 1) := by decide +kernel
theorem dX11_law_146 : decode cX11_law 146 = .ok (.iconst 0, 1) := by decide +kernel
theorem dX11_law_147 : decode cX11_law 147 = .ok (.putfield 92, 3) := by decide +kernel
theorem dX11_law_150 : decode cX11_law 150 = .ok (.aload_n 0, 1) := by decide +kernel
theorem dX11_law_151 : decode cX11_law 151 = .ok (.iload 6, 2) := by decide +kernel
theorem dX11_law_153 : decode cX11_law 153 = .ok (.i2l, 1) := by decide +kernel
theorem dX11_law_154 : decode cX11_law 154 = .ok (.invokevirtual 252, 3) := by decide +kernel
theorem dX11_law_157 : decode cX11_law 157 = .ok (.aload_n 0, 1) := by decide +kernel
theorem dX11_law_158 : decode cX11_law 158 = .ok (.iload_n 2, 1) := by decide +kernel
theorem dX11_law_159 : decode cX11_law 159 = .ok (.i2l, 1) := by decide +kernel
theorem dX11_law_160 : decode cX11_law 160 = .ok (.invokevirtual 252, 3) := by decide +kernel
theorem dX11_law_163 : decode cX11_law 163 = .ok (.aload_n 0, 1) := by decide +kernel
theorem dX11_law_164 : decode cX11_law 164 = .ok (.bipush 100, 2) := by decide +kernel
theorem dX11_law_166 : decode cX11_law 166 = .ok (.aload_n 0, 1) := by decide +kernel
theorem dX11_law_167 : decode cX11_law 167 = .ok (.getfield 49, 3) := by decide +kernel
theorem dX11_law_170 : decode cX11_law 170 = .ok (.bipush 22, 2) := by decide +kernel
theorem dX11_law_172 : decode cX11_law 172 = .ok (.iaload, 1) := by decide +kernel
theorem dX11_law_173 : decode cX11_law 173 = .ok (.iadd, 1) := by decide +kernel
theorem dX11_law_174 : decode cX11_law 174 = .ok (.i2l, 1) := by decide +kernel
theorem dX11_law_175 : decode cX11_law 175 = .ok (.invokevirtual 252, 3) := by decide +kernel
theorem dX11_law_178 : decode cX11_law 178 = .ok (.aload_n 0, 1) := by decide +kernel
theorem dX11_law_179 : decode cX11_law 179 = .ok (.bipush 100, 2) := by decide +kernel
theorem dX11_law_181 : decode cX11_law 181 = .ok (.iload_n 3, 1) := by decide +kernel
theorem dX11_law_182 : decode cX11_law 182 = .ok (.iadd, 1) := by decide +kernel
theorem dX11_law_183 : decode cX11_law 183 = .ok (.i2l, 1) := by decide +kernel
theorem dX11_law_184 : decode cX11_law 184 = .ok (.invokevirtual 252, 3) := by decide +kernel
theorem dX11_law_187 : decode cX11_law 187 = .ok (.iload 6, 2) := by decide +kernel
theorem dX11_law_189 : decode cX11_law 189 = .ok (.iload_n 2, 1) := by decide +kernel
theorem dX11_law_190 : decode cX11_law 190 = .ok (.isub, 1) := by decide +kernel
theorem dX11_law_191 : decode cX11_law 191 = .ok (.ireturn, 1) := by decide +kernel
theorem dX11_draw_0 : decode cX11_draw 0 = .ok (.aload_n 0, 1) := by decide +kernel
theorem dX11_draw_1 : decode cX11_draw 1 = .ok (.aload_n 0, 1) := by decide +kernel
theorem dX11_draw_2 : decode cX11_draw 2 = .ok (.getfield 374, 3) := by decide +kernel
theorem dX11_draw_5 : decode cX11_draw 5 = .ok (.ldc_w 377, 3) := by decide +kernel
theorem dX11_draw_8 : decode cX11_draw 8 = .ok (.imul, 1) := by decide +kernel
theorem dX11_draw_9 : decode cX11_draw 9 = .ok (.sipush 12345, 3) := by decide +kernel
theorem dX11_draw_12 : decode cX11_draw 12 = .ok (.iadd, 1) := by decide +kernel
theorem dX11_draw_13 : decode cX11_draw 13 = .ok (.putfield 374, 3) := by decide +kernel
theorem dX11_draw_16 : decode cX11_draw 16 = .ok (.aload_n 0, 1) := by decide +kernel
theorem dX11_draw_17 : decode cX11_draw 17 = .ok (.getfield 374, 3) := by decide +kernel
theorem dX11_draw_20 : decode cX11_draw 20 = .ok (.bipush 16, 2) := by decide +kernel
theorem dX11_draw_22 : decode cX11_draw 22 = .ok (.iushr, 1) := by decide +kernel
theorem dX11_draw_23 : decode cX11_draw 23 = .ok (.iload_n 1, 1) := by decide +kernel
theorem dX11_draw_24 : decode cX11_draw 24 = .ok (.irem, 1) := by decide +kernel
theorem dX11_draw_25 : decode cX11_draw 25 = .ok (.ireturn, 1) := by decide +kernel
theorem dX11_years_0 : decode cX11_years 0 = .ok (.aload_n 0, 1) := by decide +kernel
theorem dX11_years_1 : decode cX11_years 1 = .ok (.iconst 0, 1) := by decide +kernel
theorem dX11_years_2 : decode cX11_years 2 = .ok (.putfield 89, 3) := by decide +kernel
theorem dX11_years_5 : decode cX11_years 5 = .ok (.iload_n 2, 1) := by decide +kernel
theorem dX11_years_6 : decode cX11_years 6 = .ok (.iconst 1, 1) := by decide +kernel
theorem dX11_years_7 : decode cX11_years 7 = .ok (.bipush 60, 2) := by decide +kernel
theorem dX11_years_9 : decode cX11_years 9 = .ok (.invokestatic 98, 3) := by decide +kernel
theorem dX11_years_12 : decode cX11_years 12 = .ok (.ifCond .ne 5, 3) := by decide +kernel
theorem dX11_years_15 : decode cX11_years 15 = .ok (.iconst (-1), 1) := by decide +kernel
theorem dX11_years_16 : decode cX11_years 16 = .ok (.ireturn, 1) := by decide +kernel
theorem dX11_years_17 : decode cX11_years 17 = .ok (.aload_n 0, 1) := by decide +kernel
theorem dX11_years_18 : decode cX11_years 18 = .ok (.iload_n 1, 1) := by decide +kernel
theorem dX11_years_19 : decode cX11_years 19 = .ok (.putfield 374, 3) := by decide +kernel
theorem dX11_years_22 : decode cX11_years 22 = .ok (.aload_n 0, 1) := by decide +kernel
theorem dX11_years_23 : decode cX11_years 23 = .ok (.iconst 0, 1) := by decide +kernel
theorem dX11_years_24 : decode cX11_years 24 = .ok (.invokevirtual 280, 3) := by decide +kernel
theorem dX11_years_27 : decode cX11_years 27 = .ok (.iconst 0, 1) := by decide +kernel
theorem dX11_years_28 : decode cX11_years 28 = .ok (.istore_n 3, 1) := by decide +kernel
theorem dX11_years_29 : decode cX11_years 29 = .ok (.iload_n 3, 1) := by decide +kernel
theorem dX11_years_30 : decode cX11_years 30 = .ok (.iload_n 2, 1) := by decide +kernel
theorem dX11_years_31 : decode cX11_years 31 = .ok (.if_icmp .ge 91, 3) := by decide +kernel
theorem dX11_years_34 : decode cX11_years 34 = .ok (.aload_n 0, 1) := by decide +kernel
theorem dX11_years_35 : decode cX11_years 35 = .ok (.iconst 4, 1) := by decide +kernel
theorem dX11_years_36 : decode cX11_years 36 = .ok (.invokevirtual 378, 3) := by decide +kernel
theorem dX11_years_39 : decode cX11_years 39 = .ok (.istore 4, 2) := by decide +kernel
theorem dX11_years_41 : decode cX11_years 41 = .ok (.iload 4, 2) := by decide +kernel
theorem dX11_years_43 : decode cX11_years 43 = .ok (.iconst 2, 1) := by decide +kernel
theorem dX11_years_44 : decode cX11_years 44 = .ok (.if_icmp .ge 11, 3) := by decide +kernel
theorem dX11_years_47 : decode cX11_years 47 = .ok (.aload_n 0, 1) := by decide +kernel
theorem dX11_years_48 : decode cX11_years 48 = .ok (.aload_n 0, 1) := by decide +kernel
theorem dX11_years_49 : decode cX11_years 49 = .ok (.getfield 49, 3) := by decide +kernel
theorem dX11_years_52 : decode cX11_years 52 = .ok (.invokevirtual 242, 3) := by decide +kernel
theorem dX11_years_55 : decode cX11_years 55 = .ok (.iload 4, 2) := by decide +kernel
theorem dX11_years_57 : decode cX11_years 57 = .ok (.iconst 2, 1) := by decide +kernel
theorem dX11_years_58 : decode cX11_years 58 = .ok (.if_icmp .ne 16, 3) := by decide +kernel
theorem dX11_years_61 : decode cX11_years 61 = .ok (.aload_n 0, 1) := by decide +kernel
theorem dX11_years_62 : decode cX11_years 62 = .ok (.getfield 49, 3) := by decide +kernel
theorem dX11_years_65 : decode cX11_years 65 = .ok (.bipush 21, 2) := by decide +kernel
theorem dX11_years_67 : decode cX11_years 67 = .ok (.aload_n 0, 1) := by decide +kernel
theorem dX11_years_68 : decode cX11_years 68 = .ok (.bipush 10, 2) := by decide +kernel
theorem dX11_years_70 : decode cX11_years 70 = .ok (.invokevirtual 378, 3) := by decide +kernel
theorem dX11_years_73 : decode cX11_years 73 = .ok (.iastore, 1) := by decide +kernel
theorem dX11_years_74 : decode cX11_years 74 = .ok (.iload 4, 2) := by decide +kernel
theorem dX11_years_76 : decode cX11_years 76 = .ok (.iconst 3, 1) := by decide +kernel
theorem dX11_years_77 : decode cX11_years 77 = .ok (.if_icmp .lt 39, 3) := by decide +kernel
theorem dX11_years_80 : decode cX11_years 80 = .ok (.aload_n 0, 1) := by decide +kernel
theorem dX11_years_81 : decode cX11_years 81 = .ok (.getfield 95, 3) := by decide +kernel
theorem dX11_years_84 : decode cX11_years 84 = .ok (.ifCond .ne 6, 3) := by decide +kernel
theorem dX11_years_87 : decode cX11_years 87 = .ok (.goto 29, 3) := by decide +kernel
theorem dX11_years_90 : decode cX11_years 90 = .ok (.aload_n 0, 1) := by decide +kernel
theorem dX11_years_91 : decode cX11_years 91 = .ok (.aload_n 0, 1) := by decide +kernel
theorem dX11_years_92 : decode cX11_years 92 = .ok (.getfield 95, 3) := by decide +kernel
theorem dX11_years_95 : decode cX11_years 95 = .ok (.invokevirtual 378, 3) := by decide +kernel
theorem dX11_years_98 : decode cX11_years 98 = .ok (.istore 5, 2) := by decide +kernel
theorem dX11_years_100 : decode cX11_years 100 = .ok (.aload_n 0, 1) := by decide +kernel
theorem dX11_years_101 : decode cX11_years 101 = .ok (.getfield 49, 3) := by decide +kernel
theorem dX11_years_104 : decode cX11_years 104 = .ok (.bipush 7, 2) := by decide +kernel
theorem dX11_years_106 : decode cX11_years 106 = .ok (.iload 5, 2) := by decide +kernel
theorem dX11_years_108 : decode cX11_years 108 = .ok (.iadd, 1) := by decide +kernel
theorem dX11_years_109 : decode cX11_years 109 = .ok (.aload_n 0, 1) := by decide +kernel
theorem dX11_years_110 : decode cX11_years 110 = .ok (.bipush 6, 2) := by decide +kernel
theorem dX11_years_112 : decode cX11_years 112 = .ok (.invokevirtual 378, 3) := by decide +kernel
theorem dX11_years_115 : decode cX11_years 115 = .ok (.iastore, 1) := by decide +kernel
theorem dX11_years_116 : decode cX11_years 116 = .ok (.iinc 3 1, 3) := by decide +kernel
theorem dX11_years_119 : decode cX11_years 119 = .ok (.goto (-90), 3) := by decide +kernel
theorem dX11_years_122 : decode cX11_years 122 = .ok (.aload_n 0, 1) := by decide +kernel
theorem dX11_years_123 : decode cX11_years 123 = .ok (.iconst 0, 1) := by decide +kernel
theorem dX11_years_124 : decode cX11_years 124 = .ok (.putfield 92, 3) := by decide +kernel
theorem dX11_years_127 : decode cX11_years 127 = .ok (.aload_n 0, 1) := by decide +kernel
theorem dX11_years_128 : decode cX11_years 128 = .ok (.aload_n 0, 1) := by decide +kernel
theorem dX11_years_129 : decode cX11_years 129 = .ok (.getfield 49, 3) := by decide +kernel
theorem dX11_years_132 : decode cX11_years 132 = .ok (.bipush 23, 2) := by decide +kernel
theorem dX11_years_134 : decode cX11_years 134 = .ok (.iaload, 1) := by decide +kernel
theorem dX11_years_135 : decode cX11_years 135 = .ok (.aload_n 0, 1) := by decide +kernel
theorem dX11_years_136 : decode cX11_years 136 = .ok (.getfield 9, 3) := by decide +kernel
theorem dX11_years_139 : decode cX11_years 139 = .ok (.bipush 23, 2) := by decide +kernel
theorem dX11_years_141 : decode cX11_years 141 = .ok (.iaload, 1) := by decide +kernel
theorem dX11_years_142 : decode cX11_years 142 = .ok (.isub, 1) := by decide +kernel
theorem dX11_years_143 : decode cX11_years 143 = .ok (.i2l, 1) := by decide +kernel
theorem dX11_years_144 : decode cX11_years 144 = .ok (.invokevirtual 252, 3) := by decide +kernel
theorem dX11_years_147 : decode cX11_years 147 = .ok (.aload_n 0, 1) := by decide +kernel
theorem dX11_years_148 : decode cX11_years 148 = .ok (.aload_n 0, 1) := by decide +kernel
theorem dX11_years_149 : decode cX11_years 149 = .ok (.getfield 235, 3) := by decide +kernel
theorem dX11_years_152 : decode cX11_years 152 = .ok (.i2l, 1) := by decide +kernel
theorem dX11_years_153 : decode cX11_years 153 = .ok (.invokevirtual 252, 3) := by decide +kernel
theorem dX11_years_156 : decode cX11_years 156 = .ok (.bipush 100, 2) := by decide +kernel
theorem dX11_years_158 : decode cX11_years 158 = .ok (.aload_n 0, 1) := by decide +kernel
theorem dX11_years_159 : decode cX11_years 159 = .ok (.getfield 49, 3) := by decide +kernel
theorem dX11_years_162 : decode cX11_years 162 = .ok (.bipush 22, 2) := by decide +kernel
theorem dX11_years_164 : decode cX11_years 164 = .ok (.iaload, 1) := by decide +kernel
theorem dX11_years_165 : decode cX11_years 165 = .ok (.iadd, 1) := by decide +kernel
theorem dX11_years_166 : decode cX11_years 166 = .ok (.ireturn, 1) := by decide +kernel
theorem dX11_keep_0 : decode cX11_keep 0 = .ok (.aload_n 0, 1) := by decide +kernel
theorem dX11_keep_1 : decode cX11_keep 1 = .ok (.iconst 0, 1) := by decide +kernel
theorem dX11_keep_2 : decode cX11_keep 2 = .ok (.putfield 89, 3) := by decide +kernel
theorem dX11_keep_5 : decode cX11_keep 5 = .ok (.iload_n 1, 1) := by decide +kernel
theorem dX11_keep_6 : decode cX11_keep 6 = .ok (.iconst 0, 1) := by decide +kernel
theorem dX11_keep_7 : decode cX11_keep 7 = .ok (.iconst 1, 1) := by decide +kernel
theorem dX11_keep_8 : decode cX11_keep 8 = .ok (.invokestatic 98, 3) := by decide +kernel
theorem dX11_keep_11 : decode cX11_keep 11 = .ok (.ifCond .ne 5, 3) := by decide +kernel
theorem dX11_keep_14 : decode cX11_keep 14 = .ok (.iconst 0, 1) := by decide +kernel
theorem dX11_keep_15 : decode cX11_keep 15 = .ok (.ireturn, 1) := by decide +kernel
theorem dX11_keep_16 : decode cX11_keep 16 = .ok (.aload_n 0, 1) := by decide +kernel
theorem dX11_keep_17 : decode cX11_keep 17 = .ok (.getfield 83, 3) := by decide +kernel
theorem dX11_keep_20 : decode cX11_keep 20 = .ok (.iload_n 1, 1) := by decide +kernel
theorem dX11_keep_21 : decode cX11_keep 21 = .ok (.iconst 1, 1) := by decide +kernel
theorem dX11_keep_22 : decode cX11_keep 22 = .ok (.bastore, 1) := by decide +kernel
theorem dX11_keep_23 : decode cX11_keep 23 = .ok (.aload_n 0, 1) := by decide +kernel
theorem dX11_keep_24 : decode cX11_keep 24 = .ok (.getfield 86, 3) := by decide +kernel
theorem dX11_keep_27 : decode cX11_keep 27 = .ok (.iload_n 1, 1) := by decide +kernel
theorem dX11_keep_28 : decode cX11_keep 28 = .ok (.aload_n 0, 1) := by decide +kernel
theorem dX11_keep_29 : decode cX11_keep 29 = .ok (.getfield 157, 3) := by decide +kernel
theorem dX11_keep_32 : decode cX11_keep 32 = .ok (.iastore, 1) := by decide +kernel
theorem dX11_keep_33 : decode cX11_keep 33 = .ok (.aload_n 0, 1) := by decide +kernel
theorem dX11_keep_34 : decode cX11_keep 34 = .ok (.getfield 9, 3) := by decide +kernel
theorem dX11_keep_37 : decode cX11_keep 37 = .ok (.aload_n 0, 1) := by decide +kernel
theorem dX11_keep_38 : decode cX11_keep 38 = .ok (.getfield 80, 3) := by decide +kernel
theorem dX11_keep_41 : decode cX11_keep 41 = .ok (.bipush 26, 2) := by decide +kernel
theorem dX11_keep_43 : decode cX11_keep 43 = .ok (.iload_n 1, 1) := by decide +kernel
theorem dX11_keep_44 : decode cX11_keep 44 = .ok (.imul, 1) := by decide +kernel
theorem dX11_keep_45 : decode cX11_keep 45 = .ok (.invokestatic 231, 3) := by decide +kernel
theorem dX11_keep_48 : decode cX11_keep 48 = .ok (.iconst 1, 1) := by decide +kernel
theorem dX11_keep_49 : decode cX11_keep 49 = .ok (.ireturn, 1) := by decide +kernel
theorem dX11_again_0 : decode cX11_again 0 = .ok (.aload_n 0, 1) := by decide +kernel
theorem dX11_again_1 : decode cX11_again 1 = .ok (.iconst 0, 1) := by decide +kernel
theorem dX11_again_2 : decode cX11_again 2 = .ok (.putfield 89, 3) := by decide +kernel
theorem dX11_again_5 : decode cX11_again 5 = .ok (.iload_n 1, 1) := by decide +kernel
theorem dX11_again_6 : decode cX11_again 6 = .ok (.iconst 0, 1) := by decide +kernel
theorem dX11_again_7 : decode cX11_again 7 = .ok (.iconst 1, 1) := by decide +kernel
theorem dX11_again_8 : decode cX11_again 8 = .ok (.invokestatic 98, 3) := by decide +kernel
theorem dX11_again_11 : decode cX11_again 11 = .ok (.ifCond .eq 25, 3) := by decide +kernel
theorem dX11_again_14 : decode cX11_again 14 = .ok (.aload_n 0, 1) := by decide +kernel
theorem dX11_again_15 : decode cX11_again 15 = .ok (.getfield 83, 3) := by decide +kernel
theorem dX11_again_18 : decode cX11_again 18 = .ok (.iload_n 1, 1) := by decide +kernel
theorem dX11_again_19 : decode cX11_again 19 = .ok (.baload, 1) := by decide +kernel
theorem dX11_again_20 : decode cX11_again 20 = .ok (.ifCond .eq 16, 3) := by decide +kernel
theorem dX11_again_23 : decode cX11_again 23 = .ok (.aload_n 0, 1) := by decide +kernel
theorem dX11_again_24 : decode cX11_again 24 = .ok (.getfield 86, 3) := by decide +kernel
theorem dX11_again_27 : decode cX11_again 27 = .ok (.iload_n 1, 1) := by decide +kernel
theorem dX11_again_28 : decode cX11_again 28 = .ok (.iaload, 1) := by decide +kernel
theorem dX11_again_29 : decode cX11_again 29 = .ok (.aload_n 0, 1) := by decide +kernel
theorem dX11_again_30 : decode cX11_again 30 = .ok (.getfield 157, 3) := by decide +kernel
theorem dX11_again_33 : decode cX11_again 33 = .ok (.if_icmp .eq 5, 3) := by decide +kernel
theorem dX11_again_36 : decode cX11_again 36 = .ok (.iconst 0, 1) := by decide +kernel
theorem dX11_again_37 : decode cX11_again 37 = .ok (.ireturn, 1) := by decide +kernel
theorem dX11_again_38 : decode cX11_again 38 = .ok (.iconst 0, 1) := by decide +kernel
theorem dX11_again_39 : decode cX11_again 39 = .ok (.istore_n 2, 1) := by decide +kernel
theorem dX11_again_40 : decode cX11_again 40 = .ok (.iload_n 2, 1) := by decide +kernel
theorem dX11_again_41 : decode cX11_again 41 = .ok (.bipush 26, 2) := by decide +kernel
theorem dX11_again_43 : decode cX11_again 43 = .ok (.if_icmp .ge 26, 3) := by decide +kernel
theorem dX11_again_46 : decode cX11_again 46 = .ok (.aload_n 0, 1) := by decide +kernel
theorem dX11_again_47 : decode cX11_again 47 = .ok (.getfield 9, 3) := by decide +kernel
theorem dX11_again_50 : decode cX11_again 50 = .ok (.iload_n 2, 1) := by decide +kernel
theorem dX11_again_51 : decode cX11_again 51 = .ok (.aload_n 0, 1) := by decide +kernel
theorem dX11_again_52 : decode cX11_again 52 = .ok (.getfield 80, 3) := by decide +kernel
theorem dX11_again_55 : decode cX11_again 55 = .ok (.bipush 26, 2) := by decide +kernel
theorem dX11_again_57 : decode cX11_again 57 = .ok (.iload_n 1, 1) := by decide +kernel
theorem dX11_again_58 : decode cX11_again 58 = .ok (.imul, 1) := by decide +kernel
theorem dX11_again_59 : decode cX11_again 59 = .ok (.iload_n 2, 1) := by decide +kernel
theorem dX11_again_60 : decode cX11_again 60 = .ok (.iadd, 1) := by decide +kernel
theorem dX11_again_61 : decode cX11_again 61 = .ok (.iaload, 1) := by decide +kernel
theorem dX11_again_62 : decode cX11_again 62 = .ok (.iastore, 1) := by decide +kernel
theorem dX11_again_63 : decode cX11_again 63 = .ok (.iinc 2 1, 3) := by decide +kernel
theorem dX11_again_66 : decode cX11_again 66 = .ok (.goto (-26), 3) := by decide +kernel
theorem dX11_again_69 : decode cX11_again 69 = .ok (.aload_n 0, 1) := by decide +kernel
theorem dX11_again_70 : decode cX11_again 70 = .ok (.iconst 0, 1) := by decide +kernel
theorem dX11_again_71 : decode cX11_again 71 = .ok (.putfield 154, 3) := by decide +kernel
theorem dX11_again_74 : decode cX11_again 74 = .ok (.iconst 1, 1) := by decide +kernel
theorem dX11_again_75 : decode cX11_again 75 = .ok (.ireturn, 1) := by decide +kernel
theorem dX11_count_0 : decode cX11_count 0 = .ok (.aload_n 0, 1) := by decide +kernel
theorem dX11_count_1 : decode cX11_count 1 = .ok (.iconst 0, 1) := by decide +kernel
theorem dX11_count_2 : decode cX11_count 2 = .ok (.putfield 89, 3) := by decide +kernel
theorem dX11_count_5 : decode cX11_count 5 = .ok (.iload_n 1, 1) := by decide +kernel
theorem dX11_count_6 : decode cX11_count 6 = .ok (.tableswitch 169 0 13 #[70, 75, 83, 91, 102, 110, 118, 130, 135, 144, 149, 154, 159, 164], 70) := by decide +kernel
theorem dX11_count_76 : decode cX11_count 76 = .ok (.aload_n 0, 1) := by decide +kernel
theorem dX11_count_77 : decode cX11_count 77 = .ok (.getfield 95, 3) := by decide +kernel
theorem dX11_count_80 : decode cX11_count 80 = .ok (.ireturn, 1) := by decide +kernel
theorem dX11_count_81 : decode cX11_count 81 = .ok (.aload_n 0, 1) := by decide +kernel
theorem dX11_count_82 : decode cX11_count 82 = .ok (.getfield 9, 3) := by decide +kernel
theorem dX11_count_85 : decode cX11_count 85 = .ok (.bipush 25, 2) := by decide +kernel
theorem dX11_count_87 : decode cX11_count 87 = .ok (.iaload, 1) := by decide +kernel
theorem dX11_count_88 : decode cX11_count 88 = .ok (.ireturn, 1) := by decide +kernel
theorem dX11_count_89 : decode cX11_count 89 = .ok (.aload_n 0, 1) := by decide +kernel
theorem dX11_count_90 : decode cX11_count 90 = .ok (.getfield 9, 3) := by decide +kernel
theorem dX11_count_93 : decode cX11_count 93 = .ok (.bipush 21, 2) := by decide +kernel
theorem dX11_count_95 : decode cX11_count 95 = .ok (.iaload, 1) := by decide +kernel
theorem dX11_count_96 : decode cX11_count 96 = .ok (.ireturn, 1) := by decide +kernel
theorem dX11_count_97 : decode cX11_count 97 = .ok (.bipush 100, 2) := by decide +kernel
theorem dX11_count_99 : decode cX11_count 99 = .ok (.aload_n 0, 1) := by decide +kernel
theorem dX11_count_100 : decode cX11_count 100 = .ok (.getfield 9, 3) := by decide +kernel
theorem dX11_count_103 : decode cX11_count 103 = .ok (.bipush 22, 2) := by decide +kernel
theorem dX11_count_105 : decode cX11_count 105 = .ok (.iaload, 1) := by decide +kernel
theorem dX11_count_106 : decode cX11_count 106 = .ok (.iadd, 1) := by decide +kernel
theorem dX11_count_107 : decode cX11_count 107 = .ok (.ireturn, 1) := by decide +kernel
theorem dX11_count_108 : decode cX11_count 108 = .ok (.aload_n 0, 1) := by decide +kernel
theorem dX11_count_109 : decode cX11_count 109 = .ok (.getfield 9, 3) := by decide +kernel
theorem dX11_count_112 : decode cX11_count 112 = .ok (.bipush 23, 2) := by decide +kernel
theorem dX11_count_114 : decode cX11_count 114 = .ok (.iaload, 1) := by decide +kernel
theorem dX11_count_115 : decode cX11_count 115 = .ok (.ireturn, 1) := by decide +kernel
theorem dX11_count_116 : decode cX11_count 116 = .ok (.aload_n 0, 1) := by decide +kernel
theorem dX11_count_117 : decode cX11_count 117 = .ok (.getfield 9, 3) := by decide +kernel
theorem dX11_count_120 : decode cX11_count 120 = .ok (.bipush 24, 2) := by decide +kernel
theorem dX11_count_122 : decode cX11_count 122 = .ok (.iaload, 1) := by decide +kernel
theorem dX11_count_123 : decode cX11_count 123 = .ok (.ireturn, 1) := by decide +kernel
theorem dX11_count_124 : decode cX11_count 124 = .ok (.bipush 10, 2) := by decide +kernel
theorem dX11_count_126 : decode cX11_count 126 = .ok (.aload_n 0, 1) := by decide +kernel
theorem dX11_count_127 : decode cX11_count 127 = .ok (.aload_n 0, 1) := by decide +kernel
theorem dX11_count_128 : decode cX11_count 128 = .ok (.getfield 9, 3) := by decide +kernel
theorem dX11_count_131 : decode cX11_count 131 = .ok (.invokevirtual 211, 3) := by decide +kernel
theorem dX11_count_134 : decode cX11_count 134 = .ok (.iadd, 1) := by decide +kernel
theorem dX11_count_135 : decode cX11_count 135 = .ok (.ireturn, 1) := by decide +kernel
theorem dX11_count_136 : decode cX11_count 136 = .ok (.aload_n 0, 1) := by decide +kernel
theorem dX11_count_137 : decode cX11_count 137 = .ok (.invokevirtual 228, 3) := by decide +kernel
theorem dX11_count_140 : decode cX11_count 140 = .ok (.ireturn, 1) := by decide +kernel
theorem dX11_count_141 : decode cX11_count 141 = .ok (.aload_n 0, 1) := by decide +kernel
theorem dX11_count_142 : decode cX11_count 142 = .ok (.aload_n 0, 1) := by decide +kernel
theorem dX11_count_143 : decode cX11_count 143 = .ok (.invokevirtual 310, 3) := by decide +kernel
theorem dX11_count_146 : decode cX11_count 146 = .ok (.invokevirtual 313, 3) := by decide +kernel
theorem dX11_count_149 : decode cX11_count 149 = .ok (.ireturn, 1) := by decide +kernel
theorem dX11_count_150 : decode cX11_count 150 = .ok (.aload_n 0, 1) := by decide +kernel
theorem dX11_count_151 : decode cX11_count 151 = .ok (.getfield 330, 3) := by decide +kernel
theorem dX11_count_154 : decode cX11_count 154 = .ok (.ireturn, 1) := by decide +kernel
theorem dX11_count_155 : decode cX11_count 155 = .ok (.aload_n 0, 1) := by decide +kernel
theorem dX11_count_156 : decode cX11_count 156 = .ok (.getfield 346, 3) := by decide +kernel
theorem dX11_count_159 : decode cX11_count 159 = .ok (.ireturn, 1) := by decide +kernel
theorem dX11_count_160 : decode cX11_count 160 = .ok (.aload_n 0, 1) := by decide +kernel
theorem dX11_count_161 : decode cX11_count 161 = .ok (.getfield 154, 3) := by decide +kernel
theorem dX11_count_164 : decode cX11_count 164 = .ok (.ireturn, 1) := by decide +kernel
theorem dX11_count_165 : decode cX11_count 165 = .ok (.aload_n 0, 1) := by decide +kernel
theorem dX11_count_166 : decode cX11_count 166 = .ok (.getfield 92, 3) := by decide +kernel
theorem dX11_count_169 : decode cX11_count 169 = .ok (.ireturn, 1) := by decide +kernel
theorem dX11_count_170 : decode cX11_count 170 = .ok (.aload_n 0, 1) := by decide +kernel
theorem dX11_count_171 : decode cX11_count 171 = .ok (.getfield 102, 3) := by decide +kernel
theorem dX11_count_174 : decode cX11_count 174 = .ok (.ireturn, 1) := by decide +kernel
theorem dX11_count_175 : decode cX11_count 175 = .ok (.iconst (-1), 1) := by decide +kernel
theorem dX11_count_176 : decode cX11_count 176 = .ok (.ireturn, 1) := by decide +kernel
theorem dX11_row_0 : decode cX11_row 0 = .ok (.aload_n 0, 1) := by decide +kernel
theorem dX11_row_1 : decode cX11_row 1 = .ok (.iconst 0, 1) := by decide +kernel
theorem dX11_row_2 : decode cX11_row 2 = .ok (.putfield 89, 3) := by decide +kernel
theorem dX11_row_5 : decode cX11_row 5 = .ok (.iload_n 1, 1) := by decide +kernel
theorem dX11_row_6 : decode cX11_row 6 = .ok (.iconst 0, 1) := by decide +kernel
theorem dX11_row_7 : decode cX11_row 7 = .ok (.aload_n 0, 1) := by decide +kernel
theorem dX11_row_8 : decode cX11_row 8 = .ok (.getfield 92, 3) := by decide +kernel
theorem dX11_row_11 : decode cX11_row 11 = .ok (.iconst 1, 1) := by decide +kernel
theorem dX11_row_12 : decode cX11_row 12 = .ok (.isub, 1) := by decide +kernel
theorem dX11_row_13 : decode cX11_row 13 = .ok (.invokestatic 98, 3) := by decide +kernel
theorem dX11_row_16 : decode cX11_row 16 = .ok (.ifCond .eq 12, 3) := by decide +kernel
theorem dX11_row_19 : decode cX11_row 19 = .ok (.aload_n 0, 1) := by decide +kernel
theorem dX11_row_20 : decode cX11_row 20 = .ok (.getfield 27, 3) := by decide +kernel
theorem dX11_row_23 : decode cX11_row 23 = .ok (.iload_n 1, 1) := by decide +kernel
theorem dX11_row_24 : decode cX11_row 24 = .ok (.laload, 1) := by decide +kernel
theorem dX11_row_25 : decode cX11_row 25 = .ok (.goto 8, 3) := by decide +kernel
theorem dX11_row_28 : decode cX11_row 28 = .ok (.aload_n 0, 1) := by decide +kernel
theorem dX11_row_29 : decode cX11_row 29 = .ok (.invokevirtual 225, 3) := by decide +kernel
theorem dX11_row_32 : decode cX11_row 32 = .ok (.i2l, 1) := by decide +kernel
theorem dX11_row_33 : decode cX11_row 33 = .ok (.lreturn, 1) := by decide +kernel
