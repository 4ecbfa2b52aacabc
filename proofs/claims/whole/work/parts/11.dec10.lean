theorem dX10_init_0 : decode cX10_init 0 = .ok (.aload_n 0, 1) := by decide +kernel
theorem dX10_init_1 : decode cX10_init 1 = .ok (.invokespecial 1, 3) := by decide +kernel
theorem dX10_init_4 : decode cX10_init 4 = .ok (.aload_n 0, 1) := by decide +kernel
theorem dX10_init_5 : decode cX10_init 5 = .ok (.new 7, 3) := by decide +kernel
theorem dX10_init_8 : decode cX10_init 8 = .ok (.dup, 1) := by decide +kernel
theorem dX10_init_9 : decode cX10_init 9 = .ok (.invokespecial 9, 3) := by decide +kernel
theorem dX10_init_12 : decode cX10_init 12 = .ok (.putfield 10, 3) := by decide +kernel
theorem dX10_init_15 : decode cX10_init 15 = .ok (.aload_n 0, 1) := by decide +kernel
theorem dX10_init_16 : decode cX10_init 16 = .ok (.new 16, 3) := by decide +kernel
theorem dX10_init_19 : decode cX10_init 19 = .ok (.dup, 1) := by decide +kernel
theorem dX10_init_20 : decode cX10_init 20 = .ok (.invokespecial 18, 3) := by decide +kernel
theorem dX10_init_23 : decode cX10_init 23 = .ok (.putfield 19, 3) := by decide +kernel
theorem dX10_init_26 : decode cX10_init 26 = .ok (.aload_n 0, 1) := by decide +kernel
theorem dX10_init_27 : decode cX10_init 27 = .ok (.new 23, 3) := by decide +kernel
theorem dX10_init_30 : decode cX10_init 30 = .ok (.dup, 1) := by decide +kernel
theorem dX10_init_31 : decode cX10_init 31 = .ok (.invokespecial 25, 3) := by decide +kernel
theorem dX10_init_34 : decode cX10_init 34 = .ok (.putfield 26, 3) := by decide +kernel
theorem dX10_init_37 : decode cX10_init 37 = .ok (.aload_n 0, 1) := by decide +kernel
theorem dX10_init_38 : decode cX10_init 38 = .ok (.new 30, 3) := by decide +kernel
theorem dX10_init_41 : decode cX10_init 41 = .ok (.dup, 1) := by decide +kernel
theorem dX10_init_42 : decode cX10_init 42 = .ok (.invokespecial 32, 3) := by decide +kernel
theorem dX10_init_45 : decode cX10_init 45 = .ok (.putfield 33, 3) := by decide +kernel
theorem dX10_init_48 : decode cX10_init 48 = .ok (.aload_n 0, 1) := by decide +kernel
theorem dX10_init_49 : decode cX10_init 49 = .ok (.new 30, 3) := by decide +kernel
theorem dX10_init_52 : decode cX10_init 52 = .ok (.dup, 1) := by decide +kernel
theorem dX10_init_53 : decode cX10_init 53 = .ok (.invokespecial 32, 3) := by decide +kernel
theorem dX10_init_56 : decode cX10_init 56 = .ok (.putfield 37, 3) := by decide +kernel
theorem dX10_init_59 : decode cX10_init 59 = .ok (.aload_n 0, 1) := by decide +kernel
theorem dX10_init_60 : decode cX10_init 60 = .ok (.new 30, 3) := by decide +kernel
theorem dX10_init_63 : decode cX10_init 63 = .ok (.dup, 1) := by decide +kernel
theorem dX10_init_64 : decode cX10_init 64 = .ok (.invokespecial 32, 3) := by decide +kernel
theorem dX10_init_67 : decode cX10_init 67 = .ok (.putfield 40, 3) := by decide +kernel
theorem dX10_init_70 : decode cX10_init 70 = .ok (.aload_n 0, 1) := by decide +kernel
theorem dX10_init_71 : decode cX10_init 71 = .ok (.new 43, 3) := by decide +kernel
theorem dX10_init_74 : decode cX10_init 74 = .ok (.dup, 1) := by decide +kernel
theorem dX10_init_75 : decode cX10_init 75 = .ok (.invokespecial 45, 3) := by decide +kernel
theorem dX10_init_78 : decode cX10_init 78 = .ok (.putfield 46, 3) := by decide +kernel
theorem dX10_init_81 : decode cX10_init 81 = .ok (.aload_n 0, 1) := by decide +kernel
theorem dX10_init_82 : decode cX10_init 82 = .ok (.iconst 2, 1) := by decide +kernel
theorem dX10_init_83 : decode cX10_init 83 = .ok (.anewarray 30, 3) := by decide +kernel
theorem dX10_init_86 : decode cX10_init 86 = .ok (.dup, 1) := by decide +kernel
theorem dX10_init_87 : decode cX10_init 87 = .ok (.iconst 0, 1) := by decide +kernel
theorem dX10_init_88 : decode cX10_init 88 = .ok (.new 30, 3) := by decide +kernel
theorem dX10_init_91 : decode cX10_init 91 = .ok (.dup, 1) := by decide +kernel
theorem dX10_init_92 : decode cX10_init 92 = .ok (.invokespecial 32, 3) := by decide +kernel
theorem dX10_init_95 : decode cX10_init 95 = .ok (.aastore, 1) := by decide +kernel
theorem dX10_init_96 : decode cX10_init 96 = .ok (.dup, 1) := by decide +kernel
theorem dX10_init_97 : decode cX10_init 97 = .ok (.iconst 1, 1) := by decide +kernel
theorem dX10_init_98 : decode cX10_init 98 = .ok (.new 30, 3) := by decide +kernel
theorem dX10_init_101 : decode cX10_init 101 = .ok (.dup, 1) := by decide +kernel
theorem dX10_init_102 : decode cX10_init 102 = .ok (.invokespecial 32, 3) := by decide +kernel
theorem dX10_init_105 : decode cX10_init 105 = .ok (.aastore, 1) := by decide +kernel
theorem dX10_init_106 : decode cX10_init 106 = .ok (.putfield 50, 3) := by decide +kernel
theorem dX10_init_109 : decode cX10_init 109 = .ok (.aload_n 0, 1) := by decide +kernel
theorem dX10_init_110 : decode cX10_init 110 = .ok (.iconst 2, 1) := by decide +kernel
theorem dX10_init_111 : decode cX10_init 111 = .ok (.newarray .boolean, 2) := by decide +kernel
theorem dX10_init_113 : decode cX10_init 113 = .ok (.putfield 54, 3) := by decide +kernel
theorem dX10_init_116 : decode cX10_init 116 = .ok (.aload_n 0, 1) := by decide +kernel
theorem dX10_init_117 : decode cX10_init 117 = .ok (.new 58, 3) := by decide +kernel
theorem dX10_init_120 : decode cX10_init 120 = .ok (.dup, 1) := by decide +kernel
theorem dX10_init_121 : decode cX10_init 121 = .ok (.bipush 10, 2) := by decide +kernel
theorem dX10_init_123 : decode cX10_init 123 = .ok (.invokespecial 60, 3) := by decide +kernel
theorem dX10_init_126 : decode cX10_init 126 = .ok (.putfield 63, 3) := by decide +kernel
theorem dX10_init_129 : decode cX10_init 129 = .ok (.aload_n 0, 1) := by decide +kernel
theorem dX10_init_130 : decode cX10_init 130 = .ok (.new 58, 3) := by decide +kernel
theorem dX10_init_133 : decode cX10_init 133 = .ok (.dup, 1) := by decide +kernel
theorem dX10_init_134 : decode cX10_init 134 = .ok (.bipush 12, 2) := by decide +kernel
theorem dX10_init_136 : decode cX10_init 136 = .ok (.invokespecial 60, 3) := by decide +kernel
theorem dX10_init_139 : decode cX10_init 139 = .ok (.putfield 67, 3) := by decide +kernel
theorem dX10_init_142 : decode cX10_init 142 = .ok (.aload_n 0, 1) := by decide +kernel
theorem dX10_init_143 : decode cX10_init 143 = .ok (.new 70, 3) := by decide +kernel
theorem dX10_init_146 : decode cX10_init 146 = .ok (.dup, 1) := by decide +kernel
theorem dX10_init_147 : decode cX10_init 147 = .ok (.invokespecial 72, 3) := by decide +kernel
theorem dX10_init_150 : decode cX10_init 150 = .ok (.putfield 73, 3) := by decide +kernel
theorem dX10_init_153 : decode cX10_init 153 = .ok (.aload_n 0, 1) := by decide +kernel
theorem dX10_init_154 : decode cX10_init 154 = .ok (.new 77, 3) := by decide +kernel
theorem dX10_init_157 : decode cX10_init 157 = .ok (.dup, 1) := by decide +kernel
theorem dX10_init_158 : decode cX10_init 158 = .ok (.invokespecial 79, 3) := by decide +kernel
theorem dX10_init_161 : decode cX10_init 161 = .ok (.putfield 80, 3) := by decide +kernel
theorem dX10_init_164 : decode cX10_init 164 = .ok (.aload_n 0, 1) := by decide +kernel
theorem dX10_init_165 : decode cX10_init 165 = .ok (.new 84, 3) := by decide +kernel
theorem dX10_init_168 : decode cX10_init 168 = .ok (.dup, 1) := by decide +kernel
theorem dX10_init_169 : decode cX10_init 169 = .ok (.invokespecial 86, 3) := by decide +kernel
theorem dX10_init_172 : decode cX10_init 172 = .ok (.putfield 87, 3) := by decide +kernel
theorem dX10_init_175 : decode cX10_init 175 = .ok (.aload_n 0, 1) := by decide +kernel
theorem dX10_init_176 : decode cX10_init 176 = .ok (.bipush 7, 2) := by decide +kernel
theorem dX10_init_178 : decode cX10_init 178 = .ok (.newarray .int, 2) := by decide +kernel
theorem dX10_init_180 : decode cX10_init 180 = .ok (.putfield 91, 3) := by decide +kernel
theorem dX10_init_183 : decode cX10_init 183 = .ok (.aload_n 0, 1) := by decide +kernel
theorem dX10_init_184 : decode cX10_init 184 = .ok (.bipush 6, 2) := by decide +kernel
theorem dX10_init_186 : decode cX10_init 186 = .ok (.newarray .int, 2) := by decide +kernel
theorem dX10_init_188 : decode cX10_init 188 = .ok (.putfield 95, 3) := by decide +kernel
theorem dX10_init_191 : decode cX10_init 191 = .ok (.aload_n 0, 1) := by decide +kernel
theorem dX10_init_192 : decode cX10_init 192 = .ok (.bipush 6, 2) := by decide +kernel
theorem dX10_init_194 : decode cX10_init 194 = .ok (.newarray .int, 2) := by decide +kernel
theorem dX10_init_196 : decode cX10_init 196 = .ok (.putfield 98, 3) := by decide +kernel
theorem dX10_init_199 : decode cX10_init 199 = .ok (.aload_n 0, 1) := by decide +kernel
theorem dX10_init_200 : decode cX10_init 200 = .ok (.sipush 294, 3) := by decide +kernel
theorem dX10_init_203 : decode cX10_init 203 = .ok (.newarray .int, 2) := by decide +kernel
theorem dX10_init_205 : decode cX10_init 205 = .ok (.putfield 101, 3) := by decide +kernel
theorem dX10_init_208 : decode cX10_init 208 = .ok (.return_, 1) := by decide +kernel
theorem dX10_sign_0 : decode cX10_sign 0 = .ok (.aload_n 0, 1) := by decide +kernel
theorem dX10_sign_1 : decode cX10_sign 1 = .ok (.getfield 10, 3) := by decide +kernel
theorem dX10_sign_4 : decode cX10_sign 4 = .ok (.iload_n 1, 1) := by decide +kernel
theorem dX10_sign_5 : decode cX10_sign 5 = .ok (.invokevirtual 104, 3) := by decide +kernel
theorem dX10_sign_8 : decode cX10_sign 8 = .ok (.ifCond .eq 13, 3) := by decide +kernel
theorem dX10_sign_11 : decode cX10_sign 11 = .ok (.aload_n 0, 1) := by decide +kernel
theorem dX10_sign_12 : decode cX10_sign 12 = .ok (.getfield 10, 3) := by decide +kernel
theorem dX10_sign_15 : decode cX10_sign 15 = .ok (.getfield 108, 3) := by decide +kernel
theorem dX10_sign_18 : decode cX10_sign 18 = .ok (.goto 4, 3) := by decide +kernel
theorem dX10_sign_21 : decode cX10_sign 21 = .ok (.iconst (-1), 1) := by decide +kernel
theorem dX10_sign_22 : decode cX10_sign 22 = .ok (.ireturn, 1) := by decide +kernel
theorem dX10_end_0 : decode cX10_end 0 = .ok (.aload_n 0, 1) := by decide +kernel
theorem dX10_end_1 : decode cX10_end 1 = .ok (.getfield 10, 3) := by decide +kernel
theorem dX10_end_4 : decode cX10_end 4 = .ok (.iload_n 1, 1) := by decide +kernel
theorem dX10_end_5 : decode cX10_end 5 = .ok (.invokevirtual 112, 3) := by decide +kernel
theorem dX10_end_8 : decode cX10_end 8 = .ok (.ireturn, 1) := by decide +kernel
theorem dX10_thoughts_0 : decode cX10_thoughts 0 = .ok (.aload_n 0, 1) := by decide +kernel
theorem dX10_thoughts_1 : decode cX10_thoughts 1 = .ok (.getfield 10, 3) := by decide +kernel
theorem dX10_thoughts_4 : decode cX10_thoughts 4 = .ok (.invokevirtual 115, 3) := by decide +kernel
theorem dX10_thoughts_7 : decode cX10_thoughts 7 = .ok (.istore_n 1, 1) := by decide +kernel
theorem dX10_thoughts_8 : decode cX10_thoughts 8 = .ok (.iload_n 1, 1) := by decide +kernel
theorem dX10_thoughts_9 : decode cX10_thoughts 9 = .ok (.iconst (-1), 1) := by decide +kernel
theorem dX10_thoughts_10 : decode cX10_thoughts 10 = .ok (.if_icmp .ne 17, 3) := by decide +kernel
theorem dX10_thoughts_13 : decode cX10_thoughts 13 = .ok (.aload_n 0, 1) := by decide +kernel
theorem dX10_thoughts_14 : decode cX10_thoughts 14 = .ok (.getfield 26, 3) := by decide +kernel
theorem dX10_thoughts_17 : decode cX10_thoughts 17 = .ok (.aload_n 0, 1) := by decide +kernel
theorem dX10_thoughts_18 : decode cX10_thoughts 18 = .ok (.getfield 10, 3) := by decide +kernel
theorem dX10_thoughts_21 : decode cX10_thoughts 21 = .ok (.invokevirtual 119, 3) := by decide +kernel
theorem dX10_thoughts_24 : decode cX10_thoughts 24 = .ok (.goto 6, 3) := by decide +kernel
theorem dX10_thoughts_27 : decode cX10_thoughts 27 = .ok (.iconst (-1), 1) := by decide +kernel
theorem dX10_thoughts_28 : decode cX10_thoughts 28 = .ok (.iload_n 1, 1) := by decide +kernel
theorem dX10_thoughts_29 : decode cX10_thoughts 29 = .ok (.isub, 1) := by decide +kernel
theorem dX10_thoughts_30 : decode cX10_thoughts 30 = .ok (.istore_n 2, 1) := by decide +kernel
theorem dX10_thoughts_31 : decode cX10_thoughts 31 = .ok (.aload_n 0, 1) := by decide +kernel
theorem dX10_thoughts_32 : decode cX10_thoughts 32 = .ok (.getfield 10, 3) := by decide +kernel
theorem dX10_thoughts_35 : decode cX10_thoughts 35 = .ok (.invokevirtual 123, 3) := by decide +kernel
theorem dX10_thoughts_38 : decode cX10_thoughts 38 = .ok (.iload_n 2, 1) := by decide +kernel
theorem dX10_thoughts_39 : decode cX10_thoughts 39 = .ok (.ireturn, 1) := by decide +kernel
theorem dX10_brothers_0 : decode cX10_brothers 0 = .ok (.aload_n 0, 1) := by decide +kernel
theorem dX10_brothers_1 : decode cX10_brothers 1 = .ok (.getfield 10, 3) := by decide +kernel
theorem dX10_brothers_4 : decode cX10_brothers 4 = .ok (.aload_n 0, 1) := by decide +kernel
theorem dX10_brothers_5 : decode cX10_brothers 5 = .ok (.getfield 33, 3) := by decide +kernel
theorem dX10_brothers_8 : decode cX10_brothers 8 = .ok (.getfield 126, 3) := by decide +kernel
theorem dX10_brothers_11 : decode cX10_brothers 11 = .ok (.invokevirtual 129, 3) := by decide +kernel
theorem dX10_brothers_14 : decode cX10_brothers 14 = .ok (.istore_n 1, 1) := by decide +kernel
theorem dX10_brothers_15 : decode cX10_brothers 15 = .ok (.iload_n 1, 1) := by decide +kernel
theorem dX10_brothers_16 : decode cX10_brothers 16 = .ok (.iconst (-1), 1) := by decide +kernel
theorem dX10_brothers_17 : decode cX10_brothers 17 = .ok (.if_icmp .ne 17, 3) := by decide +kernel
theorem dX10_brothers_20 : decode cX10_brothers 20 = .ok (.aload_n 0, 1) := by decide +kernel
theorem dX10_brothers_21 : decode cX10_brothers 21 = .ok (.getfield 33, 3) := by decide +kernel
theorem dX10_brothers_24 : decode cX10_brothers 24 = .ok (.aload_n 0, 1) := by decide +kernel
theorem dX10_brothers_25 : decode cX10_brothers 25 = .ok (.getfield 10, 3) := by decide +kernel
theorem dX10_brothers_28 : decode cX10_brothers 28 = .ok (.invokevirtual 133, 3) := by decide +kernel
theorem dX10_brothers_31 : decode cX10_brothers 31 = .ok (.goto 6, 3) := by decide +kernel
theorem dX10_brothers_34 : decode cX10_brothers 34 = .ok (.iconst (-1), 1) := by decide +kernel
theorem dX10_brothers_35 : decode cX10_brothers 35 = .ok (.iload_n 1, 1) := by decide +kernel
theorem dX10_brothers_36 : decode cX10_brothers 36 = .ok (.isub, 1) := by decide +kernel
theorem dX10_brothers_37 : decode cX10_brothers 37 = .ok (.istore_n 2, 1) := by decide +kernel
theorem dX10_brothers_38 : decode cX10_brothers 38 = .ok (.aload_n 0, 1) := by decide +kernel
theorem dX10_brothers_39 : decode cX10_brothers 39 = .ok (.getfield 10, 3) := by decide +kernel
theorem dX10_brothers_42 : decode cX10_brothers 42 = .ok (.invokevirtual 123, 3) := by decide +kernel
theorem dX10_brothers_45 : decode cX10_brothers 45 = .ok (.iload_n 2, 1) := by decide +kernel
theorem dX10_brothers_46 : decode cX10_brothers 46 = .ok (.ifCond .le 10, 3) := by decide +kernel
theorem dX10_brothers_49 : decode cX10_brothers 49 = .ok (.aload_n 0, 1) := by decide +kernel
theorem dX10_brothers_50 : decode cX10_brothers 50 = .ok (.getfield 46, 3) := by decide +kernel
theorem dX10_brothers_53 : decode cX10_brothers 53 = .ok (.invokevirtual 136, 3) := by decide +kernel
theorem dX10_brothers_56 : decode cX10_brothers 56 = .ok (.iload_n 2, 1) := by decide +kernel
theorem dX10_brothers_57 : decode cX10_brothers 57 = .ok (.ireturn, 1) := by decide +kernel
theorem dX10_winds_0 : decode cX10_winds 0 = .ok (.aload_n 0, 1) := by decide +kernel
theorem dX10_winds_1 : decode cX10_winds 1 = .ok (.getfield 10, 3) := by decide +kernel
theorem dX10_winds_4 : decode cX10_winds 4 = .ok (.invokevirtual 137, 3) := by decide +kernel
theorem dX10_winds_7 : decode cX10_winds 7 = .ok (.istore_n 1, 1) := by decide +kernel
theorem dX10_winds_8 : decode cX10_winds 8 = .ok (.iload_n 1, 1) := by decide +kernel
theorem dX10_winds_9 : decode cX10_winds 9 = .ok (.iconst (-1), 1) := by decide +kernel
theorem dX10_winds_10 : decode cX10_winds 10 = .ok (.if_icmp .ne 17, 3) := by decide +kernel
theorem dX10_winds_13 : decode cX10_winds 13 = .ok (.aload_n 0, 1) := by decide +kernel
theorem dX10_winds_14 : decode cX10_winds 14 = .ok (.getfield 26, 3) := by decide +kernel
theorem dX10_winds_17 : decode cX10_winds 17 = .ok (.aload_n 0, 1) := by decide +kernel
theorem dX10_winds_18 : decode cX10_winds 18 = .ok (.getfield 10, 3) := by decide +kernel
theorem dX10_winds_21 : decode cX10_winds 21 = .ok (.invokevirtual 140, 3) := by decide +kernel
theorem dX10_winds_24 : decode cX10_winds 24 = .ok (.goto 6, 3) := by decide +kernel
theorem dX10_winds_27 : decode cX10_winds 27 = .ok (.iconst (-1), 1) := by decide +kernel
theorem dX10_winds_28 : decode cX10_winds 28 = .ok (.iload_n 1, 1) := by decide +kernel
theorem dX10_winds_29 : decode cX10_winds 29 = .ok (.isub, 1) := by decide +kernel
theorem dX10_winds_30 : decode cX10_winds 30 = .ok (.istore_n 2, 1) := by decide +kernel
theorem dX10_winds_31 : decode cX10_winds 31 = .ok (.aload_n 0, 1) := by decide +kernel
theorem dX10_winds_32 : decode cX10_winds 32 = .ok (.getfield 10, 3) := by decide +kernel
theorem dX10_winds_35 : decode cX10_winds 35 = .ok (.invokevirtual 123, 3) := by decide +kernel
theorem dX10_winds_38 : decode cX10_winds 38 = .ok (.iload_n 2, 1) := by decide +kernel
theorem dX10_winds_39 : decode cX10_winds 39 = .ok (.ireturn, 1) := by decide +kernel
theorem dX10_rule_0 : decode cX10_rule 0 = .ok (.aload_n 0, 1) := by decide +kernel
theorem dX10_rule_1 : decode cX10_rule 1 = .ok (.getfield 26, 3) := by decide +kernel
theorem dX10_rule_4 : decode cX10_rule 4 = .ok (.getfield 143, 3) := by decide +kernel
theorem dX10_rule_7 : decode cX10_rule 7 = .ok (.aload_n 0, 1) := by decide +kernel
theorem dX10_rule_8 : decode cX10_rule 8 = .ok (.getfield 10, 3) := by decide +kernel
theorem dX10_rule_11 : decode cX10_rule 11 = .ok (.invokevirtual 147, 3) := by decide +kernel
theorem dX10_rule_14 : decode cX10_rule 14 = .ok (.istore_n 1, 1) := by decide +kernel
theorem dX10_rule_15 : decode cX10_rule 15 = .ok (.aload_n 0, 1) := by decide +kernel
theorem dX10_rule_16 : decode cX10_rule 16 = .ok (.getfield 10, 3) := by decide +kernel
theorem dX10_rule_19 : decode cX10_rule 19 = .ok (.invokevirtual 123, 3) := by decide +kernel
theorem dX10_rule_22 : decode cX10_rule 22 = .ok (.iload_n 1, 1) := by decide +kernel
theorem dX10_rule_23 : decode cX10_rule 23 = .ok (.iconst (-1), 1) := by decide +kernel
theorem dX10_rule_24 : decode cX10_rule 24 = .ok (.if_icmp .eq 7, 3) := by decide +kernel
theorem dX10_rule_27 : decode cX10_rule 27 = .ok (.iconst (-1), 1) := by decide +kernel
theorem dX10_rule_28 : decode cX10_rule 28 = .ok (.iload_n 1, 1) := by decide +kernel
theorem dX10_rule_29 : decode cX10_rule 29 = .ok (.isub, 1) := by decide +kernel
theorem dX10_rule_30 : decode cX10_rule 30 = .ok (.ireturn, 1) := by decide +kernel
theorem dX10_rule_31 : decode cX10_rule 31 = .ok (.aload_n 0, 1) := by decide +kernel
theorem dX10_rule_32 : decode cX10_rule 32 = .ok (.getfield 26, 3) := by decide +kernel
theorem dX10_rule_35 : decode cX10_rule 35 = .ok (.invokevirtual 152, 3) := by decide +kernel
theorem dX10_rule_38 : decode cX10_rule 38 = .ok (.iconst 0, 1) := by decide +kernel
theorem dX10_rule_39 : decode cX10_rule 39 = .ok (.ireturn, 1) := by decide +kernel
theorem dX10_brother_0 : decode cX10_brother 0 = .ok (.aload_n 0, 1) := by decide +kernel
theorem dX10_brother_1 : decode cX10_brother 1 = .ok (.getfield 33, 3) := by decide +kernel
theorem dX10_brother_4 : decode cX10_brother 4 = .ok (.iload_n 1, 1) := by decide +kernel
theorem dX10_brother_5 : decode cX10_brother 5 = .ok (.invokevirtual 155, 3) := by decide +kernel
theorem dX10_brother_8 : decode cX10_brother 8 = .ok (.ifCond .eq 12, 3) := by decide +kernel
theorem dX10_brother_11 : decode cX10_brother 11 = .ok (.iload_n 2, 1) := by decide +kernel
theorem dX10_brother_12 : decode cX10_brother 12 = .ok (.iconst 0, 1) := by decide +kernel
theorem dX10_brother_13 : decode cX10_brother 13 = .ok (.iconst 3, 1) := by decide +kernel
theorem dX10_brother_14 : decode cX10_brother 14 = .ok (.invokestatic 158, 3) := by decide +kernel
theorem dX10_brother_17 : decode cX10_brother 17 = .ok (.ifCond .ne 11, 3) := by decide +kernel
theorem dX10_brother_20 : decode cX10_brother 20 = .ok (.new 162, 3) := by decide +kernel
theorem dX10_brother_23 : decode cX10_brother 23 = .ok (.dup, 1) := by decide +kernel
theorem dX10_brother_24 : decode cX10_brother 24 = .ok (.invokespecial 164, 3) := by decide +kernel
theorem dX10_brother_27 : decode cX10_brother 27 = .ok (.athrow, 1) := by decide +kernel
theorem dX10_brother_28 : decode cX10_brother 28 = .ok (.iload_n 2, 1) := by decide +kernel
theorem dX10_brother_29 : decode cX10_brother 29 = .ok (.tableswitch 60 0 2 #[27, 37, 47], 27) := by decide +kernel
theorem dX10_brother_56 : decode cX10_brother 56 = .ok (.aload_n 0, 1) := by decide +kernel
theorem dX10_brother_57 : decode cX10_brother 57 = .ok (.getfield 33, 3) := by decide +kernel
theorem dX10_brother_60 : decode cX10_brother 60 = .ok (.getfield 165, 3) := by decide +kernel
theorem dX10_brother_63 : decode cX10_brother 63 = .ok (.iload_n 1, 1) := by decide +kernel
theorem dX10_brother_64 : decode cX10_brother 64 = .ok (.iaload, 1) := by decide +kernel
theorem dX10_brother_65 : decode cX10_brother 65 = .ok (.ireturn, 1) := by decide +kernel
theorem dX10_brother_66 : decode cX10_brother 66 = .ok (.aload_n 0, 1) := by decide +kernel
theorem dX10_brother_67 : decode cX10_brother 67 = .ok (.getfield 33, 3) := by decide +kernel
theorem dX10_brother_70 : decode cX10_brother 70 = .ok (.getfield 168, 3) := by decide +kernel
theorem dX10_brother_73 : decode cX10_brother 73 = .ok (.iload_n 1, 1) := by decide +kernel
theorem dX10_brother_74 : decode cX10_brother 74 = .ok (.iaload, 1) := by decide +kernel
theorem dX10_brother_75 : decode cX10_brother 75 = .ok (.ireturn, 1) := by decide +kernel
theorem dX10_brother_76 : decode cX10_brother 76 = .ok (.bipush 10, 2) := by decide +kernel
theorem dX10_brother_78 : decode cX10_brother 78 = .ok (.aload_n 0, 1) := by decide +kernel
theorem dX10_brother_79 : decode cX10_brother 79 = .ok (.getfield 33, 3) := by decide +kernel
theorem dX10_brother_82 : decode cX10_brother 82 = .ok (.getfield 171, 3) := by decide +kernel
theorem dX10_brother_85 : decode cX10_brother 85 = .ok (.iload_n 1, 1) := by decide +kernel
theorem dX10_brother_86 : decode cX10_brother 86 = .ok (.iaload, 1) := by decide +kernel
theorem dX10_brother_87 : decode cX10_brother 87 = .ok (.iadd, 1) := by decide +kernel
theorem dX10_brother_88 : decode cX10_brother 88 = .ok (.ireturn, 1) := by decide +kernel
theorem dX10_brother_89 : decode cX10_brother 89 = .ok (.aload_n 0, 1) := by decide +kernel
theorem dX10_brother_90 : decode cX10_brother 90 = .ok (.getfield 26, 3) := by decide +kernel
theorem dX10_brother_93 : decode cX10_brother 93 = .ok (.aload_n 0, 1) := by decide +kernel
theorem dX10_brother_94 : decode cX10_brother 94 = .ok (.getfield 33, 3) := by decide +kernel
theorem dX10_brother_97 : decode cX10_brother 97 = .ok (.iload_n 1, 1) := by decide +kernel
theorem dX10_brother_98 : decode cX10_brother 98 = .ok (.invokevirtual 174, 3) := by decide +kernel
theorem dX10_brother_101 : decode cX10_brother 101 = .ok (.ireturn, 1) := by decide +kernel
theorem dX10_price_0 : decode cX10_price 0 = .ok (.iload_n 1, 1) := by decide +kernel
theorem dX10_price_1 : decode cX10_price 1 = .ok (.iconst 0, 1) := by decide +kernel
theorem dX10_price_2 : decode cX10_price 2 = .ok (.iconst 5, 1) := by decide +kernel
theorem dX10_price_3 : decode cX10_price 3 = .ok (.invokestatic 158, 3) := by decide +kernel
theorem dX10_price_6 : decode cX10_price 6 = .ok (.ifCond .ne 11, 3) := by decide +kernel
theorem dX10_price_9 : decode cX10_price 9 = .ok (.new 162, 3) := by decide +kernel
theorem dX10_price_12 : decode cX10_price 12 = .ok (.dup, 1) := by decide +kernel
theorem dX10_price_13 : decode cX10_price 13 = .ok (.invokespecial 164, 3) := by decide +kernel
theorem dX10_price_16 : decode cX10_price 16 = .ok (.athrow, 1) := by decide +kernel
theorem dX10_price_17 : decode cX10_price 17 = .ok (.aload_n 0, 1) := by decide +kernel
theorem dX10_price_18 : decode cX10_price 18 = .ok (.getfield 26, 3) := by decide +kernel
theorem dX10_price_21 : decode cX10_price 21 = .ok (.iload_n 1, 1) := by decide +kernel
theorem dX10_price_22 : decode cX10_price 22 = .ok (.invokevirtual 178, 3) := by decide +kernel
theorem dX10_price_25 : decode cX10_price 25 = .ok (.ireturn, 1) := by decide +kernel
theorem dX10_sheet_0 : decode cX10_sheet 0 = .ok (.iload_n 1, 1) := by decide +kernel
theorem dX10_sheet_1 : decode cX10_sheet 1 = .ok (.iconst 0, 1) := by decide +kernel
theorem dX10_sheet_2 : decode cX10_sheet 2 = .ok (.iconst 3, 1) := by decide +kernel
theorem dX10_sheet_3 : decode cX10_sheet 3 = .ok (.invokestatic 158, 3) := by decide +kernel
theorem dX10_sheet_6 : decode cX10_sheet 6 = .ok (.ifCond .eq 9, 3) := by decide +kernel
theorem dX10_sheet_9 : decode cX10_sheet 9 = .ok (.iload_n 2, 1) := by decide +kernel
theorem dX10_sheet_10 : decode cX10_sheet 10 = .ok (.bipush 7, 2) := by decide +kernel
theorem dX10_sheet_12 : decode cX10_sheet 12 = .ok (.if_icmp .le 5, 3) := by decide +kernel
theorem dX10_sheet_15 : decode cX10_sheet 15 = .ok (.iconst (-1), 1) := by decide +kernel
theorem dX10_sheet_16 : decode cX10_sheet 16 = .ok (.ireturn, 1) := by decide +kernel
theorem dX10_sheet_17 : decode cX10_sheet 17 = .ok (.iload_n 1, 1) := by decide +kernel
theorem dX10_sheet_18 : decode cX10_sheet 18 = .ok (.iconst 3, 1) := by decide +kernel
theorem dX10_sheet_19 : decode cX10_sheet 19 = .ok (.if_icmp .ne 17, 3) := by decide +kernel
theorem dX10_sheet_22 : decode cX10_sheet 22 = .ok (.aload_n 0, 1) := by decide +kernel
theorem dX10_sheet_23 : decode cX10_sheet 23 = .ok (.getfield 33, 3) := by decide +kernel
theorem dX10_sheet_26 : decode cX10_sheet 26 = .ok (.iload_n 1, 1) := by decide +kernel
theorem dX10_sheet_27 : decode cX10_sheet 27 = .ok (.iconst 0, 1) := by decide +kernel
theorem dX10_sheet_28 : decode cX10_sheet 28 = .ok (.iconst 0, 1) := by decide +kernel
theorem dX10_sheet_29 : decode cX10_sheet 29 = .ok (.iconst 0, 1) := by decide +kernel
theorem dX10_sheet_30 : decode cX10_sheet 30 = .ok (.invokevirtual 181, 3) := by decide +kernel
theorem dX10_sheet_33 : decode cX10_sheet 33 = .ok (.bipush (-3), 2) := by decide +kernel
theorem dX10_sheet_35 : decode cX10_sheet 35 = .ok (.ireturn, 1) := by decide +kernel
theorem dX10_sheet_36 : decode cX10_sheet 36 = .ok (.iload_n 2, 1) := by decide +kernel
theorem dX10_sheet_37 : decode cX10_sheet 37 = .ok (.ifCond .ge 6, 3) := by decide +kernel
theorem dX10_sheet_40 : decode cX10_sheet 40 = .ok (.bipush (-2), 2) := by decide +kernel
theorem dX10_sheet_42 : decode cX10_sheet 42 = .ok (.ireturn, 1) := by decide +kernel
theorem dX10_sheet_43 : decode cX10_sheet 43 = .ok (.aload_n 0, 1) := by decide +kernel
theorem dX10_sheet_44 : decode cX10_sheet 44 = .ok (.getfield 33, 3) := by decide +kernel
theorem dX10_sheet_47 : decode cX10_sheet 47 = .ok (.iload_n 1, 1) := by decide +kernel
theorem dX10_sheet_48 : decode cX10_sheet 48 = .ok (.iload_n 2, 1) := by decide +kernel
theorem dX10_sheet_49 : decode cX10_sheet 49 = .ok (.iload_n 3, 1) := by decide +kernel
theorem dX10_sheet_50 : decode cX10_sheet 50 = .ok (.iload 4, 2) := by decide +kernel
theorem dX10_sheet_52 : decode cX10_sheet 52 = .ok (.invokevirtual 181, 3) := by decide +kernel
theorem dX10_sheet_55 : decode cX10_sheet 55 = .ok (.aload_n 0, 1) := by decide +kernel
theorem dX10_sheet_56 : decode cX10_sheet 56 = .ok (.getfield 33, 3) := by decide +kernel
theorem dX10_sheet_59 : decode cX10_sheet 59 = .ok (.invokevirtual 185, 3) := by decide +kernel
theorem dX10_sheet_62 : decode cX10_sheet 62 = .ok (.ireturn, 1) := by decide +kernel
theorem dX10_hours_0 : decode cX10_hours 0 = .ok (.iload_n 1, 1) := by decide +kernel
theorem dX10_hours_1 : decode cX10_hours 1 = .ok (.iconst 0, 1) := by decide +kernel
theorem dX10_hours_2 : decode cX10_hours 2 = .ok (.bipush 60, 2) := by decide +kernel
theorem dX10_hours_4 : decode cX10_hours 4 = .ok (.invokestatic 158, 3) := by decide +kernel
theorem dX10_hours_7 : decode cX10_hours 7 = .ok (.ifCond .ne 5, 3) := by decide +kernel
theorem dX10_hours_10 : decode cX10_hours 10 = .ok (.iconst (-1), 1) := by decide +kernel
theorem dX10_hours_11 : decode cX10_hours 11 = .ok (.ireturn, 1) := by decide +kernel
theorem dX10_hours_12 : decode cX10_hours 12 = .ok (.aload_n 0, 1) := by decide +kernel
theorem dX10_hours_13 : decode cX10_hours 13 = .ok (.getfield 40, 3) := by decide +kernel
theorem dX10_hours_16 : decode cX10_hours 16 = .ok (.aload_n 0, 1) := by decide +kernel
theorem dX10_hours_17 : decode cX10_hours 17 = .ok (.getfield 33, 3) := by decide +kernel
theorem dX10_hours_20 : decode cX10_hours 20 = .ok (.invokevirtual 188, 3) := by decide +kernel
theorem dX10_hours_23 : decode cX10_hours 23 = .ok (.aload_n 0, 1) := by decide +kernel
theorem dX10_hours_24 : decode cX10_hours 24 = .ok (.getfield 26, 3) := by decide +kernel
theorem dX10_hours_27 : decode cX10_hours 27 = .ok (.invokevirtual 192, 3) := by decide +kernel
theorem dX10_hours_30 : decode cX10_hours 30 = .ok (.aload_n 0, 1) := by decide +kernel
theorem dX10_hours_31 : decode cX10_hours 31 = .ok (.getfield 26, 3) := by decide +kernel
theorem dX10_hours_34 : decode cX10_hours 34 = .ok (.aload_n 0, 1) := by decide +kernel
theorem dX10_hours_35 : decode cX10_hours 35 = .ok (.getfield 33, 3) := by decide +kernel
theorem dX10_hours_38 : decode cX10_hours 38 = .ok (.iload_n 1, 1) := by decide +kernel
theorem dX10_hours_39 : decode cX10_hours 39 = .ok (.invokevirtual 195, 3) := by decide +kernel
theorem dX10_hours_42 : decode cX10_hours 42 = .ok (.istore_n 2, 1) := by decide +kernel
theorem dX10_hours_43 : decode cX10_hours 43 = .ok (.iload_n 1, 1) := by decide +kernel
theorem dX10_hours_44 : decode cX10_hours 44 = .ok (.ifCond .le 14, 3) := by decide +kernel
theorem dX10_hours_47 : decode cX10_hours 47 = .ok (.aload_n 0, 1) := by decide +kernel
theorem dX10_hours_48 : decode cX10_hours 48 = .ok (.getfield 46, 3) := by decide +kernel
theorem dX10_hours_51 : decode cX10_hours 51 = .ok (.aload_n 0, 1) := by decide +kernel
theorem dX10_hours_52 : decode cX10_hours 52 = .ok (.getfield 40, 3) := by decide +kernel
theorem dX10_hours_55 : decode cX10_hours 55 = .ok (.invokevirtual 198, 3) := by decide +kernel
theorem dX10_hours_58 : decode cX10_hours 58 = .ok (.aload_n 0, 1) := by decide +kernel
theorem dX10_hours_59 : decode cX10_hours 59 = .ok (.getfield 19, 3) := by decide +kernel
theorem dX10_hours_62 : decode cX10_hours 62 = .ok (.aload_n 0, 1) := by decide +kernel
theorem dX10_hours_63 : decode cX10_hours 63 = .ok (.getfield 33, 3) := by decide +kernel
theorem dX10_hours_66 : decode cX10_hours 66 = .ok (.getfield 201, 3) := by decide +kernel
theorem dX10_hours_69 : decode cX10_hours 69 = .ok (.aload_n 0, 1) := by decide +kernel
theorem dX10_hours_70 : decode cX10_hours 70 = .ok (.getfield 40, 3) := by decide +kernel
theorem dX10_hours_73 : decode cX10_hours 73 = .ok (.getfield 201, 3) := by decide +kernel
theorem dX10_hours_76 : decode cX10_hours 76 = .ok (.isub, 1) := by decide +kernel
theorem dX10_hours_77 : decode cX10_hours 77 = .ok (.iload_n 2, 1) := by decide +kernel
theorem dX10_hours_78 : decode cX10_hours 78 = .ok (.invokevirtual 204, 3) := by decide +kernel
theorem dX10_hours_81 : decode cX10_hours 81 = .ok (.bipush 100, 2) := by decide +kernel
theorem dX10_hours_83 : decode cX10_hours 83 = .ok (.aload_n 0, 1) := by decide +kernel
theorem dX10_hours_84 : decode cX10_hours 84 = .ok (.getfield 33, 3) := by decide +kernel
theorem dX10_hours_87 : decode cX10_hours 87 = .ok (.getfield 208, 3) := by decide +kernel
theorem dX10_hours_90 : decode cX10_hours 90 = .ok (.iadd, 1) := by decide +kernel
theorem dX10_hours_91 : decode cX10_hours 91 = .ok (.ireturn, 1) := by decide +kernel
theorem dX10_tells_0 : decode cX10_tells 0 = .ok (.aload_n 0, 1) := by decide +kernel
theorem dX10_tells_1 : decode cX10_tells 1 = .ok (.getfield 40, 3) := by decide +kernel
theorem dX10_tells_4 : decode cX10_tells 4 = .ok (.aload_n 0, 1) := by decide +kernel
theorem dX10_tells_5 : decode cX10_tells 5 = .ok (.getfield 33, 3) := by decide +kernel
theorem dX10_tells_8 : decode cX10_tells 8 = .ok (.invokevirtual 188, 3) := by decide +kernel
theorem dX10_tells_11 : decode cX10_tells 11 = .ok (.aload_n 0, 1) := by decide +kernel
theorem dX10_tells_12 : decode cX10_tells 12 = .ok (.aload_n 0, 1) := by decide +kernel
theorem dX10_tells_13 : decode cX10_tells 13 = .ok (.getfield 33, 3) := by decide +kernel
theorem dX10_tells_16 : decode cX10_tells 16 = .ok (.iload_n 1, 1) := by decide +kernel
theorem dX10_tells_17 : decode cX10_tells 17 = .ok (.iload_n 2, 1) := by decide +kernel
theorem dX10_tells_18 : decode cX10_tells 18 = .ok (.invokevirtual 211, 3) := by decide +kernel
theorem dX10_tells_21 : decode cX10_tells 21 = .ok (.invokevirtual 214, 3) := by decide +kernel
theorem dX10_tells_24 : decode cX10_tells 24 = .ok (.ireturn, 1) := by decide +kernel
theorem dX10_moves_0 : decode cX10_moves 0 = .ok (.aload_n 0, 1) := by decide +kernel
theorem dX10_moves_1 : decode cX10_moves 1 = .ok (.getfield 40, 3) := by decide +kernel
theorem dX10_moves_4 : decode cX10_moves 4 = .ok (.aload_n 0, 1) := by decide +kernel
theorem dX10_moves_5 : decode cX10_moves 5 = .ok (.getfield 33, 3) := by decide +kernel
theorem dX10_moves_8 : decode cX10_moves 8 = .ok (.invokevirtual 188, 3) := by decide +kernel
theorem dX10_moves_11 : decode cX10_moves 11 = .ok (.aload_n 0, 1) := by decide +kernel
theorem dX10_moves_12 : decode cX10_moves 12 = .ok (.aload_n 0, 1) := by decide +kernel
theorem dX10_moves_13 : decode cX10_moves 13 = .ok (.getfield 33, 3) := by decide +kernel
theorem dX10_moves_16 : decode cX10_moves 16 = .ok (.iload_n 1, 1) := by decide +kernel
theorem dX10_moves_17 : decode cX10_moves 17 = .ok (.iload_n 2, 1) := by decide +kernel
theorem dX10_moves_18 : decode cX10_moves 18 = .ok (.invokevirtual 217, 3) := by decide +kernel
theorem dX10_moves_21 : decode cX10_moves 21 = .ok (.invokevirtual 214, 3) := by decide +kernel
theorem dX10_moves_24 : decode cX10_moves 24 = .ok (.ireturn, 1) := by decide +kernel
theorem dX10_eases_0 : decode cX10_eases 0 = .ok (.aload_n 0, 1) := by decide +kernel
theorem dX10_eases_1 : decode cX10_eases 1 = .ok (.getfield 40, 3) := by decide +kernel
theorem dX10_eases_4 : decode cX10_eases 4 = .ok (.aload_n 0, 1) := by decide +kernel
theorem dX10_eases_5 : decode cX10_eases 5 = .ok (.getfield 33, 3) := by decide +kernel
theorem dX10_eases_8 : decode cX10_eases 8 = .ok (.invokevirtual 188, 3) := by decide +kernel
theorem dX10_eases_11 : decode cX10_eases 11 = .ok (.aload_n 0, 1) := by decide +kernel
theorem dX10_eases_12 : decode cX10_eases 12 = .ok (.aload_n 0, 1) := by decide +kernel
theorem dX10_eases_13 : decode cX10_eases 13 = .ok (.getfield 33, 3) := by decide +kernel
theorem dX10_eases_16 : decode cX10_eases 16 = .ok (.iload_n 1, 1) := by decide +kernel
theorem dX10_eases_17 : decode cX10_eases 17 = .ok (.invokevirtual 220, 3) := by decide +kernel
theorem dX10_eases_20 : decode cX10_eases 20 = .ok (.invokevirtual 214, 3) := by decide +kernel
theorem dX10_eases_23 : decode cX10_eases 23 = .ok (.ireturn, 1) := by decide +kernel
theorem dX10_preaches_0 : decode cX10_preaches 0 = .ok (.aload_n 0, 1) := by decide +kernel
theorem dX10_preaches_1 : decode cX10_preaches 1 = .ok (.getfield 40, 3) := by decide +kernel
theorem dX10_preaches_4 : decode cX10_preaches 4 = .ok (.aload_n 0, 1) := by decide +kernel
theorem dX10_preaches_5 : decode cX10_preaches 5 = .ok (.getfield 33, 3) := by decide +kernel
theorem dX10_preaches_8 : decode cX10_preaches 8 = .ok (.invokevirtual 188, 3) := by decide +kernel
theorem dX10_preaches_11 : decode cX10_preaches 11 = .ok (.aload_n 0, 1) := by decide +kernel
theorem dX10_preaches_12 : decode cX10_preaches 12 = .ok (.aload_n 0, 1) := by decide +kernel
theorem dX10_preaches_13 : decode cX10_preaches 13 = .ok (.getfield 33, 3) := by decide +kernel
theorem dX10_preaches_16 : decode cX10_preaches 16 = .ok (.iload_n 1, 1) := by decide +kernel
theorem dX10_preaches_17 : decode cX10_preaches 17 = .ok (.iload_n 2, 1) := by decide +kernel
theorem dX10_preaches_18 : decode cX10_preaches 18 = .ok (.invokevirtual 223, 3) := by decide +kernel
theorem dX10_preaches_21 : decode cX10_preaches 21 = .ok (.invokevirtual 214, 3) := by decide +kernel
theorem dX10_preaches_24 : decode cX10_preaches 24 = .ok (.ireturn, 1) := by decide +kernel
theorem dX10_sails_0 : decode cX10_sails 0 = .ok (.aload_n 0, 1) := by decide +kernel
theorem dX10_sails_1 : decode cX10_sails 1 = .ok (.getfield 40, 3) := by decide +kernel
theorem dX10_sails_4 : decode cX10_sails 4 = .ok (.aload_n 0, 1) := by decide +kernel
theorem dX10_sails_5 : decode cX10_sails 5 = .ok (.getfield 33, 3) := by decide +kernel
theorem dX10_sails_8 : decode cX10_sails 8 = .ok (.invokevirtual 188, 3) := by decide +kernel
theorem dX10_sails_11 : decode cX10_sails 11 = .ok (.aload_n 0, 1) := by decide +kernel
theorem dX10_sails_12 : decode cX10_sails 12 = .ok (.aload_n 0, 1) := by decide +kernel
theorem dX10_sails_13 : decode cX10_sails 13 = .ok (.getfield 33, 3) := by decide +kernel
theorem dX10_sails_16 : decode cX10_sails 16 = .ok (.iload_n 1, 1) := by decide +kernel
theorem dX10_sails_17 : decode cX10_sails 17 = .ok (.invokevirtual 226, 3) := by decide +kernel
theorem dX10_sails_20 : decode cX10_sails 20 = .ok (.invokevirtual 214, 3) := by decide +kernel
theorem dX10_sails_23 : decode cX10_sails 23 = .ok (.ireturn, 1) := by decide +kernel
theorem dX10_watch_0 : decode cX10_watch 0 = .ok (.aload_n 0, 1) := by decide +kernel
theorem dX10_watch_1 : decode cX10_watch 1 = .ok (.getfield 10, 3) := by decide +kernel
theorem dX10_watch_4 : decode cX10_watch 4 = .ok (.invokevirtual 229, 3) := by decide +kernel
theorem dX10_watch_7 : decode cX10_watch 7 = .ok (.istore_n 1, 1) := by decide +kernel
theorem dX10_watch_8 : decode cX10_watch 8 = .ok (.iload_n 1, 1) := by decide +kernel
theorem dX10_watch_9 : decode cX10_watch 9 = .ok (.iconst (-1), 1) := by decide +kernel
theorem dX10_watch_10 : decode cX10_watch 10 = .ok (.if_icmp .eq 14, 3) := by decide +kernel
theorem dX10_watch_13 : decode cX10_watch 13 = .ok (.aload_n 0, 1) := by decide +kernel
theorem dX10_watch_14 : decode cX10_watch 14 = .ok (.getfield 10, 3) := by decide +kernel
theorem dX10_watch_17 : decode cX10_watch 17 = .ok (.invokevirtual 123, 3) := by decide +kernel
theorem dX10_watch_20 : decode cX10_watch 20 = .ok (.iconst (-1), 1) := by decide +kernel
theorem dX10_watch_21 : decode cX10_watch 21 = .ok (.iload_n 1, 1) := by decide +kernel
theorem dX10_watch_22 : decode cX10_watch 22 = .ok (.isub, 1) := by decide +kernel
theorem dX10_watch_23 : decode cX10_watch 23 = .ok (.ireturn, 1) := by decide +kernel
theorem dX10_watch_24 : decode cX10_watch 24 = .ok (.aload_n 0, 1) := by decide +kernel
theorem dX10_watch_25 : decode cX10_watch 25 = .ok (.getfield 40, 3) := by decide +kernel
theorem dX10_watch_28 : decode cX10_watch 28 = .ok (.aload_n 0, 1) := by decide +kernel
theorem dX10_watch_29 : decode cX10_watch 29 = .ok (.getfield 33, 3) := by decide +kernel
theorem dX10_watch_32 : decode cX10_watch 32 = .ok (.invokevirtual 188, 3) := by decide +kernel
theorem dX10_watch_35 : decode cX10_watch 35 = .ok (.iconst 0, 1) := by decide +kernel
theorem dX10_watch_36 : decode cX10_watch 36 = .ok (.istore_n 2, 1) := by decide +kernel
theorem dX10_watch_37 : decode cX10_watch 37 = .ok (.iconst 0, 1) := by decide +kernel
theorem dX10_watch_38 : decode cX10_watch 38 = .ok (.istore_n 3, 1) := by decide +kernel
theorem dX10_watch_39 : decode cX10_watch 39 = .ok (.iconst 0, 1) := by decide +kernel
theorem dX10_watch_40 : decode cX10_watch 40 = .ok (.istore 4, 2) := by decide +kernel
theorem dX10_watch_42 : decode cX10_watch 42 = .ok (.iload 4, 2) := by decide +kernel
theorem dX10_watch_44 : decode cX10_watch 44 = .ok (.aload_n 0, 1) := by decide +kernel
theorem dX10_watch_45 : decode cX10_watch 45 = .ok (.getfield 10, 3) := by decide +kernel
theorem dX10_watch_48 : decode cX10_watch 48 = .ok (.getfield 108, 3) := by decide +kernel
theorem dX10_watch_51 : decode cX10_watch 51 = .ok (.if_icmp .ge 61, 3) := by decide +kernel
theorem dX10_watch_54 : decode cX10_watch 54 = .ok (.iload_n 3, 1) := by decide +kernel
theorem dX10_watch_55 : decode cX10_watch 55 = .ok (.ifCond .ne 57, 3) := by decide +kernel
theorem dX10_watch_58 : decode cX10_watch 58 = .ok (.aload_n 0, 1) := by decide +kernel
theorem dX10_watch_59 : decode cX10_watch 59 = .ok (.iload 4, 2) := by decide +kernel
theorem dX10_watch_61 : decode cX10_watch 61 = .ok (.invokevirtual 232, 3) := by decide +kernel
theorem dX10_watch_64 : decode cX10_watch 64 = .ok (.ifCond .ge 7, 3) := by decide +kernel
theorem dX10_watch_67 : decode cX10_watch 67 = .ok (.iconst 1, 1) := by decide +kernel
theorem dX10_watch_68 : decode cX10_watch 68 = .ok (.goto 4, 3) := by decide +kernel
theorem dX10_watch_71 : decode cX10_watch 71 = .ok (.iconst 0, 1) := by decide +kernel
theorem dX10_watch_72 : decode cX10_watch 72 = .ok (.istore_n 3, 1) := by decide +kernel
theorem dX10_watch_73 : decode cX10_watch 73 = .ok (.iload_n 2, 1) := by decide +kernel
theorem dX10_watch_74 : decode cX10_watch 74 = .ok (.iload_n 3, 1) := by decide +kernel
theorem dX10_watch_75 : decode cX10_watch 75 = .ok (.ifCond .eq 7, 3) := by decide +kernel
theorem dX10_watch_78 : decode cX10_watch 78 = .ok (.iconst 0, 1) := by decide +kernel
theorem dX10_watch_79 : decode cX10_watch 79 = .ok (.goto 4, 3) := by decide +kernel
theorem dX10_watch_82 : decode cX10_watch 82 = .ok (.iconst 1, 1) := by decide +kernel
theorem dX10_watch_83 : decode cX10_watch 83 = .ok (.iadd, 1) := by decide +kernel
theorem dX10_watch_84 : decode cX10_watch 84 = .ok (.istore_n 2, 1) := by decide +kernel
theorem dX10_watch_85 : decode cX10_watch 85 = .ok (.iload 4, 2) := by decide +kernel
theorem dX10_watch_87 : decode cX10_watch 87 = .ok (.iconst 1, 1) := by decide +kernel
theorem dX10_watch_88 : decode cX10_watch 88 = .ok (.aload_n 0, 1) := by decide +kernel
theorem dX10_watch_89 : decode cX10_watch 89 = .ok (.getfield 10, 3) := by decide +kernel
theorem dX10_watch_92 : decode cX10_watch 92 = .ok (.iload 4, 2) := by decide +kernel
theorem dX10_watch_94 : decode cX10_watch 94 = .ok (.invokevirtual 235, 3) := by decide +kernel
theorem dX10_watch_97 : decode cX10_watch 97 = .ok (.invokestatic 238, 3) := by decide +kernel
theorem dX10_watch_100 : decode cX10_watch 100 = .ok (.invokevirtual 242, 3) := by decide +kernel
theorem dX10_watch_103 : decode cX10_watch 103 = .ok (.invokestatic 247, 3) := by decide +kernel
theorem dX10_watch_106 : decode cX10_watch 106 = .ok (.iadd, 1) := by decide +kernel
theorem dX10_watch_107 : decode cX10_watch 107 = .ok (.istore 4, 2) := by decide +kernel
theorem dX10_watch_109 : decode cX10_watch 109 = .ok (.goto (-67), 3) := by decide +kernel
theorem dX10_watch_112 : decode cX10_watch 112 = .ok (.aload_n 0, 1) := by decide +kernel
theorem dX10_watch_113 : decode cX10_watch 113 = .ok (.getfield 10, 3) := by decide +kernel
theorem dX10_watch_116 : decode cX10_watch 116 = .ok (.invokevirtual 123, 3) := by decide +kernel
theorem dX10_watch_119 : decode cX10_watch 119 = .ok (.iload_n 2, 1) := by decide +kernel
theorem dX10_watch_120 : decode cX10_watch 120 = .ok (.ifCond .le 14, 3) := by decide +kernel
theorem dX10_watch_123 : decode cX10_watch 123 = .ok (.aload_n 0, 1) := by decide +kernel
theorem dX10_watch_124 : decode cX10_watch 124 = .ok (.getfield 46, 3) := by decide +kernel
theorem dX10_watch_127 : decode cX10_watch 127 = .ok (.aload_n 0, 1) := by decide +kernel
theorem dX10_watch_128 : decode cX10_watch 128 = .ok (.getfield 40, 3) := by decide +kernel
theorem dX10_watch_131 : decode cX10_watch 131 = .ok (.invokevirtual 198, 3) := by decide +kernel
theorem dX10_watch_134 : decode cX10_watch 134 = .ok (.aload_n 0, 1) := by decide +kernel
theorem dX10_watch_135 : decode cX10_watch 135 = .ok (.getfield 19, 3) := by decide +kernel
theorem dX10_watch_138 : decode cX10_watch 138 = .ok (.iload_n 3, 1) := by decide +kernel
theorem dX10_watch_139 : decode cX10_watch 139 = .ok (.ifCond .eq 7, 3) := by decide +kernel
theorem dX10_watch_142 : decode cX10_watch 142 = .ok (.iconst 1, 1) := by decide +kernel
theorem dX10_watch_143 : decode cX10_watch 143 = .ok (.goto 4, 3) := by decide +kernel
theorem dX10_watch_146 : decode cX10_watch 146 = .ok (.iconst 0, 1) := by decide +kernel
theorem dX10_watch_147 : decode cX10_watch 147 = .ok (.bipush 100, 2) := by decide +kernel
theorem dX10_watch_149 : decode cX10_watch 149 = .ok (.aload_n 0, 1) := by decide +kernel
theorem dX10_watch_150 : decode cX10_watch 150 = .ok (.getfield 33, 3) := by decide +kernel
theorem dX10_watch_153 : decode cX10_watch 153 = .ok (.getfield 208, 3) := by decide +kernel
theorem dX10_watch_156 : decode cX10_watch 156 = .ok (.iadd, 1) := by decide +kernel
theorem dX10_watch_157 : decode cX10_watch 157 = .ok (.invokevirtual 204, 3) := by decide +kernel
theorem dX10_watch_160 : decode cX10_watch 160 = .ok (.iload_n 2, 1) := by decide +kernel
theorem dX10_watch_161 : decode cX10_watch 161 = .ok (.ireturn, 1) := by decide +kernel
theorem dX10_undo_0 : decode cX10_undo 0 = .ok (.aload_n 0, 1) := by decide +kernel
theorem dX10_undo_1 : decode cX10_undo 1 = .ok (.getfield 46, 3) := by decide +kernel
theorem dX10_undo_4 : decode cX10_undo 4 = .ok (.aload_n 0, 1) := by decide +kernel
theorem dX10_undo_5 : decode cX10_undo 5 = .ok (.getfield 33, 3) := by decide +kernel
theorem dX10_undo_8 : decode cX10_undo 8 = .ok (.invokevirtual 252, 3) := by decide +kernel
theorem dX10_undo_11 : decode cX10_undo 11 = .ok (.ifCond .eq 13, 3) := by decide +kernel
theorem dX10_undo_14 : decode cX10_undo 14 = .ok (.aload_n 0, 1) := by decide +kernel
theorem dX10_undo_15 : decode cX10_undo 15 = .ok (.getfield 46, 3) := by decide +kernel
theorem dX10_undo_18 : decode cX10_undo 18 = .ok (.getfield 256, 3) := by decide +kernel
theorem dX10_undo_21 : decode cX10_undo 21 = .ok (.goto 4, 3) := by decide +kernel
theorem dX10_undo_24 : decode cX10_undo 24 = .ok (.iconst (-1), 1) := by decide +kernel
theorem dX10_undo_25 : decode cX10_undo 25 = .ok (.ireturn, 1) := by decide +kernel
theorem dX10_remembered_0 : decode cX10_remembered 0 = .ok (.iload_n 1, 1) := by decide +kernel
theorem dX10_remembered_1 : decode cX10_remembered 1 = .ok (.ifCond .lt 14, 3) := by decide +kernel
theorem dX10_remembered_4 : decode cX10_remembered 4 = .ok (.aload_n 0, 1) := by decide +kernel
theorem dX10_remembered_5 : decode cX10_remembered 5 = .ok (.getfield 46, 3) := by decide +kernel
theorem dX10_remembered_8 : decode cX10_remembered 8 = .ok (.aload_n 0, 1) := by decide +kernel
theorem dX10_remembered_9 : decode cX10_remembered 9 = .ok (.getfield 40, 3) := by decide +kernel
theorem dX10_remembered_12 : decode cX10_remembered 12 = .ok (.invokevirtual 198, 3) := by decide +kernel
theorem dX10_remembered_15 : decode cX10_remembered 15 = .ok (.iload_n 1, 1) := by decide +kernel
theorem dX10_remembered_16 : decode cX10_remembered 16 = .ok (.ireturn, 1) := by decide +kernel
theorem dX10_act_0 : decode cX10_act 0 = .ok (.aload_n 0, 1) := by decide +kernel
theorem dX10_act_1 : decode cX10_act 1 = .ok (.getfield 10, 3) := by decide +kernel
theorem dX10_act_4 : decode cX10_act 4 = .ok (.iload_n 1, 1) := by decide +kernel
theorem dX10_act_5 : decode cX10_act 5 = .ok (.invokevirtual 235, 3) := by decide +kernel
theorem dX10_act_8 : decode cX10_act 8 = .ok (.tableswitch 229 101 116 #[165, 229, 229, 229, 229, 229, 229, 229, 137, 80, 229, 183, 229, 229, 211, 109], 80) := by decide +kernel
theorem dX10_act_88 : decode cX10_act 88 = .ok (.aload_n 0, 1) := by decide +kernel
theorem dX10_act_89 : decode cX10_act 89 = .ok (.getfield 26, 3) := by decide +kernel
theorem dX10_act_92 : decode cX10_act 92 = .ok (.invokevirtual 192, 3) := by decide +kernel
theorem dX10_act_95 : decode cX10_act 95 = .ok (.aload_n 0, 1) := by decide +kernel
theorem dX10_act_96 : decode cX10_act 96 = .ok (.getfield 26, 3) := by decide +kernel
theorem dX10_act_99 : decode cX10_act 99 = .ok (.aload_n 0, 1) := by decide +kernel
theorem dX10_act_100 : decode cX10_act 100 = .ok (.getfield 33, 3) := by decide +kernel
theorem dX10_act_103 : decode cX10_act 103 = .ok (.aload_n 0, 1) := by decide +kernel
theorem dX10_act_104 : decode cX10_act 104 = .ok (.getfield 10, 3) := by decide +kernel
theorem dX10_act_107 : decode cX10_act 107 = .ok (.iload_n 1, 1) := by decide +kernel
theorem dX10_act_108 : decode cX10_act 108 = .ok (.iconst 1, 1) := by decide +kernel
theorem dX10_act_109 : decode cX10_act 109 = .ok (.iadd, 1) := by decide +kernel
theorem dX10_act_110 : decode cX10_act 110 = .ok (.invokevirtual 257, 3) := by decide +kernel
theorem dX10_act_113 : decode cX10_act 113 = .ok (.invokevirtual 195, 3) := by decide +kernel
theorem dX10_act_116 : decode cX10_act 116 = .ok (.ireturn, 1) := by decide +kernel
theorem dX10_act_117 : decode cX10_act 117 = .ok (.aload_n 0, 1) := by decide +kernel
theorem dX10_act_118 : decode cX10_act 118 = .ok (.getfield 33, 3) := by decide +kernel
theorem dX10_act_121 : decode cX10_act 121 = .ok (.aload_n 0, 1) := by decide +kernel
theorem dX10_act_122 : decode cX10_act 122 = .ok (.getfield 10, 3) := by decide +kernel
theorem dX10_act_125 : decode cX10_act 125 = .ok (.iload_n 1, 1) := by decide +kernel
theorem dX10_act_126 : decode cX10_act 126 = .ok (.iconst 1, 1) := by decide +kernel
theorem dX10_act_127 : decode cX10_act 127 = .ok (.iadd, 1) := by decide +kernel
theorem dX10_act_128 : decode cX10_act 128 = .ok (.invokevirtual 257, 3) := by decide +kernel
theorem dX10_act_131 : decode cX10_act 131 = .ok (.aload_n 0, 1) := by decide +kernel
theorem dX10_act_132 : decode cX10_act 132 = .ok (.getfield 10, 3) := by decide +kernel
theorem dX10_act_135 : decode cX10_act 135 = .ok (.iload_n 1, 1) := by decide +kernel
theorem dX10_act_136 : decode cX10_act 136 = .ok (.iconst 2, 1) := by decide +kernel
theorem dX10_act_137 : decode cX10_act 137 = .ok (.iadd, 1) := by decide +kernel
theorem dX10_act_138 : decode cX10_act 138 = .ok (.invokevirtual 257, 3) := by decide +kernel
theorem dX10_act_141 : decode cX10_act 141 = .ok (.invokevirtual 211, 3) := by decide +kernel
theorem dX10_act_144 : decode cX10_act 144 = .ok (.ireturn, 1) := by decide +kernel
theorem dX10_act_145 : decode cX10_act 145 = .ok (.aload_n 0, 1) := by decide +kernel
theorem dX10_act_146 : decode cX10_act 146 = .ok (.getfield 33, 3) := by decide +kernel
theorem dX10_act_149 : decode cX10_act 149 = .ok (.aload_n 0, 1) := by decide +kernel
theorem dX10_act_150 : decode cX10_act 150 = .ok (.getfield 10, 3) := by decide +kernel
theorem dX10_act_153 : decode cX10_act 153 = .ok (.iload_n 1, 1) := by decide +kernel
theorem dX10_act_154 : decode cX10_act 154 = .ok (.iconst 1, 1) := by decide +kernel
theorem dX10_act_155 : decode cX10_act 155 = .ok (.iadd, 1) := by decide +kernel
theorem dX10_act_156 : decode cX10_act 156 = .ok (.invokevirtual 257, 3) := by decide +kernel
theorem dX10_act_159 : decode cX10_act 159 = .ok (.aload_n 0, 1) := by decide +kernel
theorem dX10_act_160 : decode cX10_act 160 = .ok (.getfield 10, 3) := by decide +kernel
theorem dX10_act_163 : decode cX10_act 163 = .ok (.iload_n 1, 1) := by decide +kernel
theorem dX10_act_164 : decode cX10_act 164 = .ok (.iconst 2, 1) := by decide +kernel
theorem dX10_act_165 : decode cX10_act 165 = .ok (.iadd, 1) := by decide +kernel
theorem dX10_act_166 : decode cX10_act 166 = .ok (.invokevirtual 260, 3) := by decide +kernel
theorem dX10_act_169 : decode cX10_act 169 = .ok (.invokevirtual 217, 3) := by decide +kernel
theorem dX10_act_172 : decode cX10_act 172 = .ok (.ireturn, 1) := by decide +kernel
theorem dX10_act_173 : decode cX10_act 173 = .ok (.aload_n 0, 1) := by decide +kernel
theorem dX10_act_174 : decode cX10_act 174 = .ok (.getfield 33, 3) := by decide +kernel
theorem dX10_act_177 : decode cX10_act 177 = .ok (.aload_n 0, 1) := by decide +kernel
theorem dX10_act_178 : decode cX10_act 178 = .ok (.getfield 10, 3) := by decide +kernel
theorem dX10_act_181 : decode cX10_act 181 = .ok (.iload_n 1, 1) := by decide +kernel
theorem dX10_act_182 : decode cX10_act 182 = .ok (.iconst 1, 1) := by decide +kernel
theorem dX10_act_183 : decode cX10_act 183 = .ok (.iadd, 1) := by decide +kernel
theorem dX10_act_184 : decode cX10_act 184 = .ok (.invokevirtual 257, 3) := by decide +kernel
theorem dX10_act_187 : decode cX10_act 187 = .ok (.invokevirtual 220, 3) := by decide +kernel
theorem dX10_act_190 : decode cX10_act 190 = .ok (.ireturn, 1) := by decide +kernel
theorem dX10_act_191 : decode cX10_act 191 = .ok (.aload_n 0, 1) := by decide +kernel
theorem dX10_act_192 : decode cX10_act 192 = .ok (.getfield 33, 3) := by decide +kernel
theorem dX10_act_195 : decode cX10_act 195 = .ok (.aload_n 0, 1) := by decide +kernel
theorem dX10_act_196 : decode cX10_act 196 = .ok (.getfield 10, 3) := by decide +kernel
theorem dX10_act_199 : decode cX10_act 199 = .ok (.iload_n 1, 1) := by decide +kernel
theorem dX10_act_200 : decode cX10_act 200 = .ok (.iconst 1, 1) := by decide +kernel
theorem dX10_act_201 : decode cX10_act 201 = .ok (.iadd, 1) := by decide +kernel
theorem dX10_act_202 : decode cX10_act 202 = .ok (.invokevirtual 257, 3) := by decide +kernel
theorem dX10_act_205 : decode cX10_act 205 = .ok (.aload_n 0, 1) := by decide +kernel
theorem dX10_act_206 : decode cX10_act 206 = .ok (.getfield 10, 3) := by decide +kernel
theorem dX10_act_209 : decode cX10_act 209 = .ok (.iload_n 1, 1) := by decide +kernel
theorem dX10_act_210 : decode cX10_act 210 = .ok (.iconst 2, 1) := by decide +kernel
theorem dX10_act_211 : decode cX10_act 211 = .ok (.iadd, 1) := by decide +kernel
theorem dX10_act_212 : decode cX10_act 212 = .ok (.invokevirtual 257, 3) := by decide +kernel
theorem dX10_act_215 : decode cX10_act 215 = .ok (.invokevirtual 223, 3) := by decide +kernel
theorem dX10_act_218 : decode cX10_act 218 = .ok (.ireturn, 1) := by decide +kernel
theorem dX10_act_219 : decode cX10_act 219 = .ok (.aload_n 0, 1) := by decide +kernel
theorem dX10_act_220 : decode cX10_act 220 = .ok (.getfield 33, 3) := by decide +kernel
theorem dX10_act_223 : decode cX10_act 223 = .ok (.aload_n 0, 1) := by decide +kernel
theorem dX10_act_224 : decode cX10_act 224 = .ok (.getfield 10, 3) := by decide +kernel
theorem dX10_act_227 : decode cX10_act 227 = .ok (.iload_n 1, 1) := by decide +kernel
theorem dX10_act_228 : decode cX10_act 228 = .ok (.iconst 1, 1) := by decide +kernel
theorem dX10_act_229 : decode cX10_act 229 = .ok (.iadd, 1) := by decide +kernel
theorem dX10_act_230 : decode cX10_act 230 = .ok (.invokevirtual 257, 3) := by decide +kernel
theorem dX10_act_233 : decode cX10_act 233 = .ok (.invokevirtual 226, 3) := by decide +kernel
theorem dX10_act_236 : decode cX10_act 236 = .ok (.ireturn, 1) := by decide +kernel
theorem dX10_act_237 : decode cX10_act 237 = .ok (.iconst (-1), 1) := by decide +kernel
theorem dX10_act_238 : decode cX10_act 238 = .ok (.ireturn, 1) := by decide +kernel
theorem dX10_moment_0 : decode cX10_moment 0 = .ok (.aload_n 0, 1) := by decide +kernel
theorem dX10_moment_1 : decode cX10_moment 1 = .ok (.invokevirtual 263, 3) := by decide +kernel
theorem dX10_moment_4 : decode cX10_moment 4 = .ok (.iconst 0, 1) := by decide +kernel
theorem dX10_moment_5 : decode cX10_moment 5 = .ok (.istore_n 1, 1) := by decide +kernel
theorem dX10_moment_6 : decode cX10_moment 6 = .ok (.iconst 0, 1) := by decide +kernel
theorem dX10_moment_7 : decode cX10_moment 7 = .ok (.istore_n 2, 1) := by decide +kernel
theorem dX10_moment_8 : decode cX10_moment 8 = .ok (.iconst 0, 1) := by decide +kernel
theorem dX10_moment_9 : decode cX10_moment 9 = .ok (.istore_n 3, 1) := by decide +kernel
theorem dX10_moment_10 : decode cX10_moment 10 = .ok (.iload_n 3, 1) := by decide +kernel
theorem dX10_moment_11 : decode cX10_moment 11 = .ok (.aload_n 0, 1) := by decide +kernel
theorem dX10_moment_12 : decode cX10_moment 12 = .ok (.getfield 33, 3) := by decide +kernel
theorem dX10_moment_15 : decode cX10_moment 15 = .ok (.getfield 126, 3) := by decide +kernel
theorem dX10_moment_18 : decode cX10_moment 18 = .ok (.if_icmp .ge 46, 3) := by decide +kernel
theorem dX10_moment_21 : decode cX10_moment 21 = .ok (.aload_n 0, 1) := by decide +kernel
theorem dX10_moment_22 : decode cX10_moment 22 = .ok (.getfield 91, 3) := by decide +kernel
theorem dX10_moment_25 : decode cX10_moment 25 = .ok (.iload_n 3, 1) := by decide +kernel
theorem dX10_moment_26 : decode cX10_moment 26 = .ok (.iaload, 1) := by decide +kernel
theorem dX10_moment_27 : decode cX10_moment 27 = .ok (.aload_n 0, 1) := by decide +kernel
theorem dX10_moment_28 : decode cX10_moment 28 = .ok (.getfield 33, 3) := by decide +kernel
theorem dX10_moment_31 : decode cX10_moment 31 = .ok (.getfield 171, 3) := by decide +kernel
theorem dX10_moment_34 : decode cX10_moment 34 = .ok (.iload_n 3, 1) := by decide +kernel
theorem dX10_moment_35 : decode cX10_moment 35 = .ok (.iaload, 1) := by decide +kernel
theorem dX10_moment_36 : decode cX10_moment 36 = .ok (.imul, 1) := by decide +kernel
theorem dX10_moment_37 : decode cX10_moment 37 = .ok (.istore 4, 2) := by decide +kernel
theorem dX10_moment_39 : decode cX10_moment 39 = .ok (.iload_n 1, 1) := by decide +kernel
theorem dX10_moment_40 : decode cX10_moment 40 = .ok (.iload 4, 2) := by decide +kernel
theorem dX10_moment_42 : decode cX10_moment 42 = .ok (.iconst 0, 1) := by decide +kernel
theorem dX10_moment_43 : decode cX10_moment 43 = .ok (.invokestatic 247, 3) := by decide +kernel
theorem dX10_moment_46 : decode cX10_moment 46 = .ok (.iadd, 1) := by decide +kernel
theorem dX10_moment_47 : decode cX10_moment 47 = .ok (.istore_n 1, 1) := by decide +kernel
theorem dX10_moment_48 : decode cX10_moment 48 = .ok (.iload_n 2, 1) := by decide +kernel
theorem dX10_moment_49 : decode cX10_moment 49 = .ok (.iload 4, 2) := by decide +kernel
theorem dX10_moment_51 : decode cX10_moment 51 = .ok (.ineg, 1) := by decide +kernel
theorem dX10_moment_52 : decode cX10_moment 52 = .ok (.iconst 0, 1) := by decide +kernel
theorem dX10_moment_53 : decode cX10_moment 53 = .ok (.invokestatic 247, 3) := by decide +kernel
theorem dX10_moment_56 : decode cX10_moment 56 = .ok (.iadd, 1) := by decide +kernel
theorem dX10_moment_57 : decode cX10_moment 57 = .ok (.istore_n 2, 1) := by decide +kernel
theorem dX10_moment_58 : decode cX10_moment 58 = .ok (.iinc 3 1, 3) := by decide +kernel
theorem dX10_moment_61 : decode cX10_moment 61 = .ok (.goto (-51), 3) := by decide +kernel
theorem dX10_moment_64 : decode cX10_moment 64 = .ok (.aload_n 0, 1) := by decide +kernel
theorem dX10_moment_65 : decode cX10_moment 65 = .ok (.getfield 26, 3) := by decide +kernel
theorem dX10_moment_68 : decode cX10_moment 68 = .ok (.aload_n 0, 1) := by decide +kernel
theorem dX10_moment_69 : decode cX10_moment 69 = .ok (.getfield 33, 3) := by decide +kernel
theorem dX10_moment_72 : decode cX10_moment 72 = .ok (.getfield 266, 3) := by decide +kernel
theorem dX10_moment_75 : decode cX10_moment 75 = .ok (.invokevirtual 269, 3) := by decide +kernel
theorem dX10_moment_78 : decode cX10_moment 78 = .ok (.istore_n 3, 1) := by decide +kernel
theorem dX10_moment_79 : decode cX10_moment 79 = .ok (.iload_n 1, 1) := by decide +kernel
theorem dX10_moment_80 : decode cX10_moment 80 = .ok (.iload_n 2, 1) := by decide +kernel
theorem dX10_moment_81 : decode cX10_moment 81 = .ok (.isub, 1) := by decide +kernel
theorem dX10_moment_82 : decode cX10_moment 82 = .ok (.istore 4, 2) := by decide +kernel
theorem dX10_moment_84 : decode cX10_moment 84 = .ok (.aload_n 0, 1) := by decide +kernel
theorem dX10_moment_85 : decode cX10_moment 85 = .ok (.getfield 19, 3) := by decide +kernel
theorem dX10_moment_88 : decode cX10_moment 88 = .ok (.bipush 100, 2) := by decide +kernel
theorem dX10_moment_90 : decode cX10_moment 90 = .ok (.iload 4, 2) := by decide +kernel
theorem dX10_moment_92 : decode cX10_moment 92 = .ok (.iload_n 3, 1) := by decide +kernel
theorem dX10_moment_93 : decode cX10_moment 93 = .ok (.aload_n 0, 1) := by decide +kernel
theorem dX10_moment_94 : decode cX10_moment 94 = .ok (.getfield 33, 3) := by decide +kernel
theorem dX10_moment_97 : decode cX10_moment 97 = .ok (.getfield 272, 3) := by decide +kernel
theorem dX10_moment_100 : decode cX10_moment 100 = .ok (.invokestatic 275, 3) := by decide +kernel
theorem dX10_moment_103 : decode cX10_moment 103 = .ok (.iadd, 1) := by decide +kernel
theorem dX10_moment_104 : decode cX10_moment 104 = .ok (.iload_n 1, 1) := by decide +kernel
theorem dX10_moment_105 : decode cX10_moment 105 = .ok (.iload_n 2, 1) := by decide +kernel
theorem dX10_moment_106 : decode cX10_moment 106 = .ok (.invokevirtual 279, 3) := by decide +kernel
theorem dX10_moment_109 : decode cX10_moment 109 = .ok (.sipush 1000, 3) := by decide +kernel
theorem dX10_moment_112 : decode cX10_moment 112 = .ok (.iload 4, 2) := by decide +kernel
theorem dX10_moment_114 : decode cX10_moment 114 = .ok (.iadd, 1) := by decide +kernel
theorem dX10_moment_115 : decode cX10_moment 115 = .ok (.iconst 2, 1) := by decide +kernel
theorem dX10_moment_116 : decode cX10_moment 116 = .ok (.iload_n 3, 1) := by decide +kernel
theorem dX10_moment_117 : decode cX10_moment 117 = .ok (.imul, 1) := by decide +kernel
theorem dX10_moment_118 : decode cX10_moment 118 = .ok (.aload_n 0, 1) := by decide +kernel
theorem dX10_moment_119 : decode cX10_moment 119 = .ok (.getfield 33, 3) := by decide +kernel
theorem dX10_moment_122 : decode cX10_moment 122 = .ok (.getfield 272, 3) := by decide +kernel
theorem dX10_moment_125 : decode cX10_moment 125 = .ok (.imul, 1) := by decide +kernel
theorem dX10_moment_126 : decode cX10_moment 126 = .ok (.iadd, 1) := by decide +kernel
theorem dX10_moment_127 : decode cX10_moment 127 = .ok (.ireturn, 1) := by decide +kernel
theorem dX10_later_0 : decode cX10_later 0 = .ok (.iload_n 1, 1) := by decide +kernel
theorem dX10_later_1 : decode cX10_later 1 = .ok (.iconst 0, 1) := by decide +kernel
theorem dX10_later_2 : decode cX10_later 2 = .ok (.bipush 99, 2) := by decide +kernel
theorem dX10_later_4 : decode cX10_later 4 = .ok (.invokestatic 158, 3) := by decide +kernel
theorem dX10_later_7 : decode cX10_later 7 = .ok (.ifCond .ne 5, 3) := by decide +kernel
theorem dX10_later_10 : decode cX10_later 10 = .ok (.iconst (-1), 1) := by decide +kernel
theorem dX10_later_11 : decode cX10_later 11 = .ok (.ireturn, 1) := by decide +kernel
theorem dX10_later_12 : decode cX10_later 12 = .ok (.aload_n 0, 1) := by decide +kernel
theorem dX10_later_13 : decode cX10_later 13 = .ok (.invokevirtual 282, 3) := by decide +kernel
theorem dX10_later_16 : decode cX10_later 16 = .ok (.aload_n 0, 1) := by decide +kernel
theorem dX10_later_17 : decode cX10_later 17 = .ok (.getfield 26, 3) := by decide +kernel
theorem dX10_later_20 : decode cX10_later 20 = .ok (.aload_n 0, 1) := by decide +kernel
theorem dX10_later_21 : decode cX10_later 21 = .ok (.getfield 37, 3) := by decide +kernel
theorem dX10_later_24 : decode cX10_later 24 = .ok (.iload_n 1, 1) := by decide +kernel
theorem dX10_later_25 : decode cX10_later 25 = .ok (.invokevirtual 195, 3) := by decide +kernel
theorem dX10_later_28 : decode cX10_later 28 = .ok (.pop, 1) := by decide +kernel
theorem dX10_later_29 : decode cX10_later 29 = .ok (.aload_n 0, 1) := by decide +kernel
theorem dX10_later_30 : decode cX10_later 30 = .ok (.getfield 19, 3) := by decide +kernel
theorem dX10_later_33 : decode cX10_later 33 = .ok (.aload_n 0, 1) := by decide +kernel
theorem dX10_later_34 : decode cX10_later 34 = .ok (.getfield 37, 3) := by decide +kernel
theorem dX10_later_37 : decode cX10_later 37 = .ok (.getfield 201, 3) := by decide +kernel
theorem dX10_later_40 : decode cX10_later 40 = .ok (.aload_n 0, 1) := by decide +kernel
theorem dX10_later_41 : decode cX10_later 41 = .ok (.getfield 33, 3) := by decide +kernel
theorem dX10_later_44 : decode cX10_later 44 = .ok (.getfield 201, 3) := by decide +kernel
theorem dX10_later_47 : decode cX10_later 47 = .ok (.isub, 1) := by decide +kernel
theorem dX10_later_48 : decode cX10_later 48 = .ok (.aload_n 0, 1) := by decide +kernel
theorem dX10_later_49 : decode cX10_later 49 = .ok (.getfield 37, 3) := by decide +kernel
theorem dX10_later_52 : decode cX10_later 52 = .ok (.getfield 272, 3) := by decide +kernel
theorem dX10_later_55 : decode cX10_later 55 = .ok (.invokevirtual 204, 3) := by decide +kernel
theorem dX10_later_58 : decode cX10_later 58 = .ok (.bipush 100, 2) := by decide +kernel
theorem dX10_later_60 : decode cX10_later 60 = .ok (.aload_n 0, 1) := by decide +kernel
theorem dX10_later_61 : decode cX10_later 61 = .ok (.getfield 37, 3) := by decide +kernel
theorem dX10_later_64 : decode cX10_later 64 = .ok (.getfield 208, 3) := by decide +kernel
theorem dX10_later_67 : decode cX10_later 67 = .ok (.iadd, 1) := by decide +kernel
theorem dX10_later_68 : decode cX10_later 68 = .ok (.ireturn, 1) := by decide +kernel
theorem dX10_over_0 : decode cX10_over 0 = .ok (.aload_n 0, 1) := by decide +kernel
theorem dX10_over_1 : decode cX10_over 1 = .ok (.invokevirtual 282, 3) := by decide +kernel
theorem dX10_over_4 : decode cX10_over 4 = .ok (.iconst 1, 1) := by decide +kernel
theorem dX10_over_5 : decode cX10_over 5 = .ok (.istore_n 1, 1) := by decide +kernel
theorem dX10_over_6 : decode cX10_over 6 = .ok (.iload_n 1, 1) := by decide +kernel
theorem dX10_over_7 : decode cX10_over 7 = .ok (.bipush 99, 2) := by decide +kernel
theorem dX10_over_9 : decode cX10_over 9 = .ok (.if_icmp .gt 43, 3) := by decide +kernel
theorem dX10_over_12 : decode cX10_over 12 = .ok (.aload_n 0, 1) := by decide +kernel
theorem dX10_over_13 : decode cX10_over 13 = .ok (.getfield 26, 3) := by decide +kernel
theorem dX10_over_16 : decode cX10_over 16 = .ok (.aload_n 0, 1) := by decide +kernel
theorem dX10_over_17 : decode cX10_over 17 = .ok (.getfield 37, 3) := by decide +kernel
theorem dX10_over_20 : decode cX10_over 20 = .ok (.iconst 1, 1) := by decide +kernel
theorem dX10_over_21 : decode cX10_over 21 = .ok (.invokevirtual 195, 3) := by decide +kernel
theorem dX10_over_24 : decode cX10_over 24 = .ok (.ifCond .le 22, 3) := by decide +kernel
theorem dX10_over_27 : decode cX10_over 27 = .ok (.aload_n 0, 1) := by decide +kernel
theorem dX10_over_28 : decode cX10_over 28 = .ok (.getfield 19, 3) := by decide +kernel
theorem dX10_over_31 : decode cX10_over 31 = .ok (.bipush 100, 2) := by decide +kernel
theorem dX10_over_33 : decode cX10_over 33 = .ok (.aload_n 0, 1) := by decide +kernel
theorem dX10_over_34 : decode cX10_over 34 = .ok (.getfield 37, 3) := by decide +kernel
theorem dX10_over_37 : decode cX10_over 37 = .ok (.getfield 208, 3) := by decide +kernel
theorem dX10_over_40 : decode cX10_over 40 = .ok (.iadd, 1) := by decide +kernel
theorem dX10_over_41 : decode cX10_over 41 = .ok (.invokevirtual 285, 3) := by decide +kernel
theorem dX10_over_44 : decode cX10_over 44 = .ok (.iload_n 1, 1) := by decide +kernel
theorem dX10_over_45 : decode cX10_over 45 = .ok (.ireturn, 1) := by decide +kernel
theorem dX10_over_46 : decode cX10_over 46 = .ok (.iinc 1 1, 3) := by decide +kernel
theorem dX10_over_49 : decode cX10_over 49 = .ok (.goto (-43), 3) := by decide +kernel
theorem dX10_over_52 : decode cX10_over 52 = .ok (.bipush (-2), 2) := by decide +kernel
theorem dX10_over_54 : decode cX10_over 54 = .ok (.ireturn, 1) := by decide +kernel
theorem dX10_when_0 : decode cX10_when 0 = .ok (.iload_n 1, 1) := by decide +kernel
theorem dX10_when_1 : decode cX10_when 1 = .ok (.bipush (-20), 2) := by decide +kernel
theorem dX10_when_3 : decode cX10_when 3 = .ok (.bipush 20, 2) := by decide +kernel
theorem dX10_when_5 : decode cX10_when 5 = .ok (.invokestatic 158, 3) := by decide +kernel
theorem dX10_when_8 : decode cX10_when 8 = .ok (.ifCond .ne 5, 3) := by decide +kernel
theorem dX10_when_11 : decode cX10_when 11 = .ok (.iconst (-1), 1) := by decide +kernel
theorem dX10_when_12 : decode cX10_when 12 = .ok (.ireturn, 1) := by decide +kernel
theorem dX10_when_13 : decode cX10_when 13 = .ok (.aload_n 0, 1) := by decide +kernel
theorem dX10_when_14 : decode cX10_when 14 = .ok (.invokevirtual 282, 3) := by decide +kernel
theorem dX10_when_17 : decode cX10_when 17 = .ok (.bipush (-2), 2) := by decide +kernel
theorem dX10_when_19 : decode cX10_when 19 = .ok (.istore_n 2, 1) := by decide +kernel
theorem dX10_when_20 : decode cX10_when 20 = .ok (.iconst 0, 1) := by decide +kernel
theorem dX10_when_21 : decode cX10_when 21 = .ok (.istore_n 3, 1) := by decide +kernel
theorem dX10_when_22 : decode cX10_when 22 = .ok (.iconst 0, 1) := by decide +kernel
theorem dX10_when_23 : decode cX10_when 23 = .ok (.istore 4, 2) := by decide +kernel
theorem dX10_when_25 : decode cX10_when 25 = .ok (.iload 4, 2) := by decide +kernel
theorem dX10_when_27 : decode cX10_when 27 = .ok (.bipush 99, 2) := by decide +kernel
theorem dX10_when_29 : decode cX10_when 29 = .ok (.if_icmp .gt 47, 3) := by decide +kernel
theorem dX10_when_32 : decode cX10_when 32 = .ok (.aload_n 0, 1) := by decide +kernel
theorem dX10_when_33 : decode cX10_when 33 = .ok (.getfield 37, 3) := by decide +kernel
theorem dX10_when_36 : decode cX10_when 36 = .ok (.getfield 208, 3) := by decide +kernel
theorem dX10_when_39 : decode cX10_when 39 = .ok (.iload_n 1, 1) := by decide +kernel
theorem dX10_when_40 : decode cX10_when 40 = .ok (.if_icmp .ne 17, 3) := by decide +kernel
theorem dX10_when_43 : decode cX10_when 43 = .ok (.iload_n 3, 1) := by decide +kernel
theorem dX10_when_44 : decode cX10_when 44 = .ok (.ifCond .ne 8, 3) := by decide +kernel
theorem dX10_when_47 : decode cX10_when 47 = .ok (.iload 4, 2) := by decide +kernel
theorem dX10_when_49 : decode cX10_when 49 = .ok (.goto 4, 3) := by decide +kernel
theorem dX10_when_52 : decode cX10_when 52 = .ok (.iload_n 2, 1) := by decide +kernel
theorem dX10_when_53 : decode cX10_when 53 = .ok (.istore_n 2, 1) := by decide +kernel
theorem dX10_when_54 : decode cX10_when 54 = .ok (.iinc 3 1, 3) := by decide +kernel
theorem dX10_when_57 : decode cX10_when 57 = .ok (.aload_n 0, 1) := by decide +kernel
theorem dX10_when_58 : decode cX10_when 58 = .ok (.getfield 26, 3) := by decide +kernel
theorem dX10_when_61 : decode cX10_when 61 = .ok (.aload_n 0, 1) := by decide +kernel
theorem dX10_when_62 : decode cX10_when 62 = .ok (.getfield 37, 3) := by decide +kernel
theorem dX10_when_65 : decode cX10_when 65 = .ok (.iconst 1, 1) := by decide +kernel
theorem dX10_when_66 : decode cX10_when 66 = .ok (.invokevirtual 195, 3) := by decide +kernel
theorem dX10_when_69 : decode cX10_when 69 = .ok (.pop, 1) := by decide +kernel
theorem dX10_when_70 : decode cX10_when 70 = .ok (.iinc 4 1, 3) := by decide +kernel
theorem dX10_when_73 : decode cX10_when 73 = .ok (.goto (-48), 3) := by decide +kernel
theorem dX10_when_76 : decode cX10_when 76 = .ok (.iload_n 3, 1) := by decide +kernel
theorem dX10_when_77 : decode cX10_when 77 = .ok (.ifCond .le 11, 3) := by decide +kernel
theorem dX10_when_80 : decode cX10_when 80 = .ok (.aload_n 0, 1) := by decide +kernel
theorem dX10_when_81 : decode cX10_when 81 = .ok (.getfield 19, 3) := by decide +kernel
theorem dX10_when_84 : decode cX10_when 84 = .ok (.iload_n 3, 1) := by decide +kernel
theorem dX10_when_85 : decode cX10_when 85 = .ok (.invokevirtual 285, 3) := by decide +kernel
theorem dX10_when_88 : decode cX10_when 88 = .ok (.iload_n 2, 1) := by decide +kernel
theorem dX10_when_89 : decode cX10_when 89 = .ok (.ireturn, 1) := by decide +kernel
theorem dX10_rolls_0 : decode cX10_rolls 0 = .ok (.iload_n 1, 1) := by decide +kernel
theorem dX10_rolls_1 : decode cX10_rolls 1 = .ok (.iconst 0, 1) := by decide +kernel
theorem dX10_rolls_2 : decode cX10_rolls 2 = .ok (.bipush 99, 2) := by decide +kernel
theorem dX10_rolls_4 : decode cX10_rolls 4 = .ok (.invokestatic 158, 3) := by decide +kernel
theorem dX10_rolls_7 : decode cX10_rolls 7 = .ok (.ifCond .ne 5, 3) := by decide +kernel
theorem dX10_rolls_10 : decode cX10_rolls 10 = .ok (.iconst (-1), 1) := by decide +kernel
theorem dX10_rolls_11 : decode cX10_rolls 11 = .ok (.ireturn, 1) := by decide +kernel
theorem dX10_rolls_12 : decode cX10_rolls 12 = .ok (.aload_n 0, 1) := by decide +kernel
theorem dX10_rolls_13 : decode cX10_rolls 13 = .ok (.invokevirtual 282, 3) := by decide +kernel
theorem dX10_rolls_16 : decode cX10_rolls 16 = .ok (.aload_n 0, 1) := by decide +kernel
theorem dX10_rolls_17 : decode cX10_rolls 17 = .ok (.getfield 37, 3) := by decide +kernel
theorem dX10_rolls_20 : decode cX10_rolls 20 = .ok (.getfield 208, 3) := by decide +kernel
theorem dX10_rolls_23 : decode cX10_rolls 23 = .ok (.istore_n 2, 1) := by decide +kernel
theorem dX10_rolls_24 : decode cX10_rolls 24 = .ok (.iconst 0, 1) := by decide +kernel
theorem dX10_rolls_25 : decode cX10_rolls 25 = .ok (.istore_n 3, 1) := by decide +kernel
theorem dX10_rolls_26 : decode cX10_rolls 26 = .ok (.aload_n 0, 1) := by decide +kernel
theorem dX10_rolls_27 : decode cX10_rolls 27 = .ok (.getfield 37, 3) := by decide +kernel
theorem dX10_rolls_30 : decode cX10_rolls 30 = .ok (.getfield 208, 3) := by decide +kernel
theorem dX10_rolls_33 : decode cX10_rolls 33 = .ok (.istore 4, 2) := by decide +kernel
theorem dX10_rolls_35 : decode cX10_rolls 35 = .ok (.iconst 0, 1) := by decide +kernel
theorem dX10_rolls_36 : decode cX10_rolls 36 = .ok (.istore 5, 2) := by decide +kernel
theorem dX10_rolls_38 : decode cX10_rolls 38 = .ok (.iconst 1, 1) := by decide +kernel
theorem dX10_rolls_39 : decode cX10_rolls 39 = .ok (.istore 6, 2) := by decide +kernel
theorem dX10_rolls_41 : decode cX10_rolls 41 = .ok (.iload 6, 2) := by decide +kernel
theorem dX10_rolls_43 : decode cX10_rolls 43 = .ok (.iload_n 1, 1) := by decide +kernel
theorem dX10_rolls_44 : decode cX10_rolls 44 = .ok (.if_icmp .gt 69, 3) := by decide +kernel
theorem dX10_rolls_47 : decode cX10_rolls 47 = .ok (.aload_n 0, 1) := by decide +kernel
theorem dX10_rolls_48 : decode cX10_rolls 48 = .ok (.getfield 26, 3) := by decide +kernel
theorem dX10_rolls_51 : decode cX10_rolls 51 = .ok (.aload_n 0, 1) := by decide +kernel
theorem dX10_rolls_52 : decode cX10_rolls 52 = .ok (.getfield 37, 3) := by decide +kernel
theorem dX10_rolls_55 : decode cX10_rolls 55 = .ok (.iconst 1, 1) := by decide +kernel
theorem dX10_rolls_56 : decode cX10_rolls 56 = .ok (.invokevirtual 195, 3) := by decide +kernel
theorem dX10_rolls_59 : decode cX10_rolls 59 = .ok (.pop, 1) := by decide +kernel
theorem dX10_rolls_60 : decode cX10_rolls 60 = .ok (.aload_n 0, 1) := by decide +kernel
theorem dX10_rolls_61 : decode cX10_rolls 61 = .ok (.getfield 37, 3) := by decide +kernel
theorem dX10_rolls_64 : decode cX10_rolls 64 = .ok (.getfield 208, 3) := by decide +kernel
theorem dX10_rolls_67 : decode cX10_rolls 67 = .ok (.iload_n 2, 1) := by decide +kernel
theorem dX10_rolls_68 : decode cX10_rolls 68 = .ok (.if_icmp .le 14, 3) := by decide +kernel
theorem dX10_rolls_71 : decode cX10_rolls 71 = .ok (.aload_n 0, 1) := by decide +kernel
theorem dX10_rolls_72 : decode cX10_rolls 72 = .ok (.getfield 37, 3) := by decide +kernel
theorem dX10_rolls_75 : decode cX10_rolls 75 = .ok (.getfield 208, 3) := by decide +kernel
theorem dX10_rolls_78 : decode cX10_rolls 78 = .ok (.istore_n 2, 1) := by decide +kernel
theorem dX10_rolls_79 : decode cX10_rolls 79 = .ok (.iload 6, 2) := by decide +kernel
theorem dX10_rolls_81 : decode cX10_rolls 81 = .ok (.istore_n 3, 1) := by decide +kernel
theorem dX10_rolls_82 : decode cX10_rolls 82 = .ok (.aload_n 0, 1) := by decide +kernel
theorem dX10_rolls_83 : decode cX10_rolls 83 = .ok (.getfield 37, 3) := by decide +kernel
theorem dX10_rolls_86 : decode cX10_rolls 86 = .ok (.getfield 208, 3) := by decide +kernel
theorem dX10_rolls_89 : decode cX10_rolls 89 = .ok (.iload 4, 2) := by decide +kernel
theorem dX10_rolls_91 : decode cX10_rolls 91 = .ok (.if_icmp .ge 16, 3) := by decide +kernel
theorem dX10_rolls_94 : decode cX10_rolls 94 = .ok (.aload_n 0, 1) := by decide +kernel
theorem dX10_rolls_95 : decode cX10_rolls 95 = .ok (.getfield 37, 3) := by decide +kernel
theorem dX10_rolls_98 : decode cX10_rolls 98 = .ok (.getfield 208, 3) := by decide +kernel
theorem dX10_rolls_101 : decode cX10_rolls 101 = .ok (.istore 4, 2) := by decide +kernel
theorem dX10_rolls_103 : decode cX10_rolls 103 = .ok (.iload 6, 2) := by decide +kernel
theorem dX10_rolls_105 : decode cX10_rolls 105 = .ok (.istore 5, 2) := by decide +kernel
theorem dX10_rolls_107 : decode cX10_rolls 107 = .ok (.iinc 6 1, 3) := by decide +kernel
theorem dX10_rolls_110 : decode cX10_rolls 110 = .ok (.goto (-69), 3) := by decide +kernel
theorem dX10_rolls_113 : decode cX10_rolls 113 = .ok (.aload_n 0, 1) := by decide +kernel
theorem dX10_rolls_114 : decode cX10_rolls 114 = .ok (.getfield 19, 3) := by decide +kernel
theorem dX10_rolls_117 : decode cX10_rolls 117 = .ok (.iload_n 3, 1) := by decide +kernel
theorem dX10_rolls_118 : decode cX10_rolls 118 = .ok (.bipush 100, 2) := by decide +kernel
theorem dX10_rolls_120 : decode cX10_rolls 120 = .ok (.iload 4, 2) := by decide +kernel
theorem dX10_rolls_122 : decode cX10_rolls 122 = .ok (.iadd, 1) := by decide +kernel
theorem dX10_rolls_123 : decode cX10_rolls 123 = .ok (.iload 5, 2) := by decide +kernel
theorem dX10_rolls_125 : decode cX10_rolls 125 = .ok (.invokevirtual 279, 3) := by decide +kernel
theorem dX10_rolls_128 : decode cX10_rolls 128 = .ok (.bipush 100, 2) := by decide +kernel
theorem dX10_rolls_130 : decode cX10_rolls 130 = .ok (.iload_n 2, 1) := by decide +kernel
theorem dX10_rolls_131 : decode cX10_rolls 131 = .ok (.iadd, 1) := by decide +kernel
theorem dX10_rolls_132 : decode cX10_rolls 132 = .ok (.ireturn, 1) := by decide +kernel
theorem dX10_steady_0 : decode cX10_steady 0 = .ok (.iload_n 1, 1) := by decide +kernel
theorem dX10_steady_1 : decode cX10_steady 1 = .ok (.iconst 1, 1) := by decide +kernel
theorem dX10_steady_2 : decode cX10_steady 2 = .ok (.bipush 99, 2) := by decide +kernel
theorem dX10_steady_4 : decode cX10_steady 4 = .ok (.invokestatic 158, 3) := by decide +kernel
theorem dX10_steady_7 : decode cX10_steady 7 = .ok (.ifCond .eq 13, 3) := by decide +kernel
theorem dX10_steady_10 : decode cX10_steady 10 = .ok (.iload_n 2, 1) := by decide +kernel
theorem dX10_steady_11 : decode cX10_steady 11 = .ok (.iconst 0, 1) := by decide +kernel
theorem dX10_steady_12 : decode cX10_steady 12 = .ok (.bipush 20, 2) := by decide +kernel
theorem dX10_steady_14 : decode cX10_steady 14 = .ok (.invokestatic 158, 3) := by decide +kernel
theorem dX10_steady_17 : decode cX10_steady 17 = .ok (.ifCond .ne 5, 3) := by decide +kernel
theorem dX10_steady_20 : decode cX10_steady 20 = .ok (.iconst (-1), 1) := by decide +kernel
theorem dX10_steady_21 : decode cX10_steady 21 = .ok (.ireturn, 1) := by decide +kernel
theorem dX10_steady_22 : decode cX10_steady 22 = .ok (.aload_n 0, 1) := by decide +kernel
theorem dX10_steady_23 : decode cX10_steady 23 = .ok (.invokevirtual 282, 3) := by decide +kernel
theorem dX10_steady_26 : decode cX10_steady 26 = .ok (.iconst 0, 1) := by decide +kernel
theorem dX10_steady_27 : decode cX10_steady 27 = .ok (.istore_n 3, 1) := by decide +kernel
theorem dX10_steady_28 : decode cX10_steady 28 = .ok (.iconst 0, 1) := by decide +kernel
theorem dX10_steady_29 : decode cX10_steady 29 = .ok (.istore 4, 2) := by decide +kernel
theorem dX10_steady_31 : decode cX10_steady 31 = .ok (.iconst 0, 1) := by decide +kernel
theorem dX10_steady_32 : decode cX10_steady 32 = .ok (.istore 5, 2) := by decide +kernel
theorem dX10_steady_34 : decode cX10_steady 34 = .ok (.iconst 1, 1) := by decide +kernel
theorem dX10_steady_35 : decode cX10_steady 35 = .ok (.istore 6, 2) := by decide +kernel
theorem dX10_steady_37 : decode cX10_steady 37 = .ok (.iload 6, 2) := by decide +kernel
theorem dX10_steady_39 : decode cX10_steady 39 = .ok (.iload_n 1, 1) := by decide +kernel
theorem dX10_steady_40 : decode cX10_steady 40 = .ok (.if_icmp .gt 64, 3) := by decide +kernel
theorem dX10_steady_43 : decode cX10_steady 43 = .ok (.aload_n 0, 1) := by decide +kernel
theorem dX10_steady_44 : decode cX10_steady 44 = .ok (.getfield 26, 3) := by decide +kernel
theorem dX10_steady_47 : decode cX10_steady 47 = .ok (.aload_n 0, 1) := by decide +kernel
theorem dX10_steady_48 : decode cX10_steady 48 = .ok (.getfield 37, 3) := by decide +kernel
theorem dX10_steady_51 : decode cX10_steady 51 = .ok (.iconst 1, 1) := by decide +kernel
theorem dX10_steady_52 : decode cX10_steady 52 = .ok (.invokevirtual 195, 3) := by decide +kernel
theorem dX10_steady_55 : decode cX10_steady 55 = .ok (.pop, 1) := by decide +kernel
theorem dX10_steady_56 : decode cX10_steady 56 = .ok (.aload_n 0, 1) := by decide +kernel
theorem dX10_steady_57 : decode cX10_steady 57 = .ok (.getfield 37, 3) := by decide +kernel
theorem dX10_steady_60 : decode cX10_steady 60 = .ok (.getfield 208, 3) := by decide +kernel
theorem dX10_steady_63 : decode cX10_steady 63 = .ok (.invokestatic 287, 3) := by decide +kernel
theorem dX10_steady_66 : decode cX10_steady 66 = .ok (.iload_n 2, 1) := by decide +kernel
theorem dX10_steady_67 : decode cX10_steady 67 = .ok (.if_icmp .gt 10, 3) := by decide +kernel
theorem dX10_steady_70 : decode cX10_steady 70 = .ok (.iload 5, 2) := by decide +kernel
theorem dX10_steady_72 : decode cX10_steady 72 = .ok (.iconst 1, 1) := by decide +kernel
theorem dX10_steady_73 : decode cX10_steady 73 = .ok (.iadd, 1) := by decide +kernel
theorem dX10_steady_74 : decode cX10_steady 74 = .ok (.goto 4, 3) := by decide +kernel
theorem dX10_steady_77 : decode cX10_steady 77 = .ok (.iconst 0, 1) := by decide +kernel
theorem dX10_steady_78 : decode cX10_steady 78 = .ok (.istore 5, 2) := by decide +kernel
theorem dX10_steady_80 : decode cX10_steady 80 = .ok (.iload 5, 2) := by decide +kernel
theorem dX10_steady_82 : decode cX10_steady 82 = .ok (.iload_n 3, 1) := by decide +kernel
theorem dX10_steady_83 : decode cX10_steady 83 = .ok (.if_icmp .le 15, 3) := by decide +kernel
theorem dX10_steady_86 : decode cX10_steady 86 = .ok (.iload 5, 2) := by decide +kernel
theorem dX10_steady_88 : decode cX10_steady 88 = .ok (.istore_n 3, 1) := by decide +kernel
theorem dX10_steady_89 : decode cX10_steady 89 = .ok (.iload 6, 2) := by decide +kernel
theorem dX10_steady_91 : decode cX10_steady 91 = .ok (.iload 5, 2) := by decide +kernel
theorem dX10_steady_93 : decode cX10_steady 93 = .ok (.isub, 1) := by decide +kernel
theorem dX10_steady_94 : decode cX10_steady 94 = .ok (.iconst 1, 1) := by decide +kernel
theorem dX10_steady_95 : decode cX10_steady 95 = .ok (.iadd, 1) := by decide +kernel
theorem dX10_steady_96 : decode cX10_steady 96 = .ok (.istore 4, 2) := by decide +kernel
theorem dX10_steady_98 : decode cX10_steady 98 = .ok (.iinc 6 1, 3) := by decide +kernel
theorem dX10_steady_101 : decode cX10_steady 101 = .ok (.goto (-64), 3) := by decide +kernel
theorem dX10_steady_104 : decode cX10_steady 104 = .ok (.aload_n 0, 1) := by decide +kernel
theorem dX10_steady_105 : decode cX10_steady 105 = .ok (.getfield 19, 3) := by decide +kernel
theorem dX10_steady_108 : decode cX10_steady 108 = .ok (.iload 4, 2) := by decide +kernel
theorem dX10_steady_110 : decode cX10_steady 110 = .ok (.invokevirtual 285, 3) := by decide +kernel
theorem dX10_steady_113 : decode cX10_steady 113 = .ok (.iload_n 3, 1) := by decide +kernel
theorem dX10_steady_114 : decode cX10_steady 114 = .ok (.ireturn, 1) := by decide +kernel
theorem dX10_makes_0 : decode cX10_makes 0 = .ok (.iload_n 1, 1) := by decide +kernel
theorem dX10_makes_1 : decode cX10_makes 1 = .ok (.iconst 0, 1) := by decide +kernel
theorem dX10_makes_2 : decode cX10_makes 2 = .ok (.sipush 9999, 3) := by decide +kernel
theorem dX10_makes_5 : decode cX10_makes 5 = .ok (.invokestatic 158, 3) := by decide +kernel
theorem dX10_makes_8 : decode cX10_makes 8 = .ok (.ifCond .ne 5, 3) := by decide +kernel
theorem dX10_makes_11 : decode cX10_makes 11 = .ok (.iconst (-1), 1) := by decide +kernel
theorem dX10_makes_12 : decode cX10_makes 12 = .ok (.ireturn, 1) := by decide +kernel
theorem dX10_makes_13 : decode cX10_makes 13 = .ok (.aload_n 0, 1) := by decide +kernel
theorem dX10_makes_14 : decode cX10_makes 14 = .ok (.invokevirtual 282, 3) := by decide +kernel
theorem dX10_makes_17 : decode cX10_makes 17 = .ok (.iconst 0, 1) := by decide +kernel
theorem dX10_makes_18 : decode cX10_makes 18 = .ok (.istore_n 2, 1) := by decide +kernel
theorem dX10_makes_19 : decode cX10_makes 19 = .ok (.iload_n 2, 1) := by decide +kernel
theorem dX10_makes_20 : decode cX10_makes 20 = .ok (.bipush 99, 2) := by decide +kernel
theorem dX10_makes_22 : decode cX10_makes 22 = .ok (.if_icmp .gt 56, 3) := by decide +kernel
theorem dX10_makes_25 : decode cX10_makes 25 = .ok (.aload_n 0, 1) := by decide +kernel
theorem dX10_makes_26 : decode cX10_makes 26 = .ok (.getfield 37, 3) := by decide +kernel
theorem dX10_makes_29 : decode cX10_makes 29 = .ok (.getfield 201, 3) := by decide +kernel
theorem dX10_makes_32 : decode cX10_makes 32 = .ok (.iload_n 1, 1) := by decide +kernel
theorem dX10_makes_33 : decode cX10_makes 33 = .ok (.if_icmp .lt 26, 3) := by decide +kernel
theorem dX10_makes_36 : decode cX10_makes 36 = .ok (.aload_n 0, 1) := by decide +kernel
theorem dX10_makes_37 : decode cX10_makes 37 = .ok (.getfield 19, 3) := by decide +kernel
theorem dX10_makes_40 : decode cX10_makes 40 = .ok (.aload_n 0, 1) := by decide +kernel
theorem dX10_makes_41 : decode cX10_makes 41 = .ok (.getfield 37, 3) := by decide +kernel
theorem dX10_makes_44 : decode cX10_makes 44 = .ok (.getfield 201, 3) := by decide +kernel
theorem dX10_makes_47 : decode cX10_makes 47 = .ok (.aload_n 0, 1) := by decide +kernel
theorem dX10_makes_48 : decode cX10_makes 48 = .ok (.getfield 37, 3) := by decide +kernel
theorem dX10_makes_51 : decode cX10_makes 51 = .ok (.getfield 272, 3) := by decide +kernel
theorem dX10_makes_54 : decode cX10_makes 54 = .ok (.invokevirtual 204, 3) := by decide +kernel
theorem dX10_makes_57 : decode cX10_makes 57 = .ok (.iload_n 2, 1) := by decide +kernel
theorem dX10_makes_58 : decode cX10_makes 58 = .ok (.ireturn, 1) := by decide +kernel
theorem dX10_makes_59 : decode cX10_makes 59 = .ok (.aload_n 0, 1) := by decide +kernel
theorem dX10_makes_60 : decode cX10_makes 60 = .ok (.getfield 26, 3) := by decide +kernel
theorem dX10_makes_63 : decode cX10_makes 63 = .ok (.aload_n 0, 1) := by decide +kernel
theorem dX10_makes_64 : decode cX10_makes 64 = .ok (.getfield 37, 3) := by decide +kernel
theorem dX10_makes_67 : decode cX10_makes 67 = .ok (.iconst 1, 1) := by decide +kernel
theorem dX10_makes_68 : decode cX10_makes 68 = .ok (.invokevirtual 195, 3) := by decide +kernel
theorem dX10_makes_71 : decode cX10_makes 71 = .ok (.pop, 1) := by decide +kernel
theorem dX10_makes_72 : decode cX10_makes 72 = .ok (.iinc 2 1, 3) := by decide +kernel
theorem dX10_makes_75 : decode cX10_makes 75 = .ok (.goto (-56), 3) := by decide +kernel
theorem dX10_makes_78 : decode cX10_makes 78 = .ok (.bipush (-2), 2) := by decide +kernel
theorem dX10_makes_80 : decode cX10_makes 80 = .ok (.ireturn, 1) := by decide +kernel
theorem dX10_lookAhead_0 : decode cX10_lookAhead 0 = .ok (.aload_n 0, 1) := by decide +kernel
theorem dX10_lookAhead_1 : decode cX10_lookAhead 1 = .ok (.getfield 37, 3) := by decide +kernel
theorem dX10_lookAhead_4 : decode cX10_lookAhead 4 = .ok (.aload_n 0, 1) := by decide +kernel
theorem dX10_lookAhead_5 : decode cX10_lookAhead 5 = .ok (.getfield 33, 3) := by decide +kernel
theorem dX10_lookAhead_8 : decode cX10_lookAhead 8 = .ok (.invokevirtual 188, 3) := by decide +kernel
theorem dX10_lookAhead_11 : decode cX10_lookAhead 11 = .ok (.aload_n 0, 1) := by decide +kernel
theorem dX10_lookAhead_12 : decode cX10_lookAhead 12 = .ok (.getfield 26, 3) := by decide +kernel
theorem dX10_lookAhead_15 : decode cX10_lookAhead 15 = .ok (.invokevirtual 192, 3) := by decide +kernel
theorem dX10_lookAhead_18 : decode cX10_lookAhead 18 = .ok (.return_, 1) := by decide +kernel
theorem dX10_steps_0 : decode cX10_steps 0 = .ok (.iload_n 1, 1) := by decide +kernel
theorem dX10_steps_1 : decode cX10_steps 1 = .ok (.iconst 0, 1) := by decide +kernel
theorem dX10_steps_2 : decode cX10_steps 2 = .ok (.bipush 20, 2) := by decide +kernel
theorem dX10_steps_4 : decode cX10_steps 4 = .ok (.invokestatic 158, 3) := by decide +kernel
theorem dX10_steps_7 : decode cX10_steps 7 = .ok (.ifCond .ne 5, 3) := by decide +kernel
theorem dX10_steps_10 : decode cX10_steps 10 = .ok (.iconst (-1), 1) := by decide +kernel
theorem dX10_steps_11 : decode cX10_steps 11 = .ok (.ireturn, 1) := by decide +kernel
theorem dX10_steps_12 : decode cX10_steps 12 = .ok (.aload_n 0, 1) := by decide +kernel
theorem dX10_steps_13 : decode cX10_steps 13 = .ok (.aload_n 0, 1) := by decide +kernel
theorem dX10_steps_14 : decode cX10_steps 14 = .ok (.getfield 26, 3) := by decide +kernel
theorem dX10_steps_17 : decode cX10_steps 17 = .ok (.aload_n 0, 1) := by decide +kernel
theorem dX10_steps_18 : decode cX10_steps 18 = .ok (.getfield 33, 3) := by decide +kernel
theorem dX10_steps_21 : decode cX10_steps 21 = .ok (.invokevirtual 290, 3) := by decide +kernel
theorem dX10_steps_24 : decode cX10_steps 24 = .ok (.invokevirtual 294, 3) := by decide +kernel
theorem dX10_steps_27 : decode cX10_steps 27 = .ok (.invokestatic 287, 3) := by decide +kernel
theorem dX10_steps_30 : decode cX10_steps 30 = .ok (.iload_n 1, 1) := by decide +kernel
theorem dX10_steps_31 : decode cX10_steps 31 = .ok (.if_icmp .gt 12, 3) := by decide +kernel
theorem dX10_steps_34 : decode cX10_steps 34 = .ok (.aload_n 0, 1) := by decide +kernel
theorem dX10_steps_35 : decode cX10_steps 35 = .ok (.getfield 19, 3) := by decide +kernel
theorem dX10_steps_38 : decode cX10_steps 38 = .ok (.invokevirtual 297, 3) := by decide +kernel
theorem dX10_steps_41 : decode cX10_steps 41 = .ok (.iconst 0, 1) := by decide +kernel
theorem dX10_steps_42 : decode cX10_steps 42 = .ok (.ireturn, 1) := by decide +kernel
theorem dX10_steps_43 : decode cX10_steps 43 = .ok (.aload_n 0, 1) := by decide +kernel
theorem dX10_steps_44 : decode cX10_steps 44 = .ok (.getfield 37, 3) := by decide +kernel
theorem dX10_steps_47 : decode cX10_steps 47 = .ok (.aload_n 0, 1) := by decide +kernel
theorem dX10_steps_48 : decode cX10_steps 48 = .ok (.getfield 33, 3) := by decide +kernel
theorem dX10_steps_51 : decode cX10_steps 51 = .ok (.invokevirtual 188, 3) := by decide +kernel
theorem dX10_steps_54 : decode cX10_steps 54 = .ok (.aload_n 0, 1) := by decide +kernel
theorem dX10_steps_55 : decode cX10_steps 55 = .ok (.invokevirtual 298, 3) := by decide +kernel
theorem dX10_steps_58 : decode cX10_steps 58 = .ok (.aload_n 0, 1) := by decide +kernel
theorem dX10_steps_59 : decode cX10_steps 59 = .ok (.iload_n 1, 1) := by decide +kernel
theorem dX10_steps_60 : decode cX10_steps 60 = .ok (.invokevirtual 301, 3) := by decide +kernel
theorem dX10_steps_63 : decode cX10_steps 63 = .ok (.ifCond .eq 5, 3) := by decide +kernel
theorem dX10_steps_66 : decode cX10_steps 66 = .ok (.iconst 1, 1) := by decide +kernel
theorem dX10_steps_67 : decode cX10_steps 67 = .ok (.ireturn, 1) := by decide +kernel
theorem dX10_steps_68 : decode cX10_steps 68 = .ok (.aload_n 0, 1) := by decide +kernel
theorem dX10_steps_69 : decode cX10_steps 69 = .ok (.iload_n 1, 1) := by decide +kernel
theorem dX10_steps_70 : decode cX10_steps 70 = .ok (.invokevirtual 304, 3) := by decide +kernel
theorem dX10_steps_73 : decode cX10_steps 73 = .ok (.ifCond .eq 7, 3) := by decide +kernel
theorem dX10_steps_76 : decode cX10_steps 76 = .ok (.iconst 2, 1) := by decide +kernel
theorem dX10_steps_77 : decode cX10_steps 77 = .ok (.goto 5, 3) := by decide +kernel
theorem dX10_steps_80 : decode cX10_steps 80 = .ok (.bipush (-2), 2) := by decide +kernel
theorem dX10_steps_82 : decode cX10_steps 82 = .ok (.ireturn, 1) := by decide +kernel
theorem dX10_best_0 : decode cX10_best 0 = .ok (.iload_n 1, 1) := by decide +kernel
theorem dX10_best_1 : decode cX10_best 1 = .ok (.iconst 1, 1) := by decide +kernel
theorem dX10_best_2 : decode cX10_best 2 = .ok (.bipush 60, 2) := by decide +kernel
theorem dX10_best_4 : decode cX10_best 4 = .ok (.invokestatic 158, 3) := by decide +kernel
theorem dX10_best_7 : decode cX10_best 7 = .ok (.ifCond .ne 5, 3) := by decide +kernel
theorem dX10_best_10 : decode cX10_best 10 = .ok (.iconst (-1), 1) := by decide +kernel
theorem dX10_best_11 : decode cX10_best 11 = .ok (.ireturn, 1) := by decide +kernel
theorem dX10_best_12 : decode cX10_best 12 = .ok (.iconst (-1), 1) := by decide +kernel
theorem dX10_best_13 : decode cX10_best 13 = .ok (.istore_n 2, 1) := by decide +kernel
theorem dX10_best_14 : decode cX10_best 14 = .ok (.iconst 0, 1) := by decide +kernel
theorem dX10_best_15 : decode cX10_best 15 = .ok (.istore_n 3, 1) := by decide +kernel
theorem dX10_best_16 : decode cX10_best 16 = .ok (.iconst 0, 1) := by decide +kernel
theorem dX10_best_17 : decode cX10_best 17 = .ok (.istore 4, 2) := by decide +kernel
theorem dX10_best_19 : decode cX10_best 19 = .ok (.aload_n 0, 1) := by decide +kernel
theorem dX10_best_20 : decode cX10_best 20 = .ok (.getfield 26, 3) := by decide +kernel
theorem dX10_best_23 : decode cX10_best 23 = .ok (.invokevirtual 192, 3) := by decide +kernel
theorem dX10_best_26 : decode cX10_best 26 = .ok (.iconst 0, 1) := by decide +kernel
theorem dX10_best_27 : decode cX10_best 27 = .ok (.istore 5, 2) := by decide +kernel
theorem dX10_best_29 : decode cX10_best 29 = .ok (.iload 5, 2) := by decide +kernel
theorem dX10_best_31 : decode cX10_best 31 = .ok (.bipush 9, 2) := by decide +kernel
theorem dX10_best_33 : decode cX10_best 33 = .ok (.if_icmp .gt 92, 3) := by decide +kernel
theorem dX10_best_36 : decode cX10_best 36 = .ok (.aload_n 0, 1) := by decide +kernel
theorem dX10_best_37 : decode cX10_best 37 = .ok (.getfield 37, 3) := by decide +kernel
theorem dX10_best_40 : decode cX10_best 40 = .ok (.aload_n 0, 1) := by decide +kernel
theorem dX10_best_41 : decode cX10_best 41 = .ok (.getfield 33, 3) := by decide +kernel
theorem dX10_best_44 : decode cX10_best 44 = .ok (.invokevirtual 188, 3) := by decide +kernel
theorem dX10_best_47 : decode cX10_best 47 = .ok (.aload_n 0, 1) := by decide +kernel
theorem dX10_best_48 : decode cX10_best 48 = .ok (.getfield 37, 3) := by decide +kernel
theorem dX10_best_51 : decode cX10_best 51 = .ok (.iload 5, 2) := by decide +kernel
theorem dX10_best_53 : decode cX10_best 53 = .ok (.putfield 272, 3) := by decide +kernel
theorem dX10_best_56 : decode cX10_best 56 = .ok (.aload_n 0, 1) := by decide +kernel
theorem dX10_best_57 : decode cX10_best 57 = .ok (.getfield 26, 3) := by decide +kernel
theorem dX10_best_60 : decode cX10_best 60 = .ok (.aload_n 0, 1) := by decide +kernel
theorem dX10_best_61 : decode cX10_best 61 = .ok (.getfield 37, 3) := by decide +kernel
theorem dX10_best_64 : decode cX10_best 64 = .ok (.iload_n 1, 1) := by decide +kernel
theorem dX10_best_65 : decode cX10_best 65 = .ok (.invokevirtual 195, 3) := by decide +kernel
theorem dX10_best_68 : decode cX10_best 68 = .ok (.pop, 1) := by decide +kernel
theorem dX10_best_69 : decode cX10_best 69 = .ok (.aload_n 0, 1) := by decide +kernel
theorem dX10_best_70 : decode cX10_best 70 = .ok (.getfield 37, 3) := by decide +kernel
theorem dX10_best_73 : decode cX10_best 73 = .ok (.getfield 201, 3) := by decide +kernel
theorem dX10_best_76 : decode cX10_best 76 = .ok (.aload_n 0, 1) := by decide +kernel
theorem dX10_best_77 : decode cX10_best 77 = .ok (.getfield 33, 3) := by decide +kernel
theorem dX10_best_80 : decode cX10_best 80 = .ok (.getfield 201, 3) := by decide +kernel
theorem dX10_best_83 : decode cX10_best 83 = .ok (.isub, 1) := by decide +kernel
theorem dX10_best_84 : decode cX10_best 84 = .ok (.istore 6, 2) := by decide +kernel
theorem dX10_best_86 : decode cX10_best 86 = .ok (.iload 6, 2) := by decide +kernel
theorem dX10_best_88 : decode cX10_best 88 = .ok (.iload_n 2, 1) := by decide +kernel
theorem dX10_best_89 : decode cX10_best 89 = .ok (.if_icmp .le 9, 3) := by decide +kernel
theorem dX10_best_92 : decode cX10_best 92 = .ok (.iload 6, 2) := by decide +kernel
theorem dX10_best_94 : decode cX10_best 94 = .ok (.istore_n 2, 1) := by decide +kernel
theorem dX10_best_95 : decode cX10_best 95 = .ok (.iload 5, 2) := by decide +kernel
theorem dX10_best_97 : decode cX10_best 97 = .ok (.istore_n 3, 1) := by decide +kernel
theorem dX10_best_98 : decode cX10_best 98 = .ok (.iload 5, 2) := by decide +kernel
theorem dX10_best_100 : decode cX10_best 100 = .ok (.aload_n 0, 1) := by decide +kernel
theorem dX10_best_101 : decode cX10_best 101 = .ok (.getfield 33, 3) := by decide +kernel
theorem dX10_best_104 : decode cX10_best 104 = .ok (.getfield 272, 3) := by decide +kernel
theorem dX10_best_107 : decode cX10_best 107 = .ok (.if_icmp .ne 8, 3) := by decide +kernel
theorem dX10_best_110 : decode cX10_best 110 = .ok (.iload 6, 2) := by decide +kernel
theorem dX10_best_112 : decode cX10_best 112 = .ok (.goto 5, 3) := by decide +kernel
theorem dX10_best_115 : decode cX10_best 115 = .ok (.iload 4, 2) := by decide +kernel
theorem dX10_best_117 : decode cX10_best 117 = .ok (.istore 4, 2) := by decide +kernel
theorem dX10_best_119 : decode cX10_best 119 = .ok (.iinc 5 1, 3) := by decide +kernel
theorem dX10_best_122 : decode cX10_best 122 = .ok (.goto (-93), 3) := by decide +kernel
theorem dX10_best_125 : decode cX10_best 125 = .ok (.aload_n 0, 1) := by decide +kernel
theorem dX10_best_126 : decode cX10_best 126 = .ok (.getfield 19, 3) := by decide +kernel
theorem dX10_best_129 : decode cX10_best 129 = .ok (.iload_n 2, 1) := by decide +kernel
theorem dX10_best_130 : decode cX10_best 130 = .ok (.iload 4, 2) := by decide +kernel
theorem dX10_best_132 : decode cX10_best 132 = .ok (.invokevirtual 204, 3) := by decide +kernel
theorem dX10_best_135 : decode cX10_best 135 = .ok (.iload_n 3, 1) := by decide +kernel
theorem dX10_best_136 : decode cX10_best 136 = .ok (.ireturn, 1) := by decide +kernel
theorem dX10_trims_0 : decode cX10_trims 0 = .ok (.aload_n 0, 1) := by decide +kernel
theorem dX10_trims_1 : decode cX10_trims 1 = .ok (.getfield 33, 3) := by decide +kernel
theorem dX10_trims_4 : decode cX10_trims 4 = .ok (.iload_n 1, 1) := by decide +kernel
theorem dX10_trims_5 : decode cX10_trims 5 = .ok (.invokevirtual 155, 3) := by decide +kernel
theorem dX10_trims_8 : decode cX10_trims 8 = .ok (.ifCond .ne 5, 3) := by decide +kernel
theorem dX10_trims_11 : decode cX10_trims 11 = .ok (.iconst (-1), 1) := by decide +kernel
theorem dX10_trims_12 : decode cX10_trims 12 = .ok (.ireturn, 1) := by decide +kernel
theorem dX10_trims_13 : decode cX10_trims 13 = .ok (.aload_n 0, 1) := by decide +kernel
theorem dX10_trims_14 : decode cX10_trims 14 = .ok (.getfield 37, 3) := by decide +kernel
theorem dX10_trims_17 : decode cX10_trims 17 = .ok (.aload_n 0, 1) := by decide +kernel
theorem dX10_trims_18 : decode cX10_trims 18 = .ok (.getfield 33, 3) := by decide +kernel
theorem dX10_trims_21 : decode cX10_trims 21 = .ok (.invokevirtual 188, 3) := by decide +kernel
theorem dX10_trims_24 : decode cX10_trims 24 = .ok (.iconst 0, 1) := by decide +kernel
theorem dX10_trims_25 : decode cX10_trims 25 = .ok (.istore_n 2, 1) := by decide +kernel
theorem dX10_trims_26 : decode cX10_trims 26 = .ok (.bipush 21, 2) := by decide +kernel
theorem dX10_trims_28 : decode cX10_trims 28 = .ok (.istore_n 3, 1) := by decide +kernel
theorem dX10_trims_29 : decode cX10_trims 29 = .ok (.bipush (-5), 2) := by decide +kernel
theorem dX10_trims_31 : decode cX10_trims 31 = .ok (.istore 4, 2) := by decide +kernel
theorem dX10_trims_33 : decode cX10_trims 33 = .ok (.iload 4, 2) := by decide +kernel
theorem dX10_trims_35 : decode cX10_trims 35 = .ok (.iconst 5, 1) := by decide +kernel
theorem dX10_trims_36 : decode cX10_trims 36 = .ok (.if_icmp .gt 55, 3) := by decide +kernel
theorem dX10_trims_39 : decode cX10_trims 39 = .ok (.aload_n 0, 1) := by decide +kernel
theorem dX10_trims_40 : decode cX10_trims 40 = .ok (.getfield 37, 3) := by decide +kernel
theorem dX10_trims_43 : decode cX10_trims 43 = .ok (.getfield 171, 3) := by decide +kernel
theorem dX10_trims_46 : decode cX10_trims 46 = .ok (.iload_n 1, 1) := by decide +kernel
theorem dX10_trims_47 : decode cX10_trims 47 = .ok (.iload 4, 2) := by decide +kernel
theorem dX10_trims_49 : decode cX10_trims 49 = .ok (.iastore, 1) := by decide +kernel
theorem dX10_trims_50 : decode cX10_trims 50 = .ok (.aload_n 0, 1) := by decide +kernel
theorem dX10_trims_51 : decode cX10_trims 51 = .ok (.aload_n 0, 1) := by decide +kernel
theorem dX10_trims_52 : decode cX10_trims 52 = .ok (.getfield 26, 3) := by decide +kernel
theorem dX10_trims_55 : decode cX10_trims 55 = .ok (.aload_n 0, 1) := by decide +kernel
theorem dX10_trims_56 : decode cX10_trims 56 = .ok (.getfield 37, 3) := by decide +kernel
theorem dX10_trims_59 : decode cX10_trims 59 = .ok (.invokevirtual 290, 3) := by decide +kernel
theorem dX10_trims_62 : decode cX10_trims 62 = .ok (.invokevirtual 294, 3) := by decide +kernel
theorem dX10_trims_65 : decode cX10_trims 65 = .ok (.istore 5, 2) := by decide +kernel
theorem dX10_trims_67 : decode cX10_trims 67 = .ok (.iload 5, 2) := by decide +kernel
theorem dX10_trims_69 : decode cX10_trims 69 = .ok (.invokestatic 287, 3) := by decide +kernel
theorem dX10_trims_72 : decode cX10_trims 72 = .ok (.iload_n 3, 1) := by decide +kernel
theorem dX10_trims_73 : decode cX10_trims 73 = .ok (.invokestatic 287, 3) := by decide +kernel
theorem dX10_trims_76 : decode cX10_trims 76 = .ok (.if_icmp .ge 9, 3) := by decide +kernel
theorem dX10_trims_79 : decode cX10_trims 79 = .ok (.iload 5, 2) := by decide +kernel
theorem dX10_trims_81 : decode cX10_trims 81 = .ok (.istore_n 3, 1) := by decide +kernel
theorem dX10_trims_82 : decode cX10_trims 82 = .ok (.iload 4, 2) := by decide +kernel
theorem dX10_trims_84 : decode cX10_trims 84 = .ok (.istore_n 2, 1) := by decide +kernel
theorem dX10_trims_85 : decode cX10_trims 85 = .ok (.iinc 4 1, 3) := by decide +kernel
theorem dX10_trims_88 : decode cX10_trims 88 = .ok (.goto (-55), 3) := by decide +kernel
theorem dX10_trims_91 : decode cX10_trims 91 = .ok (.aload_n 0, 1) := by decide +kernel
theorem dX10_trims_92 : decode cX10_trims 92 = .ok (.getfield 19, 3) := by decide +kernel
theorem dX10_trims_95 : decode cX10_trims 95 = .ok (.bipush 100, 2) := by decide +kernel
theorem dX10_trims_97 : decode cX10_trims 97 = .ok (.iload_n 3, 1) := by decide +kernel
theorem dX10_trims_98 : decode cX10_trims 98 = .ok (.iadd, 1) := by decide +kernel
theorem dX10_trims_99 : decode cX10_trims 99 = .ok (.invokevirtual 285, 3) := by decide +kernel
theorem dX10_trims_102 : decode cX10_trims 102 = .ok (.bipush 10, 2) := by decide +kernel
theorem dX10_trims_104 : decode cX10_trims 104 = .ok (.iload_n 2, 1) := by decide +kernel
theorem dX10_trims_105 : decode cX10_trims 105 = .ok (.iadd, 1) := by decide +kernel
theorem dX10_trims_106 : decode cX10_trims 106 = .ok (.ireturn, 1) := by decide +kernel
theorem dX10_frees_0 : decode cX10_frees 0 = .ok (.aload_n 0, 1) := by decide +kernel
theorem dX10_frees_1 : decode cX10_frees 1 = .ok (.getfield 33, 3) := by decide +kernel
theorem dX10_frees_4 : decode cX10_frees 4 = .ok (.getfield 126, 3) := by decide +kernel
theorem dX10_frees_7 : decode cX10_frees 7 = .ok (.ifCond .ne 6, 3) := by decide +kernel
theorem dX10_frees_10 : decode cX10_frees 10 = .ok (.bipush (-2), 2) := by decide +kernel
theorem dX10_frees_12 : decode cX10_frees 12 = .ok (.ireturn, 1) := by decide +kernel
theorem dX10_frees_13 : decode cX10_frees 13 = .ok (.aload_n 0, 1) := by decide +kernel
theorem dX10_frees_14 : decode cX10_frees 14 = .ok (.invokevirtual 263, 3) := by decide +kernel
theorem dX10_frees_17 : decode cX10_frees 17 = .ok (.aload_n 0, 1) := by decide +kernel
theorem dX10_frees_18 : decode cX10_frees 18 = .ok (.invokevirtual 307, 3) := by decide +kernel
theorem dX10_frees_21 : decode cX10_frees 21 = .ok (.istore_n 1, 1) := by decide +kernel
theorem dX10_frees_22 : decode cX10_frees 22 = .ok (.iconst 0, 1) := by decide +kernel
theorem dX10_frees_23 : decode cX10_frees 23 = .ok (.istore_n 2, 1) := by decide +kernel
theorem dX10_frees_24 : decode cX10_frees 24 = .ok (.bipush 21, 2) := by decide +kernel
theorem dX10_frees_26 : decode cX10_frees 26 = .ok (.istore_n 3, 1) := by decide +kernel
theorem dX10_frees_27 : decode cX10_frees 27 = .ok (.iconst 0, 1) := by decide +kernel
theorem dX10_frees_28 : decode cX10_frees 28 = .ok (.istore 4, 2) := by decide +kernel
theorem dX10_frees_30 : decode cX10_frees 30 = .ok (.iload 4, 2) := by decide +kernel
theorem dX10_frees_32 : decode cX10_frees 32 = .ok (.aload_n 0, 1) := by decide +kernel
theorem dX10_frees_33 : decode cX10_frees 33 = .ok (.getfield 33, 3) := by decide +kernel
theorem dX10_frees_36 : decode cX10_frees 36 = .ok (.getfield 126, 3) := by decide +kernel
theorem dX10_frees_39 : decode cX10_frees 39 = .ok (.if_icmp .ge 53, 3) := by decide +kernel
theorem dX10_frees_42 : decode cX10_frees 42 = .ok (.aload_n 0, 1) := by decide +kernel
theorem dX10_frees_43 : decode cX10_frees 43 = .ok (.iload_n 1, 1) := by decide +kernel
theorem dX10_frees_44 : decode cX10_frees 44 = .ok (.aload_n 0, 1) := by decide +kernel
theorem dX10_frees_45 : decode cX10_frees 45 = .ok (.getfield 91, 3) := by decide +kernel
theorem dX10_frees_48 : decode cX10_frees 48 = .ok (.iload 4, 2) := by decide +kernel
theorem dX10_frees_50 : decode cX10_frees 50 = .ok (.iaload, 1) := by decide +kernel
theorem dX10_frees_51 : decode cX10_frees 51 = .ok (.aload_n 0, 1) := by decide +kernel
theorem dX10_frees_52 : decode cX10_frees 52 = .ok (.getfield 33, 3) := by decide +kernel
theorem dX10_frees_55 : decode cX10_frees 55 = .ok (.getfield 171, 3) := by decide +kernel
theorem dX10_frees_58 : decode cX10_frees 58 = .ok (.iload 4, 2) := by decide +kernel
theorem dX10_frees_60 : decode cX10_frees 60 = .ok (.iaload, 1) := by decide +kernel
theorem dX10_frees_61 : decode cX10_frees 61 = .ok (.imul, 1) := by decide +kernel
theorem dX10_frees_62 : decode cX10_frees 62 = .ok (.isub, 1) := by decide +kernel
theorem dX10_frees_63 : decode cX10_frees 63 = .ok (.invokevirtual 294, 3) := by decide +kernel
theorem dX10_frees_66 : decode cX10_frees 66 = .ok (.istore 5, 2) := by decide +kernel
theorem dX10_frees_68 : decode cX10_frees 68 = .ok (.iload 5, 2) := by decide +kernel
theorem dX10_frees_70 : decode cX10_frees 70 = .ok (.invokestatic 287, 3) := by decide +kernel
theorem dX10_frees_73 : decode cX10_frees 73 = .ok (.iload_n 3, 1) := by decide +kernel
theorem dX10_frees_74 : decode cX10_frees 74 = .ok (.invokestatic 287, 3) := by decide +kernel
theorem dX10_frees_77 : decode cX10_frees 77 = .ok (.if_icmp .ge 9, 3) := by decide +kernel
theorem dX10_frees_80 : decode cX10_frees 80 = .ok (.iload 5, 2) := by decide +kernel
theorem dX10_frees_82 : decode cX10_frees 82 = .ok (.istore_n 3, 1) := by decide +kernel
theorem dX10_frees_83 : decode cX10_frees 83 = .ok (.iload 4, 2) := by decide +kernel
theorem dX10_frees_85 : decode cX10_frees 85 = .ok (.istore_n 2, 1) := by decide +kernel
theorem dX10_frees_86 : decode cX10_frees 86 = .ok (.iinc 4 1, 3) := by decide +kernel
theorem dX10_frees_89 : decode cX10_frees 89 = .ok (.goto (-59), 3) := by decide +kernel
theorem dX10_frees_92 : decode cX10_frees 92 = .ok (.aload_n 0, 1) := by decide +kernel
theorem dX10_frees_93 : decode cX10_frees 93 = .ok (.getfield 19, 3) := by decide +kernel
theorem dX10_frees_96 : decode cX10_frees 96 = .ok (.bipush 100, 2) := by decide +kernel
theorem dX10_frees_98 : decode cX10_frees 98 = .ok (.iload_n 3, 1) := by decide +kernel
theorem dX10_frees_99 : decode cX10_frees 99 = .ok (.iadd, 1) := by decide +kernel
theorem dX10_frees_100 : decode cX10_frees 100 = .ok (.bipush 100, 2) := by decide +kernel
theorem dX10_frees_102 : decode cX10_frees 102 = .ok (.aload_n 0, 1) := by decide +kernel
theorem dX10_frees_103 : decode cX10_frees 103 = .ok (.iload_n 1, 1) := by decide +kernel
theorem dX10_frees_104 : decode cX10_frees 104 = .ok (.invokevirtual 294, 3) := by decide +kernel
theorem dX10_frees_107 : decode cX10_frees 107 = .ok (.iadd, 1) := by decide +kernel
theorem dX10_frees_108 : decode cX10_frees 108 = .ok (.invokevirtual 204, 3) := by decide +kernel
theorem dX10_frees_111 : decode cX10_frees 111 = .ok (.iload_n 2, 1) := by decide +kernel
theorem dX10_frees_112 : decode cX10_frees 112 = .ok (.ireturn, 1) := by decide +kernel
theorem dX10_bears_0 : decode cX10_bears 0 = .ok (.aload_n 0, 1) := by decide +kernel
theorem dX10_bears_1 : decode cX10_bears 1 = .ok (.getfield 26, 3) := by decide +kernel
theorem dX10_bears_4 : decode cX10_bears 4 = .ok (.aload_n 0, 1) := by decide +kernel
theorem dX10_bears_5 : decode cX10_bears 5 = .ok (.getfield 33, 3) := by decide +kernel
theorem dX10_bears_8 : decode cX10_bears 8 = .ok (.invokevirtual 290, 3) := by decide +kernel
theorem dX10_bears_11 : decode cX10_bears 11 = .ok (.istore_n 1, 1) := by decide +kernel
theorem dX10_bears_12 : decode cX10_bears 12 = .ok (.iload_n 1, 1) := by decide +kernel
theorem dX10_bears_13 : decode cX10_bears 13 = .ok (.bipush 9, 2) := by decide +kernel
theorem dX10_bears_15 : decode cX10_bears 15 = .ok (.aload_n 0, 1) := by decide +kernel
theorem dX10_bears_16 : decode cX10_bears 16 = .ok (.getfield 33, 3) := by decide +kernel
theorem dX10_bears_19 : decode cX10_bears 19 = .ok (.getfield 272, 3) := by decide +kernel
theorem dX10_bears_22 : decode cX10_bears 22 = .ok (.invokestatic 275, 3) := by decide +kernel
theorem dX10_bears_25 : decode cX10_bears 25 = .ok (.istore_n 2, 1) := by decide +kernel
theorem dX10_bears_26 : decode cX10_bears 26 = .ok (.bipush 9, 2) := by decide +kernel
theorem dX10_bears_28 : decode cX10_bears 28 = .ok (.istore_n 3, 1) := by decide +kernel
theorem dX10_bears_29 : decode cX10_bears 29 = .ok (.iload_n 3, 1) := by decide +kernel
theorem dX10_bears_30 : decode cX10_bears 30 = .ok (.ifCond .lt 48, 3) := by decide +kernel
theorem dX10_bears_33 : decode cX10_bears 33 = .ok (.iload_n 1, 1) := by decide +kernel
theorem dX10_bears_34 : decode cX10_bears 34 = .ok (.iload_n 3, 1) := by decide +kernel
theorem dX10_bears_35 : decode cX10_bears 35 = .ok (.aload_n 0, 1) := by decide +kernel
theorem dX10_bears_36 : decode cX10_bears 36 = .ok (.getfield 33, 3) := by decide +kernel
theorem dX10_bears_39 : decode cX10_bears 39 = .ok (.getfield 272, 3) := by decide +kernel
theorem dX10_bears_42 : decode cX10_bears 42 = .ok (.invokestatic 275, 3) := by decide +kernel
theorem dX10_bears_45 : decode cX10_bears 45 = .ok (.istore 4, 2) := by decide +kernel
theorem dX10_bears_47 : decode cX10_bears 47 = .ok (.iload 4, 2) := by decide +kernel
theorem dX10_bears_49 : decode cX10_bears 49 = .ok (.bipush 15, 2) := by decide +kernel
theorem dX10_bears_51 : decode cX10_bears 51 = .ok (.if_icmp .ge 21, 3) := by decide +kernel
theorem dX10_bears_54 : decode cX10_bears 54 = .ok (.aload_n 0, 1) := by decide +kernel
theorem dX10_bears_55 : decode cX10_bears 55 = .ok (.getfield 19, 3) := by decide +kernel
theorem dX10_bears_58 : decode cX10_bears 58 = .ok (.bipush 100, 2) := by decide +kernel
theorem dX10_bears_60 : decode cX10_bears 60 = .ok (.iload 4, 2) := by decide +kernel
theorem dX10_bears_62 : decode cX10_bears 62 = .ok (.iadd, 1) := by decide +kernel
theorem dX10_bears_63 : decode cX10_bears 63 = .ok (.bipush 100, 2) := by decide +kernel
theorem dX10_bears_65 : decode cX10_bears 65 = .ok (.iload_n 2, 1) := by decide +kernel
theorem dX10_bears_66 : decode cX10_bears 66 = .ok (.iadd, 1) := by decide +kernel
theorem dX10_bears_67 : decode cX10_bears 67 = .ok (.invokevirtual 204, 3) := by decide +kernel
theorem dX10_bears_70 : decode cX10_bears 70 = .ok (.iload_n 3, 1) := by decide +kernel
theorem dX10_bears_71 : decode cX10_bears 71 = .ok (.ireturn, 1) := by decide +kernel
theorem dX10_bears_72 : decode cX10_bears 72 = .ok (.iinc 3 (-1), 3) := by decide +kernel
theorem dX10_bears_75 : decode cX10_bears 75 = .ok (.goto (-46), 3) := by decide +kernel
theorem dX10_bears_78 : decode cX10_bears 78 = .ok (.bipush (-2), 2) := by decide +kernel
theorem dX10_bears_80 : decode cX10_bears 80 = .ok (.ireturn, 1) := by decide +kernel
theorem dX10_pullByBallast_0 : decode cX10_pullByBallast 0 = .ok (.iload_n 1, 1) := by decide +kernel
theorem dX10_pullByBallast_1 : decode cX10_pullByBallast 1 = .ok (.aload_n 0, 1) := by decide +kernel
theorem dX10_pullByBallast_2 : decode cX10_pullByBallast 2 = .ok (.getfield 26, 3) := by decide +kernel
theorem dX10_pullByBallast_5 : decode cX10_pullByBallast 5 = .ok (.aload_n 0, 1) := by decide +kernel
theorem dX10_pullByBallast_6 : decode cX10_pullByBallast 6 = .ok (.getfield 33, 3) := by decide +kernel
theorem dX10_pullByBallast_9 : decode cX10_pullByBallast 9 = .ok (.getfield 266, 3) := by decide +kernel
theorem dX10_pullByBallast_12 : decode cX10_pullByBallast 12 = .ok (.invokevirtual 269, 3) := by decide +kernel
theorem dX10_pullByBallast_15 : decode cX10_pullByBallast 15 = .ok (.aload_n 0, 1) := by decide +kernel
theorem dX10_pullByBallast_16 : decode cX10_pullByBallast 16 = .ok (.getfield 33, 3) := by decide +kernel
theorem dX10_pullByBallast_19 : decode cX10_pullByBallast 19 = .ok (.getfield 272, 3) := by decide +kernel
theorem dX10_pullByBallast_22 : decode cX10_pullByBallast 22 = .ok (.invokestatic 275, 3) := by decide +kernel
theorem dX10_pullByBallast_25 : decode cX10_pullByBallast 25 = .ok (.ireturn, 1) := by decide +kernel
theorem dX10_weighAllIfTold_0 : decode cX10_weighAllIfTold 0 = .ok (.iconst 0, 1) := by decide +kernel
theorem dX10_weighAllIfTold_1 : decode cX10_weighAllIfTold 1 = .ok (.istore_n 1, 1) := by decide +kernel
theorem dX10_weighAllIfTold_2 : decode cX10_weighAllIfTold 2 = .ok (.iload_n 1, 1) := by decide +kernel
theorem dX10_weighAllIfTold_3 : decode cX10_weighAllIfTold 3 = .ok (.aload_n 0, 1) := by decide +kernel
theorem dX10_weighAllIfTold_4 : decode cX10_weighAllIfTold 4 = .ok (.getfield 33, 3) := by decide +kernel
theorem dX10_weighAllIfTold_7 : decode cX10_weighAllIfTold 7 = .ok (.getfield 126, 3) := by decide +kernel
theorem dX10_weighAllIfTold_10 : decode cX10_weighAllIfTold 10 = .ok (.if_icmp .ge 72, 3) := by decide +kernel
theorem dX10_weighAllIfTold_13 : decode cX10_weighAllIfTold 13 = .ok (.iconst 0, 1) := by decide +kernel
theorem dX10_weighAllIfTold_14 : decode cX10_weighAllIfTold 14 = .ok (.istore_n 2, 1) := by decide +kernel
theorem dX10_weighAllIfTold_15 : decode cX10_weighAllIfTold 15 = .ok (.iload_n 2, 1) := by decide +kernel
theorem dX10_weighAllIfTold_16 : decode cX10_weighAllIfTold 16 = .ok (.bipush 6, 2) := by decide +kernel
theorem dX10_weighAllIfTold_18 : decode cX10_weighAllIfTold 18 = .ok (.if_icmp .ge 58, 3) := by decide +kernel
theorem dX10_weighAllIfTold_21 : decode cX10_weighAllIfTold 21 = .ok (.iconst 0, 1) := by decide +kernel
theorem dX10_weighAllIfTold_22 : decode cX10_weighAllIfTold 22 = .ok (.istore_n 3, 1) := by decide +kernel
theorem dX10_weighAllIfTold_23 : decode cX10_weighAllIfTold 23 = .ok (.iload_n 3, 1) := by decide +kernel
theorem dX10_weighAllIfTold_24 : decode cX10_weighAllIfTold 24 = .ok (.aload_n 0, 1) := by decide +kernel
theorem dX10_weighAllIfTold_25 : decode cX10_weighAllIfTold 25 = .ok (.getfield 33, 3) := by decide +kernel
theorem dX10_weighAllIfTold_28 : decode cX10_weighAllIfTold 28 = .ok (.getfield 126, 3) := by decide +kernel
theorem dX10_weighAllIfTold_31 : decode cX10_weighAllIfTold 31 = .ok (.if_icmp .ge 39, 3) := by decide +kernel
theorem dX10_weighAllIfTold_34 : decode cX10_weighAllIfTold 34 = .ok (.aload_n 0, 1) := by decide +kernel
theorem dX10_weighAllIfTold_35 : decode cX10_weighAllIfTold 35 = .ok (.getfield 101, 3) := by decide +kernel
theorem dX10_weighAllIfTold_38 : decode cX10_weighAllIfTold 38 = .ok (.iload_n 1, 1) := by decide +kernel
theorem dX10_weighAllIfTold_39 : decode cX10_weighAllIfTold 39 = .ok (.bipush 6, 2) := by decide +kernel
theorem dX10_weighAllIfTold_41 : decode cX10_weighAllIfTold 41 = .ok (.imul, 1) := by decide +kernel
theorem dX10_weighAllIfTold_42 : decode cX10_weighAllIfTold 42 = .ok (.iload_n 2, 1) := by decide +kernel
theorem dX10_weighAllIfTold_43 : decode cX10_weighAllIfTold 43 = .ok (.iadd, 1) := by decide +kernel
theorem dX10_weighAllIfTold_44 : decode cX10_weighAllIfTold 44 = .ok (.bipush 7, 2) := by decide +kernel
theorem dX10_weighAllIfTold_46 : decode cX10_weighAllIfTold 46 = .ok (.imul, 1) := by decide +kernel
theorem dX10_weighAllIfTold_47 : decode cX10_weighAllIfTold 47 = .ok (.iload_n 3, 1) := by decide +kernel
theorem dX10_weighAllIfTold_48 : decode cX10_weighAllIfTold 48 = .ok (.iadd, 1) := by decide +kernel
theorem dX10_weighAllIfTold_49 : decode cX10_weighAllIfTold 49 = .ok (.aload_n 0, 1) := by decide +kernel
theorem dX10_weighAllIfTold_50 : decode cX10_weighAllIfTold 50 = .ok (.getfield 26, 3) := by decide +kernel
theorem dX10_weighAllIfTold_53 : decode cX10_weighAllIfTold 53 = .ok (.aload_n 0, 1) := by decide +kernel
theorem dX10_weighAllIfTold_54 : decode cX10_weighAllIfTold 54 = .ok (.getfield 33, 3) := by decide +kernel
theorem dX10_weighAllIfTold_57 : decode cX10_weighAllIfTold 57 = .ok (.iload_n 1, 1) := by decide +kernel
theorem dX10_weighAllIfTold_58 : decode cX10_weighAllIfTold 58 = .ok (.iload_n 2, 1) := by decide +kernel
theorem dX10_weighAllIfTold_59 : decode cX10_weighAllIfTold 59 = .ok (.iload_n 3, 1) := by decide +kernel
theorem dX10_weighAllIfTold_60 : decode cX10_weighAllIfTold 60 = .ok (.invokevirtual 310, 3) := by decide +kernel
theorem dX10_weighAllIfTold_63 : decode cX10_weighAllIfTold 63 = .ok (.iastore, 1) := by decide +kernel
theorem dX10_weighAllIfTold_64 : decode cX10_weighAllIfTold 64 = .ok (.iinc 3 1, 3) := by decide +kernel
theorem dX10_weighAllIfTold_67 : decode cX10_weighAllIfTold 67 = .ok (.goto (-44), 3) := by decide +kernel
theorem dX10_weighAllIfTold_70 : decode cX10_weighAllIfTold 70 = .ok (.iinc 2 1, 3) := by decide +kernel
theorem dX10_weighAllIfTold_73 : decode cX10_weighAllIfTold 73 = .ok (.goto (-58), 3) := by decide +kernel
theorem dX10_weighAllIfTold_76 : decode cX10_weighAllIfTold 76 = .ok (.iinc 1 1, 3) := by decide +kernel
theorem dX10_weighAllIfTold_79 : decode cX10_weighAllIfTold 79 = .ok (.goto (-77), 3) := by decide +kernel
theorem dX10_weighAllIfTold_82 : decode cX10_weighAllIfTold 82 = .ok (.return_, 1) := by decide +kernel
theorem dX10_guessStands_0 : decode cX10_guessStands 0 = .ok (.iconst 0, 1) := by decide +kernel
theorem dX10_guessStands_1 : decode cX10_guessStands 1 = .ok (.istore_n 2, 1) := by decide +kernel
theorem dX10_guessStands_2 : decode cX10_guessStands 2 = .ok (.iconst 0, 1) := by decide +kernel
theorem dX10_guessStands_3 : decode cX10_guessStands 3 = .ok (.istore_n 3, 1) := by decide +kernel
theorem dX10_guessStands_4 : decode cX10_guessStands 4 = .ok (.iload_n 3, 1) := by decide +kernel
theorem dX10_guessStands_5 : decode cX10_guessStands 5 = .ok (.aload_n 0, 1) := by decide +kernel
theorem dX10_guessStands_6 : decode cX10_guessStands 6 = .ok (.getfield 37, 3) := by decide +kernel
theorem dX10_guessStands_9 : decode cX10_guessStands 9 = .ok (.getfield 126, 3) := by decide +kernel
theorem dX10_guessStands_12 : decode cX10_guessStands 12 = .ok (.if_icmp .ge 57, 3) := by decide +kernel
theorem dX10_guessStands_15 : decode cX10_guessStands 15 = .ok (.iload_n 3, 1) := by decide +kernel
theorem dX10_guessStands_16 : decode cX10_guessStands 16 = .ok (.bipush 6, 2) := by decide +kernel
theorem dX10_guessStands_18 : decode cX10_guessStands 18 = .ok (.imul, 1) := by decide +kernel
theorem dX10_guessStands_19 : decode cX10_guessStands 19 = .ok (.aload_n 0, 1) := by decide +kernel
theorem dX10_guessStands_20 : decode cX10_guessStands 20 = .ok (.getfield 37, 3) := by decide +kernel
theorem dX10_guessStands_23 : decode cX10_guessStands 23 = .ok (.getfield 168, 3) := by decide +kernel
theorem dX10_guessStands_26 : decode cX10_guessStands 26 = .ok (.iload_n 3, 1) := by decide +kernel
theorem dX10_guessStands_27 : decode cX10_guessStands 27 = .ok (.iaload, 1) := by decide +kernel
theorem dX10_guessStands_28 : decode cX10_guessStands 28 = .ok (.iadd, 1) := by decide +kernel
theorem dX10_guessStands_29 : decode cX10_guessStands 29 = .ok (.bipush 7, 2) := by decide +kernel
theorem dX10_guessStands_31 : decode cX10_guessStands 31 = .ok (.imul, 1) := by decide +kernel
theorem dX10_guessStands_32 : decode cX10_guessStands 32 = .ok (.aload_n 0, 1) := by decide +kernel
theorem dX10_guessStands_33 : decode cX10_guessStands 33 = .ok (.getfield 37, 3) := by decide +kernel
theorem dX10_guessStands_36 : decode cX10_guessStands 36 = .ok (.iload_n 3, 1) := by decide +kernel
theorem dX10_guessStands_37 : decode cX10_guessStands 37 = .ok (.invokevirtual 314, 3) := by decide +kernel
theorem dX10_guessStands_40 : decode cX10_guessStands 40 = .ok (.iadd, 1) := by decide +kernel
theorem dX10_guessStands_41 : decode cX10_guessStands 41 = .ok (.istore 4, 2) := by decide +kernel
theorem dX10_guessStands_43 : decode cX10_guessStands 43 = .ok (.iload_n 2, 1) := by decide +kernel
theorem dX10_guessStands_44 : decode cX10_guessStands 44 = .ok (.aload_n 0, 1) := by decide +kernel
theorem dX10_guessStands_45 : decode cX10_guessStands 45 = .ok (.getfield 101, 3) := by decide +kernel
theorem dX10_guessStands_48 : decode cX10_guessStands 48 = .ok (.iload 4, 2) := by decide +kernel
theorem dX10_guessStands_50 : decode cX10_guessStands 50 = .ok (.iaload, 1) := by decide +kernel
theorem dX10_guessStands_51 : decode cX10_guessStands 51 = .ok (.aload_n 0, 1) := by decide +kernel
theorem dX10_guessStands_52 : decode cX10_guessStands 52 = .ok (.getfield 37, 3) := by decide +kernel
theorem dX10_guessStands_55 : decode cX10_guessStands 55 = .ok (.getfield 171, 3) := by decide +kernel
theorem dX10_guessStands_58 : decode cX10_guessStands 58 = .ok (.iload_n 3, 1) := by decide +kernel
theorem dX10_guessStands_59 : decode cX10_guessStands 59 = .ok (.iaload, 1) := by decide +kernel
theorem dX10_guessStands_60 : decode cX10_guessStands 60 = .ok (.imul, 1) := by decide +kernel
theorem dX10_guessStands_61 : decode cX10_guessStands 61 = .ok (.iadd, 1) := by decide +kernel
theorem dX10_guessStands_62 : decode cX10_guessStands 62 = .ok (.istore_n 2, 1) := by decide +kernel
theorem dX10_guessStands_63 : decode cX10_guessStands 63 = .ok (.iinc 3 1, 3) := by decide +kernel
theorem dX10_guessStands_66 : decode cX10_guessStands 66 = .ok (.goto (-62), 3) := by decide +kernel
theorem dX10_guessStands_69 : decode cX10_guessStands 69 = .ok (.iload_n 2, 1) := by decide +kernel
theorem dX10_guessStands_70 : decode cX10_guessStands 70 = .ok (.aload_n 0, 1) := by decide +kernel
theorem dX10_guessStands_71 : decode cX10_guessStands 71 = .ok (.getfield 26, 3) := by decide +kernel
theorem dX10_guessStands_74 : decode cX10_guessStands 74 = .ok (.aload_n 0, 1) := by decide +kernel
theorem dX10_guessStands_75 : decode cX10_guessStands 75 = .ok (.getfield 33, 3) := by decide +kernel
theorem dX10_guessStands_78 : decode cX10_guessStands 78 = .ok (.getfield 266, 3) := by decide +kernel
theorem dX10_guessStands_81 : decode cX10_guessStands 81 = .ok (.invokevirtual 269, 3) := by decide +kernel
theorem dX10_guessStands_84 : decode cX10_guessStands 84 = .ok (.aload_n 0, 1) := by decide +kernel
theorem dX10_guessStands_85 : decode cX10_guessStands 85 = .ok (.getfield 33, 3) := by decide +kernel
theorem dX10_guessStands_88 : decode cX10_guessStands 88 = .ok (.getfield 272, 3) := by decide +kernel
theorem dX10_guessStands_91 : decode cX10_guessStands 91 = .ok (.invokestatic 275, 3) := by decide +kernel
theorem dX10_guessStands_94 : decode cX10_guessStands 94 = .ok (.invokestatic 287, 3) := by decide +kernel
theorem dX10_guessStands_97 : decode cX10_guessStands 97 = .ok (.iload_n 1, 1) := by decide +kernel
theorem dX10_guessStands_98 : decode cX10_guessStands 98 = .ok (.if_icmp .gt 7, 3) := by decide +kernel
theorem dX10_guessStands_101 : decode cX10_guessStands 101 = .ok (.iconst 1, 1) := by decide +kernel
theorem dX10_guessStands_102 : decode cX10_guessStands 102 = .ok (.goto 4, 3) := by decide +kernel
theorem dX10_guessStands_105 : decode cX10_guessStands 105 = .ok (.iconst 0, 1) := by decide +kernel
theorem dX10_guessStands_106 : decode cX10_guessStands 106 = .ok (.ireturn, 1) := by decide +kernel
theorem dX10_oneStep_0 : decode cX10_oneStep 0 = .ok (.iconst 0, 1) := by decide +kernel
theorem dX10_oneStep_1 : decode cX10_oneStep 1 = .ok (.istore_n 2, 1) := by decide +kernel
theorem dX10_oneStep_2 : decode cX10_oneStep 2 = .ok (.iload_n 2, 1) := by decide +kernel
theorem dX10_oneStep_3 : decode cX10_oneStep 3 = .ok (.aload_n 0, 1) := by decide +kernel
theorem dX10_oneStep_4 : decode cX10_oneStep 4 = .ok (.getfield 37, 3) := by decide +kernel
theorem dX10_oneStep_7 : decode cX10_oneStep 7 = .ok (.getfield 126, 3) := by decide +kernel
theorem dX10_oneStep_10 : decode cX10_oneStep 10 = .ok (.if_icmp .ge 36, 3) := by decide +kernel
theorem dX10_oneStep_13 : decode cX10_oneStep 13 = .ok (.aload_n 0, 1) := by decide +kernel
theorem dX10_oneStep_14 : decode cX10_oneStep 14 = .ok (.iload_n 2, 1) := by decide +kernel
theorem dX10_oneStep_15 : decode cX10_oneStep 15 = .ok (.iload_n 1, 1) := by decide +kernel
theorem dX10_oneStep_16 : decode cX10_oneStep 16 = .ok (.invokevirtual 317, 3) := by decide +kernel
theorem dX10_oneStep_19 : decode cX10_oneStep 19 = .ok (.istore_n 3, 1) := by decide +kernel
theorem dX10_oneStep_20 : decode cX10_oneStep 20 = .ok (.iload_n 3, 1) := by decide +kernel
theorem dX10_oneStep_21 : decode cX10_oneStep 21 = .ok (.iconst (-1), 1) := by decide +kernel
theorem dX10_oneStep_22 : decode cX10_oneStep 22 = .ok (.if_icmp .eq 18, 3) := by decide +kernel
theorem dX10_oneStep_25 : decode cX10_oneStep 25 = .ok (.aload_n 0, 1) := by decide +kernel
theorem dX10_oneStep_26 : decode cX10_oneStep 26 = .ok (.getfield 19, 3) := by decide +kernel
theorem dX10_oneStep_29 : decode cX10_oneStep 29 = .ok (.bipush 10, 2) := by decide +kernel
theorem dX10_oneStep_31 : decode cX10_oneStep 31 = .ok (.iload_n 2, 1) := by decide +kernel
theorem dX10_oneStep_32 : decode cX10_oneStep 32 = .ok (.imul, 1) := by decide +kernel
theorem dX10_oneStep_33 : decode cX10_oneStep 33 = .ok (.iload_n 3, 1) := by decide +kernel
theorem dX10_oneStep_34 : decode cX10_oneStep 34 = .ok (.iadd, 1) := by decide +kernel
theorem dX10_oneStep_35 : decode cX10_oneStep 35 = .ok (.invokevirtual 285, 3) := by decide +kernel
theorem dX10_oneStep_38 : decode cX10_oneStep 38 = .ok (.iconst 1, 1) := by decide +kernel
theorem dX10_oneStep_39 : decode cX10_oneStep 39 = .ok (.ireturn, 1) := by decide +kernel
theorem dX10_oneStep_40 : decode cX10_oneStep 40 = .ok (.iinc 2 1, 3) := by decide +kernel
theorem dX10_oneStep_43 : decode cX10_oneStep 43 = .ok (.goto (-41), 3) := by decide +kernel
theorem dX10_oneStep_46 : decode cX10_oneStep 46 = .ok (.iconst 0, 1) := by decide +kernel
theorem dX10_oneStep_47 : decode cX10_oneStep 47 = .ok (.ireturn, 1) := by decide +kernel
theorem dX10_twoSteps_0 : decode cX10_twoSteps 0 = .ok (.iconst 0, 1) := by decide +kernel
theorem dX10_twoSteps_1 : decode cX10_twoSteps 1 = .ok (.istore_n 2, 1) := by decide +kernel
theorem dX10_twoSteps_2 : decode cX10_twoSteps 2 = .ok (.iload_n 2, 1) := by decide +kernel
theorem dX10_twoSteps_3 : decode cX10_twoSteps 3 = .ok (.aload_n 0, 1) := by decide +kernel
theorem dX10_twoSteps_4 : decode cX10_twoSteps 4 = .ok (.getfield 37, 3) := by decide +kernel
theorem dX10_twoSteps_7 : decode cX10_twoSteps 7 = .ok (.getfield 126, 3) := by decide +kernel
theorem dX10_twoSteps_10 : decode cX10_twoSteps 10 = .ok (.if_icmp .ge 75, 3) := by decide +kernel
theorem dX10_twoSteps_13 : decode cX10_twoSteps 13 = .ok (.iconst 0, 1) := by decide +kernel
theorem dX10_twoSteps_14 : decode cX10_twoSteps 14 = .ok (.istore_n 3, 1) := by decide +kernel
theorem dX10_twoSteps_15 : decode cX10_twoSteps 15 = .ok (.iload_n 3, 1) := by decide +kernel
theorem dX10_twoSteps_16 : decode cX10_twoSteps 16 = .ok (.bipush 6, 2) := by decide +kernel
theorem dX10_twoSteps_18 : decode cX10_twoSteps 18 = .ok (.if_icmp .ge 43, 3) := by decide +kernel
theorem dX10_twoSteps_21 : decode cX10_twoSteps 21 = .ok (.aload_n 0, 1) := by decide +kernel
theorem dX10_twoSteps_22 : decode cX10_twoSteps 22 = .ok (.getfield 37, 3) := by decide +kernel
theorem dX10_twoSteps_25 : decode cX10_twoSteps 25 = .ok (.getfield 168, 3) := by decide +kernel
theorem dX10_twoSteps_28 : decode cX10_twoSteps 28 = .ok (.iload_n 2, 1) := by decide +kernel
theorem dX10_twoSteps_29 : decode cX10_twoSteps 29 = .ok (.iload_n 3, 1) := by decide +kernel
theorem dX10_twoSteps_30 : decode cX10_twoSteps 30 = .ok (.iastore, 1) := by decide +kernel
theorem dX10_twoSteps_31 : decode cX10_twoSteps 31 = .ok (.iload_n 3, 1) := by decide +kernel
theorem dX10_twoSteps_32 : decode cX10_twoSteps 32 = .ok (.aload_n 0, 1) := by decide +kernel
theorem dX10_twoSteps_33 : decode cX10_twoSteps 33 = .ok (.getfield 33, 3) := by decide +kernel
theorem dX10_twoSteps_36 : decode cX10_twoSteps 36 = .ok (.getfield 168, 3) := by decide +kernel
theorem dX10_twoSteps_39 : decode cX10_twoSteps 39 = .ok (.iload_n 2, 1) := by decide +kernel
theorem dX10_twoSteps_40 : decode cX10_twoSteps 40 = .ok (.iaload, 1) := by decide +kernel
theorem dX10_twoSteps_41 : decode cX10_twoSteps 41 = .ok (.if_icmp .eq 14, 3) := by decide +kernel
theorem dX10_twoSteps_44 : decode cX10_twoSteps 44 = .ok (.aload_n 0, 1) := by decide +kernel
theorem dX10_twoSteps_45 : decode cX10_twoSteps 45 = .ok (.iload_n 2, 1) := by decide +kernel
theorem dX10_twoSteps_46 : decode cX10_twoSteps 46 = .ok (.iload_n 1, 1) := by decide +kernel
theorem dX10_twoSteps_47 : decode cX10_twoSteps 47 = .ok (.invokevirtual 320, 3) := by decide +kernel
theorem dX10_twoSteps_50 : decode cX10_twoSteps 50 = .ok (.ifCond .eq 5, 3) := by decide +kernel
theorem dX10_twoSteps_53 : decode cX10_twoSteps 53 = .ok (.iconst 1, 1) := by decide +kernel
theorem dX10_twoSteps_54 : decode cX10_twoSteps 54 = .ok (.ireturn, 1) := by decide +kernel
theorem dX10_twoSteps_55 : decode cX10_twoSteps 55 = .ok (.iinc 3 1, 3) := by decide +kernel
theorem dX10_twoSteps_58 : decode cX10_twoSteps 58 = .ok (.goto (-43), 3) := by decide +kernel
theorem dX10_twoSteps_61 : decode cX10_twoSteps 61 = .ok (.aload_n 0, 1) := by decide +kernel
theorem dX10_twoSteps_62 : decode cX10_twoSteps 62 = .ok (.getfield 37, 3) := by decide +kernel
theorem dX10_twoSteps_65 : decode cX10_twoSteps 65 = .ok (.getfield 168, 3) := by decide +kernel
theorem dX10_twoSteps_68 : decode cX10_twoSteps 68 = .ok (.iload_n 2, 1) := by decide +kernel
theorem dX10_twoSteps_69 : decode cX10_twoSteps 69 = .ok (.aload_n 0, 1) := by decide +kernel
theorem dX10_twoSteps_70 : decode cX10_twoSteps 70 = .ok (.getfield 33, 3) := by decide +kernel
theorem dX10_twoSteps_73 : decode cX10_twoSteps 73 = .ok (.getfield 168, 3) := by decide +kernel
theorem dX10_twoSteps_76 : decode cX10_twoSteps 76 = .ok (.iload_n 2, 1) := by decide +kernel
theorem dX10_twoSteps_77 : decode cX10_twoSteps 77 = .ok (.iaload, 1) := by decide +kernel
theorem dX10_twoSteps_78 : decode cX10_twoSteps 78 = .ok (.iastore, 1) := by decide +kernel
theorem dX10_twoSteps_79 : decode cX10_twoSteps 79 = .ok (.iinc 2 1, 3) := by decide +kernel
theorem dX10_twoSteps_82 : decode cX10_twoSteps 82 = .ok (.goto (-80), 3) := by decide +kernel
theorem dX10_twoSteps_85 : decode cX10_twoSteps 85 = .ok (.iconst 0, 1) := by decide +kernel
theorem dX10_twoSteps_86 : decode cX10_twoSteps 86 = .ok (.ireturn, 1) := by decide +kernel
theorem dX10_secondStep_0 : decode cX10_secondStep 0 = .ok (.iload_n 1, 1) := by decide +kernel
theorem dX10_secondStep_1 : decode cX10_secondStep 1 = .ok (.iconst 1, 1) := by decide +kernel
theorem dX10_secondStep_2 : decode cX10_secondStep 2 = .ok (.iadd, 1) := by decide +kernel
theorem dX10_secondStep_3 : decode cX10_secondStep 3 = .ok (.istore_n 3, 1) := by decide +kernel
theorem dX10_secondStep_4 : decode cX10_secondStep 4 = .ok (.iload_n 3, 1) := by decide +kernel
theorem dX10_secondStep_5 : decode cX10_secondStep 5 = .ok (.aload_n 0, 1) := by decide +kernel
theorem dX10_secondStep_6 : decode cX10_secondStep 6 = .ok (.getfield 37, 3) := by decide +kernel
theorem dX10_secondStep_9 : decode cX10_secondStep 9 = .ok (.getfield 126, 3) := by decide +kernel
theorem dX10_secondStep_12 : decode cX10_secondStep 12 = .ok (.if_icmp .ge 53, 3) := by decide +kernel
theorem dX10_secondStep_15 : decode cX10_secondStep 15 = .ok (.aload_n 0, 1) := by decide +kernel
theorem dX10_secondStep_16 : decode cX10_secondStep 16 = .ok (.iload_n 3, 1) := by decide +kernel
theorem dX10_secondStep_17 : decode cX10_secondStep 17 = .ok (.iload_n 2, 1) := by decide +kernel
theorem dX10_secondStep_18 : decode cX10_secondStep 18 = .ok (.invokevirtual 317, 3) := by decide +kernel
theorem dX10_secondStep_21 : decode cX10_secondStep 21 = .ok (.istore 4, 2) := by decide +kernel
theorem dX10_secondStep_23 : decode cX10_secondStep 23 = .ok (.iload 4, 2) := by decide +kernel
theorem dX10_secondStep_25 : decode cX10_secondStep 25 = .ok (.iconst (-1), 1) := by decide +kernel
theorem dX10_secondStep_26 : decode cX10_secondStep 26 = .ok (.if_icmp .eq 33, 3) := by decide +kernel
theorem dX10_secondStep_29 : decode cX10_secondStep 29 = .ok (.aload_n 0, 1) := by decide +kernel
theorem dX10_secondStep_30 : decode cX10_secondStep 30 = .ok (.getfield 19, 3) := by decide +kernel
theorem dX10_secondStep_33 : decode cX10_secondStep 33 = .ok (.bipush 10, 2) := by decide +kernel
theorem dX10_secondStep_35 : decode cX10_secondStep 35 = .ok (.iload_n 1, 1) := by decide +kernel
theorem dX10_secondStep_36 : decode cX10_secondStep 36 = .ok (.imul, 1) := by decide +kernel
theorem dX10_secondStep_37 : decode cX10_secondStep 37 = .ok (.aload_n 0, 1) := by decide +kernel
theorem dX10_secondStep_38 : decode cX10_secondStep 38 = .ok (.getfield 37, 3) := by decide +kernel
theorem dX10_secondStep_41 : decode cX10_secondStep 41 = .ok (.getfield 168, 3) := by decide +kernel
theorem dX10_secondStep_44 : decode cX10_secondStep 44 = .ok (.iload_n 1, 1) := by decide +kernel
theorem dX10_secondStep_45 : decode cX10_secondStep 45 = .ok (.iaload, 1) := by decide +kernel
theorem dX10_secondStep_46 : decode cX10_secondStep 46 = .ok (.iadd, 1) := by decide +kernel
theorem dX10_secondStep_47 : decode cX10_secondStep 47 = .ok (.bipush 10, 2) := by decide +kernel
theorem dX10_secondStep_49 : decode cX10_secondStep 49 = .ok (.iload_n 3, 1) := by decide +kernel
theorem dX10_secondStep_50 : decode cX10_secondStep 50 = .ok (.imul, 1) := by decide +kernel
theorem dX10_secondStep_51 : decode cX10_secondStep 51 = .ok (.iload 4, 2) := by decide +kernel
theorem dX10_secondStep_53 : decode cX10_secondStep 53 = .ok (.iadd, 1) := by decide +kernel
theorem dX10_secondStep_54 : decode cX10_secondStep 54 = .ok (.invokevirtual 204, 3) := by decide +kernel
theorem dX10_secondStep_57 : decode cX10_secondStep 57 = .ok (.iconst 1, 1) := by decide +kernel
theorem dX10_secondStep_58 : decode cX10_secondStep 58 = .ok (.ireturn, 1) := by decide +kernel
theorem dX10_secondStep_59 : decode cX10_secondStep 59 = .ok (.iinc 3 1, 3) := by decide +kernel
theorem dX10_secondStep_62 : decode cX10_secondStep 62 = .ok (.goto (-58), 3) := by decide +kernel
theorem dX10_secondStep_65 : decode cX10_secondStep 65 = .ok (.iconst 0, 1) := by decide +kernel
theorem dX10_secondStep_66 : decode cX10_secondStep 66 = .ok (.ireturn, 1) := by decide +kernel
theorem dX10_tellingThatStands_0 : decode cX10_tellingThatStands 0 = .ok (.iconst (-1), 1) := by decide +kernel
theorem dX10_tellingThatStands_1 : decode cX10_tellingThatStands 1 = .ok (.istore_n 3, 1) := by decide +kernel
theorem dX10_tellingThatStands_2 : decode cX10_tellingThatStands 2 = .ok (.iconst 0, 1) := by decide +kernel
theorem dX10_tellingThatStands_3 : decode cX10_tellingThatStands 3 = .ok (.istore 4, 2) := by decide +kernel
theorem dX10_tellingThatStands_5 : decode cX10_tellingThatStands 5 = .ok (.iload 4, 2) := by decide +kernel
theorem dX10_tellingThatStands_7 : decode cX10_tellingThatStands 7 = .ok (.bipush 6, 2) := by decide +kernel
theorem dX10_tellingThatStands_9 : decode cX10_tellingThatStands 9 = .ok (.if_icmp .ge 50, 3) := by decide +kernel
theorem dX10_tellingThatStands_12 : decode cX10_tellingThatStands 12 = .ok (.iload_n 3, 1) := by decide +kernel
theorem dX10_tellingThatStands_13 : decode cX10_tellingThatStands 13 = .ok (.iconst (-1), 1) := by decide +kernel
theorem dX10_tellingThatStands_14 : decode cX10_tellingThatStands 14 = .ok (.if_icmp .ne 45, 3) := by decide +kernel
theorem dX10_tellingThatStands_17 : decode cX10_tellingThatStands 17 = .ok (.aload_n 0, 1) := by decide +kernel
theorem dX10_tellingThatStands_18 : decode cX10_tellingThatStands 18 = .ok (.getfield 37, 3) := by decide +kernel
theorem dX10_tellingThatStands_21 : decode cX10_tellingThatStands 21 = .ok (.getfield 168, 3) := by decide +kernel
theorem dX10_tellingThatStands_24 : decode cX10_tellingThatStands 24 = .ok (.iload_n 1, 1) := by decide +kernel
theorem dX10_tellingThatStands_25 : decode cX10_tellingThatStands 25 = .ok (.iload 4, 2) := by decide +kernel
theorem dX10_tellingThatStands_27 : decode cX10_tellingThatStands 27 = .ok (.iastore, 1) := by decide +kernel
theorem dX10_tellingThatStands_28 : decode cX10_tellingThatStands 28 = .ok (.iload 4, 2) := by decide +kernel
theorem dX10_tellingThatStands_30 : decode cX10_tellingThatStands 30 = .ok (.aload_n 0, 1) := by decide +kernel
theorem dX10_tellingThatStands_31 : decode cX10_tellingThatStands 31 = .ok (.getfield 33, 3) := by decide +kernel
theorem dX10_tellingThatStands_34 : decode cX10_tellingThatStands 34 = .ok (.getfield 168, 3) := by decide +kernel
theorem dX10_tellingThatStands_37 : decode cX10_tellingThatStands 37 = .ok (.iload_n 1, 1) := by decide +kernel
theorem dX10_tellingThatStands_38 : decode cX10_tellingThatStands 38 = .ok (.iaload, 1) := by decide +kernel
theorem dX10_tellingThatStands_39 : decode cX10_tellingThatStands 39 = .ok (.if_icmp .eq 14, 3) := by decide +kernel
theorem dX10_tellingThatStands_42 : decode cX10_tellingThatStands 42 = .ok (.aload_n 0, 1) := by decide +kernel
theorem dX10_tellingThatStands_43 : decode cX10_tellingThatStands 43 = .ok (.iload_n 2, 1) := by decide +kernel
theorem dX10_tellingThatStands_44 : decode cX10_tellingThatStands 44 = .ok (.invokevirtual 324, 3) := by decide +kernel
theorem dX10_tellingThatStands_47 : decode cX10_tellingThatStands 47 = .ok (.ifCond .eq 6, 3) := by decide +kernel
theorem dX10_tellingThatStands_50 : decode cX10_tellingThatStands 50 = .ok (.iload 4, 2) := by decide +kernel
theorem dX10_tellingThatStands_52 : decode cX10_tellingThatStands 52 = .ok (.istore_n 3, 1) := by decide +kernel
theorem dX10_tellingThatStands_53 : decode cX10_tellingThatStands 53 = .ok (.iinc 4 1, 3) := by decide +kernel
theorem dX10_tellingThatStands_56 : decode cX10_tellingThatStands 56 = .ok (.goto (-51), 3) := by decide +kernel
theorem dX10_tellingThatStands_59 : decode cX10_tellingThatStands 59 = .ok (.aload_n 0, 1) := by decide +kernel
theorem dX10_tellingThatStands_60 : decode cX10_tellingThatStands 60 = .ok (.getfield 37, 3) := by decide +kernel
theorem dX10_tellingThatStands_63 : decode cX10_tellingThatStands 63 = .ok (.getfield 168, 3) := by decide +kernel
theorem dX10_tellingThatStands_66 : decode cX10_tellingThatStands 66 = .ok (.iload_n 1, 1) := by decide +kernel
theorem dX10_tellingThatStands_67 : decode cX10_tellingThatStands 67 = .ok (.aload_n 0, 1) := by decide +kernel
theorem dX10_tellingThatStands_68 : decode cX10_tellingThatStands 68 = .ok (.getfield 33, 3) := by decide +kernel
theorem dX10_tellingThatStands_71 : decode cX10_tellingThatStands 71 = .ok (.getfield 168, 3) := by decide +kernel
theorem dX10_tellingThatStands_74 : decode cX10_tellingThatStands 74 = .ok (.iload_n 1, 1) := by decide +kernel
theorem dX10_tellingThatStands_75 : decode cX10_tellingThatStands 75 = .ok (.iaload, 1) := by decide +kernel
theorem dX10_tellingThatStands_76 : decode cX10_tellingThatStands 76 = .ok (.iastore, 1) := by decide +kernel
theorem dX10_tellingThatStands_77 : decode cX10_tellingThatStands 77 = .ok (.iload_n 3, 1) := by decide +kernel
theorem dX10_tellingThatStands_78 : decode cX10_tellingThatStands 78 = .ok (.ireturn, 1) := by decide +kernel
theorem dX10_parties_0 : decode cX10_parties 0 = .ok (.aload_n 0, 1) := by decide +kernel
theorem dX10_parties_1 : decode cX10_parties 1 = .ok (.invokevirtual 263, 3) := by decide +kernel
theorem dX10_parties_4 : decode cX10_parties 4 = .ok (.aload_n 0, 1) := by decide +kernel
theorem dX10_parties_5 : decode cX10_parties 5 = .ok (.iconst 1, 1) := by decide +kernel
theorem dX10_parties_6 : decode cX10_parties 6 = .ok (.aload_n 0, 1) := by decide +kernel
theorem dX10_parties_7 : decode cX10_parties 7 = .ok (.getfield 33, 3) := by decide +kernel
theorem dX10_parties_10 : decode cX10_parties 10 = .ok (.getfield 126, 3) := by decide +kernel
theorem dX10_parties_13 : decode cX10_parties 13 = .ok (.ishl, 1) := by decide +kernel
theorem dX10_parties_14 : decode cX10_parties 14 = .ok (.iconst 1, 1) := by decide +kernel
theorem dX10_parties_15 : decode cX10_parties 15 = .ok (.isub, 1) := by decide +kernel
theorem dX10_parties_16 : decode cX10_parties 16 = .ok (.invokevirtual 327, 3) := by decide +kernel
theorem dX10_parties_19 : decode cX10_parties 19 = .ok (.istore_n 1, 1) := by decide +kernel
theorem dX10_parties_20 : decode cX10_parties 20 = .ok (.iload_n 1, 1) := by decide +kernel
theorem dX10_parties_21 : decode cX10_parties 21 = .ok (.istore_n 2, 1) := by decide +kernel
theorem dX10_parties_22 : decode cX10_parties 22 = .ok (.iconst 0, 1) := by decide +kernel
theorem dX10_parties_23 : decode cX10_parties 23 = .ok (.istore_n 3, 1) := by decide +kernel
theorem dX10_parties_24 : decode cX10_parties 24 = .ok (.iconst 1, 1) := by decide +kernel
theorem dX10_parties_25 : decode cX10_parties 25 = .ok (.istore 4, 2) := by decide +kernel
theorem dX10_parties_27 : decode cX10_parties 27 = .ok (.iload 4, 2) := by decide +kernel
theorem dX10_parties_29 : decode cX10_parties 29 = .ok (.iconst 1, 1) := by decide +kernel
theorem dX10_parties_30 : decode cX10_parties 30 = .ok (.aload_n 0, 1) := by decide +kernel
theorem dX10_parties_31 : decode cX10_parties 31 = .ok (.getfield 33, 3) := by decide +kernel
theorem dX10_parties_34 : decode cX10_parties 34 = .ok (.getfield 126, 3) := by decide +kernel
theorem dX10_parties_37 : decode cX10_parties 37 = .ok (.ishl, 1) := by decide +kernel
theorem dX10_parties_38 : decode cX10_parties 38 = .ok (.if_icmp .ge 36, 3) := by decide +kernel
theorem dX10_parties_41 : decode cX10_parties 41 = .ok (.iload_n 1, 1) := by decide +kernel
theorem dX10_parties_42 : decode cX10_parties 42 = .ok (.iconst 2, 1) := by decide +kernel
theorem dX10_parties_43 : decode cX10_parties 43 = .ok (.aload_n 0, 1) := by decide +kernel
theorem dX10_parties_44 : decode cX10_parties 44 = .ok (.iload 4, 2) := by decide +kernel
theorem dX10_parties_46 : decode cX10_parties 46 = .ok (.invokevirtual 327, 3) := by decide +kernel
theorem dX10_parties_49 : decode cX10_parties 49 = .ok (.imul, 1) := by decide +kernel
theorem dX10_parties_50 : decode cX10_parties 50 = .ok (.isub, 1) := by decide +kernel
theorem dX10_parties_51 : decode cX10_parties 51 = .ok (.invokestatic 287, 3) := by decide +kernel
theorem dX10_parties_54 : decode cX10_parties 54 = .ok (.istore 5, 2) := by decide +kernel
theorem dX10_parties_56 : decode cX10_parties 56 = .ok (.iload 5, 2) := by decide +kernel
theorem dX10_parties_58 : decode cX10_parties 58 = .ok (.iload_n 2, 1) := by decide +kernel
theorem dX10_parties_59 : decode cX10_parties 59 = .ok (.if_icmp .ge 9, 3) := by decide +kernel
theorem dX10_parties_62 : decode cX10_parties 62 = .ok (.iload 5, 2) := by decide +kernel
theorem dX10_parties_64 : decode cX10_parties 64 = .ok (.istore_n 2, 1) := by decide +kernel
theorem dX10_parties_65 : decode cX10_parties 65 = .ok (.iload 4, 2) := by decide +kernel
theorem dX10_parties_67 : decode cX10_parties 67 = .ok (.istore_n 3, 1) := by decide +kernel
theorem dX10_parties_68 : decode cX10_parties 68 = .ok (.iinc 4 1, 3) := by decide +kernel
theorem dX10_parties_71 : decode cX10_parties 71 = .ok (.goto (-44), 3) := by decide +kernel
theorem dX10_parties_74 : decode cX10_parties 74 = .ok (.aload_n 0, 1) := by decide +kernel
theorem dX10_parties_75 : decode cX10_parties 75 = .ok (.getfield 19, 3) := by decide +kernel
theorem dX10_parties_78 : decode cX10_parties 78 = .ok (.iload_n 3, 1) := by decide +kernel
theorem dX10_parties_79 : decode cX10_parties 79 = .ok (.aload_n 0, 1) := by decide +kernel
theorem dX10_parties_80 : decode cX10_parties 80 = .ok (.iload_n 3, 1) := by decide +kernel
theorem dX10_parties_81 : decode cX10_parties 81 = .ok (.invokevirtual 327, 3) := by decide +kernel
theorem dX10_parties_84 : decode cX10_parties 84 = .ok (.invokevirtual 204, 3) := by decide +kernel
theorem dX10_parties_87 : decode cX10_parties 87 = .ok (.iload_n 2, 1) := by decide +kernel
theorem dX10_parties_88 : decode cX10_parties 88 = .ok (.ireturn, 1) := by decide +kernel
theorem dX10_just_0 : decode cX10_just 0 = .ok (.iload_n 1, 1) := by decide +kernel
theorem dX10_just_1 : decode cX10_just 1 = .ok (.iconst 0, 1) := by decide +kernel
theorem dX10_just_2 : decode cX10_just 2 = .ok (.sipush 140, 3) := by decide +kernel
theorem dX10_just_5 : decode cX10_just 5 = .ok (.invokestatic 158, 3) := by decide +kernel
theorem dX10_just_8 : decode cX10_just 8 = .ok (.ifCond .ne 5, 3) := by decide +kernel
theorem dX10_just_11 : decode cX10_just 11 = .ok (.iconst (-1), 1) := by decide +kernel
theorem dX10_just_12 : decode cX10_just 12 = .ok (.ireturn, 1) := by decide +kernel
theorem dX10_just_13 : decode cX10_just 13 = .ok (.aload_n 0, 1) := by decide +kernel
theorem dX10_just_14 : decode cX10_just 14 = .ok (.invokevirtual 263, 3) := by decide +kernel
theorem dX10_just_17 : decode cX10_just 17 = .ok (.bipush 8, 2) := by decide +kernel
theorem dX10_just_19 : decode cX10_just 19 = .ok (.istore_n 2, 1) := by decide +kernel
theorem dX10_just_20 : decode cX10_just 20 = .ok (.iconst 0, 1) := by decide +kernel
theorem dX10_just_21 : decode cX10_just 21 = .ok (.istore_n 3, 1) := by decide +kernel
theorem dX10_just_22 : decode cX10_just 22 = .ok (.iconst 0, 1) := by decide +kernel
theorem dX10_just_23 : decode cX10_just 23 = .ok (.istore 4, 2) := by decide +kernel
theorem dX10_just_25 : decode cX10_just 25 = .ok (.iconst 0, 1) := by decide +kernel
theorem dX10_just_26 : decode cX10_just 26 = .ok (.istore 5, 2) := by decide +kernel
theorem dX10_just_28 : decode cX10_just 28 = .ok (.iload 5, 2) := by decide +kernel
theorem dX10_just_30 : decode cX10_just 30 = .ok (.iconst 1, 1) := by decide +kernel
theorem dX10_just_31 : decode cX10_just 31 = .ok (.aload_n 0, 1) := by decide +kernel
theorem dX10_just_32 : decode cX10_just 32 = .ok (.getfield 33, 3) := by decide +kernel
theorem dX10_just_35 : decode cX10_just 35 = .ok (.getfield 126, 3) := by decide +kernel
theorem dX10_just_38 : decode cX10_just 38 = .ok (.ishl, 1) := by decide +kernel
theorem dX10_just_39 : decode cX10_just 39 = .ok (.if_icmp .ge 40, 3) := by decide +kernel
theorem dX10_just_42 : decode cX10_just 42 = .ok (.aload_n 0, 1) := by decide +kernel
theorem dX10_just_43 : decode cX10_just 43 = .ok (.iload 5, 2) := by decide +kernel
theorem dX10_just_45 : decode cX10_just 45 = .ok (.invokevirtual 327, 3) := by decide +kernel
theorem dX10_just_48 : decode cX10_just 48 = .ok (.iload_n 1, 1) := by decide +kernel
theorem dX10_just_49 : decode cX10_just 49 = .ok (.if_icmp .ne 24, 3) := by decide +kernel
theorem dX10_just_52 : decode cX10_just 52 = .ok (.iinc 4 1, 3) := by decide +kernel
theorem dX10_just_55 : decode cX10_just 55 = .ok (.iload 5, 2) := by decide +kernel
theorem dX10_just_57 : decode cX10_just 57 = .ok (.invokestatic 330, 3) := by decide +kernel
theorem dX10_just_60 : decode cX10_just 60 = .ok (.iload_n 2, 1) := by decide +kernel
theorem dX10_just_61 : decode cX10_just 61 = .ok (.if_icmp .ge 12, 3) := by decide +kernel
theorem dX10_just_64 : decode cX10_just 64 = .ok (.iload 5, 2) := by decide +kernel
theorem dX10_just_66 : decode cX10_just 66 = .ok (.invokestatic 330, 3) := by decide +kernel
theorem dX10_just_69 : decode cX10_just 69 = .ok (.istore_n 2, 1) := by decide +kernel
theorem dX10_just_70 : decode cX10_just 70 = .ok (.iload 5, 2) := by decide +kernel
theorem dX10_just_72 : decode cX10_just 72 = .ok (.istore_n 3, 1) := by decide +kernel
theorem dX10_just_73 : decode cX10_just 73 = .ok (.iinc 5 1, 3) := by decide +kernel
theorem dX10_just_76 : decode cX10_just 76 = .ok (.goto (-48), 3) := by decide +kernel
theorem dX10_just_79 : decode cX10_just 79 = .ok (.iload 4, 2) := by decide +kernel
theorem dX10_just_81 : decode cX10_just 81 = .ok (.ifCond .ne 6, 3) := by decide +kernel
theorem dX10_just_84 : decode cX10_just 84 = .ok (.bipush (-2), 2) := by decide +kernel
theorem dX10_just_86 : decode cX10_just 86 = .ok (.ireturn, 1) := by decide +kernel
theorem dX10_just_87 : decode cX10_just 87 = .ok (.aload_n 0, 1) := by decide +kernel
theorem dX10_just_88 : decode cX10_just 88 = .ok (.getfield 19, 3) := by decide +kernel
theorem dX10_just_91 : decode cX10_just 91 = .ok (.iload_n 3, 1) := by decide +kernel
theorem dX10_just_92 : decode cX10_just 92 = .ok (.iload 4, 2) := by decide +kernel
theorem dX10_just_94 : decode cX10_just 94 = .ok (.invokevirtual 204, 3) := by decide +kernel
theorem dX10_just_97 : decode cX10_just 97 = .ok (.iload_n 2, 1) := by decide +kernel
theorem dX10_just_98 : decode cX10_just 98 = .ok (.ireturn, 1) := by decide +kernel
theorem dX10_swaps_0 : decode cX10_swaps 0 = .ok (.aload_n 0, 1) := by decide +kernel
theorem dX10_swaps_1 : decode cX10_swaps 1 = .ok (.getfield 33, 3) := by decide +kernel
theorem dX10_swaps_4 : decode cX10_swaps 4 = .ok (.getfield 126, 3) := by decide +kernel
theorem dX10_swaps_7 : decode cX10_swaps 7 = .ok (.iconst 2, 1) := by decide +kernel
theorem dX10_swaps_8 : decode cX10_swaps 8 = .ok (.if_icmp .ge 6, 3) := by decide +kernel
theorem dX10_swaps_11 : decode cX10_swaps 11 = .ok (.bipush (-2), 2) := by decide +kernel
theorem dX10_swaps_13 : decode cX10_swaps 13 = .ok (.ireturn, 1) := by decide +kernel
theorem dX10_swaps_14 : decode cX10_swaps 14 = .ok (.aload_n 0, 1) := by decide +kernel
theorem dX10_swaps_15 : decode cX10_swaps 15 = .ok (.getfield 37, 3) := by decide +kernel
theorem dX10_swaps_18 : decode cX10_swaps 18 = .ok (.aload_n 0, 1) := by decide +kernel
theorem dX10_swaps_19 : decode cX10_swaps 19 = .ok (.getfield 33, 3) := by decide +kernel
theorem dX10_swaps_22 : decode cX10_swaps 22 = .ok (.invokevirtual 188, 3) := by decide +kernel
theorem dX10_swaps_25 : decode cX10_swaps 25 = .ok (.iconst 0, 1) := by decide +kernel
theorem dX10_swaps_26 : decode cX10_swaps 26 = .ok (.istore_n 1, 1) := by decide +kernel
theorem dX10_swaps_27 : decode cX10_swaps 27 = .ok (.bipush 21, 2) := by decide +kernel
theorem dX10_swaps_29 : decode cX10_swaps 29 = .ok (.istore_n 2, 1) := by decide +kernel
theorem dX10_swaps_30 : decode cX10_swaps 30 = .ok (.iconst 0, 1) := by decide +kernel
theorem dX10_swaps_31 : decode cX10_swaps 31 = .ok (.istore_n 3, 1) := by decide +kernel
theorem dX10_swaps_32 : decode cX10_swaps 32 = .ok (.iload_n 3, 1) := by decide +kernel
theorem dX10_swaps_33 : decode cX10_swaps 33 = .ok (.aload_n 0, 1) := by decide +kernel
theorem dX10_swaps_34 : decode cX10_swaps 34 = .ok (.getfield 33, 3) := by decide +kernel
theorem dX10_swaps_37 : decode cX10_swaps 37 = .ok (.getfield 126, 3) := by decide +kernel
theorem dX10_swaps_40 : decode cX10_swaps 40 = .ok (.if_icmp .ge 64, 3) := by decide +kernel
theorem dX10_swaps_43 : decode cX10_swaps 43 = .ok (.iload_n 3, 1) := by decide +kernel
theorem dX10_swaps_44 : decode cX10_swaps 44 = .ok (.iconst 1, 1) := by decide +kernel
theorem dX10_swaps_45 : decode cX10_swaps 45 = .ok (.iadd, 1) := by decide +kernel
theorem dX10_swaps_46 : decode cX10_swaps 46 = .ok (.istore 4, 2) := by decide +kernel
theorem dX10_swaps_48 : decode cX10_swaps 48 = .ok (.iload 4, 2) := by decide +kernel
theorem dX10_swaps_50 : decode cX10_swaps 50 = .ok (.aload_n 0, 1) := by decide +kernel
theorem dX10_swaps_51 : decode cX10_swaps 51 = .ok (.getfield 33, 3) := by decide +kernel
theorem dX10_swaps_54 : decode cX10_swaps 54 = .ok (.getfield 126, 3) := by decide +kernel
theorem dX10_swaps_57 : decode cX10_swaps 57 = .ok (.if_icmp .ge 41, 3) := by decide +kernel
theorem dX10_swaps_60 : decode cX10_swaps 60 = .ok (.aload_n 0, 1) := by decide +kernel
theorem dX10_swaps_61 : decode cX10_swaps 61 = .ok (.iload_n 3, 1) := by decide +kernel
theorem dX10_swaps_62 : decode cX10_swaps 62 = .ok (.iload 4, 2) := by decide +kernel
theorem dX10_swaps_64 : decode cX10_swaps 64 = .ok (.invokevirtual 335, 3) := by decide +kernel
theorem dX10_swaps_67 : decode cX10_swaps 67 = .ok (.istore 5, 2) := by decide +kernel
theorem dX10_swaps_69 : decode cX10_swaps 69 = .ok (.iload 5, 2) := by decide +kernel
theorem dX10_swaps_71 : decode cX10_swaps 71 = .ok (.invokestatic 287, 3) := by decide +kernel
theorem dX10_swaps_74 : decode cX10_swaps 74 = .ok (.iload_n 2, 1) := by decide +kernel
theorem dX10_swaps_75 : decode cX10_swaps 75 = .ok (.invokestatic 287, 3) := by decide +kernel
theorem dX10_swaps_78 : decode cX10_swaps 78 = .ok (.if_icmp .ge 14, 3) := by decide +kernel
theorem dX10_swaps_81 : decode cX10_swaps 81 = .ok (.iload 5, 2) := by decide +kernel
theorem dX10_swaps_83 : decode cX10_swaps 83 = .ok (.istore_n 2, 1) := by decide +kernel
theorem dX10_swaps_84 : decode cX10_swaps 84 = .ok (.bipush 10, 2) := by decide +kernel
theorem dX10_swaps_86 : decode cX10_swaps 86 = .ok (.iload_n 3, 1) := by decide +kernel
theorem dX10_swaps_87 : decode cX10_swaps 87 = .ok (.imul, 1) := by decide +kernel
theorem dX10_swaps_88 : decode cX10_swaps 88 = .ok (.iload 4, 2) := by decide +kernel
theorem dX10_swaps_90 : decode cX10_swaps 90 = .ok (.iadd, 1) := by decide +kernel
theorem dX10_swaps_91 : decode cX10_swaps 91 = .ok (.istore_n 1, 1) := by decide +kernel
theorem dX10_swaps_92 : decode cX10_swaps 92 = .ok (.iinc 4 1, 3) := by decide +kernel
theorem dX10_swaps_95 : decode cX10_swaps 95 = .ok (.goto (-47), 3) := by decide +kernel
theorem dX10_swaps_98 : decode cX10_swaps 98 = .ok (.iinc 3 1, 3) := by decide +kernel
theorem dX10_swaps_101 : decode cX10_swaps 101 = .ok (.goto (-69), 3) := by decide +kernel
theorem dX10_swaps_104 : decode cX10_swaps 104 = .ok (.aload_n 0, 1) := by decide +kernel
theorem dX10_swaps_105 : decode cX10_swaps 105 = .ok (.getfield 19, 3) := by decide +kernel
theorem dX10_swaps_108 : decode cX10_swaps 108 = .ok (.bipush 100, 2) := by decide +kernel
theorem dX10_swaps_110 : decode cX10_swaps 110 = .ok (.iload_n 2, 1) := by decide +kernel
theorem dX10_swaps_111 : decode cX10_swaps 111 = .ok (.iadd, 1) := by decide +kernel
theorem dX10_swaps_112 : decode cX10_swaps 112 = .ok (.invokevirtual 285, 3) := by decide +kernel
theorem dX10_swaps_115 : decode cX10_swaps 115 = .ok (.iload_n 1, 1) := by decide +kernel
theorem dX10_swaps_116 : decode cX10_swaps 116 = .ok (.ireturn, 1) := by decide +kernel
theorem dX10_line_0 : decode cX10_line 0 = .ok (.aload_n 0, 1) := by decide +kernel
theorem dX10_line_1 : decode cX10_line 1 = .ok (.invokevirtual 263, 3) := by decide +kernel
theorem dX10_line_4 : decode cX10_line 4 = .ok (.aload_n 0, 1) := by decide +kernel
theorem dX10_line_5 : decode cX10_line 5 = .ok (.getfield 19, 3) := by decide +kernel
theorem dX10_line_8 : decode cX10_line 8 = .ok (.invokevirtual 297, 3) := by decide +kernel
theorem dX10_line_11 : decode cX10_line 11 = .ok (.iconst 0, 1) := by decide +kernel
theorem dX10_line_12 : decode cX10_line 12 = .ok (.istore_n 1, 1) := by decide +kernel
theorem dX10_line_13 : decode cX10_line 13 = .ok (.iconst 0, 1) := by decide +kernel
theorem dX10_line_14 : decode cX10_line 14 = .ok (.istore_n 2, 1) := by decide +kernel
theorem dX10_line_15 : decode cX10_line 15 = .ok (.iload_n 2, 1) := by decide +kernel
theorem dX10_line_16 : decode cX10_line 16 = .ok (.aload_n 0, 1) := by decide +kernel
theorem dX10_line_17 : decode cX10_line 17 = .ok (.getfield 33, 3) := by decide +kernel
theorem dX10_line_20 : decode cX10_line 20 = .ok (.getfield 126, 3) := by decide +kernel
theorem dX10_line_23 : decode cX10_line 23 = .ok (.if_icmp .ge 29, 3) := by decide +kernel
theorem dX10_line_26 : decode cX10_line 26 = .ok (.aload_n 0, 1) := by decide +kernel
theorem dX10_line_27 : decode cX10_line 27 = .ok (.iload_n 1, 1) := by decide +kernel
theorem dX10_line_28 : decode cX10_line 28 = .ok (.invokevirtual 338, 3) := by decide +kernel
theorem dX10_line_31 : decode cX10_line 31 = .ok (.istore_n 3, 1) := by decide +kernel
theorem dX10_line_32 : decode cX10_line 32 = .ok (.iload_n 1, 1) := by decide +kernel
theorem dX10_line_33 : decode cX10_line 33 = .ok (.iconst 1, 1) := by decide +kernel
theorem dX10_line_34 : decode cX10_line 34 = .ok (.iload_n 3, 1) := by decide +kernel
theorem dX10_line_35 : decode cX10_line 35 = .ok (.ishl, 1) := by decide +kernel
theorem dX10_line_36 : decode cX10_line 36 = .ok (.ior, 1) := by decide +kernel
theorem dX10_line_37 : decode cX10_line 37 = .ok (.istore_n 1, 1) := by decide +kernel
theorem dX10_line_38 : decode cX10_line 38 = .ok (.aload_n 0, 1) := by decide +kernel
theorem dX10_line_39 : decode cX10_line 39 = .ok (.getfield 19, 3) := by decide +kernel
theorem dX10_line_42 : decode cX10_line 42 = .ok (.iload_n 3, 1) := by decide +kernel
theorem dX10_line_43 : decode cX10_line 43 = .ok (.invokevirtual 341, 3) := by decide +kernel
theorem dX10_line_46 : decode cX10_line 46 = .ok (.iinc 2 1, 3) := by decide +kernel
theorem dX10_line_49 : decode cX10_line 49 = .ok (.goto (-34), 3) := by decide +kernel
theorem dX10_line_52 : decode cX10_line 52 = .ok (.aload_n 0, 1) := by decide +kernel
theorem dX10_line_53 : decode cX10_line 53 = .ok (.getfield 33, 3) := by decide +kernel
theorem dX10_line_56 : decode cX10_line 56 = .ok (.getfield 126, 3) := by decide +kernel
theorem dX10_line_59 : decode cX10_line 59 = .ok (.ireturn, 1) := by decide +kernel
theorem dX10_apart_0 : decode cX10_apart 0 = .ok (.iconst 0, 1) := by decide +kernel
theorem dX10_apart_1 : decode cX10_apart 1 = .ok (.istore_n 1, 1) := by decide +kernel
theorem dX10_apart_2 : decode cX10_apart 2 = .ok (.iconst 0, 1) := by decide +kernel
theorem dX10_apart_3 : decode cX10_apart 3 = .ok (.istore_n 2, 1) := by decide +kernel
theorem dX10_apart_4 : decode cX10_apart 4 = .ok (.iconst 1, 1) := by decide +kernel
theorem dX10_apart_5 : decode cX10_apart 5 = .ok (.istore_n 3, 1) := by decide +kernel
theorem dX10_apart_6 : decode cX10_apart 6 = .ok (.iload_n 3, 1) := by decide +kernel
theorem dX10_apart_7 : decode cX10_apart 7 = .ok (.iconst 1, 1) := by decide +kernel
theorem dX10_apart_8 : decode cX10_apart 8 = .ok (.aload_n 0, 1) := by decide +kernel
theorem dX10_apart_9 : decode cX10_apart 9 = .ok (.getfield 33, 3) := by decide +kernel
theorem dX10_apart_12 : decode cX10_apart 12 = .ok (.getfield 126, 3) := by decide +kernel
theorem dX10_apart_15 : decode cX10_apart 15 = .ok (.ishl, 1) := by decide +kernel
theorem dX10_apart_16 : decode cX10_apart 16 = .ok (.if_icmp .ge 32, 3) := by decide +kernel
theorem dX10_apart_19 : decode cX10_apart 19 = .ok (.iload_n 3, 1) := by decide +kernel
theorem dX10_apart_20 : decode cX10_apart 20 = .ok (.invokestatic 330, 3) := by decide +kernel
theorem dX10_apart_23 : decode cX10_apart 23 = .ok (.iload_n 1, 1) := by decide +kernel
theorem dX10_apart_24 : decode cX10_apart 24 = .ok (.if_icmp .le 18, 3) := by decide +kernel
theorem dX10_apart_27 : decode cX10_apart 27 = .ok (.aload_n 0, 1) := by decide +kernel
theorem dX10_apart_28 : decode cX10_apart 28 = .ok (.iload_n 3, 1) := by decide +kernel
theorem dX10_apart_29 : decode cX10_apart 29 = .ok (.invokevirtual 343, 3) := by decide +kernel
theorem dX10_apart_32 : decode cX10_apart 32 = .ok (.ifCond .eq 10, 3) := by decide +kernel
theorem dX10_apart_35 : decode cX10_apart 35 = .ok (.iload_n 3, 1) := by decide +kernel
theorem dX10_apart_36 : decode cX10_apart 36 = .ok (.invokestatic 330, 3) := by decide +kernel
theorem dX10_apart_39 : decode cX10_apart 39 = .ok (.istore_n 1, 1) := by decide +kernel
theorem dX10_apart_40 : decode cX10_apart 40 = .ok (.iload_n 3, 1) := by decide +kernel
theorem dX10_apart_41 : decode cX10_apart 41 = .ok (.istore_n 2, 1) := by decide +kernel
theorem dX10_apart_42 : decode cX10_apart 42 = .ok (.iinc 3 1, 3) := by decide +kernel
theorem dX10_apart_45 : decode cX10_apart 45 = .ok (.goto (-39), 3) := by decide +kernel
theorem dX10_apart_48 : decode cX10_apart 48 = .ok (.aload_n 0, 1) := by decide +kernel
theorem dX10_apart_49 : decode cX10_apart 49 = .ok (.getfield 19, 3) := by decide +kernel
theorem dX10_apart_52 : decode cX10_apart 52 = .ok (.iload_n 2, 1) := by decide +kernel
theorem dX10_apart_53 : decode cX10_apart 53 = .ok (.invokevirtual 285, 3) := by decide +kernel
theorem dX10_apart_56 : decode cX10_apart 56 = .ok (.iload_n 1, 1) := by decide +kernel
theorem dX10_apart_57 : decode cX10_apart 57 = .ok (.ireturn, 1) := by decide +kernel
theorem dX10_weighAll_0 : decode cX10_weighAll 0 = .ok (.iconst 0, 1) := by decide +kernel
theorem dX10_weighAll_1 : decode cX10_weighAll 1 = .ok (.istore_n 1, 1) := by decide +kernel
theorem dX10_weighAll_2 : decode cX10_weighAll 2 = .ok (.iload_n 1, 1) := by decide +kernel
theorem dX10_weighAll_3 : decode cX10_weighAll 3 = .ok (.aload_n 0, 1) := by decide +kernel
theorem dX10_weighAll_4 : decode cX10_weighAll 4 = .ok (.getfield 33, 3) := by decide +kernel
theorem dX10_weighAll_7 : decode cX10_weighAll 7 = .ok (.getfield 126, 3) := by decide +kernel
theorem dX10_weighAll_10 : decode cX10_weighAll 10 = .ok (.if_icmp .ge 27, 3) := by decide +kernel
theorem dX10_weighAll_13 : decode cX10_weighAll 13 = .ok (.aload_n 0, 1) := by decide +kernel
theorem dX10_weighAll_14 : decode cX10_weighAll 14 = .ok (.getfield 91, 3) := by decide +kernel
theorem dX10_weighAll_17 : decode cX10_weighAll 17 = .ok (.iload_n 1, 1) := by decide +kernel
theorem dX10_weighAll_18 : decode cX10_weighAll 18 = .ok (.aload_n 0, 1) := by decide +kernel
theorem dX10_weighAll_19 : decode cX10_weighAll 19 = .ok (.getfield 26, 3) := by decide +kernel
theorem dX10_weighAll_22 : decode cX10_weighAll 22 = .ok (.aload_n 0, 1) := by decide +kernel
theorem dX10_weighAll_23 : decode cX10_weighAll 23 = .ok (.getfield 33, 3) := by decide +kernel
theorem dX10_weighAll_26 : decode cX10_weighAll 26 = .ok (.iload_n 1, 1) := by decide +kernel
theorem dX10_weighAll_27 : decode cX10_weighAll 27 = .ok (.invokevirtual 174, 3) := by decide +kernel
theorem dX10_weighAll_30 : decode cX10_weighAll 30 = .ok (.iastore, 1) := by decide +kernel
theorem dX10_weighAll_31 : decode cX10_weighAll 31 = .ok (.iinc 1 1, 3) := by decide +kernel
theorem dX10_weighAll_34 : decode cX10_weighAll 34 = .ok (.goto (-32), 3) := by decide +kernel
theorem dX10_weighAll_37 : decode cX10_weighAll 37 = .ok (.return_, 1) := by decide +kernel
theorem dX10_ballastOfLoads_0 : decode cX10_ballastOfLoads 0 = .ok (.iconst 0, 1) := by decide +kernel
theorem dX10_ballastOfLoads_1 : decode cX10_ballastOfLoads 1 = .ok (.istore_n 1, 1) := by decide +kernel
theorem dX10_ballastOfLoads_2 : decode cX10_ballastOfLoads 2 = .ok (.iconst 0, 1) := by decide +kernel
theorem dX10_ballastOfLoads_3 : decode cX10_ballastOfLoads 3 = .ok (.istore_n 2, 1) := by decide +kernel
theorem dX10_ballastOfLoads_4 : decode cX10_ballastOfLoads 4 = .ok (.iload_n 2, 1) := by decide +kernel
theorem dX10_ballastOfLoads_5 : decode cX10_ballastOfLoads 5 = .ok (.aload_n 0, 1) := by decide +kernel
theorem dX10_ballastOfLoads_6 : decode cX10_ballastOfLoads 6 = .ok (.getfield 33, 3) := by decide +kernel
theorem dX10_ballastOfLoads_9 : decode cX10_ballastOfLoads 9 = .ok (.getfield 126, 3) := by decide +kernel
theorem dX10_ballastOfLoads_12 : decode cX10_ballastOfLoads 12 = .ok (.if_icmp .ge 28, 3) := by decide +kernel
theorem dX10_ballastOfLoads_15 : decode cX10_ballastOfLoads 15 = .ok (.iload_n 1, 1) := by decide +kernel
theorem dX10_ballastOfLoads_16 : decode cX10_ballastOfLoads 16 = .ok (.aload_n 0, 1) := by decide +kernel
theorem dX10_ballastOfLoads_17 : decode cX10_ballastOfLoads 17 = .ok (.getfield 91, 3) := by decide +kernel
theorem dX10_ballastOfLoads_20 : decode cX10_ballastOfLoads 20 = .ok (.iload_n 2, 1) := by decide +kernel
theorem dX10_ballastOfLoads_21 : decode cX10_ballastOfLoads 21 = .ok (.iaload, 1) := by decide +kernel
theorem dX10_ballastOfLoads_22 : decode cX10_ballastOfLoads 22 = .ok (.aload_n 0, 1) := by decide +kernel
theorem dX10_ballastOfLoads_23 : decode cX10_ballastOfLoads 23 = .ok (.getfield 33, 3) := by decide +kernel
theorem dX10_ballastOfLoads_26 : decode cX10_ballastOfLoads 26 = .ok (.getfield 171, 3) := by decide +kernel
theorem dX10_ballastOfLoads_29 : decode cX10_ballastOfLoads 29 = .ok (.iload_n 2, 1) := by decide +kernel
theorem dX10_ballastOfLoads_30 : decode cX10_ballastOfLoads 30 = .ok (.iaload, 1) := by decide +kernel
theorem dX10_ballastOfLoads_31 : decode cX10_ballastOfLoads 31 = .ok (.imul, 1) := by decide +kernel
theorem dX10_ballastOfLoads_32 : decode cX10_ballastOfLoads 32 = .ok (.iadd, 1) := by decide +kernel
theorem dX10_ballastOfLoads_33 : decode cX10_ballastOfLoads 33 = .ok (.istore_n 1, 1) := by decide +kernel
theorem dX10_ballastOfLoads_34 : decode cX10_ballastOfLoads 34 = .ok (.iinc 2 1, 3) := by decide +kernel
theorem dX10_ballastOfLoads_37 : decode cX10_ballastOfLoads 37 = .ok (.goto (-33), 3) := by decide +kernel
theorem dX10_ballastOfLoads_40 : decode cX10_ballastOfLoads 40 = .ok (.iload_n 1, 1) := by decide +kernel
theorem dX10_ballastOfLoads_41 : decode cX10_ballastOfLoads 41 = .ok (.ireturn, 1) := by decide +kernel
theorem dX10_loadOf_0 : decode cX10_loadOf 0 = .ok (.iconst 0, 1) := by decide +kernel
theorem dX10_loadOf_1 : decode cX10_loadOf 1 = .ok (.istore_n 2, 1) := by decide +kernel
theorem dX10_loadOf_2 : decode cX10_loadOf 2 = .ok (.iconst 0, 1) := by decide +kernel
theorem dX10_loadOf_3 : decode cX10_loadOf 3 = .ok (.istore_n 3, 1) := by decide +kernel
theorem dX10_loadOf_4 : decode cX10_loadOf 4 = .ok (.iload_n 3, 1) := by decide +kernel
theorem dX10_loadOf_5 : decode cX10_loadOf 5 = .ok (.aload_n 0, 1) := by decide +kernel
theorem dX10_loadOf_6 : decode cX10_loadOf 6 = .ok (.getfield 33, 3) := by decide +kernel
theorem dX10_loadOf_9 : decode cX10_loadOf 9 = .ok (.getfield 126, 3) := by decide +kernel
theorem dX10_loadOf_12 : decode cX10_loadOf 12 = .ok (.if_icmp .ge 30, 3) := by decide +kernel
theorem dX10_loadOf_15 : decode cX10_loadOf 15 = .ok (.iload_n 2, 1) := by decide +kernel
theorem dX10_loadOf_16 : decode cX10_loadOf 16 = .ok (.iload_n 1, 1) := by decide +kernel
theorem dX10_loadOf_17 : decode cX10_loadOf 17 = .ok (.iload_n 3, 1) := by decide +kernel
theorem dX10_loadOf_18 : decode cX10_loadOf 18 = .ok (.invokestatic 346, 3) := by decide +kernel
theorem dX10_loadOf_21 : decode cX10_loadOf 21 = .ok (.ifCond .eq 12, 3) := by decide +kernel
theorem dX10_loadOf_24 : decode cX10_loadOf 24 = .ok (.aload_n 0, 1) := by decide +kernel
theorem dX10_loadOf_25 : decode cX10_loadOf 25 = .ok (.getfield 91, 3) := by decide +kernel
theorem dX10_loadOf_28 : decode cX10_loadOf 28 = .ok (.iload_n 3, 1) := by decide +kernel
theorem dX10_loadOf_29 : decode cX10_loadOf 29 = .ok (.iaload, 1) := by decide +kernel
theorem dX10_loadOf_30 : decode cX10_loadOf 30 = .ok (.goto 4, 3) := by decide +kernel
theorem dX10_loadOf_33 : decode cX10_loadOf 33 = .ok (.iconst 0, 1) := by decide +kernel
theorem dX10_loadOf_34 : decode cX10_loadOf 34 = .ok (.iadd, 1) := by decide +kernel
theorem dX10_loadOf_35 : decode cX10_loadOf 35 = .ok (.istore_n 2, 1) := by decide +kernel
theorem dX10_loadOf_36 : decode cX10_loadOf 36 = .ok (.iinc 3 1, 3) := by decide +kernel
theorem dX10_loadOf_39 : decode cX10_loadOf 39 = .ok (.goto (-35), 3) := by decide +kernel
theorem dX10_loadOf_42 : decode cX10_loadOf 42 = .ok (.iload_n 2, 1) := by decide +kernel
theorem dX10_loadOf_43 : decode cX10_loadOf 43 = .ok (.ireturn, 1) := by decide +kernel
theorem dX10_pullIfSwapped_0 : decode cX10_pullIfSwapped 0 = .ok (.aload_n 0, 1) := by decide +kernel
theorem dX10_pullIfSwapped_1 : decode cX10_pullIfSwapped 1 = .ok (.getfield 37, 3) := by decide +kernel
theorem dX10_pullIfSwapped_4 : decode cX10_pullIfSwapped 4 = .ok (.getfield 171, 3) := by decide +kernel
theorem dX10_pullIfSwapped_7 : decode cX10_pullIfSwapped 7 = .ok (.iload_n 1, 1) := by decide +kernel
theorem dX10_pullIfSwapped_8 : decode cX10_pullIfSwapped 8 = .ok (.aload_n 0, 1) := by decide +kernel
theorem dX10_pullIfSwapped_9 : decode cX10_pullIfSwapped 9 = .ok (.getfield 33, 3) := by decide +kernel
theorem dX10_pullIfSwapped_12 : decode cX10_pullIfSwapped 12 = .ok (.getfield 171, 3) := by decide +kernel
theorem dX10_pullIfSwapped_15 : decode cX10_pullIfSwapped 15 = .ok (.iload_n 2, 1) := by decide +kernel
theorem dX10_pullIfSwapped_16 : decode cX10_pullIfSwapped 16 = .ok (.iaload, 1) := by decide +kernel
theorem dX10_pullIfSwapped_17 : decode cX10_pullIfSwapped 17 = .ok (.iastore, 1) := by decide +kernel
theorem dX10_pullIfSwapped_18 : decode cX10_pullIfSwapped 18 = .ok (.aload_n 0, 1) := by decide +kernel
theorem dX10_pullIfSwapped_19 : decode cX10_pullIfSwapped 19 = .ok (.getfield 37, 3) := by decide +kernel
theorem dX10_pullIfSwapped_22 : decode cX10_pullIfSwapped 22 = .ok (.getfield 171, 3) := by decide +kernel
theorem dX10_pullIfSwapped_25 : decode cX10_pullIfSwapped 25 = .ok (.iload_n 2, 1) := by decide +kernel
theorem dX10_pullIfSwapped_26 : decode cX10_pullIfSwapped 26 = .ok (.aload_n 0, 1) := by decide +kernel
theorem dX10_pullIfSwapped_27 : decode cX10_pullIfSwapped 27 = .ok (.getfield 33, 3) := by decide +kernel
theorem dX10_pullIfSwapped_30 : decode cX10_pullIfSwapped 30 = .ok (.getfield 171, 3) := by decide +kernel
theorem dX10_pullIfSwapped_33 : decode cX10_pullIfSwapped 33 = .ok (.iload_n 1, 1) := by decide +kernel
theorem dX10_pullIfSwapped_34 : decode cX10_pullIfSwapped 34 = .ok (.iaload, 1) := by decide +kernel
theorem dX10_pullIfSwapped_35 : decode cX10_pullIfSwapped 35 = .ok (.iastore, 1) := by decide +kernel
theorem dX10_pullIfSwapped_36 : decode cX10_pullIfSwapped 36 = .ok (.aload_n 0, 1) := by decide +kernel
theorem dX10_pullIfSwapped_37 : decode cX10_pullIfSwapped 37 = .ok (.aload_n 0, 1) := by decide +kernel
theorem dX10_pullIfSwapped_38 : decode cX10_pullIfSwapped 38 = .ok (.getfield 26, 3) := by decide +kernel
theorem dX10_pullIfSwapped_41 : decode cX10_pullIfSwapped 41 = .ok (.aload_n 0, 1) := by decide +kernel
theorem dX10_pullIfSwapped_42 : decode cX10_pullIfSwapped 42 = .ok (.getfield 37, 3) := by decide +kernel
theorem dX10_pullIfSwapped_45 : decode cX10_pullIfSwapped 45 = .ok (.invokevirtual 290, 3) := by decide +kernel
theorem dX10_pullIfSwapped_48 : decode cX10_pullIfSwapped 48 = .ok (.invokevirtual 294, 3) := by decide +kernel
theorem dX10_pullIfSwapped_51 : decode cX10_pullIfSwapped 51 = .ok (.istore_n 3, 1) := by decide +kernel
theorem dX10_pullIfSwapped_52 : decode cX10_pullIfSwapped 52 = .ok (.aload_n 0, 1) := by decide +kernel
theorem dX10_pullIfSwapped_53 : decode cX10_pullIfSwapped 53 = .ok (.getfield 37, 3) := by decide +kernel
theorem dX10_pullIfSwapped_56 : decode cX10_pullIfSwapped 56 = .ok (.getfield 171, 3) := by decide +kernel
theorem dX10_pullIfSwapped_59 : decode cX10_pullIfSwapped 59 = .ok (.iload_n 1, 1) := by decide +kernel
theorem dX10_pullIfSwapped_60 : decode cX10_pullIfSwapped 60 = .ok (.aload_n 0, 1) := by decide +kernel
theorem dX10_pullIfSwapped_61 : decode cX10_pullIfSwapped 61 = .ok (.getfield 33, 3) := by decide +kernel
theorem dX10_pullIfSwapped_64 : decode cX10_pullIfSwapped 64 = .ok (.getfield 171, 3) := by decide +kernel
theorem dX10_pullIfSwapped_67 : decode cX10_pullIfSwapped 67 = .ok (.iload_n 1, 1) := by decide +kernel
theorem dX10_pullIfSwapped_68 : decode cX10_pullIfSwapped 68 = .ok (.iaload, 1) := by decide +kernel
theorem dX10_pullIfSwapped_69 : decode cX10_pullIfSwapped 69 = .ok (.iastore, 1) := by decide +kernel
theorem dX10_pullIfSwapped_70 : decode cX10_pullIfSwapped 70 = .ok (.aload_n 0, 1) := by decide +kernel
theorem dX10_pullIfSwapped_71 : decode cX10_pullIfSwapped 71 = .ok (.getfield 37, 3) := by decide +kernel
theorem dX10_pullIfSwapped_74 : decode cX10_pullIfSwapped 74 = .ok (.getfield 171, 3) := by decide +kernel
theorem dX10_pullIfSwapped_77 : decode cX10_pullIfSwapped 77 = .ok (.iload_n 2, 1) := by decide +kernel
theorem dX10_pullIfSwapped_78 : decode cX10_pullIfSwapped 78 = .ok (.aload_n 0, 1) := by decide +kernel
theorem dX10_pullIfSwapped_79 : decode cX10_pullIfSwapped 79 = .ok (.getfield 33, 3) := by decide +kernel
theorem dX10_pullIfSwapped_82 : decode cX10_pullIfSwapped 82 = .ok (.getfield 171, 3) := by decide +kernel
theorem dX10_pullIfSwapped_85 : decode cX10_pullIfSwapped 85 = .ok (.iload_n 2, 1) := by decide +kernel
theorem dX10_pullIfSwapped_86 : decode cX10_pullIfSwapped 86 = .ok (.iaload, 1) := by decide +kernel
theorem dX10_pullIfSwapped_87 : decode cX10_pullIfSwapped 87 = .ok (.iastore, 1) := by decide +kernel
theorem dX10_pullIfSwapped_88 : decode cX10_pullIfSwapped 88 = .ok (.iload_n 3, 1) := by decide +kernel
theorem dX10_pullIfSwapped_89 : decode cX10_pullIfSwapped 89 = .ok (.ireturn, 1) := by decide +kernel
theorem dX10_heaviestBut_0 : decode cX10_heaviestBut 0 = .ok (.iconst 0, 1) := by decide +kernel
theorem dX10_heaviestBut_1 : decode cX10_heaviestBut 1 = .ok (.istore_n 2, 1) := by decide +kernel
theorem dX10_heaviestBut_2 : decode cX10_heaviestBut 2 = .ok (.iconst (-1), 1) := by decide +kernel
theorem dX10_heaviestBut_3 : decode cX10_heaviestBut 3 = .ok (.istore_n 3, 1) := by decide +kernel
theorem dX10_heaviestBut_4 : decode cX10_heaviestBut 4 = .ok (.iconst 0, 1) := by decide +kernel
theorem dX10_heaviestBut_5 : decode cX10_heaviestBut 5 = .ok (.istore 4, 2) := by decide +kernel
theorem dX10_heaviestBut_7 : decode cX10_heaviestBut 7 = .ok (.iload 4, 2) := by decide +kernel
theorem dX10_heaviestBut_9 : decode cX10_heaviestBut 9 = .ok (.aload_n 0, 1) := by decide +kernel
theorem dX10_heaviestBut_10 : decode cX10_heaviestBut 10 = .ok (.getfield 33, 3) := by decide +kernel
theorem dX10_heaviestBut_13 : decode cX10_heaviestBut 13 = .ok (.getfield 126, 3) := by decide +kernel
theorem dX10_heaviestBut_16 : decode cX10_heaviestBut 16 = .ok (.if_icmp .ge 40, 3) := by decide +kernel
theorem dX10_heaviestBut_19 : decode cX10_heaviestBut 19 = .ok (.iload_n 1, 1) := by decide +kernel
theorem dX10_heaviestBut_20 : decode cX10_heaviestBut 20 = .ok (.iload 4, 2) := by decide +kernel
theorem dX10_heaviestBut_22 : decode cX10_heaviestBut 22 = .ok (.invokestatic 346, 3) := by decide +kernel
theorem dX10_heaviestBut_25 : decode cX10_heaviestBut 25 = .ok (.ifCond .ne 25, 3) := by decide +kernel
theorem dX10_heaviestBut_28 : decode cX10_heaviestBut 28 = .ok (.aload_n 0, 1) := by decide +kernel
theorem dX10_heaviestBut_29 : decode cX10_heaviestBut 29 = .ok (.getfield 91, 3) := by decide +kernel
theorem dX10_heaviestBut_32 : decode cX10_heaviestBut 32 = .ok (.iload 4, 2) := by decide +kernel
theorem dX10_heaviestBut_34 : decode cX10_heaviestBut 34 = .ok (.iaload, 1) := by decide +kernel
theorem dX10_heaviestBut_35 : decode cX10_heaviestBut 35 = .ok (.iload_n 3, 1) := by decide +kernel
theorem dX10_heaviestBut_36 : decode cX10_heaviestBut 36 = .ok (.if_icmp .le 14, 3) := by decide +kernel
theorem dX10_heaviestBut_39 : decode cX10_heaviestBut 39 = .ok (.aload_n 0, 1) := by decide +kernel
theorem dX10_heaviestBut_40 : decode cX10_heaviestBut 40 = .ok (.getfield 91, 3) := by decide +kernel
theorem dX10_heaviestBut_43 : decode cX10_heaviestBut 43 = .ok (.iload 4, 2) := by decide +kernel
theorem dX10_heaviestBut_45 : decode cX10_heaviestBut 45 = .ok (.iaload, 1) := by decide +kernel
theorem dX10_heaviestBut_46 : decode cX10_heaviestBut 46 = .ok (.istore_n 3, 1) := by decide +kernel
theorem dX10_heaviestBut_47 : decode cX10_heaviestBut 47 = .ok (.iload 4, 2) := by decide +kernel
theorem dX10_heaviestBut_49 : decode cX10_heaviestBut 49 = .ok (.istore_n 2, 1) := by decide +kernel
theorem dX10_heaviestBut_50 : decode cX10_heaviestBut 50 = .ok (.iinc 4 1, 3) := by decide +kernel
theorem dX10_heaviestBut_53 : decode cX10_heaviestBut 53 = .ok (.goto (-46), 3) := by decide +kernel
theorem dX10_heaviestBut_56 : decode cX10_heaviestBut 56 = .ok (.iload_n 2, 1) := by decide +kernel
theorem dX10_heaviestBut_57 : decode cX10_heaviestBut 57 = .ok (.ireturn, 1) := by decide +kernel
theorem dX10_allDiffer_0 : decode cX10_allDiffer 0 = .ok (.iconst 0, 1) := by decide +kernel
theorem dX10_allDiffer_1 : decode cX10_allDiffer 1 = .ok (.istore_n 2, 1) := by decide +kernel
theorem dX10_allDiffer_2 : decode cX10_allDiffer 2 = .ok (.iconst 0, 1) := by decide +kernel
theorem dX10_allDiffer_3 : decode cX10_allDiffer 3 = .ok (.istore_n 3, 1) := by decide +kernel
theorem dX10_allDiffer_4 : decode cX10_allDiffer 4 = .ok (.iconst 0, 1) := by decide +kernel
theorem dX10_allDiffer_5 : decode cX10_allDiffer 5 = .ok (.istore 4, 2) := by decide +kernel
theorem dX10_allDiffer_7 : decode cX10_allDiffer 7 = .ok (.iload 4, 2) := by decide +kernel
theorem dX10_allDiffer_9 : decode cX10_allDiffer 9 = .ok (.aload_n 0, 1) := by decide +kernel
theorem dX10_allDiffer_10 : decode cX10_allDiffer 10 = .ok (.getfield 33, 3) := by decide +kernel
theorem dX10_allDiffer_13 : decode cX10_allDiffer 13 = .ok (.getfield 126, 3) := by decide +kernel
theorem dX10_allDiffer_16 : decode cX10_allDiffer 16 = .ok (.if_icmp .ge 82, 3) := by decide +kernel
theorem dX10_allDiffer_19 : decode cX10_allDiffer 19 = .ok (.iload_n 1, 1) := by decide +kernel
theorem dX10_allDiffer_20 : decode cX10_allDiffer 20 = .ok (.iload 4, 2) := by decide +kernel
theorem dX10_allDiffer_22 : decode cX10_allDiffer 22 = .ok (.invokestatic 346, 3) := by decide +kernel
theorem dX10_allDiffer_25 : decode cX10_allDiffer 25 = .ok (.ifCond .eq 67, 3) := by decide +kernel
theorem dX10_allDiffer_28 : decode cX10_allDiffer 28 = .ok (.aload_n 0, 1) := by decide +kernel
theorem dX10_allDiffer_29 : decode cX10_allDiffer 29 = .ok (.getfield 33, 3) := by decide +kernel
theorem dX10_allDiffer_32 : decode cX10_allDiffer 32 = .ok (.getfield 171, 3) := by decide +kernel
theorem dX10_allDiffer_35 : decode cX10_allDiffer 35 = .ok (.iload 4, 2) := by decide +kernel
theorem dX10_allDiffer_37 : decode cX10_allDiffer 37 = .ok (.iaload, 1) := by decide +kernel
theorem dX10_allDiffer_38 : decode cX10_allDiffer 38 = .ok (.iconst 5, 1) := by decide +kernel
theorem dX10_allDiffer_39 : decode cX10_allDiffer 39 = .ok (.iadd, 1) := by decide +kernel
theorem dX10_allDiffer_40 : decode cX10_allDiffer 40 = .ok (.istore 5, 2) := by decide +kernel
theorem dX10_allDiffer_42 : decode cX10_allDiffer 42 = .ok (.iload_n 2, 1) := by decide +kernel
theorem dX10_allDiffer_43 : decode cX10_allDiffer 43 = .ok (.aload_n 0, 1) := by decide +kernel
theorem dX10_allDiffer_44 : decode cX10_allDiffer 44 = .ok (.getfield 33, 3) := by decide +kernel
theorem dX10_allDiffer_47 : decode cX10_allDiffer 47 = .ok (.getfield 168, 3) := by decide +kernel
theorem dX10_allDiffer_50 : decode cX10_allDiffer 50 = .ok (.iload 4, 2) := by decide +kernel
theorem dX10_allDiffer_52 : decode cX10_allDiffer 52 = .ok (.iaload, 1) := by decide +kernel
theorem dX10_allDiffer_53 : decode cX10_allDiffer 53 = .ok (.invokestatic 346, 3) := by decide +kernel
theorem dX10_allDiffer_56 : decode cX10_allDiffer 56 = .ok (.ifCond .ne 12, 3) := by decide +kernel
theorem dX10_allDiffer_59 : decode cX10_allDiffer 59 = .ok (.iload_n 3, 1) := by decide +kernel
theorem dX10_allDiffer_60 : decode cX10_allDiffer 60 = .ok (.iload 5, 2) := by decide +kernel
theorem dX10_allDiffer_62 : decode cX10_allDiffer 62 = .ok (.invokestatic 346, 3) := by decide +kernel
theorem dX10_allDiffer_65 : decode cX10_allDiffer 65 = .ok (.ifCond .eq 5, 3) := by decide +kernel
theorem dX10_allDiffer_68 : decode cX10_allDiffer 68 = .ok (.iconst 0, 1) := by decide +kernel
theorem dX10_allDiffer_69 : decode cX10_allDiffer 69 = .ok (.ireturn, 1) := by decide +kernel
theorem dX10_allDiffer_70 : decode cX10_allDiffer 70 = .ok (.iload_n 2, 1) := by decide +kernel
theorem dX10_allDiffer_71 : decode cX10_allDiffer 71 = .ok (.iconst 1, 1) := by decide +kernel
theorem dX10_allDiffer_72 : decode cX10_allDiffer 72 = .ok (.aload_n 0, 1) := by decide +kernel
theorem dX10_allDiffer_73 : decode cX10_allDiffer 73 = .ok (.getfield 33, 3) := by decide +kernel
theorem dX10_allDiffer_76 : decode cX10_allDiffer 76 = .ok (.getfield 168, 3) := by decide +kernel
theorem dX10_allDiffer_79 : decode cX10_allDiffer 79 = .ok (.iload 4, 2) := by decide +kernel
theorem dX10_allDiffer_81 : decode cX10_allDiffer 81 = .ok (.iaload, 1) := by decide +kernel
theorem dX10_allDiffer_82 : decode cX10_allDiffer 82 = .ok (.ishl, 1) := by decide +kernel
theorem dX10_allDiffer_83 : decode cX10_allDiffer 83 = .ok (.ior, 1) := by decide +kernel
theorem dX10_allDiffer_84 : decode cX10_allDiffer 84 = .ok (.istore_n 2, 1) := by decide +kernel
theorem dX10_allDiffer_85 : decode cX10_allDiffer 85 = .ok (.iload_n 3, 1) := by decide +kernel
theorem dX10_allDiffer_86 : decode cX10_allDiffer 86 = .ok (.iconst 1, 1) := by decide +kernel
theorem dX10_allDiffer_87 : decode cX10_allDiffer 87 = .ok (.iload 5, 2) := by decide +kernel
theorem dX10_allDiffer_89 : decode cX10_allDiffer 89 = .ok (.ishl, 1) := by decide +kernel
theorem dX10_allDiffer_90 : decode cX10_allDiffer 90 = .ok (.ior, 1) := by decide +kernel
theorem dX10_allDiffer_91 : decode cX10_allDiffer 91 = .ok (.istore_n 3, 1) := by decide +kernel
theorem dX10_allDiffer_92 : decode cX10_allDiffer 92 = .ok (.iinc 4 1, 3) := by decide +kernel
theorem dX10_allDiffer_95 : decode cX10_allDiffer 95 = .ok (.goto (-88), 3) := by decide +kernel
theorem dX10_allDiffer_98 : decode cX10_allDiffer 98 = .ok (.iconst 1, 1) := by decide +kernel
theorem dX10_allDiffer_99 : decode cX10_allDiffer 99 = .ok (.ireturn, 1) := by decide +kernel
theorem dX10_saw_0 : decode cX10_saw 0 = .ok (.iload_n 1, 1) := by decide +kernel
theorem dX10_saw_1 : decode cX10_saw 1 = .ok (.bipush (-9), 2) := by decide +kernel
theorem dX10_saw_3 : decode cX10_saw 3 = .ok (.bipush 9, 2) := by decide +kernel
theorem dX10_saw_5 : decode cX10_saw 5 = .ok (.invokestatic 158, 3) := by decide +kernel
theorem dX10_saw_8 : decode cX10_saw 8 = .ok (.ifCond .eq 24, 3) := by decide +kernel
theorem dX10_saw_11 : decode cX10_saw 11 = .ok (.iload_n 2, 1) := by decide +kernel
theorem dX10_saw_12 : decode cX10_saw 12 = .ok (.iconst 0, 1) := by decide +kernel
theorem dX10_saw_13 : decode cX10_saw 13 = .ok (.bipush 9, 2) := by decide +kernel
theorem dX10_saw_15 : decode cX10_saw 15 = .ok (.invokestatic 158, 3) := by decide +kernel
theorem dX10_saw_18 : decode cX10_saw 18 = .ok (.ifCond .eq 14, 3) := by decide +kernel
theorem dX10_saw_21 : decode cX10_saw 21 = .ok (.iload_n 3, 1) := by decide +kernel
theorem dX10_saw_22 : decode cX10_saw 22 = .ok (.bipush (-20), 2) := by decide +kernel
theorem dX10_saw_24 : decode cX10_saw 24 = .ok (.bipush 20, 2) := by decide +kernel
theorem dX10_saw_26 : decode cX10_saw 26 = .ok (.invokestatic 158, 3) := by decide +kernel
theorem dX10_saw_29 : decode cX10_saw 29 = .ok (.ifCond .ne 5, 3) := by decide +kernel
theorem dX10_saw_32 : decode cX10_saw 32 = .ok (.iconst (-1), 1) := by decide +kernel
theorem dX10_saw_33 : decode cX10_saw 33 = .ok (.ireturn, 1) := by decide +kernel
theorem dX10_saw_34 : decode cX10_saw 34 = .ok (.aload_n 0, 1) := by decide +kernel
theorem dX10_saw_35 : decode cX10_saw 35 = .ok (.getfield 63, 3) := by decide +kernel
theorem dX10_saw_38 : decode cX10_saw 38 = .ok (.iload_n 1, 1) := by decide +kernel
theorem dX10_saw_39 : decode cX10_saw 39 = .ok (.iload_n 2, 1) := by decide +kernel
theorem dX10_saw_40 : decode cX10_saw 40 = .ok (.iload_n 3, 1) := by decide +kernel
theorem dX10_saw_41 : decode cX10_saw 41 = .ok (.invokevirtual 349, 3) := by decide +kernel
theorem dX10_saw_44 : decode cX10_saw 44 = .ok (.ifCond .eq 13, 3) := by decide +kernel
theorem dX10_saw_47 : decode cX10_saw 47 = .ok (.aload_n 0, 1) := by decide +kernel
theorem dX10_saw_48 : decode cX10_saw 48 = .ok (.getfield 63, 3) := by decide +kernel
theorem dX10_saw_51 : decode cX10_saw 51 = .ok (.getfield 351, 3) := by decide +kernel
theorem dX10_saw_54 : decode cX10_saw 54 = .ok (.goto 4, 3) := by decide +kernel
theorem dX10_saw_57 : decode cX10_saw 57 = .ok (.iconst (-1), 1) := by decide +kernel
theorem dX10_saw_58 : decode cX10_saw 58 = .ok (.ireturn, 1) := by decide +kernel
theorem dX10_denies_0 : decode cX10_denies 0 = .ok (.aload_n 0, 1) := by decide +kernel
theorem dX10_denies_1 : decode cX10_denies 1 = .ok (.getfield 63, 3) := by decide +kernel
theorem dX10_denies_4 : decode cX10_denies 4 = .ok (.invokevirtual 352, 3) := by decide +kernel
theorem dX10_denies_7 : decode cX10_denies 7 = .ok (.ireturn, 1) := by decide +kernel
theorem dX10_minds_0 : decode cX10_minds 0 = .ok (.aload_n 0, 1) := by decide +kernel
theorem dX10_minds_1 : decode cX10_minds 1 = .ok (.getfield 33, 3) := by decide +kernel
theorem dX10_minds_4 : decode cX10_minds 4 = .ok (.iload_n 1, 1) := by decide +kernel
theorem dX10_minds_5 : decode cX10_minds 5 = .ok (.invokevirtual 155, 3) := by decide +kernel
theorem dX10_minds_8 : decode cX10_minds 8 = .ok (.ifCond .ne 5, 3) := by decide +kernel
theorem dX10_minds_11 : decode cX10_minds 11 = .ok (.iconst (-1), 1) := by decide +kernel
theorem dX10_minds_12 : decode cX10_minds 12 = .ok (.ireturn, 1) := by decide +kernel
theorem dX10_minds_13 : decode cX10_minds 13 = .ok (.aload_n 0, 1) := by decide +kernel
theorem dX10_minds_14 : decode cX10_minds 14 = .ok (.iload_n 1, 1) := by decide +kernel
theorem dX10_minds_15 : decode cX10_minds 15 = .ok (.invokevirtual 354, 3) := by decide +kernel
theorem dX10_minds_18 : decode cX10_minds 18 = .ok (.istore_n 2, 1) := by decide +kernel
theorem dX10_minds_19 : decode cX10_minds 19 = .ok (.aload_n 0, 1) := by decide +kernel
theorem dX10_minds_20 : decode cX10_minds 20 = .ok (.getfield 19, 3) := by decide +kernel
theorem dX10_minds_23 : decode cX10_minds 23 = .ok (.iload_n 2, 1) := by decide +kernel
theorem dX10_minds_24 : decode cX10_minds 24 = .ok (.invokestatic 330, 3) := by decide +kernel
theorem dX10_minds_27 : decode cX10_minds 27 = .ok (.iload_n 2, 1) := by decide +kernel
theorem dX10_minds_28 : decode cX10_minds 28 = .ok (.aload_n 0, 1) := by decide +kernel
theorem dX10_minds_29 : decode cX10_minds 29 = .ok (.getfield 33, 3) := by decide +kernel
theorem dX10_minds_32 : decode cX10_minds 32 = .ok (.getfield 168, 3) := by decide +kernel
theorem dX10_minds_35 : decode cX10_minds 35 = .ok (.iload_n 1, 1) := by decide +kernel
theorem dX10_minds_36 : decode cX10_minds 36 = .ok (.iaload, 1) := by decide +kernel
theorem dX10_minds_37 : decode cX10_minds 37 = .ok (.invokestatic 346, 3) := by decide +kernel
theorem dX10_minds_40 : decode cX10_minds 40 = .ok (.ifCond .eq 7, 3) := by decide +kernel
theorem dX10_minds_43 : decode cX10_minds 43 = .ok (.iconst 1, 1) := by decide +kernel
theorem dX10_minds_44 : decode cX10_minds 44 = .ok (.goto 4, 3) := by decide +kernel
theorem dX10_minds_47 : decode cX10_minds 47 = .ok (.iconst 0, 1) := by decide +kernel
theorem dX10_minds_48 : decode cX10_minds 48 = .ok (.invokevirtual 204, 3) := by decide +kernel
theorem dX10_minds_51 : decode cX10_minds 51 = .ok (.iload_n 2, 1) := by decide +kernel
theorem dX10_minds_52 : decode cX10_minds 52 = .ok (.ireturn, 1) := by decide +kernel
theorem dX10_looks_0 : decode cX10_looks 0 = .ok (.aload_n 0, 1) := by decide +kernel
theorem dX10_looks_1 : decode cX10_looks 1 = .ok (.getfield 33, 3) := by decide +kernel
theorem dX10_looks_4 : decode cX10_looks 4 = .ok (.iload_n 1, 1) := by decide +kernel
theorem dX10_looks_5 : decode cX10_looks 5 = .ok (.invokevirtual 155, 3) := by decide +kernel
theorem dX10_looks_8 : decode cX10_looks 8 = .ok (.ifCond .ne 5, 3) := by decide +kernel
theorem dX10_looks_11 : decode cX10_looks 11 = .ok (.iconst (-1), 1) := by decide +kernel
theorem dX10_looks_12 : decode cX10_looks 12 = .ok (.ireturn, 1) := by decide +kernel
theorem dX10_looks_13 : decode cX10_looks 13 = .ok (.aload_n 0, 1) := by decide +kernel
theorem dX10_looks_14 : decode cX10_looks 14 = .ok (.iload_n 1, 1) := by decide +kernel
theorem dX10_looks_15 : decode cX10_looks 15 = .ok (.invokevirtual 354, 3) := by decide +kernel
theorem dX10_looks_18 : decode cX10_looks 18 = .ok (.istore_n 2, 1) := by decide +kernel
theorem dX10_looks_19 : decode cX10_looks 19 = .ok (.iload_n 2, 1) := by decide +kernel
theorem dX10_looks_20 : decode cX10_looks 20 = .ok (.ifCond .ne 6, 3) := by decide +kernel
theorem dX10_looks_23 : decode cX10_looks 23 = .ok (.bipush (-2), 2) := by decide +kernel
theorem dX10_looks_25 : decode cX10_looks 25 = .ok (.ireturn, 1) := by decide +kernel
theorem dX10_looks_26 : decode cX10_looks 26 = .ok (.iconst 0, 1) := by decide +kernel
theorem dX10_looks_27 : decode cX10_looks 27 = .ok (.istore_n 3, 1) := by decide +kernel
theorem dX10_looks_28 : decode cX10_looks 28 = .ok (.bipush 7, 2) := by decide +kernel
theorem dX10_looks_30 : decode cX10_looks 30 = .ok (.istore 4, 2) := by decide +kernel
theorem dX10_looks_32 : decode cX10_looks 32 = .ok (.bipush (-9), 2) := by decide +kernel
theorem dX10_looks_34 : decode cX10_looks 34 = .ok (.istore 5, 2) := by decide +kernel
theorem dX10_looks_36 : decode cX10_looks 36 = .ok (.iload 5, 2) := by decide +kernel
theorem dX10_looks_38 : decode cX10_looks 38 = .ok (.bipush 9, 2) := by decide +kernel
theorem dX10_looks_40 : decode cX10_looks 40 = .ok (.if_icmp .gt 59, 3) := by decide +kernel
theorem dX10_looks_43 : decode cX10_looks 43 = .ok (.iconst 0, 1) := by decide +kernel
theorem dX10_looks_44 : decode cX10_looks 44 = .ok (.istore 6, 2) := by decide +kernel
theorem dX10_looks_46 : decode cX10_looks 46 = .ok (.iload 6, 2) := by decide +kernel
theorem dX10_looks_48 : decode cX10_looks 48 = .ok (.bipush 9, 2) := by decide +kernel
theorem dX10_looks_50 : decode cX10_looks 50 = .ok (.if_icmp .gt 43, 3) := by decide +kernel
theorem dX10_looks_53 : decode cX10_looks 53 = .ok (.aload_n 0, 1) := by decide +kernel
theorem dX10_looks_54 : decode cX10_looks 54 = .ok (.iload_n 2, 1) := by decide +kernel
theorem dX10_looks_55 : decode cX10_looks 55 = .ok (.iload 5, 2) := by decide +kernel
theorem dX10_looks_57 : decode cX10_looks 57 = .ok (.iload 6, 2) := by decide +kernel
theorem dX10_looks_59 : decode cX10_looks 59 = .ok (.invokevirtual 357, 3) := by decide +kernel
theorem dX10_looks_62 : decode cX10_looks 62 = .ok (.istore 7, 2) := by decide +kernel
theorem dX10_looks_64 : decode cX10_looks 64 = .ok (.iload 7, 2) := by decide +kernel
theorem dX10_looks_66 : decode cX10_looks 66 = .ok (.iload 4, 2) := by decide +kernel
theorem dX10_looks_68 : decode cX10_looks 68 = .ok (.if_icmp .ge 19, 3) := by decide +kernel
theorem dX10_looks_71 : decode cX10_looks 71 = .ok (.iload 7, 2) := by decide +kernel
theorem dX10_looks_73 : decode cX10_looks 73 = .ok (.istore 4, 2) := by decide +kernel
theorem dX10_looks_75 : decode cX10_looks 75 = .ok (.bipush 10, 2) := by decide +kernel
theorem dX10_looks_77 : decode cX10_looks 77 = .ok (.bipush 9, 2) := by decide +kernel
theorem dX10_looks_79 : decode cX10_looks 79 = .ok (.iload 5, 2) := by decide +kernel
theorem dX10_looks_81 : decode cX10_looks 81 = .ok (.iadd, 1) := by decide +kernel
theorem dX10_looks_82 : decode cX10_looks 82 = .ok (.imul, 1) := by decide +kernel
theorem dX10_looks_83 : decode cX10_looks 83 = .ok (.iload 6, 2) := by decide +kernel
theorem dX10_looks_85 : decode cX10_looks 85 = .ok (.iadd, 1) := by decide +kernel
theorem dX10_looks_86 : decode cX10_looks 86 = .ok (.istore_n 3, 1) := by decide +kernel
theorem dX10_looks_87 : decode cX10_looks 87 = .ok (.iinc 6 1, 3) := by decide +kernel
theorem dX10_looks_90 : decode cX10_looks 90 = .ok (.goto (-44), 3) := by decide +kernel
theorem dX10_looks_93 : decode cX10_looks 93 = .ok (.iinc 5 1, 3) := by decide +kernel
theorem dX10_looks_96 : decode cX10_looks 96 = .ok (.goto (-60), 3) := by decide +kernel
theorem dX10_looks_99 : decode cX10_looks 99 = .ok (.aload_n 0, 1) := by decide +kernel
theorem dX10_looks_100 : decode cX10_looks 100 = .ok (.getfield 19, 3) := by decide +kernel
theorem dX10_looks_103 : decode cX10_looks 103 = .ok (.iload 4, 2) := by decide +kernel
theorem dX10_looks_105 : decode cX10_looks 105 = .ok (.invokevirtual 285, 3) := by decide +kernel
theorem dX10_looks_108 : decode cX10_looks 108 = .ok (.iload_n 3, 1) := by decide +kernel
theorem dX10_looks_109 : decode cX10_looks 109 = .ok (.ireturn, 1) := by decide +kernel
theorem dX10_thoughtsLeft_0 : decode cX10_thoughtsLeft 0 = .ok (.aload_n 0, 1) := by decide +kernel
theorem dX10_thoughtsLeft_1 : decode cX10_thoughtsLeft 1 = .ok (.getfield 37, 3) := by decide +kernel
theorem dX10_thoughtsLeft_4 : decode cX10_thoughtsLeft 4 = .ok (.aload_n 0, 1) := by decide +kernel
theorem dX10_thoughtsLeft_5 : decode cX10_thoughtsLeft 5 = .ok (.getfield 33, 3) := by decide +kernel
theorem dX10_thoughtsLeft_8 : decode cX10_thoughtsLeft 8 = .ok (.invokevirtual 188, 3) := by decide +kernel
theorem dX10_thoughtsLeft_11 : decode cX10_thoughtsLeft 11 = .ok (.iconst 0, 1) := by decide +kernel
theorem dX10_thoughtsLeft_12 : decode cX10_thoughtsLeft 12 = .ok (.istore_n 2, 1) := by decide +kernel
theorem dX10_thoughtsLeft_13 : decode cX10_thoughtsLeft 13 = .ok (.iconst 0, 1) := by decide +kernel
theorem dX10_thoughtsLeft_14 : decode cX10_thoughtsLeft 14 = .ok (.istore_n 3, 1) := by decide +kernel
theorem dX10_thoughtsLeft_15 : decode cX10_thoughtsLeft 15 = .ok (.iload_n 3, 1) := by decide +kernel
theorem dX10_thoughtsLeft_16 : decode cX10_thoughtsLeft 16 = .ok (.bipush 6, 2) := by decide +kernel
theorem dX10_thoughtsLeft_18 : decode cX10_thoughtsLeft 18 = .ok (.if_icmp .ge 59, 3) := by decide +kernel
theorem dX10_thoughtsLeft_21 : decode cX10_thoughtsLeft 21 = .ok (.aload_n 0, 1) := by decide +kernel
theorem dX10_thoughtsLeft_22 : decode cX10_thoughtsLeft 22 = .ok (.getfield 37, 3) := by decide +kernel
theorem dX10_thoughtsLeft_25 : decode cX10_thoughtsLeft 25 = .ok (.getfield 168, 3) := by decide +kernel
theorem dX10_thoughtsLeft_28 : decode cX10_thoughtsLeft 28 = .ok (.iload_n 1, 1) := by decide +kernel
theorem dX10_thoughtsLeft_29 : decode cX10_thoughtsLeft 29 = .ok (.iload_n 3, 1) := by decide +kernel
theorem dX10_thoughtsLeft_30 : decode cX10_thoughtsLeft 30 = .ok (.iastore, 1) := by decide +kernel
theorem dX10_thoughtsLeft_31 : decode cX10_thoughtsLeft 31 = .ok (.aload_n 0, 1) := by decide +kernel
theorem dX10_thoughtsLeft_32 : decode cX10_thoughtsLeft 32 = .ok (.getfield 95, 3) := by decide +kernel
theorem dX10_thoughtsLeft_35 : decode cX10_thoughtsLeft 35 = .ok (.iload_n 3, 1) := by decide +kernel
theorem dX10_thoughtsLeft_36 : decode cX10_thoughtsLeft 36 = .ok (.aload_n 0, 1) := by decide +kernel
theorem dX10_thoughtsLeft_37 : decode cX10_thoughtsLeft 37 = .ok (.getfield 26, 3) := by decide +kernel
theorem dX10_thoughtsLeft_40 : decode cX10_thoughtsLeft 40 = .ok (.aload_n 0, 1) := by decide +kernel
theorem dX10_thoughtsLeft_41 : decode cX10_thoughtsLeft 41 = .ok (.getfield 37, 3) := by decide +kernel
theorem dX10_thoughtsLeft_44 : decode cX10_thoughtsLeft 44 = .ok (.invokevirtual 290, 3) := by decide +kernel
theorem dX10_thoughtsLeft_47 : decode cX10_thoughtsLeft 47 = .ok (.iastore, 1) := by decide +kernel
theorem dX10_thoughtsLeft_48 : decode cX10_thoughtsLeft 48 = .ok (.iload_n 2, 1) := by decide +kernel
theorem dX10_thoughtsLeft_49 : decode cX10_thoughtsLeft 49 = .ok (.aload_n 0, 1) := by decide +kernel
theorem dX10_thoughtsLeft_50 : decode cX10_thoughtsLeft 50 = .ok (.aload_n 0, 1) := by decide +kernel
theorem dX10_thoughtsLeft_51 : decode cX10_thoughtsLeft 51 = .ok (.getfield 95, 3) := by decide +kernel
theorem dX10_thoughtsLeft_54 : decode cX10_thoughtsLeft 54 = .ok (.iload_n 3, 1) := by decide +kernel
theorem dX10_thoughtsLeft_55 : decode cX10_thoughtsLeft 55 = .ok (.iaload, 1) := by decide +kernel
theorem dX10_thoughtsLeft_56 : decode cX10_thoughtsLeft 56 = .ok (.invokevirtual 360, 3) := by decide +kernel
theorem dX10_thoughtsLeft_59 : decode cX10_thoughtsLeft 59 = .ok (.ifCond .eq 9, 3) := by decide +kernel
theorem dX10_thoughtsLeft_62 : decode cX10_thoughtsLeft 62 = .ok (.iconst 1, 1) := by decide +kernel
theorem dX10_thoughtsLeft_63 : decode cX10_thoughtsLeft 63 = .ok (.iload_n 3, 1) := by decide +kernel
theorem dX10_thoughtsLeft_64 : decode cX10_thoughtsLeft 64 = .ok (.ishl, 1) := by decide +kernel
theorem dX10_thoughtsLeft_65 : decode cX10_thoughtsLeft 65 = .ok (.goto 4, 3) := by decide +kernel
theorem dX10_thoughtsLeft_68 : decode cX10_thoughtsLeft 68 = .ok (.iconst 0, 1) := by decide +kernel
theorem dX10_thoughtsLeft_69 : decode cX10_thoughtsLeft 69 = .ok (.ior, 1) := by decide +kernel
theorem dX10_thoughtsLeft_70 : decode cX10_thoughtsLeft 70 = .ok (.istore_n 2, 1) := by decide +kernel
theorem dX10_thoughtsLeft_71 : decode cX10_thoughtsLeft 71 = .ok (.iinc 3 1, 3) := by decide +kernel
theorem dX10_thoughtsLeft_74 : decode cX10_thoughtsLeft 74 = .ok (.goto (-59), 3) := by decide +kernel
theorem dX10_thoughtsLeft_77 : decode cX10_thoughtsLeft 77 = .ok (.iload_n 2, 1) := by decide +kernel
theorem dX10_thoughtsLeft_78 : decode cX10_thoughtsLeft 78 = .ok (.ireturn, 1) := by decide +kernel
theorem dX10_isAsSeen_0 : decode cX10_isAsSeen 0 = .ok (.iconst 0, 1) := by decide +kernel
theorem dX10_isAsSeen_1 : decode cX10_isAsSeen 1 = .ok (.istore_n 2, 1) := by decide +kernel
theorem dX10_isAsSeen_2 : decode cX10_isAsSeen 2 = .ok (.iload_n 2, 1) := by decide +kernel
theorem dX10_isAsSeen_3 : decode cX10_isAsSeen 3 = .ok (.aload_n 0, 1) := by decide +kernel
theorem dX10_isAsSeen_4 : decode cX10_isAsSeen 4 = .ok (.getfield 63, 3) := by decide +kernel
theorem dX10_isAsSeen_7 : decode cX10_isAsSeen 7 = .ok (.getfield 351, 3) := by decide +kernel
theorem dX10_isAsSeen_10 : decode cX10_isAsSeen 10 = .ok (.if_icmp .ge 45, 3) := by decide +kernel
theorem dX10_isAsSeen_13 : decode cX10_isAsSeen 13 = .ok (.iload_n 1, 1) := by decide +kernel
theorem dX10_isAsSeen_14 : decode cX10_isAsSeen 14 = .ok (.aload_n 0, 1) := by decide +kernel
theorem dX10_isAsSeen_15 : decode cX10_isAsSeen 15 = .ok (.getfield 63, 3) := by decide +kernel
theorem dX10_isAsSeen_18 : decode cX10_isAsSeen 18 = .ok (.getfield 363, 3) := by decide +kernel
theorem dX10_isAsSeen_21 : decode cX10_isAsSeen 21 = .ok (.iload_n 2, 1) := by decide +kernel
theorem dX10_isAsSeen_22 : decode cX10_isAsSeen 22 = .ok (.iaload, 1) := by decide +kernel
theorem dX10_isAsSeen_23 : decode cX10_isAsSeen 23 = .ok (.aload_n 0, 1) := by decide +kernel
theorem dX10_isAsSeen_24 : decode cX10_isAsSeen 24 = .ok (.getfield 63, 3) := by decide +kernel
theorem dX10_isAsSeen_27 : decode cX10_isAsSeen 27 = .ok (.getfield 366, 3) := by decide +kernel
theorem dX10_isAsSeen_30 : decode cX10_isAsSeen 30 = .ok (.iload_n 2, 1) := by decide +kernel
theorem dX10_isAsSeen_31 : decode cX10_isAsSeen 31 = .ok (.iaload, 1) := by decide +kernel
theorem dX10_isAsSeen_32 : decode cX10_isAsSeen 32 = .ok (.invokestatic 275, 3) := by decide +kernel
theorem dX10_isAsSeen_35 : decode cX10_isAsSeen 35 = .ok (.aload_n 0, 1) := by decide +kernel
theorem dX10_isAsSeen_36 : decode cX10_isAsSeen 36 = .ok (.getfield 63, 3) := by decide +kernel
theorem dX10_isAsSeen_39 : decode cX10_isAsSeen 39 = .ok (.getfield 369, 3) := by decide +kernel
theorem dX10_isAsSeen_42 : decode cX10_isAsSeen 42 = .ok (.iload_n 2, 1) := by decide +kernel
theorem dX10_isAsSeen_43 : decode cX10_isAsSeen 43 = .ok (.iaload, 1) := by decide +kernel
theorem dX10_isAsSeen_44 : decode cX10_isAsSeen 44 = .ok (.if_icmp .eq 5, 3) := by decide +kernel
theorem dX10_isAsSeen_47 : decode cX10_isAsSeen 47 = .ok (.iconst 0, 1) := by decide +kernel
theorem dX10_isAsSeen_48 : decode cX10_isAsSeen 48 = .ok (.ireturn, 1) := by decide +kernel
theorem dX10_isAsSeen_49 : decode cX10_isAsSeen 49 = .ok (.iinc 2 1, 3) := by decide +kernel
theorem dX10_isAsSeen_52 : decode cX10_isAsSeen 52 = .ok (.goto (-50), 3) := by decide +kernel
theorem dX10_isAsSeen_55 : decode cX10_isAsSeen 55 = .ok (.iconst 1, 1) := by decide +kernel
theorem dX10_isAsSeen_56 : decode cX10_isAsSeen 56 = .ok (.ireturn, 1) := by decide +kernel
theorem dX10_mostLeft_0 : decode cX10_mostLeft 0 = .ok (.iconst 0, 1) := by decide +kernel
theorem dX10_mostLeft_1 : decode cX10_mostLeft 1 = .ok (.istore 4, 2) := by decide +kernel
theorem dX10_mostLeft_3 : decode cX10_mostLeft 3 = .ok (.iconst 0, 1) := by decide +kernel
theorem dX10_mostLeft_4 : decode cX10_mostLeft 4 = .ok (.istore 5, 2) := by decide +kernel
theorem dX10_mostLeft_6 : decode cX10_mostLeft 6 = .ok (.iload 5, 2) := by decide +kernel
theorem dX10_mostLeft_8 : decode cX10_mostLeft 8 = .ok (.bipush 6, 2) := by decide +kernel
theorem dX10_mostLeft_10 : decode cX10_mostLeft 10 = .ok (.if_icmp .ge 106, 3) := by decide +kernel
theorem dX10_mostLeft_13 : decode cX10_mostLeft 13 = .ok (.aload_n 0, 1) := by decide +kernel
theorem dX10_mostLeft_14 : decode cX10_mostLeft 14 = .ok (.getfield 98, 3) := by decide +kernel
theorem dX10_mostLeft_17 : decode cX10_mostLeft 17 = .ok (.iload 5, 2) := by decide +kernel
theorem dX10_mostLeft_19 : decode cX10_mostLeft 19 = .ok (.aload_n 0, 1) := by decide +kernel
theorem dX10_mostLeft_20 : decode cX10_mostLeft 20 = .ok (.getfield 95, 3) := by decide +kernel
theorem dX10_mostLeft_23 : decode cX10_mostLeft 23 = .ok (.iload 5, 2) := by decide +kernel
theorem dX10_mostLeft_25 : decode cX10_mostLeft 25 = .ok (.iaload, 1) := by decide +kernel
theorem dX10_mostLeft_26 : decode cX10_mostLeft 26 = .ok (.iload_n 2, 1) := by decide +kernel
theorem dX10_mostLeft_27 : decode cX10_mostLeft 27 = .ok (.iload_n 3, 1) := by decide +kernel
theorem dX10_mostLeft_28 : decode cX10_mostLeft 28 = .ok (.invokestatic 275, 3) := by decide +kernel
theorem dX10_mostLeft_31 : decode cX10_mostLeft 31 = .ok (.iastore, 1) := by decide +kernel
theorem dX10_mostLeft_32 : decode cX10_mostLeft 32 = .ok (.iconst 0, 1) := by decide +kernel
theorem dX10_mostLeft_33 : decode cX10_mostLeft 33 = .ok (.istore 6, 2) := by decide +kernel
theorem dX10_mostLeft_35 : decode cX10_mostLeft 35 = .ok (.iconst 0, 1) := by decide +kernel
theorem dX10_mostLeft_36 : decode cX10_mostLeft 36 = .ok (.istore 7, 2) := by decide +kernel
theorem dX10_mostLeft_38 : decode cX10_mostLeft 38 = .ok (.iload 7, 2) := by decide +kernel
theorem dX10_mostLeft_40 : decode cX10_mostLeft 40 = .ok (.iload 5, 2) := by decide +kernel
theorem dX10_mostLeft_42 : decode cX10_mostLeft 42 = .ok (.if_icmp .gt 45, 3) := by decide +kernel
theorem dX10_mostLeft_45 : decode cX10_mostLeft 45 = .ok (.iload 6, 2) := by decide +kernel
theorem dX10_mostLeft_47 : decode cX10_mostLeft 47 = .ok (.iload_n 1, 1) := by decide +kernel
theorem dX10_mostLeft_48 : decode cX10_mostLeft 48 = .ok (.iload 7, 2) := by decide +kernel
theorem dX10_mostLeft_50 : decode cX10_mostLeft 50 = .ok (.invokestatic 346, 3) := by decide +kernel
theorem dX10_mostLeft_53 : decode cX10_mostLeft 53 = .ok (.ifCond .eq 24, 3) := by decide +kernel
theorem dX10_mostLeft_56 : decode cX10_mostLeft 56 = .ok (.aload_n 0, 1) := by decide +kernel
theorem dX10_mostLeft_57 : decode cX10_mostLeft 57 = .ok (.getfield 98, 3) := by decide +kernel
theorem dX10_mostLeft_60 : decode cX10_mostLeft 60 = .ok (.iload 7, 2) := by decide +kernel
theorem dX10_mostLeft_62 : decode cX10_mostLeft 62 = .ok (.iaload, 1) := by decide +kernel
theorem dX10_mostLeft_63 : decode cX10_mostLeft 63 = .ok (.aload_n 0, 1) := by decide +kernel
theorem dX10_mostLeft_64 : decode cX10_mostLeft 64 = .ok (.getfield 98, 3) := by decide +kernel
theorem dX10_mostLeft_67 : decode cX10_mostLeft 67 = .ok (.iload 5, 2) := by decide +kernel
theorem dX10_mostLeft_69 : decode cX10_mostLeft 69 = .ok (.iaload, 1) := by decide +kernel
theorem dX10_mostLeft_70 : decode cX10_mostLeft 70 = .ok (.if_icmp .ne 7, 3) := by decide +kernel
theorem dX10_mostLeft_73 : decode cX10_mostLeft 73 = .ok (.iconst 1, 1) := by decide +kernel
theorem dX10_mostLeft_74 : decode cX10_mostLeft 74 = .ok (.goto 4, 3) := by decide +kernel
theorem dX10_mostLeft_77 : decode cX10_mostLeft 77 = .ok (.iconst 0, 1) := by decide +kernel
theorem dX10_mostLeft_78 : decode cX10_mostLeft 78 = .ok (.iadd, 1) := by decide +kernel
theorem dX10_mostLeft_79 : decode cX10_mostLeft 79 = .ok (.istore 6, 2) := by decide +kernel
theorem dX10_mostLeft_81 : decode cX10_mostLeft 81 = .ok (.iinc 7 1, 3) := by decide +kernel
theorem dX10_mostLeft_84 : decode cX10_mostLeft 84 = .ok (.goto (-46), 3) := by decide +kernel
theorem dX10_mostLeft_87 : decode cX10_mostLeft 87 = .ok (.iload_n 1, 1) := by decide +kernel
theorem dX10_mostLeft_88 : decode cX10_mostLeft 88 = .ok (.iload 5, 2) := by decide +kernel
theorem dX10_mostLeft_90 : decode cX10_mostLeft 90 = .ok (.invokestatic 346, 3) := by decide +kernel
theorem dX10_mostLeft_93 : decode cX10_mostLeft 93 = .ok (.ifCond .eq 13, 3) := by decide +kernel
theorem dX10_mostLeft_96 : decode cX10_mostLeft 96 = .ok (.iload 4, 2) := by decide +kernel
theorem dX10_mostLeft_98 : decode cX10_mostLeft 98 = .ok (.iload 6, 2) := by decide +kernel
theorem dX10_mostLeft_100 : decode cX10_mostLeft 100 = .ok (.invokestatic 247, 3) := by decide +kernel
theorem dX10_mostLeft_103 : decode cX10_mostLeft 103 = .ok (.goto 5, 3) := by decide +kernel
theorem dX10_mostLeft_106 : decode cX10_mostLeft 106 = .ok (.iload 4, 2) := by decide +kernel
theorem dX10_mostLeft_108 : decode cX10_mostLeft 108 = .ok (.istore 4, 2) := by decide +kernel
theorem dX10_mostLeft_110 : decode cX10_mostLeft 110 = .ok (.iinc 5 1, 3) := by decide +kernel
theorem dX10_mostLeft_113 : decode cX10_mostLeft 113 = .ok (.goto (-107), 3) := by decide +kernel
theorem dX10_mostLeft_116 : decode cX10_mostLeft 116 = .ok (.iload 4, 2) := by decide +kernel
theorem dX10_mostLeft_118 : decode cX10_mostLeft 118 = .ok (.ireturn, 1) := by decide +kernel
theorem dX10_heard_0 : decode cX10_heard 0 = .ok (.iload_n 1, 1) := by decide +kernel
theorem dX10_heard_1 : decode cX10_heard 1 = .ok (.iconst 0, 1) := by decide +kernel
theorem dX10_heard_2 : decode cX10_heard 2 = .ok (.getstatic 372, 3) := by decide +kernel
theorem dX10_heard_5 : decode cX10_heard 5 = .ok (.arraylength, 1) := by decide +kernel
theorem dX10_heard_6 : decode cX10_heard 6 = .ok (.iconst 1, 1) := by decide +kernel
theorem dX10_heard_7 : decode cX10_heard 7 = .ok (.isub, 1) := by decide +kernel
theorem dX10_heard_8 : decode cX10_heard 8 = .ok (.invokestatic 158, 3) := by decide +kernel
theorem dX10_heard_11 : decode cX10_heard 11 = .ok (.ifCond .eq 16, 3) := by decide +kernel
theorem dX10_heard_14 : decode cX10_heard 14 = .ok (.iload_n 2, 1) := by decide +kernel
theorem dX10_heard_15 : decode cX10_heard 15 = .ok (.iconst 0, 1) := by decide +kernel
theorem dX10_heard_16 : decode cX10_heard 16 = .ok (.getstatic 372, 3) := by decide +kernel
theorem dX10_heard_19 : decode cX10_heard 19 = .ok (.iload_n 1, 1) := by decide +kernel
theorem dX10_heard_20 : decode cX10_heard 20 = .ok (.iaload, 1) := by decide +kernel
theorem dX10_heard_21 : decode cX10_heard 21 = .ok (.invokestatic 158, 3) := by decide +kernel
theorem dX10_heard_24 : decode cX10_heard 24 = .ok (.ifCond .ne 5, 3) := by decide +kernel
theorem dX10_heard_27 : decode cX10_heard 27 = .ok (.iconst (-1), 1) := by decide +kernel
theorem dX10_heard_28 : decode cX10_heard 28 = .ok (.ireturn, 1) := by decide +kernel
theorem dX10_heard_29 : decode cX10_heard 29 = .ok (.aload_n 0, 1) := by decide +kernel
theorem dX10_heard_30 : decode cX10_heard 30 = .ok (.getfield 67, 3) := by decide +kernel
theorem dX10_heard_33 : decode cX10_heard 33 = .ok (.iload_n 1, 1) := by decide +kernel
theorem dX10_heard_34 : decode cX10_heard 34 = .ok (.iload_n 2, 1) := by decide +kernel
theorem dX10_heard_35 : decode cX10_heard 35 = .ok (.iconst 0, 1) := by decide +kernel
theorem dX10_heard_36 : decode cX10_heard 36 = .ok (.invokevirtual 349, 3) := by decide +kernel
theorem dX10_heard_39 : decode cX10_heard 39 = .ok (.ifCond .eq 13, 3) := by decide +kernel
theorem dX10_heard_42 : decode cX10_heard 42 = .ok (.aload_n 0, 1) := by decide +kernel
theorem dX10_heard_43 : decode cX10_heard 43 = .ok (.getfield 67, 3) := by decide +kernel
theorem dX10_heard_46 : decode cX10_heard 46 = .ok (.getfield 351, 3) := by decide +kernel
theorem dX10_heard_49 : decode cX10_heard 49 = .ok (.goto 4, 3) := by decide +kernel
theorem dX10_heard_52 : decode cX10_heard 52 = .ok (.iconst (-1), 1) := by decide +kernel
theorem dX10_heard_53 : decode cX10_heard 53 = .ok (.ireturn, 1) := by decide +kernel
theorem dX10_forget_0 : decode cX10_forget 0 = .ok (.aload_n 0, 1) := by decide +kernel
theorem dX10_forget_1 : decode cX10_forget 1 = .ok (.getfield 67, 3) := by decide +kernel
theorem dX10_forget_4 : decode cX10_forget 4 = .ok (.invokevirtual 352, 3) := by decide +kernel
theorem dX10_forget_7 : decode cX10_forget 7 = .ok (.ireturn, 1) := by decide +kernel
theorem dX10_fits_0 : decode cX10_fits 0 = .ok (.aload_n 0, 1) := by decide +kernel
theorem dX10_fits_1 : decode cX10_fits 1 = .ok (.invokevirtual 263, 3) := by decide +kernel
theorem dX10_fits_4 : decode cX10_fits 4 = .ok (.aload_n 0, 1) := by decide +kernel
theorem dX10_fits_5 : decode cX10_fits 5 = .ok (.invokevirtual 375, 3) := by decide +kernel
theorem dX10_fits_8 : decode cX10_fits 8 = .ok (.istore_n 1, 1) := by decide +kernel
theorem dX10_fits_9 : decode cX10_fits 9 = .ok (.aload_n 0, 1) := by decide +kernel
theorem dX10_fits_10 : decode cX10_fits 10 = .ok (.getfield 19, 3) := by decide +kernel
theorem dX10_fits_13 : decode cX10_fits 13 = .ok (.iload_n 1, 1) := by decide +kernel
theorem dX10_fits_14 : decode cX10_fits 14 = .ok (.invokestatic 330, 3) := by decide +kernel
theorem dX10_fits_17 : decode cX10_fits 17 = .ok (.invokevirtual 285, 3) := by decide +kernel
theorem dX10_fits_20 : decode cX10_fits 20 = .ok (.iload_n 1, 1) := by decide +kernel
theorem dX10_fits_21 : decode cX10_fits 21 = .ok (.ireturn, 1) := by decide +kernel
theorem dX10_asks_0 : decode cX10_asks 0 = .ok (.aload_n 0, 1) := by decide +kernel
theorem dX10_asks_1 : decode cX10_asks 1 = .ok (.invokevirtual 263, 3) := by decide +kernel
theorem dX10_asks_4 : decode cX10_asks 4 = .ok (.aload_n 0, 1) := by decide +kernel
theorem dX10_asks_5 : decode cX10_asks 5 = .ok (.invokevirtual 375, 3) := by decide +kernel
theorem dX10_asks_8 : decode cX10_asks 8 = .ok (.istore_n 1, 1) := by decide +kernel
theorem dX10_asks_9 : decode cX10_asks 9 = .ok (.iload_n 1, 1) := by decide +kernel
theorem dX10_asks_10 : decode cX10_asks 10 = .ok (.ifCond .ne 6, 3) := by decide +kernel
theorem dX10_asks_13 : decode cX10_asks 13 = .ok (.bipush (-2), 2) := by decide +kernel
theorem dX10_asks_15 : decode cX10_asks 15 = .ok (.ireturn, 1) := by decide +kernel
theorem dX10_asks_16 : decode cX10_asks 16 = .ok (.iconst 0, 1) := by decide +kernel
theorem dX10_asks_17 : decode cX10_asks 17 = .ok (.istore_n 2, 1) := by decide +kernel
theorem dX10_asks_18 : decode cX10_asks 18 = .ok (.bipush 8, 2) := by decide +kernel
theorem dX10_asks_20 : decode cX10_asks 20 = .ok (.istore_n 3, 1) := by decide +kernel
theorem dX10_asks_21 : decode cX10_asks 21 = .ok (.iconst 0, 1) := by decide +kernel
theorem dX10_asks_22 : decode cX10_asks 22 = .ok (.istore 4, 2) := by decide +kernel
theorem dX10_asks_24 : decode cX10_asks 24 = .ok (.iload 4, 2) := by decide +kernel
theorem dX10_asks_26 : decode cX10_asks 26 = .ok (.getstatic 372, 3) := by decide +kernel
theorem dX10_asks_29 : decode cX10_asks 29 = .ok (.arraylength, 1) := by decide +kernel
theorem dX10_asks_30 : decode cX10_asks 30 = .ok (.if_icmp .ge 58, 3) := by decide +kernel
theorem dX10_asks_33 : decode cX10_asks 33 = .ok (.iconst 0, 1) := by decide +kernel
theorem dX10_asks_34 : decode cX10_asks 34 = .ok (.istore 5, 2) := by decide +kernel
theorem dX10_asks_36 : decode cX10_asks 36 = .ok (.iload 5, 2) := by decide +kernel
theorem dX10_asks_38 : decode cX10_asks 38 = .ok (.getstatic 372, 3) := by decide +kernel
theorem dX10_asks_41 : decode cX10_asks 41 = .ok (.iload 4, 2) := by decide +kernel
theorem dX10_asks_43 : decode cX10_asks 43 = .ok (.iaload, 1) := by decide +kernel
theorem dX10_asks_44 : decode cX10_asks 44 = .ok (.if_icmp .gt 38, 3) := by decide +kernel
theorem dX10_asks_47 : decode cX10_asks 47 = .ok (.aload_n 0, 1) := by decide +kernel
theorem dX10_asks_48 : decode cX10_asks 48 = .ok (.iload_n 1, 1) := by decide +kernel
theorem dX10_asks_49 : decode cX10_asks 49 = .ok (.iload 4, 2) := by decide +kernel
theorem dX10_asks_51 : decode cX10_asks 51 = .ok (.iload 5, 2) := by decide +kernel
theorem dX10_asks_53 : decode cX10_asks 53 = .ok (.invokevirtual 378, 3) := by decide +kernel
theorem dX10_asks_56 : decode cX10_asks 56 = .ok (.istore 6, 2) := by decide +kernel
theorem dX10_asks_58 : decode cX10_asks 58 = .ok (.iload 6, 2) := by decide +kernel
theorem dX10_asks_60 : decode cX10_asks 60 = .ok (.iload_n 3, 1) := by decide +kernel
theorem dX10_asks_61 : decode cX10_asks 61 = .ok (.if_icmp .ge 15, 3) := by decide +kernel
theorem dX10_asks_64 : decode cX10_asks 64 = .ok (.iload 6, 2) := by decide +kernel
theorem dX10_asks_66 : decode cX10_asks 66 = .ok (.istore_n 3, 1) := by decide +kernel
theorem dX10_asks_67 : decode cX10_asks 67 = .ok (.bipush 10, 2) := by decide +kernel
theorem dX10_asks_69 : decode cX10_asks 69 = .ok (.iload 4, 2) := by decide +kernel
theorem dX10_asks_71 : decode cX10_asks 71 = .ok (.imul, 1) := by decide +kernel
theorem dX10_asks_72 : decode cX10_asks 72 = .ok (.iload 5, 2) := by decide +kernel
theorem dX10_asks_74 : decode cX10_asks 74 = .ok (.iadd, 1) := by decide +kernel
theorem dX10_asks_75 : decode cX10_asks 75 = .ok (.istore_n 2, 1) := by decide +kernel
theorem dX10_asks_76 : decode cX10_asks 76 = .ok (.iinc 5 1, 3) := by decide +kernel
theorem dX10_asks_79 : decode cX10_asks 79 = .ok (.goto (-43), 3) := by decide +kernel
theorem dX10_asks_82 : decode cX10_asks 82 = .ok (.iinc 4 1, 3) := by decide +kernel
theorem dX10_asks_85 : decode cX10_asks 85 = .ok (.goto (-61), 3) := by decide +kernel
theorem dX10_asks_88 : decode cX10_asks 88 = .ok (.aload_n 0, 1) := by decide +kernel
theorem dX10_asks_89 : decode cX10_asks 89 = .ok (.getfield 19, 3) := by decide +kernel
theorem dX10_asks_92 : decode cX10_asks 92 = .ok (.iload_n 3, 1) := by decide +kernel
theorem dX10_asks_93 : decode cX10_asks 93 = .ok (.invokevirtual 285, 3) := by decide +kernel
theorem dX10_asks_96 : decode cX10_asks 96 = .ok (.iload_n 2, 1) := by decide +kernel
theorem dX10_asks_97 : decode cX10_asks 97 = .ok (.ireturn, 1) := by decide +kernel
theorem dX10_suspects_0 : decode cX10_suspects 0 = .ok (.iconst 0, 1) := by decide +kernel
theorem dX10_suspects_1 : decode cX10_suspects 1 = .ok (.istore_n 1, 1) := by decide +kernel
theorem dX10_suspects_2 : decode cX10_suspects 2 = .ok (.iconst 0, 1) := by decide +kernel
theorem dX10_suspects_3 : decode cX10_suspects 3 = .ok (.istore_n 2, 1) := by decide +kernel
theorem dX10_suspects_4 : decode cX10_suspects 4 = .ok (.iload_n 2, 1) := by decide +kernel
theorem dX10_suspects_5 : decode cX10_suspects 5 = .ok (.aload_n 0, 1) := by decide +kernel
theorem dX10_suspects_6 : decode cX10_suspects 6 = .ok (.getfield 33, 3) := by decide +kernel
theorem dX10_suspects_9 : decode cX10_suspects 9 = .ok (.getfield 126, 3) := by decide +kernel
theorem dX10_suspects_12 : decode cX10_suspects 12 = .ok (.if_icmp .ge 76, 3) := by decide +kernel
theorem dX10_suspects_15 : decode cX10_suspects 15 = .ok (.iconst 1, 1) := by decide +kernel
theorem dX10_suspects_16 : decode cX10_suspects 16 = .ok (.istore_n 3, 1) := by decide +kernel
theorem dX10_suspects_17 : decode cX10_suspects 17 = .ok (.iconst 0, 1) := by decide +kernel
theorem dX10_suspects_18 : decode cX10_suspects 18 = .ok (.istore 4, 2) := by decide +kernel
theorem dX10_suspects_20 : decode cX10_suspects 20 = .ok (.iload 4, 2) := by decide +kernel
theorem dX10_suspects_22 : decode cX10_suspects 22 = .ok (.aload_n 0, 1) := by decide +kernel
theorem dX10_suspects_23 : decode cX10_suspects 23 = .ok (.getfield 67, 3) := by decide +kernel
theorem dX10_suspects_26 : decode cX10_suspects 26 = .ok (.getfield 351, 3) := by decide +kernel
theorem dX10_suspects_29 : decode cX10_suspects 29 = .ok (.if_icmp .ge 39, 3) := by decide +kernel
theorem dX10_suspects_32 : decode cX10_suspects 32 = .ok (.iload_n 3, 1) := by decide +kernel
theorem dX10_suspects_33 : decode cX10_suspects 33 = .ok (.ifCond .eq 35, 3) := by decide +kernel
theorem dX10_suspects_36 : decode cX10_suspects 36 = .ok (.aload_n 0, 1) := by decide +kernel
theorem dX10_suspects_37 : decode cX10_suspects 37 = .ok (.iload_n 2, 1) := by decide +kernel
theorem dX10_suspects_38 : decode cX10_suspects 38 = .ok (.aload_n 0, 1) := by decide +kernel
theorem dX10_suspects_39 : decode cX10_suspects 39 = .ok (.getfield 67, 3) := by decide +kernel
theorem dX10_suspects_42 : decode cX10_suspects 42 = .ok (.getfield 363, 3) := by decide +kernel
theorem dX10_suspects_45 : decode cX10_suspects 45 = .ok (.iload 4, 2) := by decide +kernel
theorem dX10_suspects_47 : decode cX10_suspects 47 = .ok (.iaload, 1) := by decide +kernel
theorem dX10_suspects_48 : decode cX10_suspects 48 = .ok (.aload_n 0, 1) := by decide +kernel
theorem dX10_suspects_49 : decode cX10_suspects 49 = .ok (.getfield 67, 3) := by decide +kernel
theorem dX10_suspects_52 : decode cX10_suspects 52 = .ok (.getfield 366, 3) := by decide +kernel
theorem dX10_suspects_55 : decode cX10_suspects 55 = .ok (.iload 4, 2) := by decide +kernel
theorem dX10_suspects_57 : decode cX10_suspects 57 = .ok (.iaload, 1) := by decide +kernel
theorem dX10_suspects_58 : decode cX10_suspects 58 = .ok (.invokevirtual 381, 3) := by decide +kernel
theorem dX10_suspects_61 : decode cX10_suspects 61 = .ok (.istore_n 3, 1) := by decide +kernel
theorem dX10_suspects_62 : decode cX10_suspects 62 = .ok (.iinc 4 1, 3) := by decide +kernel
theorem dX10_suspects_65 : decode cX10_suspects 65 = .ok (.goto (-45), 3) := by decide +kernel
theorem dX10_suspects_68 : decode cX10_suspects 68 = .ok (.iload_n 1, 1) := by decide +kernel
theorem dX10_suspects_69 : decode cX10_suspects 69 = .ok (.iload_n 3, 1) := by decide +kernel
theorem dX10_suspects_70 : decode cX10_suspects 70 = .ok (.ifCond .eq 9, 3) := by decide +kernel
theorem dX10_suspects_73 : decode cX10_suspects 73 = .ok (.iconst 1, 1) := by decide +kernel
theorem dX10_suspects_74 : decode cX10_suspects 74 = .ok (.iload_n 2, 1) := by decide +kernel
theorem dX10_suspects_75 : decode cX10_suspects 75 = .ok (.ishl, 1) := by decide +kernel
theorem dX10_suspects_76 : decode cX10_suspects 76 = .ok (.goto 4, 3) := by decide +kernel
theorem dX10_suspects_79 : decode cX10_suspects 79 = .ok (.iconst 0, 1) := by decide +kernel
theorem dX10_suspects_80 : decode cX10_suspects 80 = .ok (.ior, 1) := by decide +kernel
theorem dX10_suspects_81 : decode cX10_suspects 81 = .ok (.istore_n 1, 1) := by decide +kernel
theorem dX10_suspects_82 : decode cX10_suspects 82 = .ok (.iinc 2 1, 3) := by decide +kernel
theorem dX10_suspects_85 : decode cX10_suspects 85 = .ok (.goto (-81), 3) := by decide +kernel
theorem dX10_suspects_88 : decode cX10_suspects 88 = .ok (.iload_n 1, 1) := by decide +kernel
theorem dX10_suspects_89 : decode cX10_suspects 89 = .ok (.ireturn, 1) := by decide +kernel
theorem dX10_isSo_0 : decode cX10_isSo 0 = .ok (.iload_n 2, 1) := by decide +kernel
theorem dX10_isSo_1 : decode cX10_isSo 1 = .ok (.tableswitch 127 0 3 #[31, 50, 69, 105], 31) := by decide +kernel
theorem dX10_isSo_32 : decode cX10_isSo 32 = .ok (.aload_n 0, 1) := by decide +kernel
theorem dX10_isSo_33 : decode cX10_isSo 33 = .ok (.getfield 33, 3) := by decide +kernel
theorem dX10_isSo_36 : decode cX10_isSo 36 = .ok (.getfield 165, 3) := by decide +kernel
theorem dX10_isSo_39 : decode cX10_isSo 39 = .ok (.iload_n 1, 1) := by decide +kernel
theorem dX10_isSo_40 : decode cX10_isSo 40 = .ok (.iaload, 1) := by decide +kernel
theorem dX10_isSo_41 : decode cX10_isSo 41 = .ok (.iload_n 3, 1) := by decide +kernel
theorem dX10_isSo_42 : decode cX10_isSo 42 = .ok (.if_icmp .lt 7, 3) := by decide +kernel
theorem dX10_isSo_45 : decode cX10_isSo 45 = .ok (.iconst 1, 1) := by decide +kernel
theorem dX10_isSo_46 : decode cX10_isSo 46 = .ok (.goto 4, 3) := by decide +kernel
theorem dX10_isSo_49 : decode cX10_isSo 49 = .ok (.iconst 0, 1) := by decide +kernel
theorem dX10_isSo_50 : decode cX10_isSo 50 = .ok (.ireturn, 1) := by decide +kernel
theorem dX10_isSo_51 : decode cX10_isSo 51 = .ok (.aload_n 0, 1) := by decide +kernel
theorem dX10_isSo_52 : decode cX10_isSo 52 = .ok (.getfield 33, 3) := by decide +kernel
theorem dX10_isSo_55 : decode cX10_isSo 55 = .ok (.getfield 168, 3) := by decide +kernel
theorem dX10_isSo_58 : decode cX10_isSo 58 = .ok (.iload_n 1, 1) := by decide +kernel
theorem dX10_isSo_59 : decode cX10_isSo 59 = .ok (.iaload, 1) := by decide +kernel
theorem dX10_isSo_60 : decode cX10_isSo 60 = .ok (.iload_n 3, 1) := by decide +kernel
theorem dX10_isSo_61 : decode cX10_isSo 61 = .ok (.if_icmp .ne 7, 3) := by decide +kernel
theorem dX10_isSo_64 : decode cX10_isSo 64 = .ok (.iconst 1, 1) := by decide +kernel
theorem dX10_isSo_65 : decode cX10_isSo 65 = .ok (.goto 4, 3) := by decide +kernel
theorem dX10_isSo_68 : decode cX10_isSo 68 = .ok (.iconst 0, 1) := by decide +kernel
theorem dX10_isSo_69 : decode cX10_isSo 69 = .ok (.ireturn, 1) := by decide +kernel
theorem dX10_isSo_70 : decode cX10_isSo 70 = .ok (.aload_n 0, 1) := by decide +kernel
theorem dX10_isSo_71 : decode cX10_isSo 71 = .ok (.getfield 33, 3) := by decide +kernel
theorem dX10_isSo_74 : decode cX10_isSo 74 = .ok (.getfield 171, 3) := by decide +kernel
theorem dX10_isSo_77 : decode cX10_isSo 77 = .ok (.iload_n 1, 1) := by decide +kernel
theorem dX10_isSo_78 : decode cX10_isSo 78 = .ok (.iaload, 1) := by decide +kernel
theorem dX10_isSo_79 : decode cX10_isSo 79 = .ok (.ifCond .le 7, 3) := by decide +kernel
theorem dX10_isSo_82 : decode cX10_isSo 82 = .ok (.iconst 1, 1) := by decide +kernel
theorem dX10_isSo_83 : decode cX10_isSo 83 = .ok (.goto 4, 3) := by decide +kernel
theorem dX10_isSo_86 : decode cX10_isSo 86 = .ok (.iconst 0, 1) := by decide +kernel
theorem dX10_isSo_87 : decode cX10_isSo 87 = .ok (.iload_n 3, 1) := by decide +kernel
theorem dX10_isSo_88 : decode cX10_isSo 88 = .ok (.iconst 1, 1) := by decide +kernel
theorem dX10_isSo_89 : decode cX10_isSo 89 = .ok (.if_icmp .ne 7, 3) := by decide +kernel
theorem dX10_isSo_92 : decode cX10_isSo 92 = .ok (.iconst 1, 1) := by decide +kernel
theorem dX10_isSo_93 : decode cX10_isSo 93 = .ok (.goto 4, 3) := by decide +kernel
theorem dX10_isSo_96 : decode cX10_isSo 96 = .ok (.iconst 0, 1) := by decide +kernel
theorem dX10_isSo_97 : decode cX10_isSo 97 = .ok (.if_icmp .ne 7, 3) := by decide +kernel
theorem dX10_isSo_100 : decode cX10_isSo 100 = .ok (.iconst 1, 1) := by decide +kernel
theorem dX10_isSo_101 : decode cX10_isSo 101 = .ok (.goto 4, 3) := by decide +kernel
theorem dX10_isSo_104 : decode cX10_isSo 104 = .ok (.iconst 0, 1) := by decide +kernel
theorem dX10_isSo_105 : decode cX10_isSo 105 = .ok (.ireturn, 1) := by decide +kernel
theorem dX10_isSo_106 : decode cX10_isSo 106 = .ok (.aload_n 0, 1) := by decide +kernel
theorem dX10_isSo_107 : decode cX10_isSo 107 = .ok (.getfield 33, 3) := by decide +kernel
theorem dX10_isSo_110 : decode cX10_isSo 110 = .ok (.getfield 171, 3) := by decide +kernel
theorem dX10_isSo_113 : decode cX10_isSo 113 = .ok (.iload_n 1, 1) := by decide +kernel
theorem dX10_isSo_114 : decode cX10_isSo 114 = .ok (.iaload, 1) := by decide +kernel
theorem dX10_isSo_115 : decode cX10_isSo 115 = .ok (.invokestatic 287, 3) := by decide +kernel
theorem dX10_isSo_118 : decode cX10_isSo 118 = .ok (.iload_n 3, 1) := by decide +kernel
theorem dX10_isSo_119 : decode cX10_isSo 119 = .ok (.if_icmp .ne 7, 3) := by decide +kernel
theorem dX10_isSo_122 : decode cX10_isSo 122 = .ok (.iconst 1, 1) := by decide +kernel
theorem dX10_isSo_123 : decode cX10_isSo 123 = .ok (.goto 4, 3) := by decide +kernel
theorem dX10_isSo_126 : decode cX10_isSo 126 = .ok (.iconst 0, 1) := by decide +kernel
theorem dX10_isSo_127 : decode cX10_isSo 127 = .ok (.ireturn, 1) := by decide +kernel
theorem dX10_isSo_128 : decode cX10_isSo 128 = .ok (.aload_n 0, 1) := by decide +kernel
theorem dX10_isSo_129 : decode cX10_isSo 129 = .ok (.getfield 91, 3) := by decide +kernel
theorem dX10_isSo_132 : decode cX10_isSo 132 = .ok (.iload_n 1, 1) := by decide +kernel
theorem dX10_isSo_133 : decode cX10_isSo 133 = .ok (.iaload, 1) := by decide +kernel
theorem dX10_isSo_134 : decode cX10_isSo 134 = .ok (.iload_n 3, 1) := by decide +kernel
theorem dX10_isSo_135 : decode cX10_isSo 135 = .ok (.if_icmp .lt 7, 3) := by decide +kernel
theorem dX10_isSo_138 : decode cX10_isSo 138 = .ok (.iconst 1, 1) := by decide +kernel
theorem dX10_isSo_139 : decode cX10_isSo 139 = .ok (.goto 4, 3) := by decide +kernel
theorem dX10_isSo_142 : decode cX10_isSo 142 = .ok (.iconst 0, 1) := by decide +kernel
theorem dX10_isSo_143 : decode cX10_isSo 143 = .ok (.ireturn, 1) := by decide +kernel
theorem dX10_leftBehind_0 : decode cX10_leftBehind 0 = .ok (.iconst 0, 1) := by decide +kernel
theorem dX10_leftBehind_1 : decode cX10_leftBehind 1 = .ok (.istore 4, 2) := by decide +kernel
theorem dX10_leftBehind_3 : decode cX10_leftBehind 3 = .ok (.iconst 0, 1) := by decide +kernel
theorem dX10_leftBehind_4 : decode cX10_leftBehind 4 = .ok (.istore 5, 2) := by decide +kernel
theorem dX10_leftBehind_6 : decode cX10_leftBehind 6 = .ok (.iload 5, 2) := by decide +kernel
theorem dX10_leftBehind_8 : decode cX10_leftBehind 8 = .ok (.aload_n 0, 1) := by decide +kernel
theorem dX10_leftBehind_9 : decode cX10_leftBehind 9 = .ok (.getfield 33, 3) := by decide +kernel
theorem dX10_leftBehind_12 : decode cX10_leftBehind 12 = .ok (.getfield 126, 3) := by decide +kernel
theorem dX10_leftBehind_15 : decode cX10_leftBehind 15 = .ok (.if_icmp .ge 39, 3) := by decide +kernel
theorem dX10_leftBehind_18 : decode cX10_leftBehind 18 = .ok (.iload 4, 2) := by decide +kernel
theorem dX10_leftBehind_20 : decode cX10_leftBehind 20 = .ok (.iload_n 1, 1) := by decide +kernel
theorem dX10_leftBehind_21 : decode cX10_leftBehind 21 = .ok (.iload 5, 2) := by decide +kernel
theorem dX10_leftBehind_23 : decode cX10_leftBehind 23 = .ok (.invokestatic 346, 3) := by decide +kernel
theorem dX10_leftBehind_26 : decode cX10_leftBehind 26 = .ok (.ifCond .eq 18, 3) := by decide +kernel
theorem dX10_leftBehind_29 : decode cX10_leftBehind 29 = .ok (.aload_n 0, 1) := by decide +kernel
theorem dX10_leftBehind_30 : decode cX10_leftBehind 30 = .ok (.iload 5, 2) := by decide +kernel
theorem dX10_leftBehind_32 : decode cX10_leftBehind 32 = .ok (.iload_n 2, 1) := by decide +kernel
theorem dX10_leftBehind_33 : decode cX10_leftBehind 33 = .ok (.iload_n 3, 1) := by decide +kernel
theorem dX10_leftBehind_34 : decode cX10_leftBehind 34 = .ok (.invokevirtual 381, 3) := by decide +kernel
theorem dX10_leftBehind_37 : decode cX10_leftBehind 37 = .ok (.ifCond .eq 7, 3) := by decide +kernel
theorem dX10_leftBehind_40 : decode cX10_leftBehind 40 = .ok (.iconst 1, 1) := by decide +kernel
theorem dX10_leftBehind_41 : decode cX10_leftBehind 41 = .ok (.goto 4, 3) := by decide +kernel
theorem dX10_leftBehind_44 : decode cX10_leftBehind 44 = .ok (.iconst 0, 1) := by decide +kernel
theorem dX10_leftBehind_45 : decode cX10_leftBehind 45 = .ok (.iadd, 1) := by decide +kernel
theorem dX10_leftBehind_46 : decode cX10_leftBehind 46 = .ok (.istore 4, 2) := by decide +kernel
theorem dX10_leftBehind_48 : decode cX10_leftBehind 48 = .ok (.iinc 5 1, 3) := by decide +kernel
theorem dX10_leftBehind_51 : decode cX10_leftBehind 51 = .ok (.goto (-45), 3) := by decide +kernel
theorem dX10_leftBehind_54 : decode cX10_leftBehind 54 = .ok (.iload 4, 2) := by decide +kernel
theorem dX10_leftBehind_56 : decode cX10_leftBehind 56 = .ok (.iload_n 1, 1) := by decide +kernel
theorem dX10_leftBehind_57 : decode cX10_leftBehind 57 = .ok (.invokestatic 330, 3) := by decide +kernel
theorem dX10_leftBehind_60 : decode cX10_leftBehind 60 = .ok (.iload 4, 2) := by decide +kernel
theorem dX10_leftBehind_62 : decode cX10_leftBehind 62 = .ok (.isub, 1) := by decide +kernel
theorem dX10_leftBehind_63 : decode cX10_leftBehind 63 = .ok (.invokestatic 247, 3) := by decide +kernel
theorem dX10_leftBehind_66 : decode cX10_leftBehind 66 = .ok (.ireturn, 1) := by decide +kernel
theorem dX10_grave_0 : decode cX10_grave 0 = .ok (.iload_n 1, 1) := by decide +kernel
theorem dX10_grave_1 : decode cX10_grave 1 = .ok (.iconst 0, 1) := by decide +kernel
theorem dX10_grave_2 : decode cX10_grave 2 = .ok (.bipush 8, 2) := by decide +kernel
theorem dX10_grave_4 : decode cX10_grave 4 = .ok (.invokestatic 158, 3) := by decide +kernel
theorem dX10_grave_7 : decode cX10_grave 7 = .ok (.ifCond .eq 13, 3) := by decide +kernel
theorem dX10_grave_10 : decode cX10_grave 10 = .ok (.iload_n 2, 1) := by decide +kernel
theorem dX10_grave_11 : decode cX10_grave 11 = .ok (.iconst 0, 1) := by decide +kernel
theorem dX10_grave_12 : decode cX10_grave 12 = .ok (.bipush 10, 2) := by decide +kernel
theorem dX10_grave_14 : decode cX10_grave 14 = .ok (.invokestatic 158, 3) := by decide +kernel
theorem dX10_grave_17 : decode cX10_grave 17 = .ok (.ifCond .ne 5, 3) := by decide +kernel
theorem dX10_grave_20 : decode cX10_grave 20 = .ok (.iconst (-1), 1) := by decide +kernel
theorem dX10_grave_21 : decode cX10_grave 21 = .ok (.ireturn, 1) := by decide +kernel
theorem dX10_grave_22 : decode cX10_grave 22 = .ok (.aload_n 0, 1) := by decide +kernel
theorem dX10_grave_23 : decode cX10_grave 23 = .ok (.invokevirtual 282, 3) := by decide +kernel
theorem dX10_grave_26 : decode cX10_grave 26 = .ok (.aload_n 0, 1) := by decide +kernel
theorem dX10_grave_27 : decode cX10_grave 27 = .ok (.getfield 80, 3) := by decide +kernel
theorem dX10_grave_30 : decode cX10_grave 30 = .ok (.aload_n 0, 1) := by decide +kernel
theorem dX10_grave_31 : decode cX10_grave 31 = .ok (.getfield 37, 3) := by decide +kernel
theorem dX10_grave_34 : decode cX10_grave 34 = .ok (.getfield 208, 3) := by decide +kernel
theorem dX10_grave_37 : decode cX10_grave 37 = .ok (.invokevirtual 384, 3) := by decide +kernel
theorem dX10_grave_40 : decode cX10_grave 40 = .ok (.iconst 1, 1) := by decide +kernel
theorem dX10_grave_41 : decode cX10_grave 41 = .ok (.istore_n 3, 1) := by decide +kernel
theorem dX10_grave_42 : decode cX10_grave 42 = .ok (.iconst 0, 1) := by decide +kernel
theorem dX10_grave_43 : decode cX10_grave 43 = .ok (.istore 4, 2) := by decide +kernel
theorem dX10_grave_45 : decode cX10_grave 45 = .ok (.iload 4, 2) := by decide +kernel
theorem dX10_grave_47 : decode cX10_grave 47 = .ok (.iload_n 1, 1) := by decide +kernel
theorem dX10_grave_48 : decode cX10_grave 48 = .ok (.if_icmp .ge 30, 3) := by decide +kernel
theorem dX10_grave_51 : decode cX10_grave 51 = .ok (.aload_n 0, 1) := by decide +kernel
theorem dX10_grave_52 : decode cX10_grave 52 = .ok (.getfield 80, 3) := by decide +kernel
theorem dX10_grave_55 : decode cX10_grave 55 = .ok (.aload_n 0, 1) := by decide +kernel
theorem dX10_grave_56 : decode cX10_grave 56 = .ok (.getfield 26, 3) := by decide +kernel
theorem dX10_grave_59 : decode cX10_grave 59 = .ok (.aload_n 0, 1) := by decide +kernel
theorem dX10_grave_60 : decode cX10_grave 60 = .ok (.getfield 37, 3) := by decide +kernel
theorem dX10_grave_63 : decode cX10_grave 63 = .ok (.iload_n 2, 1) := by decide +kernel
theorem dX10_grave_64 : decode cX10_grave 64 = .ok (.invokevirtual 387, 3) := by decide +kernel
theorem dX10_grave_67 : decode cX10_grave 67 = .ok (.iload_n 3, 1) := by decide +kernel
theorem dX10_grave_68 : decode cX10_grave 68 = .ok (.bipush 10, 2) := by decide +kernel
theorem dX10_grave_70 : decode cX10_grave 70 = .ok (.imul, 1) := by decide +kernel
theorem dX10_grave_71 : decode cX10_grave 71 = .ok (.istore_n 3, 1) := by decide +kernel
theorem dX10_grave_72 : decode cX10_grave 72 = .ok (.iinc 4 1, 3) := by decide +kernel
theorem dX10_grave_75 : decode cX10_grave 75 = .ok (.goto (-30), 3) := by decide +kernel
theorem dX10_grave_78 : decode cX10_grave 78 = .ok (.iconst 1, 1) := by decide +kernel
theorem dX10_grave_79 : decode cX10_grave 79 = .ok (.aload_n 0, 1) := by decide +kernel
theorem dX10_grave_80 : decode cX10_grave 80 = .ok (.getfield 80, 3) := by decide +kernel
theorem dX10_grave_83 : decode cX10_grave 83 = .ok (.getfield 391, 3) := by decide +kernel
theorem dX10_grave_86 : decode cX10_grave 86 = .ok (.iload_n 3, 1) := by decide +kernel
theorem dX10_grave_87 : decode cX10_grave 87 = .ok (.invokestatic 394, 3) := by decide +kernel
theorem dX10_grave_90 : decode cX10_grave 90 = .ok (.invokestatic 247, 3) := by decide +kernel
theorem dX10_grave_93 : decode cX10_grave 93 = .ok (.istore 4, 2) := by decide +kernel
theorem dX10_grave_95 : decode cX10_grave 95 = .ok (.aload_n 0, 1) := by decide +kernel
theorem dX10_grave_96 : decode cX10_grave 96 = .ok (.getfield 19, 3) := by decide +kernel
theorem dX10_grave_99 : decode cX10_grave 99 = .ok (.aload_n 0, 1) := by decide +kernel
theorem dX10_grave_100 : decode cX10_grave 100 = .ok (.getfield 80, 3) := by decide +kernel
theorem dX10_grave_103 : decode cX10_grave 103 = .ok (.getfield 391, 3) := by decide +kernel
theorem dX10_grave_106 : decode cX10_grave 106 = .ok (.iload 4, 2) := by decide +kernel
theorem dX10_grave_108 : decode cX10_grave 108 = .ok (.idiv, 1) := by decide +kernel
theorem dX10_grave_109 : decode cX10_grave 109 = .ok (.iload_n 3, 1) := by decide +kernel
theorem dX10_grave_110 : decode cX10_grave 110 = .ok (.iload 4, 2) := by decide +kernel
theorem dX10_grave_112 : decode cX10_grave 112 = .ok (.idiv, 1) := by decide +kernel
theorem dX10_grave_113 : decode cX10_grave 113 = .ok (.invokevirtual 204, 3) := by decide +kernel
theorem dX10_grave_116 : decode cX10_grave 116 = .ok (.iconst 0, 1) := by decide +kernel
theorem dX10_grave_117 : decode cX10_grave 117 = .ok (.ireturn, 1) := by decide +kernel
theorem dX10_cake_0 : decode cX10_cake 0 = .ok (.iload_n 1, 1) := by decide +kernel
theorem dX10_cake_1 : decode cX10_cake 1 = .ok (.iconst 1, 1) := by decide +kernel
theorem dX10_cake_2 : decode cX10_cake 2 = .ok (.iconst 3, 1) := by decide +kernel
theorem dX10_cake_3 : decode cX10_cake 3 = .ok (.invokestatic 158, 3) := by decide +kernel
theorem dX10_cake_6 : decode cX10_cake 6 = .ok (.ifCond .eq 13, 3) := by decide +kernel
theorem dX10_cake_9 : decode cX10_cake 9 = .ok (.iload_n 2, 1) := by decide +kernel
theorem dX10_cake_10 : decode cX10_cake 10 = .ok (.iconst 1, 1) := by decide +kernel
theorem dX10_cake_11 : decode cX10_cake 11 = .ok (.bipush 7, 2) := by decide +kernel
theorem dX10_cake_13 : decode cX10_cake 13 = .ok (.invokestatic 158, 3) := by decide +kernel
theorem dX10_cake_16 : decode cX10_cake 16 = .ok (.ifCond .ne 5, 3) := by decide +kernel
theorem dX10_cake_19 : decode cX10_cake 19 = .ok (.iconst (-1), 1) := by decide +kernel
theorem dX10_cake_20 : decode cX10_cake 20 = .ok (.ireturn, 1) := by decide +kernel
theorem dX10_cake_21 : decode cX10_cake 21 = .ok (.aload_n 0, 1) := by decide +kernel
theorem dX10_cake_22 : decode cX10_cake 22 = .ok (.getfield 87, 3) := by decide +kernel
theorem dX10_cake_25 : decode cX10_cake 25 = .ok (.iload_n 1, 1) := by decide +kernel
theorem dX10_cake_26 : decode cX10_cake 26 = .ok (.iload_n 2, 1) := by decide +kernel
theorem dX10_cake_27 : decode cX10_cake 27 = .ok (.invokevirtual 397, 3) := by decide +kernel
theorem dX10_cake_30 : decode cX10_cake 30 = .ok (.ireturn, 1) := by decide +kernel
theorem dX10_rests_0 : decode cX10_rests 0 = .ok (.iload_n 1, 1) := by decide +kernel
theorem dX10_rests_1 : decode cX10_rests 1 = .ok (.iconst 0, 1) := by decide +kernel
theorem dX10_rests_2 : decode cX10_rests 2 = .ok (.bipush 18, 2) := by decide +kernel
theorem dX10_rests_4 : decode cX10_rests 4 = .ok (.invokestatic 158, 3) := by decide +kernel
theorem dX10_rests_7 : decode cX10_rests 7 = .ok (.ifCond .ne 5, 3) := by decide +kernel
theorem dX10_rests_10 : decode cX10_rests 10 = .ok (.iconst (-1), 1) := by decide +kernel
theorem dX10_rests_11 : decode cX10_rests 11 = .ok (.ireturn, 1) := by decide +kernel
theorem dX10_rests_12 : decode cX10_rests 12 = .ok (.aload_n 0, 1) := by decide +kernel
theorem dX10_rests_13 : decode cX10_rests 13 = .ok (.getfield 19, 3) := by decide +kernel
theorem dX10_rests_16 : decode cX10_rests 16 = .ok (.invokevirtual 297, 3) := by decide +kernel
theorem dX10_rests_19 : decode cX10_rests 19 = .ok (.iconst 0, 1) := by decide +kernel
theorem dX10_rests_20 : decode cX10_rests 20 = .ok (.istore_n 2, 1) := by decide +kernel
theorem dX10_rests_21 : decode cX10_rests 21 = .ok (.iconst 0, 1) := by decide +kernel
theorem dX10_rests_22 : decode cX10_rests 22 = .ok (.istore_n 3, 1) := by decide +kernel
theorem dX10_rests_23 : decode cX10_rests 23 = .ok (.iload_n 3, 1) := by decide +kernel
theorem dX10_rests_24 : decode cX10_rests 24 = .ok (.bipush 9, 2) := by decide +kernel
theorem dX10_rests_26 : decode cX10_rests 26 = .ok (.if_icmp .gt 62, 3) := by decide +kernel
theorem dX10_rests_29 : decode cX10_rests 29 = .ok (.iconst 0, 1) := by decide +kernel
theorem dX10_rests_30 : decode cX10_rests 30 = .ok (.istore 4, 2) := by decide +kernel
theorem dX10_rests_32 : decode cX10_rests 32 = .ok (.iload 4, 2) := by decide +kernel
theorem dX10_rests_34 : decode cX10_rests 34 = .ok (.bipush 9, 2) := by decide +kernel
theorem dX10_rests_36 : decode cX10_rests 36 = .ok (.if_icmp .gt 46, 3) := by decide +kernel
theorem dX10_rests_39 : decode cX10_rests 39 = .ok (.iload_n 3, 1) := by decide +kernel
theorem dX10_rests_40 : decode cX10_rests 40 = .ok (.iload 4, 2) := by decide +kernel
theorem dX10_rests_42 : decode cX10_rests 42 = .ok (.iload_n 1, 1) := by decide +kernel
theorem dX10_rests_43 : decode cX10_rests 43 = .ok (.invokestatic 400, 3) := by decide +kernel
theorem dX10_rests_46 : decode cX10_rests 46 = .ok (.ifCond .eq 30, 3) := by decide +kernel
theorem dX10_rests_49 : decode cX10_rests 49 = .ok (.iload 4, 2) := by decide +kernel
theorem dX10_rests_51 : decode cX10_rests 51 = .ok (.iload_n 3, 1) := by decide +kernel
theorem dX10_rests_52 : decode cX10_rests 52 = .ok (.iload_n 1, 1) := by decide +kernel
theorem dX10_rests_53 : decode cX10_rests 53 = .ok (.invokestatic 400, 3) := by decide +kernel
theorem dX10_rests_56 : decode cX10_rests 56 = .ok (.ifCond .eq 20, 3) := by decide +kernel
theorem dX10_rests_59 : decode cX10_rests 59 = .ok (.iload_n 2, 1) := by decide +kernel
theorem dX10_rests_60 : decode cX10_rests 60 = .ok (.ifCond .ne 13, 3) := by decide +kernel
theorem dX10_rests_63 : decode cX10_rests 63 = .ok (.aload_n 0, 1) := by decide +kernel
theorem dX10_rests_64 : decode cX10_rests 64 = .ok (.getfield 19, 3) := by decide +kernel
theorem dX10_rests_67 : decode cX10_rests 67 = .ok (.iload_n 3, 1) := by decide +kernel
theorem dX10_rests_68 : decode cX10_rests 68 = .ok (.iload 4, 2) := by decide +kernel
theorem dX10_rests_70 : decode cX10_rests 70 = .ok (.invokevirtual 204, 3) := by decide +kernel
theorem dX10_rests_73 : decode cX10_rests 73 = .ok (.iinc 2 1, 3) := by decide +kernel
theorem dX10_rests_76 : decode cX10_rests 76 = .ok (.iinc 4 1, 3) := by decide +kernel
theorem dX10_rests_79 : decode cX10_rests 79 = .ok (.goto (-47), 3) := by decide +kernel
theorem dX10_rests_82 : decode cX10_rests 82 = .ok (.iinc 3 1, 3) := by decide +kernel
theorem dX10_rests_85 : decode cX10_rests 85 = .ok (.goto (-62), 3) := by decide +kernel
theorem dX10_rests_88 : decode cX10_rests 88 = .ok (.iload_n 2, 1) := by decide +kernel
theorem dX10_rests_89 : decode cX10_rests 89 = .ok (.ireturn, 1) := by decide +kernel
theorem dX10_law_0 : decode cX10_law 0 = .ok (.aload_n 0, 1) := by decide +kernel
theorem dX10_law_1 : decode cX10_law 1 = .ok (.getfield 26, 3) := by decide +kernel
theorem dX10_law_4 : decode cX10_law 4 = .ok (.getfield 143, 3) := by decide +kernel
theorem dX10_law_7 : decode cX10_law 7 = .ok (.aload_n 0, 1) := by decide +kernel
theorem dX10_law_8 : decode cX10_law 8 = .ok (.getfield 10, 3) := by decide +kernel
theorem dX10_law_11 : decode cX10_law 11 = .ok (.invokevirtual 147, 3) := by decide +kernel
theorem dX10_law_14 : decode cX10_law 14 = .ok (.istore_n 1, 1) := by decide +kernel
theorem dX10_law_15 : decode cX10_law 15 = .ok (.aload_n 0, 1) := by decide +kernel
theorem dX10_law_16 : decode cX10_law 16 = .ok (.getfield 10, 3) := by decide +kernel
theorem dX10_law_19 : decode cX10_law 19 = .ok (.invokevirtual 123, 3) := by decide +kernel
theorem dX10_law_22 : decode cX10_law 22 = .ok (.iload_n 1, 1) := by decide +kernel
theorem dX10_law_23 : decode cX10_law 23 = .ok (.iconst (-1), 1) := by decide +kernel
theorem dX10_law_24 : decode cX10_law 24 = .ok (.if_icmp .eq 9, 3) := by decide +kernel
theorem dX10_law_27 : decode cX10_law 27 = .ok (.ldc_w 403, 3) := by decide +kernel
theorem dX10_law_30 : decode cX10_law 30 = .ok (.iload_n 1, 1) := by decide +kernel
theorem dX10_law_31 : decode cX10_law 31 = .ok (.isub, 1) := by decide +kernel
theorem dX10_law_32 : decode cX10_law 32 = .ok (.ireturn, 1) := by decide +kernel
theorem dX10_law_33 : decode cX10_law 33 = .ok (.aload_n 0, 1) := by decide +kernel
theorem dX10_law_34 : decode cX10_law 34 = .ok (.invokevirtual 282, 3) := by decide +kernel
theorem dX10_law_37 : decode cX10_law 37 = .ok (.aload_n 0, 1) := by decide +kernel
theorem dX10_law_38 : decode cX10_law 38 = .ok (.getfield 26, 3) := by decide +kernel
theorem dX10_law_41 : decode cX10_law 41 = .ok (.aload_n 0, 1) := by decide +kernel
theorem dX10_law_42 : decode cX10_law 42 = .ok (.getfield 37, 3) := by decide +kernel
theorem dX10_law_45 : decode cX10_law 45 = .ok (.bipush 20, 2) := by decide +kernel
theorem dX10_law_47 : decode cX10_law 47 = .ok (.invokevirtual 195, 3) := by decide +kernel
theorem dX10_law_50 : decode cX10_law 50 = .ok (.pop, 1) := by decide +kernel
theorem dX10_law_51 : decode cX10_law 51 = .ok (.aload_n 0, 1) := by decide +kernel
theorem dX10_law_52 : decode cX10_law 52 = .ok (.getfield 37, 3) := by decide +kernel
theorem dX10_law_55 : decode cX10_law 55 = .ok (.getfield 201, 3) := by decide +kernel
theorem dX10_law_58 : decode cX10_law 58 = .ok (.aload_n 0, 1) := by decide +kernel
theorem dX10_law_59 : decode cX10_law 59 = .ok (.getfield 33, 3) := by decide +kernel
theorem dX10_law_62 : decode cX10_law 62 = .ok (.getfield 201, 3) := by decide +kernel
theorem dX10_law_65 : decode cX10_law 65 = .ok (.isub, 1) := by decide +kernel
theorem dX10_law_66 : decode cX10_law 66 = .ok (.istore_n 2, 1) := by decide +kernel
theorem dX10_law_67 : decode cX10_law 67 = .ok (.aload_n 0, 1) := by decide +kernel
theorem dX10_law_68 : decode cX10_law 68 = .ok (.getfield 37, 3) := by decide +kernel
theorem dX10_law_71 : decode cX10_law 71 = .ok (.getfield 208, 3) := by decide +kernel
theorem dX10_law_74 : decode cX10_law 74 = .ok (.istore_n 3, 1) := by decide +kernel
theorem dX10_law_75 : decode cX10_law 75 = .ok (.aload_n 0, 1) := by decide +kernel
theorem dX10_law_76 : decode cX10_law 76 = .ok (.getfield 26, 3) := by decide +kernel
theorem dX10_law_79 : decode cX10_law 79 = .ok (.invokevirtual 152, 3) := by decide +kernel
theorem dX10_law_82 : decode cX10_law 82 = .ok (.aload_n 0, 1) := by decide +kernel
theorem dX10_law_83 : decode cX10_law 83 = .ok (.invokevirtual 282, 3) := by decide +kernel
theorem dX10_law_86 : decode cX10_law 86 = .ok (.aload_n 0, 1) := by decide +kernel
theorem dX10_law_87 : decode cX10_law 87 = .ok (.getfield 26, 3) := by decide +kernel
theorem dX10_law_90 : decode cX10_law 90 = .ok (.aload_n 0, 1) := by decide +kernel
theorem dX10_law_91 : decode cX10_law 91 = .ok (.getfield 37, 3) := by decide +kernel
theorem dX10_law_94 : decode cX10_law 94 = .ok (.bipush 20, 2) := by decide +kernel
theorem dX10_law_96 : decode cX10_law 96 = .ok (.invokevirtual 195, 3) := by decide +kernel
theorem dX10_law_99 : decode cX10_law 99 = .ok (.pop, 1) := by decide +kernel
theorem dX10_law_100 : decode cX10_law 100 = .ok (.aload_n 0, 1) := by decide +kernel
theorem dX10_law_101 : decode cX10_law 101 = .ok (.getfield 26, 3) := by decide +kernel
theorem dX10_law_104 : decode cX10_law 104 = .ok (.invokevirtual 152, 3) := by decide +kernel
theorem dX10_law_107 : decode cX10_law 107 = .ok (.aload_n 0, 1) := by decide +kernel
theorem dX10_law_108 : decode cX10_law 108 = .ok (.getfield 37, 3) := by decide +kernel
theorem dX10_law_111 : decode cX10_law 111 = .ok (.getfield 201, 3) := by decide +kernel
theorem dX10_law_114 : decode cX10_law 114 = .ok (.aload_n 0, 1) := by decide +kernel
theorem dX10_law_115 : decode cX10_law 115 = .ok (.getfield 33, 3) := by decide +kernel
theorem dX10_law_118 : decode cX10_law 118 = .ok (.getfield 201, 3) := by decide +kernel
theorem dX10_law_121 : decode cX10_law 121 = .ok (.isub, 1) := by decide +kernel
theorem dX10_law_122 : decode cX10_law 122 = .ok (.istore 4, 2) := by decide +kernel
theorem dX10_law_124 : decode cX10_law 124 = .ok (.aload_n 0, 1) := by decide +kernel
theorem dX10_law_125 : decode cX10_law 125 = .ok (.getfield 19, 3) := by decide +kernel
theorem dX10_law_128 : decode cX10_law 128 = .ok (.iload 4, 2) := by decide +kernel
theorem dX10_law_130 : decode cX10_law 130 = .ok (.iload_n 2, 1) := by decide +kernel
theorem dX10_law_131 : decode cX10_law 131 = .ok (.bipush 100, 2) := by decide +kernel
theorem dX10_law_133 : decode cX10_law 133 = .ok (.aload_n 0, 1) := by decide +kernel
theorem dX10_law_134 : decode cX10_law 134 = .ok (.getfield 37, 3) := by decide +kernel
theorem dX10_law_137 : decode cX10_law 137 = .ok (.getfield 208, 3) := by decide +kernel
theorem dX10_law_140 : decode cX10_law 140 = .ok (.iadd, 1) := by decide +kernel
theorem dX10_law_141 : decode cX10_law 141 = .ok (.bipush 100, 2) := by decide +kernel
theorem dX10_law_143 : decode cX10_law 143 = .ok (.iload_n 3, 1) := by decide +kernel
theorem dX10_law_144 : decode cX10_law 144 = .ok (.iadd, 1) := by decide +kernel
theorem dX10_law_145 : decode cX10_law 145 = .ok (.invokevirtual 404, 3) := by decide +kernel
theorem dX10_law_148 : decode cX10_law 148 = .ok (.iload 4, 2) := by decide +kernel
theorem dX10_law_150 : decode cX10_law 150 = .ok (.iload_n 2, 1) := by decide +kernel
theorem dX10_law_151 : decode cX10_law 151 = .ok (.isub, 1) := by decide +kernel
theorem dX10_law_152 : decode cX10_law 152 = .ok (.ireturn, 1) := by decide +kernel
theorem dX10_years_0 : decode cX10_years 0 = .ok (.iload_n 2, 1) := by decide +kernel
theorem dX10_years_1 : decode cX10_years 1 = .ok (.iconst 1, 1) := by decide +kernel
theorem dX10_years_2 : decode cX10_years 2 = .ok (.bipush 60, 2) := by decide +kernel
theorem dX10_years_4 : decode cX10_years 4 = .ok (.invokestatic 158, 3) := by decide +kernel
theorem dX10_years_7 : decode cX10_years 7 = .ok (.ifCond .ne 5, 3) := by decide +kernel
theorem dX10_years_10 : decode cX10_years 10 = .ok (.iconst (-1), 1) := by decide +kernel
theorem dX10_years_11 : decode cX10_years 11 = .ok (.ireturn, 1) := by decide +kernel
theorem dX10_years_12 : decode cX10_years 12 = .ok (.aload_n 0, 1) := by decide +kernel
theorem dX10_years_13 : decode cX10_years 13 = .ok (.invokevirtual 282, 3) := by decide +kernel
theorem dX10_years_16 : decode cX10_years 16 = .ok (.aload_n 0, 1) := by decide +kernel
theorem dX10_years_17 : decode cX10_years 17 = .ok (.getfield 73, 3) := by decide +kernel
theorem dX10_years_20 : decode cX10_years 20 = .ok (.iload_n 1, 1) := by decide +kernel
theorem dX10_years_21 : decode cX10_years 21 = .ok (.invokevirtual 406, 3) := by decide +kernel
theorem dX10_years_24 : decode cX10_years 24 = .ok (.iconst 0, 1) := by decide +kernel
theorem dX10_years_25 : decode cX10_years 25 = .ok (.istore_n 3, 1) := by decide +kernel
theorem dX10_years_26 : decode cX10_years 26 = .ok (.iconst 0, 1) := by decide +kernel
theorem dX10_years_27 : decode cX10_years 27 = .ok (.istore 4, 2) := by decide +kernel
theorem dX10_years_29 : decode cX10_years 29 = .ok (.iload 4, 2) := by decide +kernel
theorem dX10_years_31 : decode cX10_years 31 = .ok (.iload_n 2, 1) := by decide +kernel
theorem dX10_years_32 : decode cX10_years 32 = .ok (.if_icmp .ge 16, 3) := by decide +kernel
theorem dX10_years_35 : decode cX10_years 35 = .ok (.iload_n 3, 1) := by decide +kernel
theorem dX10_years_36 : decode cX10_years 36 = .ok (.aload_n 0, 1) := by decide +kernel
theorem dX10_years_37 : decode cX10_years 37 = .ok (.invokevirtual 407, 3) := by decide +kernel
theorem dX10_years_40 : decode cX10_years 40 = .ok (.iadd, 1) := by decide +kernel
theorem dX10_years_41 : decode cX10_years 41 = .ok (.istore_n 3, 1) := by decide +kernel
theorem dX10_years_42 : decode cX10_years 42 = .ok (.iinc 4 1, 3) := by decide +kernel
theorem dX10_years_45 : decode cX10_years 45 = .ok (.goto (-16), 3) := by decide +kernel
theorem dX10_years_48 : decode cX10_years 48 = .ok (.aload_n 0, 1) := by decide +kernel
theorem dX10_years_49 : decode cX10_years 49 = .ok (.getfield 19, 3) := by decide +kernel
theorem dX10_years_52 : decode cX10_years 52 = .ok (.aload_n 0, 1) := by decide +kernel
theorem dX10_years_53 : decode cX10_years 53 = .ok (.getfield 37, 3) := by decide +kernel
theorem dX10_years_56 : decode cX10_years 56 = .ok (.getfield 201, 3) := by decide +kernel
theorem dX10_years_59 : decode cX10_years 59 = .ok (.aload_n 0, 1) := by decide +kernel
theorem dX10_years_60 : decode cX10_years 60 = .ok (.getfield 33, 3) := by decide +kernel
theorem dX10_years_63 : decode cX10_years 63 = .ok (.getfield 201, 3) := by decide +kernel
theorem dX10_years_66 : decode cX10_years 66 = .ok (.isub, 1) := by decide +kernel
theorem dX10_years_67 : decode cX10_years 67 = .ok (.iload_n 3, 1) := by decide +kernel
theorem dX10_years_68 : decode cX10_years 68 = .ok (.invokevirtual 204, 3) := by decide +kernel
theorem dX10_years_71 : decode cX10_years 71 = .ok (.bipush 100, 2) := by decide +kernel
theorem dX10_years_73 : decode cX10_years 73 = .ok (.aload_n 0, 1) := by decide +kernel
theorem dX10_years_74 : decode cX10_years 74 = .ok (.getfield 37, 3) := by decide +kernel
theorem dX10_years_77 : decode cX10_years 77 = .ok (.getfield 208, 3) := by decide +kernel
theorem dX10_years_80 : decode cX10_years 80 = .ok (.iadd, 1) := by decide +kernel
theorem dX10_years_81 : decode cX10_years 81 = .ok (.ireturn, 1) := by decide +kernel
theorem dX10_isContent_0 : decode cX10_isContent 0 = .ok (.iload_n 0, 1) := by decide +kernel
theorem dX10_isContent_1 : decode cX10_isContent 1 = .ok (.iload_n 1, 1) := by decide +kernel
theorem dX10_isContent_2 : decode cX10_isContent 2 = .ok (.iload_n 2, 1) := by decide +kernel
theorem dX10_isContent_3 : decode cX10_isContent 3 = .ok (.invokestatic 410, 3) := by decide +kernel
theorem dX10_isContent_6 : decode cX10_isContent 6 = .ok (.istore_n 3, 1) := by decide +kernel
theorem dX10_isContent_7 : decode cX10_isContent 7 = .ok (.iconst 0, 1) := by decide +kernel
theorem dX10_isContent_8 : decode cX10_isContent 8 = .ok (.istore 4, 2) := by decide +kernel
theorem dX10_isContent_10 : decode cX10_isContent 10 = .ok (.iload 4, 2) := by decide +kernel
theorem dX10_isContent_12 : decode cX10_isContent 12 = .ok (.bipush 9, 2) := by decide +kernel
theorem dX10_isContent_14 : decode cX10_isContent 14 = .ok (.if_icmp .gt 22, 3) := by decide +kernel
theorem dX10_isContent_17 : decode cX10_isContent 17 = .ok (.iload 4, 2) := by decide +kernel
theorem dX10_isContent_19 : decode cX10_isContent 19 = .ok (.iload_n 1, 1) := by decide +kernel
theorem dX10_isContent_20 : decode cX10_isContent 20 = .ok (.iload_n 2, 1) := by decide +kernel
theorem dX10_isContent_21 : decode cX10_isContent 21 = .ok (.invokestatic 410, 3) := by decide +kernel
theorem dX10_isContent_24 : decode cX10_isContent 24 = .ok (.iload_n 3, 1) := by decide +kernel
theorem dX10_isContent_25 : decode cX10_isContent 25 = .ok (.if_icmp .le 5, 3) := by decide +kernel
theorem dX10_isContent_28 : decode cX10_isContent 28 = .ok (.iconst 0, 1) := by decide +kernel
theorem dX10_isContent_29 : decode cX10_isContent 29 = .ok (.ireturn, 1) := by decide +kernel
theorem dX10_isContent_30 : decode cX10_isContent 30 = .ok (.iinc 4 1, 3) := by decide +kernel
theorem dX10_isContent_33 : decode cX10_isContent 33 = .ok (.goto (-23), 3) := by decide +kernel
theorem dX10_isContent_36 : decode cX10_isContent 36 = .ok (.iconst 1, 1) := by decide +kernel
theorem dX10_isContent_37 : decode cX10_isContent 37 = .ok (.ireturn, 1) := by decide +kernel
theorem dX10_gainOf_0 : decode cX10_gainOf 0 = .ok (.iload_n 0, 1) := by decide +kernel
theorem dX10_gainOf_1 : decode cX10_gainOf 1 = .ok (.iload_n 1, 1) := by decide +kernel
theorem dX10_gainOf_2 : decode cX10_gainOf 2 = .ok (.iadd, 1) := by decide +kernel
theorem dX10_gainOf_3 : decode cX10_gainOf 3 = .ok (.iload_n 2, 1) := by decide +kernel
theorem dX10_gainOf_4 : decode cX10_gainOf 4 = .ok (.if_icmp .lt 8, 3) := by decide +kernel
theorem dX10_gainOf_7 : decode cX10_gainOf 7 = .ok (.bipush 9, 2) := by decide +kernel
theorem dX10_gainOf_9 : decode cX10_gainOf 9 = .ok (.goto 4, 3) := by decide +kernel
theorem dX10_gainOf_12 : decode cX10_gainOf 12 = .ok (.iconst 0, 1) := by decide +kernel
theorem dX10_gainOf_13 : decode cX10_gainOf 13 = .ok (.iload_n 0, 1) := by decide +kernel
theorem dX10_gainOf_14 : decode cX10_gainOf 14 = .ok (.isub, 1) := by decide +kernel
theorem dX10_gainOf_15 : decode cX10_gainOf 15 = .ok (.iload_n 0, 1) := by decide +kernel
theorem dX10_gainOf_16 : decode cX10_gainOf 16 = .ok (.iload_n 1, 1) := by decide +kernel
theorem dX10_gainOf_17 : decode cX10_gainOf 17 = .ok (.if_icmp .le 7, 3) := by decide +kernel
theorem dX10_gainOf_20 : decode cX10_gainOf 20 = .ok (.iconst 2, 1) := by decide +kernel
theorem dX10_gainOf_21 : decode cX10_gainOf 21 = .ok (.goto 4, 3) := by decide +kernel
theorem dX10_gainOf_24 : decode cX10_gainOf 24 = .ok (.iconst 0, 1) := by decide +kernel
theorem dX10_gainOf_25 : decode cX10_gainOf 25 = .ok (.isub, 1) := by decide +kernel
theorem dX10_gainOf_26 : decode cX10_gainOf 26 = .ok (.ireturn, 1) := by decide +kernel
theorem dX10_drawnYear_0 : decode cX10_drawnYear 0 = .ok (.aload_n 0, 1) := by decide +kernel
theorem dX10_drawnYear_1 : decode cX10_drawnYear 1 = .ok (.getfield 73, 3) := by decide +kernel
theorem dX10_drawnYear_4 : decode cX10_drawnYear 4 = .ok (.iconst 4, 1) := by decide +kernel
theorem dX10_drawnYear_5 : decode cX10_drawnYear 5 = .ok (.invokevirtual 413, 3) := by decide +kernel
theorem dX10_drawnYear_8 : decode cX10_drawnYear 8 = .ok (.istore_n 1, 1) := by decide +kernel
theorem dX10_drawnYear_9 : decode cX10_drawnYear 9 = .ok (.iload_n 1, 1) := by decide +kernel
theorem dX10_drawnYear_10 : decode cX10_drawnYear 10 = .ok (.iconst 2, 1) := by decide +kernel
theorem dX10_drawnYear_11 : decode cX10_drawnYear 11 = .ok (.if_icmp .ge 16, 3) := by decide +kernel
theorem dX10_drawnYear_14 : decode cX10_drawnYear 14 = .ok (.aload_n 0, 1) := by decide +kernel
theorem dX10_drawnYear_15 : decode cX10_drawnYear 15 = .ok (.getfield 26, 3) := by decide +kernel
theorem dX10_drawnYear_18 : decode cX10_drawnYear 18 = .ok (.aload_n 0, 1) := by decide +kernel
theorem dX10_drawnYear_19 : decode cX10_drawnYear 19 = .ok (.getfield 37, 3) := by decide +kernel
theorem dX10_drawnYear_22 : decode cX10_drawnYear 22 = .ok (.iconst 1, 1) := by decide +kernel
theorem dX10_drawnYear_23 : decode cX10_drawnYear 23 = .ok (.invokevirtual 195, 3) := by decide +kernel
theorem dX10_drawnYear_26 : decode cX10_drawnYear 26 = .ok (.ireturn, 1) := by decide +kernel
theorem dX10_drawnYear_27 : decode cX10_drawnYear 27 = .ok (.iload_n 1, 1) := by decide +kernel
theorem dX10_drawnYear_28 : decode cX10_drawnYear 28 = .ok (.iconst 2, 1) := by decide +kernel
theorem dX10_drawnYear_29 : decode cX10_drawnYear 29 = .ok (.if_icmp .ne 22, 3) := by decide +kernel
theorem dX10_drawnYear_32 : decode cX10_drawnYear 32 = .ok (.aload_n 0, 1) := by decide +kernel
theorem dX10_drawnYear_33 : decode cX10_drawnYear 33 = .ok (.getfield 37, 3) := by decide +kernel
theorem dX10_drawnYear_36 : decode cX10_drawnYear 36 = .ok (.aload_n 0, 1) := by decide +kernel
theorem dX10_drawnYear_37 : decode cX10_drawnYear 37 = .ok (.getfield 73, 3) := by decide +kernel
theorem dX10_drawnYear_40 : decode cX10_drawnYear 40 = .ok (.bipush 10, 2) := by decide +kernel
theorem dX10_drawnYear_42 : decode cX10_drawnYear 42 = .ok (.invokevirtual 413, 3) := by decide +kernel
theorem dX10_drawnYear_45 : decode cX10_drawnYear 45 = .ok (.putfield 272, 3) := by decide +kernel
theorem dX10_drawnYear_48 : decode cX10_drawnYear 48 = .ok (.goto 53, 3) := by decide +kernel
theorem dX10_drawnYear_51 : decode cX10_drawnYear 51 = .ok (.aload_n 0, 1) := by decide +kernel
theorem dX10_drawnYear_52 : decode cX10_drawnYear 52 = .ok (.getfield 37, 3) := by decide +kernel
theorem dX10_drawnYear_55 : decode cX10_drawnYear 55 = .ok (.getfield 126, 3) := by decide +kernel
theorem dX10_drawnYear_58 : decode cX10_drawnYear 58 = .ok (.ifCond .le 43, 3) := by decide +kernel
theorem dX10_drawnYear_61 : decode cX10_drawnYear 61 = .ok (.aload_n 0, 1) := by decide +kernel
theorem dX10_drawnYear_62 : decode cX10_drawnYear 62 = .ok (.getfield 73, 3) := by decide +kernel
theorem dX10_drawnYear_65 : decode cX10_drawnYear 65 = .ok (.aload_n 0, 1) := by decide +kernel
theorem dX10_drawnYear_66 : decode cX10_drawnYear 66 = .ok (.getfield 37, 3) := by decide +kernel
theorem dX10_drawnYear_69 : decode cX10_drawnYear 69 = .ok (.getfield 126, 3) := by decide +kernel
theorem dX10_drawnYear_72 : decode cX10_drawnYear 72 = .ok (.invokevirtual 413, 3) := by decide +kernel
theorem dX10_drawnYear_75 : decode cX10_drawnYear 75 = .ok (.istore_n 2, 1) := by decide +kernel
theorem dX10_drawnYear_76 : decode cX10_drawnYear 76 = .ok (.aload_n 0, 1) := by decide +kernel
theorem dX10_drawnYear_77 : decode cX10_drawnYear 77 = .ok (.getfield 37, 3) := by decide +kernel
theorem dX10_drawnYear_80 : decode cX10_drawnYear 80 = .ok (.getfield 168, 3) := by decide +kernel
theorem dX10_drawnYear_83 : decode cX10_drawnYear 83 = .ok (.iload_n 2, 1) := by decide +kernel
theorem dX10_drawnYear_84 : decode cX10_drawnYear 84 = .ok (.aload_n 0, 1) := by decide +kernel
theorem dX10_drawnYear_85 : decode cX10_drawnYear 85 = .ok (.getfield 73, 3) := by decide +kernel
theorem dX10_drawnYear_88 : decode cX10_drawnYear 88 = .ok (.bipush 6, 2) := by decide +kernel
theorem dX10_drawnYear_90 : decode cX10_drawnYear 90 = .ok (.invokevirtual 413, 3) := by decide +kernel
theorem dX10_drawnYear_93 : decode cX10_drawnYear 93 = .ok (.iastore, 1) := by decide +kernel
theorem dX10_drawnYear_94 : decode cX10_drawnYear 94 = .ok (.aload_n 0, 1) := by decide +kernel
theorem dX10_drawnYear_95 : decode cX10_drawnYear 95 = .ok (.getfield 26, 3) := by decide +kernel
theorem dX10_drawnYear_98 : decode cX10_drawnYear 98 = .ok (.invokevirtual 192, 3) := by decide +kernel
theorem dX10_drawnYear_101 : decode cX10_drawnYear 101 = .ok (.iconst 0, 1) := by decide +kernel
theorem dX10_drawnYear_102 : decode cX10_drawnYear 102 = .ok (.ireturn, 1) := by decide +kernel
theorem dX10_keep_0 : decode cX10_keep 0 = .ok (.iload_n 1, 1) := by decide +kernel
theorem dX10_keep_1 : decode cX10_keep 1 = .ok (.iconst 0, 1) := by decide +kernel
theorem dX10_keep_2 : decode cX10_keep 2 = .ok (.aload_n 0, 1) := by decide +kernel
theorem dX10_keep_3 : decode cX10_keep 3 = .ok (.getfield 50, 3) := by decide +kernel
theorem dX10_keep_6 : decode cX10_keep 6 = .ok (.arraylength, 1) := by decide +kernel
theorem dX10_keep_7 : decode cX10_keep 7 = .ok (.iconst 1, 1) := by decide +kernel
theorem dX10_keep_8 : decode cX10_keep 8 = .ok (.isub, 1) := by decide +kernel
theorem dX10_keep_9 : decode cX10_keep 9 = .ok (.invokestatic 158, 3) := by decide +kernel
theorem dX10_keep_12 : decode cX10_keep 12 = .ok (.ifCond .ne 5, 3) := by decide +kernel
theorem dX10_keep_15 : decode cX10_keep 15 = .ok (.iconst 0, 1) := by decide +kernel
theorem dX10_keep_16 : decode cX10_keep 16 = .ok (.ireturn, 1) := by decide +kernel
theorem dX10_keep_17 : decode cX10_keep 17 = .ok (.aload_n 0, 1) := by decide +kernel
theorem dX10_keep_18 : decode cX10_keep 18 = .ok (.getfield 50, 3) := by decide +kernel
theorem dX10_keep_21 : decode cX10_keep 21 = .ok (.iload_n 1, 1) := by decide +kernel
theorem dX10_keep_22 : decode cX10_keep 22 = .ok (.aaload, 1) := by decide +kernel
theorem dX10_keep_23 : decode cX10_keep 23 = .ok (.aload_n 0, 1) := by decide +kernel
theorem dX10_keep_24 : decode cX10_keep 24 = .ok (.getfield 33, 3) := by decide +kernel
theorem dX10_keep_27 : decode cX10_keep 27 = .ok (.invokevirtual 188, 3) := by decide +kernel
theorem dX10_keep_30 : decode cX10_keep 30 = .ok (.aload_n 0, 1) := by decide +kernel
theorem dX10_keep_31 : decode cX10_keep 31 = .ok (.getfield 54, 3) := by decide +kernel
theorem dX10_keep_34 : decode cX10_keep 34 = .ok (.iload_n 1, 1) := by decide +kernel
theorem dX10_keep_35 : decode cX10_keep 35 = .ok (.iconst 1, 1) := by decide +kernel
theorem dX10_keep_36 : decode cX10_keep 36 = .ok (.bastore, 1) := by decide +kernel
theorem dX10_keep_37 : decode cX10_keep 37 = .ok (.iconst 1, 1) := by decide +kernel
theorem dX10_keep_38 : decode cX10_keep 38 = .ok (.ireturn, 1) := by decide +kernel
theorem dX10_again_0 : decode cX10_again 0 = .ok (.iload_n 1, 1) := by decide +kernel
theorem dX10_again_1 : decode cX10_again 1 = .ok (.iconst 0, 1) := by decide +kernel
theorem dX10_again_2 : decode cX10_again 2 = .ok (.aload_n 0, 1) := by decide +kernel
theorem dX10_again_3 : decode cX10_again 3 = .ok (.getfield 50, 3) := by decide +kernel
theorem dX10_again_6 : decode cX10_again 6 = .ok (.arraylength, 1) := by decide +kernel
theorem dX10_again_7 : decode cX10_again 7 = .ok (.iconst 1, 1) := by decide +kernel
theorem dX10_again_8 : decode cX10_again 8 = .ok (.isub, 1) := by decide +kernel
theorem dX10_again_9 : decode cX10_again 9 = .ok (.invokestatic 158, 3) := by decide +kernel
theorem dX10_again_12 : decode cX10_again 12 = .ok (.ifCond .eq 31, 3) := by decide +kernel
theorem dX10_again_15 : decode cX10_again 15 = .ok (.aload_n 0, 1) := by decide +kernel
theorem dX10_again_16 : decode cX10_again 16 = .ok (.getfield 54, 3) := by decide +kernel
theorem dX10_again_19 : decode cX10_again 19 = .ok (.iload_n 1, 1) := by decide +kernel
theorem dX10_again_20 : decode cX10_again 20 = .ok (.baload, 1) := by decide +kernel
theorem dX10_again_21 : decode cX10_again 21 = .ok (.ifCond .eq 22, 3) := by decide +kernel
theorem dX10_again_24 : decode cX10_again 24 = .ok (.aload_n 0, 1) := by decide +kernel
theorem dX10_again_25 : decode cX10_again 25 = .ok (.getfield 50, 3) := by decide +kernel
theorem dX10_again_28 : decode cX10_again 28 = .ok (.iload_n 1, 1) := by decide +kernel
theorem dX10_again_29 : decode cX10_again 29 = .ok (.aaload, 1) := by decide +kernel
theorem dX10_again_30 : decode cX10_again 30 = .ok (.getfield 126, 3) := by decide +kernel
theorem dX10_again_33 : decode cX10_again 33 = .ok (.aload_n 0, 1) := by decide +kernel
theorem dX10_again_34 : decode cX10_again 34 = .ok (.getfield 33, 3) := by decide +kernel
theorem dX10_again_37 : decode cX10_again 37 = .ok (.getfield 126, 3) := by decide +kernel
theorem dX10_again_40 : decode cX10_again 40 = .ok (.if_icmp .eq 5, 3) := by decide +kernel
theorem dX10_again_43 : decode cX10_again 43 = .ok (.iconst 0, 1) := by decide +kernel
theorem dX10_again_44 : decode cX10_again 44 = .ok (.ireturn, 1) := by decide +kernel
theorem dX10_again_45 : decode cX10_again 45 = .ok (.aload_n 0, 1) := by decide +kernel
theorem dX10_again_46 : decode cX10_again 46 = .ok (.getfield 33, 3) := by decide +kernel
theorem dX10_again_49 : decode cX10_again 49 = .ok (.aload_n 0, 1) := by decide +kernel
theorem dX10_again_50 : decode cX10_again 50 = .ok (.getfield 50, 3) := by decide +kernel
theorem dX10_again_53 : decode cX10_again 53 = .ok (.iload_n 1, 1) := by decide +kernel
theorem dX10_again_54 : decode cX10_again 54 = .ok (.aaload, 1) := by decide +kernel
theorem dX10_again_55 : decode cX10_again 55 = .ok (.invokevirtual 188, 3) := by decide +kernel
theorem dX10_again_58 : decode cX10_again 58 = .ok (.aload_n 0, 1) := by decide +kernel
theorem dX10_again_59 : decode cX10_again 59 = .ok (.getfield 46, 3) := by decide +kernel
theorem dX10_again_62 : decode cX10_again 62 = .ok (.invokevirtual 136, 3) := by decide +kernel
theorem dX10_again_65 : decode cX10_again 65 = .ok (.iconst 1, 1) := by decide +kernel
theorem dX10_again_66 : decode cX10_again 66 = .ok (.ireturn, 1) := by decide +kernel
theorem dX10_count_0 : decode cX10_count 0 = .ok (.iload_n 1, 1) := by decide +kernel
theorem dX10_count_1 : decode cX10_count 1 = .ok (.tableswitch 208 0 13 #[71, 79, 87, 95, 106, 114, 122, 140, 148, 168, 176, 184, 192, 200], 71) := by decide +kernel
theorem dX10_count_72 : decode cX10_count 72 = .ok (.aload_n 0, 1) := by decide +kernel
theorem dX10_count_73 : decode cX10_count 73 = .ok (.getfield 33, 3) := by decide +kernel
theorem dX10_count_76 : decode cX10_count 76 = .ok (.getfield 126, 3) := by decide +kernel
theorem dX10_count_79 : decode cX10_count 79 = .ok (.ireturn, 1) := by decide +kernel
theorem dX10_count_80 : decode cX10_count 80 = .ok (.aload_n 0, 1) := by decide +kernel
theorem dX10_count_81 : decode cX10_count 81 = .ok (.getfield 33, 3) := by decide +kernel
theorem dX10_count_84 : decode cX10_count 84 = .ok (.getfield 266, 3) := by decide +kernel
theorem dX10_count_87 : decode cX10_count 87 = .ok (.ireturn, 1) := by decide +kernel
theorem dX10_count_88 : decode cX10_count 88 = .ok (.aload_n 0, 1) := by decide +kernel
theorem dX10_count_89 : decode cX10_count 89 = .ok (.getfield 33, 3) := by decide +kernel
theorem dX10_count_92 : decode cX10_count 92 = .ok (.getfield 272, 3) := by decide +kernel
theorem dX10_count_95 : decode cX10_count 95 = .ok (.ireturn, 1) := by decide +kernel
theorem dX10_count_96 : decode cX10_count 96 = .ok (.bipush 100, 2) := by decide +kernel
theorem dX10_count_98 : decode cX10_count 98 = .ok (.aload_n 0, 1) := by decide +kernel
theorem dX10_count_99 : decode cX10_count 99 = .ok (.getfield 33, 3) := by decide +kernel
theorem dX10_count_102 : decode cX10_count 102 = .ok (.getfield 208, 3) := by decide +kernel
theorem dX10_count_105 : decode cX10_count 105 = .ok (.iadd, 1) := by decide +kernel
theorem dX10_count_106 : decode cX10_count 106 = .ok (.ireturn, 1) := by decide +kernel
theorem dX10_count_107 : decode cX10_count 107 = .ok (.aload_n 0, 1) := by decide +kernel
theorem dX10_count_108 : decode cX10_count 108 = .ok (.getfield 33, 3) := by decide +kernel
theorem dX10_count_111 : decode cX10_count 111 = .ok (.getfield 201, 3) := by decide +kernel
theorem dX10_count_114 : decode cX10_count 114 = .ok (.ireturn, 1) := by decide +kernel
theorem dX10_count_115 : decode cX10_count 115 = .ok (.aload_n 0, 1) := by decide +kernel
theorem dX10_count_116 : decode cX10_count 116 = .ok (.getfield 33, 3) := by decide +kernel
theorem dX10_count_119 : decode cX10_count 119 = .ok (.getfield 416, 3) := by decide +kernel
theorem dX10_count_122 : decode cX10_count 122 = .ok (.ireturn, 1) := by decide +kernel
theorem dX10_count_123 : decode cX10_count 123 = .ok (.bipush 10, 2) := by decide +kernel
theorem dX10_count_125 : decode cX10_count 125 = .ok (.aload_n 0, 1) := by decide +kernel
theorem dX10_count_126 : decode cX10_count 126 = .ok (.getfield 26, 3) := by decide +kernel
theorem dX10_count_129 : decode cX10_count 129 = .ok (.aload_n 0, 1) := by decide +kernel
theorem dX10_count_130 : decode cX10_count 130 = .ok (.getfield 33, 3) := by decide +kernel
theorem dX10_count_133 : decode cX10_count 133 = .ok (.getfield 266, 3) := by decide +kernel
theorem dX10_count_136 : decode cX10_count 136 = .ok (.invokevirtual 269, 3) := by decide +kernel
theorem dX10_count_139 : decode cX10_count 139 = .ok (.iadd, 1) := by decide +kernel
theorem dX10_count_140 : decode cX10_count 140 = .ok (.ireturn, 1) := by decide +kernel
theorem dX10_count_141 : decode cX10_count 141 = .ok (.aload_n 0, 1) := by decide +kernel
theorem dX10_count_142 : decode cX10_count 142 = .ok (.getfield 33, 3) := by decide +kernel
theorem dX10_count_145 : decode cX10_count 145 = .ok (.invokevirtual 185, 3) := by decide +kernel
theorem dX10_count_148 : decode cX10_count 148 = .ok (.ireturn, 1) := by decide +kernel
theorem dX10_count_149 : decode cX10_count 149 = .ok (.aload_n 0, 1) := by decide +kernel
theorem dX10_count_150 : decode cX10_count 150 = .ok (.invokevirtual 263, 3) := by decide +kernel
theorem dX10_count_153 : decode cX10_count 153 = .ok (.aload_n 0, 1) := by decide +kernel
theorem dX10_count_154 : decode cX10_count 154 = .ok (.iconst 1, 1) := by decide +kernel
theorem dX10_count_155 : decode cX10_count 155 = .ok (.aload_n 0, 1) := by decide +kernel
theorem dX10_count_156 : decode cX10_count 156 = .ok (.getfield 33, 3) := by decide +kernel
theorem dX10_count_159 : decode cX10_count 159 = .ok (.getfield 126, 3) := by decide +kernel
theorem dX10_count_162 : decode cX10_count 162 = .ok (.ishl, 1) := by decide +kernel
theorem dX10_count_163 : decode cX10_count 163 = .ok (.iconst 1, 1) := by decide +kernel
theorem dX10_count_164 : decode cX10_count 164 = .ok (.isub, 1) := by decide +kernel
theorem dX10_count_165 : decode cX10_count 165 = .ok (.invokevirtual 327, 3) := by decide +kernel
theorem dX10_count_168 : decode cX10_count 168 = .ok (.ireturn, 1) := by decide +kernel
theorem dX10_count_169 : decode cX10_count 169 = .ok (.aload_n 0, 1) := by decide +kernel
theorem dX10_count_170 : decode cX10_count 170 = .ok (.getfield 63, 3) := by decide +kernel
theorem dX10_count_173 : decode cX10_count 173 = .ok (.getfield 351, 3) := by decide +kernel
theorem dX10_count_176 : decode cX10_count 176 = .ok (.ireturn, 1) := by decide +kernel
theorem dX10_count_177 : decode cX10_count 177 = .ok (.aload_n 0, 1) := by decide +kernel
theorem dX10_count_178 : decode cX10_count 178 = .ok (.getfield 67, 3) := by decide +kernel
theorem dX10_count_181 : decode cX10_count 181 = .ok (.getfield 351, 3) := by decide +kernel
theorem dX10_count_184 : decode cX10_count 184 = .ok (.ireturn, 1) := by decide +kernel
theorem dX10_count_185 : decode cX10_count 185 = .ok (.aload_n 0, 1) := by decide +kernel
theorem dX10_count_186 : decode cX10_count 186 = .ok (.getfield 46, 3) := by decide +kernel
theorem dX10_count_189 : decode cX10_count 189 = .ok (.getfield 256, 3) := by decide +kernel
theorem dX10_count_192 : decode cX10_count 192 = .ok (.ireturn, 1) := by decide +kernel
theorem dX10_count_193 : decode cX10_count 193 = .ok (.aload_n 0, 1) := by decide +kernel
theorem dX10_count_194 : decode cX10_count 194 = .ok (.getfield 19, 3) := by decide +kernel
theorem dX10_count_197 : decode cX10_count 197 = .ok (.getfield 419, 3) := by decide +kernel
theorem dX10_count_200 : decode cX10_count 200 = .ok (.ireturn, 1) := by decide +kernel
theorem dX10_count_201 : decode cX10_count 201 = .ok (.aload_n 0, 1) := by decide +kernel
theorem dX10_count_202 : decode cX10_count 202 = .ok (.getfield 10, 3) := by decide +kernel
theorem dX10_count_205 : decode cX10_count 205 = .ok (.getfield 108, 3) := by decide +kernel
theorem dX10_count_208 : decode cX10_count 208 = .ok (.ireturn, 1) := by decide +kernel
theorem dX10_count_209 : decode cX10_count 209 = .ok (.iconst (-1), 1) := by decide +kernel
theorem dX10_count_210 : decode cX10_count 210 = .ok (.ireturn, 1) := by decide +kernel
theorem dX10_row_0 : decode cX10_row 0 = .ok (.iload_n 1, 1) := by decide +kernel
theorem dX10_row_1 : decode cX10_row 1 = .ok (.iconst 0, 1) := by decide +kernel
theorem dX10_row_2 : decode cX10_row 2 = .ok (.aload_n 0, 1) := by decide +kernel
theorem dX10_row_3 : decode cX10_row 3 = .ok (.getfield 19, 3) := by decide +kernel
theorem dX10_row_6 : decode cX10_row 6 = .ok (.getfield 419, 3) := by decide +kernel
theorem dX10_row_9 : decode cX10_row 9 = .ok (.iconst 1, 1) := by decide +kernel
theorem dX10_row_10 : decode cX10_row 10 = .ok (.isub, 1) := by decide +kernel
theorem dX10_row_11 : decode cX10_row 11 = .ok (.invokestatic 158, 3) := by decide +kernel
theorem dX10_row_14 : decode cX10_row 14 = .ok (.ifCond .ne 11, 3) := by decide +kernel
theorem dX10_row_17 : decode cX10_row 17 = .ok (.new 162, 3) := by decide +kernel
theorem dX10_row_20 : decode cX10_row 20 = .ok (.dup, 1) := by decide +kernel
theorem dX10_row_21 : decode cX10_row 21 = .ok (.invokespecial 164, 3) := by decide +kernel
theorem dX10_row_24 : decode cX10_row 24 = .ok (.athrow, 1) := by decide +kernel
theorem dX10_row_25 : decode cX10_row 25 = .ok (.aload_n 0, 1) := by decide +kernel
theorem dX10_row_26 : decode cX10_row 26 = .ok (.getfield 19, 3) := by decide +kernel
theorem dX10_row_29 : decode cX10_row 29 = .ok (.getfield 420, 3) := by decide +kernel
theorem dX10_row_32 : decode cX10_row 32 = .ok (.iload_n 1, 1) := by decide +kernel
theorem dX10_row_33 : decode cX10_row 33 = .ok (.laload, 1) := by decide +kernel
theorem dX10_row_34 : decode cX10_row 34 = .ok (.lreturn, 1) := by decide +kernel
theorem dX10_within_0 : decode cX10_within 0 = .ok (.iload_n 0, 1) := by decide +kernel
theorem dX10_within_1 : decode cX10_within 1 = .ok (.iload_n 1, 1) := by decide +kernel
theorem dX10_within_2 : decode cX10_within 2 = .ok (.if_icmp .lt 12, 3) := by decide +kernel
theorem dX10_within_5 : decode cX10_within 5 = .ok (.iload_n 0, 1) := by decide +kernel
theorem dX10_within_6 : decode cX10_within 6 = .ok (.iload_n 2, 1) := by decide +kernel
theorem dX10_within_7 : decode cX10_within 7 = .ok (.if_icmp .gt 7, 3) := by decide +kernel
theorem dX10_within_10 : decode cX10_within 10 = .ok (.iconst 1, 1) := by decide +kernel
theorem dX10_within_11 : decode cX10_within 11 = .ok (.goto 4, 3) := by decide +kernel
theorem dX10_within_14 : decode cX10_within 14 = .ok (.iconst 0, 1) := by decide +kernel
theorem dX10_within_15 : decode cX10_within 15 = .ok (.ireturn, 1) := by decide +kernel
theorem dX10_putTo_0 : decode cX10_putTo 0 = .ok (.iload_n 0, 1) := by decide +kernel
theorem dX10_putTo_1 : decode cX10_putTo 1 = .ok (.iload_n 1, 1) := by decide +kernel
theorem dX10_putTo_2 : decode cX10_putTo 2 = .ok (.if_icmp .ge 7, 3) := by decide +kernel
theorem dX10_putTo_5 : decode cX10_putTo 5 = .ok (.iload_n 1, 1) := by decide +kernel
theorem dX10_putTo_6 : decode cX10_putTo 6 = .ok (.goto 13, 3) := by decide +kernel
theorem dX10_putTo_9 : decode cX10_putTo 9 = .ok (.iload_n 0, 1) := by decide +kernel
theorem dX10_putTo_10 : decode cX10_putTo 10 = .ok (.iload_n 2, 1) := by decide +kernel
theorem dX10_putTo_11 : decode cX10_putTo 11 = .ok (.if_icmp .le 7, 3) := by decide +kernel
theorem dX10_putTo_14 : decode cX10_putTo 14 = .ok (.iload_n 2, 1) := by decide +kernel
theorem dX10_putTo_15 : decode cX10_putTo 15 = .ok (.goto 4, 3) := by decide +kernel
theorem dX10_putTo_18 : decode cX10_putTo 18 = .ok (.iload_n 0, 1) := by decide +kernel
theorem dX10_putTo_19 : decode cX10_putTo 19 = .ok (.ireturn, 1) := by decide +kernel
theorem dX10_hasBit_0 : decode cX10_hasBit 0 = .ok (.iload_n 0, 1) := by decide +kernel
theorem dX10_hasBit_1 : decode cX10_hasBit 1 = .ok (.iload_n 1, 1) := by decide +kernel
theorem dX10_hasBit_2 : decode cX10_hasBit 2 = .ok (.ishr, 1) := by decide +kernel
theorem dX10_hasBit_3 : decode cX10_hasBit 3 = .ok (.iconst 1, 1) := by decide +kernel
theorem dX10_hasBit_4 : decode cX10_hasBit 4 = .ok (.iand, 1) := by decide +kernel
theorem dX10_hasBit_5 : decode cX10_hasBit 5 = .ok (.iconst 1, 1) := by decide +kernel
theorem dX10_hasBit_6 : decode cX10_hasBit 6 = .ok (.if_icmp .ne 7, 3) := by decide +kernel
theorem dX10_hasBit_9 : decode cX10_hasBit 9 = .ok (.iconst 1, 1) := by decide +kernel
theorem dX10_hasBit_10 : decode cX10_hasBit 10 = .ok (.goto 4, 3) := by decide +kernel
theorem dX10_hasBit_13 : decode cX10_hasBit 13 = .ok (.iconst 0, 1) := by decide +kernel
theorem dX10_hasBit_14 : decode cX10_hasBit 14 = .ok (.ireturn, 1) := by decide +kernel
theorem dX10_pullOf_0 : decode cX10_pullOf 0 = .ok (.iload_n 0, 1) := by decide +kernel
theorem dX10_pullOf_1 : decode cX10_pullOf 1 = .ok (.iconst 2, 1) := by decide +kernel
theorem dX10_pullOf_2 : decode cX10_pullOf 2 = .ok (.iload_n 1, 1) := by decide +kernel
theorem dX10_pullOf_3 : decode cX10_pullOf 3 = .ok (.imul, 1) := by decide +kernel
theorem dX10_pullOf_4 : decode cX10_pullOf 4 = .ok (.iload_n 2, 1) := by decide +kernel
theorem dX10_pullOf_5 : decode cX10_pullOf 5 = .ok (.imul, 1) := by decide +kernel
theorem dX10_pullOf_6 : decode cX10_pullOf 6 = .ok (.iadd, 1) := by decide +kernel
theorem dX10_pullOf_7 : decode cX10_pullOf 7 = .ok (.bipush 8, 2) := by decide +kernel
theorem dX10_pullOf_9 : decode cX10_pullOf 9 = .ok (.idiv, 1) := by decide +kernel
theorem dX10_pullOf_10 : decode cX10_pullOf 10 = .ok (.bipush (-20), 2) := by decide +kernel
theorem dX10_pullOf_12 : decode cX10_pullOf 12 = .ok (.bipush 20, 2) := by decide +kernel
theorem dX10_pullOf_14 : decode cX10_pullOf 14 = .ok (.invokestatic 424, 3) := by decide +kernel
theorem dX10_pullOf_17 : decode cX10_pullOf 17 = .ok (.ireturn, 1) := by decide +kernel
theorem dX10_leanBy_0 : decode cX10_leanBy 0 = .ok (.iload_n 1, 1) := by decide +kernel
theorem dX10_leanBy_1 : decode cX10_leanBy 1 = .ok (.iload_n 0, 1) := by decide +kernel
theorem dX10_leanBy_2 : decode cX10_leanBy 2 = .ok (.isub, 1) := by decide +kernel
theorem dX10_leanBy_3 : decode cX10_leanBy 3 = .ok (.invokestatic 287, 3) := by decide +kernel
theorem dX10_leanBy_6 : decode cX10_leanBy 6 = .ok (.istore_n 2, 1) := by decide +kernel
theorem dX10_leanBy_7 : decode cX10_leanBy 7 = .ok (.iload_n 2, 1) := by decide +kernel
theorem dX10_leanBy_8 : decode cX10_leanBy 8 = .ok (.bipush 6, 2) := by decide +kernel
theorem dX10_leanBy_10 : decode cX10_leanBy 10 = .ok (.if_icmp .lt 7, 3) := by decide +kernel
theorem dX10_leanBy_13 : decode cX10_leanBy 13 = .ok (.iconst 2, 1) := by decide +kernel
theorem dX10_leanBy_14 : decode cX10_leanBy 14 = .ok (.goto 8, 3) := by decide +kernel
theorem dX10_leanBy_17 : decode cX10_leanBy 17 = .ok (.iload_n 2, 1) := by decide +kernel
theorem dX10_leanBy_18 : decode cX10_leanBy 18 = .ok (.iconst 1, 1) := by decide +kernel
theorem dX10_leanBy_19 : decode cX10_leanBy 19 = .ok (.invokestatic 427, 3) := by decide +kernel
theorem dX10_leanBy_22 : decode cX10_leanBy 22 = .ok (.istore_n 3, 1) := by decide +kernel
theorem dX10_leanBy_23 : decode cX10_leanBy 23 = .ok (.iload_n 1, 1) := by decide +kernel
theorem dX10_leanBy_24 : decode cX10_leanBy 24 = .ok (.iload_n 0, 1) := by decide +kernel
theorem dX10_leanBy_25 : decode cX10_leanBy 25 = .ok (.if_icmp .ge 9, 3) := by decide +kernel
theorem dX10_leanBy_28 : decode cX10_leanBy 28 = .ok (.iload_n 0, 1) := by decide +kernel
theorem dX10_leanBy_29 : decode cX10_leanBy 29 = .ok (.iload_n 3, 1) := by decide +kernel
theorem dX10_leanBy_30 : decode cX10_leanBy 30 = .ok (.isub, 1) := by decide +kernel
theorem dX10_leanBy_31 : decode cX10_leanBy 31 = .ok (.goto 6, 3) := by decide +kernel
theorem dX10_leanBy_34 : decode cX10_leanBy 34 = .ok (.iload_n 0, 1) := by decide +kernel
theorem dX10_leanBy_35 : decode cX10_leanBy 35 = .ok (.iload_n 3, 1) := by decide +kernel
theorem dX10_leanBy_36 : decode cX10_leanBy 36 = .ok (.iadd, 1) := by decide +kernel
theorem dX10_leanBy_37 : decode cX10_leanBy 37 = .ok (.ireturn, 1) := by decide +kernel
theorem dX10_greatestCommon_0 : decode cX10_greatestCommon 0 = .ok (.iload_n 0, 1) := by decide +kernel
theorem dX10_greatestCommon_1 : decode cX10_greatestCommon 1 = .ok (.istore_n 2, 1) := by decide +kernel
theorem dX10_greatestCommon_2 : decode cX10_greatestCommon 2 = .ok (.iload_n 1, 1) := by decide +kernel
theorem dX10_greatestCommon_3 : decode cX10_greatestCommon 3 = .ok (.istore_n 3, 1) := by decide +kernel
theorem dX10_greatestCommon_4 : decode cX10_greatestCommon 4 = .ok (.iconst 0, 1) := by decide +kernel
theorem dX10_greatestCommon_5 : decode cX10_greatestCommon 5 = .ok (.istore 4, 2) := by decide +kernel
theorem dX10_greatestCommon_7 : decode cX10_greatestCommon 7 = .ok (.iload 4, 2) := by decide +kernel
theorem dX10_greatestCommon_9 : decode cX10_greatestCommon 9 = .ok (.bipush 64, 2) := by decide +kernel
theorem dX10_greatestCommon_11 : decode cX10_greatestCommon 11 = .ok (.if_icmp .ge 23, 3) := by decide +kernel
theorem dX10_greatestCommon_14 : decode cX10_greatestCommon 14 = .ok (.iload_n 3, 1) := by decide +kernel
theorem dX10_greatestCommon_15 : decode cX10_greatestCommon 15 = .ok (.ifCond .eq 19, 3) := by decide +kernel
theorem dX10_greatestCommon_18 : decode cX10_greatestCommon 18 = .ok (.iload_n 2, 1) := by decide +kernel
theorem dX10_greatestCommon_19 : decode cX10_greatestCommon 19 = .ok (.iload_n 3, 1) := by decide +kernel
theorem dX10_greatestCommon_20 : decode cX10_greatestCommon 20 = .ok (.irem, 1) := by decide +kernel
theorem dX10_greatestCommon_21 : decode cX10_greatestCommon 21 = .ok (.istore 5, 2) := by decide +kernel
theorem dX10_greatestCommon_23 : decode cX10_greatestCommon 23 = .ok (.iload_n 3, 1) := by decide +kernel
theorem dX10_greatestCommon_24 : decode cX10_greatestCommon 24 = .ok (.istore_n 2, 1) := by decide +kernel
theorem dX10_greatestCommon_25 : decode cX10_greatestCommon 25 = .ok (.iload 5, 2) := by decide +kernel
theorem dX10_greatestCommon_27 : decode cX10_greatestCommon 27 = .ok (.istore_n 3, 1) := by decide +kernel
theorem dX10_greatestCommon_28 : decode cX10_greatestCommon 28 = .ok (.iinc 4 1, 3) := by decide +kernel
theorem dX10_greatestCommon_31 : decode cX10_greatestCommon 31 = .ok (.goto (-24), 3) := by decide +kernel
theorem dX10_greatestCommon_34 : decode cX10_greatestCommon 34 = .ok (.iload_n 2, 1) := by decide +kernel
theorem dX10_greatestCommon_35 : decode cX10_greatestCommon 35 = .ok (.ireturn, 1) := by decide +kernel
