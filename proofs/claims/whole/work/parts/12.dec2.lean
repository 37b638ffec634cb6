theorem d_Mo_init_0 : decode b_Mo_init 0 = .ok (.aload_n 0, 1) := by decide +kernel
theorem d_Mo_init_1 : decode b_Mo_init 1 = .ok (.invokespecial 1, 3) := by decide +kernel
theorem d_Mo_init_4 : decode b_Mo_init 4 = .ok (.aload_n 0, 1) := by decide +kernel
theorem d_Mo_init_5 : decode b_Mo_init 5 = .ok (.bipush 13, 2) := by decide +kernel
theorem d_Mo_init_7 : decode b_Mo_init 7 = .ok (.newarray .int, 2) := by decide +kernel
theorem d_Mo_init_9 : decode b_Mo_init 9 = .ok (.putfield 7, 3) := by decide +kernel
theorem d_Mo_init_12 : decode b_Mo_init 12 = .ok (.aload_n 0, 1) := by decide +kernel
theorem d_Mo_init_13 : decode b_Mo_init 13 = .ok (.bipush 104, 2) := by decide +kernel
theorem d_Mo_init_15 : decode b_Mo_init 15 = .ok (.newarray .int, 2) := by decide +kernel
theorem d_Mo_init_17 : decode b_Mo_init 17 = .ok (.putfield 13, 3) := by decide +kernel
theorem d_Mo_init_20 : decode b_Mo_init 20 = .ok (.aload_n 0, 1) := by decide +kernel
theorem d_Mo_init_21 : decode b_Mo_init 21 = .ok (.bipush 104, 2) := by decide +kernel
theorem d_Mo_init_23 : decode b_Mo_init 23 = .ok (.newarray .int, 2) := by decide +kernel
theorem d_Mo_init_25 : decode b_Mo_init 25 = .ok (.putfield 16, 3) := by decide +kernel
theorem d_Mo_init_28 : decode b_Mo_init 28 = .ok (.aload_n 0, 1) := by decide +kernel
theorem d_Mo_init_29 : decode b_Mo_init 29 = .ok (.bipush 104, 2) := by decide +kernel
theorem d_Mo_init_31 : decode b_Mo_init 31 = .ok (.newarray .int, 2) := by decide +kernel
theorem d_Mo_init_33 : decode b_Mo_init 33 = .ok (.putfield 19, 3) := by decide +kernel
theorem d_Mo_init_36 : decode b_Mo_init 36 = .ok (.aload_n 0, 1) := by decide +kernel
theorem d_Mo_init_37 : decode b_Mo_init 37 = .ok (.sipush 13312, 3) := by decide +kernel
theorem d_Mo_init_40 : decode b_Mo_init 40 = .ok (.newarray .int, 2) := by decide +kernel
theorem d_Mo_init_42 : decode b_Mo_init 42 = .ok (.putfield 22, 3) := by decide +kernel
theorem d_Mo_init_45 : decode b_Mo_init 45 = .ok (.aload_n 0, 1) := by decide +kernel
theorem d_Mo_init_46 : decode b_Mo_init 46 = .ok (.bipush 13, 2) := by decide +kernel
theorem d_Mo_init_48 : decode b_Mo_init 48 = .ok (.newarray .int, 2) := by decide +kernel
theorem d_Mo_init_50 : decode b_Mo_init 50 = .ok (.putfield 25, 3) := by decide +kernel
theorem d_Mo_init_53 : decode b_Mo_init 53 = .ok (.aload_n 0, 1) := by decide +kernel
theorem d_Mo_init_54 : decode b_Mo_init 54 = .ok (.sipush 156, 3) := by decide +kernel
theorem d_Mo_init_57 : decode b_Mo_init 57 = .ok (.newarray .int, 2) := by decide +kernel
theorem d_Mo_init_59 : decode b_Mo_init 59 = .ok (.putfield 28, 3) := by decide +kernel
theorem d_Mo_init_62 : decode b_Mo_init 62 = .ok (.aload_n 0, 1) := by decide +kernel
theorem d_Mo_init_63 : decode b_Mo_init 63 = .ok (.sipush 156, 3) := by decide +kernel
theorem d_Mo_init_66 : decode b_Mo_init 66 = .ok (.newarray .int, 2) := by decide +kernel
theorem d_Mo_init_68 : decode b_Mo_init 68 = .ok (.putfield 31, 3) := by decide +kernel
theorem d_Mo_init_71 : decode b_Mo_init 71 = .ok (.aload_n 0, 1) := by decide +kernel
theorem d_Mo_init_72 : decode b_Mo_init 72 = .ok (.sipush 156, 3) := by decide +kernel
theorem d_Mo_init_75 : decode b_Mo_init 75 = .ok (.newarray .int, 2) := by decide +kernel
theorem d_Mo_init_77 : decode b_Mo_init 77 = .ok (.putfield 34, 3) := by decide +kernel
theorem d_Mo_init_80 : decode b_Mo_init 80 = .ok (.aload_n 0, 1) := by decide +kernel
theorem d_Mo_init_81 : decode b_Mo_init 81 = .ok (.sipush 156, 3) := by decide +kernel
theorem d_Mo_init_84 : decode b_Mo_init 84 = .ok (.newarray .int, 2) := by decide +kernel
theorem d_Mo_init_86 : decode b_Mo_init 86 = .ok (.putfield 37, 3) := by decide +kernel
theorem d_Mo_init_89 : decode b_Mo_init 89 = .ok (.aload_n 0, 1) := by decide +kernel
theorem d_Mo_init_90 : decode b_Mo_init 90 = .ok (.bipush 13, 2) := by decide +kernel
theorem d_Mo_init_92 : decode b_Mo_init 92 = .ok (.newarray .int, 2) := by decide +kernel
theorem d_Mo_init_94 : decode b_Mo_init 94 = .ok (.putfield 40, 3) := by decide +kernel
theorem d_Mo_init_97 : decode b_Mo_init 97 = .ok (.aload_n 0, 1) := by decide +kernel
theorem d_Mo_init_98 : decode b_Mo_init 98 = .ok (.sipush 208, 3) := by decide +kernel
theorem d_Mo_init_101 : decode b_Mo_init 101 = .ok (.newarray .int, 2) := by decide +kernel
theorem d_Mo_init_103 : decode b_Mo_init 103 = .ok (.putfield 43, 3) := by decide +kernel
theorem d_Mo_init_106 : decode b_Mo_init 106 = .ok (.aload_n 0, 1) := by decide +kernel
theorem d_Mo_init_107 : decode b_Mo_init 107 = .ok (.sipush 208, 3) := by decide +kernel
theorem d_Mo_init_110 : decode b_Mo_init 110 = .ok (.newarray .int, 2) := by decide +kernel
theorem d_Mo_init_112 : decode b_Mo_init 112 = .ok (.putfield 46, 3) := by decide +kernel
theorem d_Mo_init_115 : decode b_Mo_init 115 = .ok (.aload_n 0, 1) := by decide +kernel
theorem d_Mo_init_116 : decode b_Mo_init 116 = .ok (.sipush 208, 3) := by decide +kernel
theorem d_Mo_init_119 : decode b_Mo_init 119 = .ok (.newarray .int, 2) := by decide +kernel
theorem d_Mo_init_121 : decode b_Mo_init 121 = .ok (.putfield 49, 3) := by decide +kernel
theorem d_Mo_init_124 : decode b_Mo_init 124 = .ok (.aload_n 0, 1) := by decide +kernel
theorem d_Mo_init_125 : decode b_Mo_init 125 = .ok (.sipush 208, 3) := by decide +kernel
theorem d_Mo_init_128 : decode b_Mo_init 128 = .ok (.newarray .int, 2) := by decide +kernel
theorem d_Mo_init_130 : decode b_Mo_init 130 = .ok (.putfield 52, 3) := by decide +kernel
theorem d_Mo_init_133 : decode b_Mo_init 133 = .ok (.aload_n 0, 1) := by decide +kernel
theorem d_Mo_init_134 : decode b_Mo_init 134 = .ok (.sipush 208, 3) := by decide +kernel
theorem d_Mo_init_137 : decode b_Mo_init 137 = .ok (.newarray .int, 2) := by decide +kernel
theorem d_Mo_init_139 : decode b_Mo_init 139 = .ok (.putfield 55, 3) := by decide +kernel
theorem d_Mo_init_142 : decode b_Mo_init 142 = .ok (.aload_n 0, 1) := by decide +kernel
theorem d_Mo_init_143 : decode b_Mo_init 143 = .ok (.bipush 12, 2) := by decide +kernel
theorem d_Mo_init_145 : decode b_Mo_init 145 = .ok (.newarray .int, 2) := by decide +kernel
theorem d_Mo_init_147 : decode b_Mo_init 147 = .ok (.putfield 58, 3) := by decide +kernel
theorem d_Mo_init_150 : decode b_Mo_init 150 = .ok (.aload_n 0, 1) := by decide +kernel
theorem d_Mo_init_151 : decode b_Mo_init 151 = .ok (.bipush 96, 2) := by decide +kernel
theorem d_Mo_init_153 : decode b_Mo_init 153 = .ok (.newarray .boolean, 2) := by decide +kernel
theorem d_Mo_init_155 : decode b_Mo_init 155 = .ok (.putfield 61, 3) := by decide +kernel
theorem d_Mo_init_158 : decode b_Mo_init 158 = .ok (.aload_n 0, 1) := by decide +kernel
theorem d_Mo_init_159 : decode b_Mo_init 159 = .ok (.sipush 144, 3) := by decide +kernel
theorem d_Mo_init_162 : decode b_Mo_init 162 = .ok (.newarray .boolean, 2) := by decide +kernel
theorem d_Mo_init_164 : decode b_Mo_init 164 = .ok (.putfield 65, 3) := by decide +kernel
theorem d_Mo_init_167 : decode b_Mo_init 167 = .ok (.aload_n 0, 1) := by decide +kernel
theorem d_Mo_init_168 : decode b_Mo_init 168 = .ok (.sipush 144, 3) := by decide +kernel
theorem d_Mo_init_171 : decode b_Mo_init 171 = .ok (.newarray .int, 2) := by decide +kernel
theorem d_Mo_init_173 : decode b_Mo_init 173 = .ok (.putfield 68, 3) := by decide +kernel
theorem d_Mo_init_176 : decode b_Mo_init 176 = .ok (.aload_n 0, 1) := by decide +kernel
theorem d_Mo_init_177 : decode b_Mo_init 177 = .ok (.bipush 96, 2) := by decide +kernel
theorem d_Mo_init_179 : decode b_Mo_init 179 = .ok (.newarray .int, 2) := by decide +kernel
theorem d_Mo_init_181 : decode b_Mo_init 181 = .ok (.putfield 71, 3) := by decide +kernel
theorem d_Mo_init_184 : decode b_Mo_init 184 = .ok (.aload_n 0, 1) := by decide +kernel
theorem d_Mo_init_185 : decode b_Mo_init 185 = .ok (.iconst (-1), 1) := by decide +kernel
theorem d_Mo_init_186 : decode b_Mo_init 186 = .ok (.putfield 74, 3) := by decide +kernel
theorem d_Mo_init_189 : decode b_Mo_init 189 = .ok (.aload_n 0, 1) := by decide +kernel
theorem d_Mo_init_190 : decode b_Mo_init 190 = .ok (.iconst (-1), 1) := by decide +kernel
theorem d_Mo_init_191 : decode b_Mo_init 191 = .ok (.putfield 78, 3) := by decide +kernel
theorem d_Mo_init_194 : decode b_Mo_init 194 = .ok (.aload_n 0, 1) := by decide +kernel
theorem d_Mo_init_195 : decode b_Mo_init 195 = .ok (.sipush 4096, 3) := by decide +kernel
theorem d_Mo_init_198 : decode b_Mo_init 198 = .ok (.newarray .int, 2) := by decide +kernel
theorem d_Mo_init_200 : decode b_Mo_init 200 = .ok (.putfield 81, 3) := by decide +kernel
theorem d_Mo_init_203 : decode b_Mo_init 203 = .ok (.aload_n 0, 1) := by decide +kernel
theorem d_Mo_init_204 : decode b_Mo_init 204 = .ok (.sipush 144, 3) := by decide +kernel
theorem d_Mo_init_207 : decode b_Mo_init 207 = .ok (.newarray .int, 2) := by decide +kernel
theorem d_Mo_init_209 : decode b_Mo_init 209 = .ok (.putfield 84, 3) := by decide +kernel
theorem d_Mo_init_212 : decode b_Mo_init 212 = .ok (.aload_n 0, 1) := by decide +kernel
theorem d_Mo_init_213 : decode b_Mo_init 213 = .ok (.sipush 144, 3) := by decide +kernel
theorem d_Mo_init_216 : decode b_Mo_init 216 = .ok (.newarray .int, 2) := by decide +kernel
theorem d_Mo_init_218 : decode b_Mo_init 218 = .ok (.putfield 87, 3) := by decide +kernel
theorem d_Mo_init_221 : decode b_Mo_init 221 = .ok (.aload_n 0, 1) := by decide +kernel
theorem d_Mo_init_222 : decode b_Mo_init 222 = .ok (.sipush 1400, 3) := by decide +kernel
theorem d_Mo_init_225 : decode b_Mo_init 225 = .ok (.newarray .int, 2) := by decide +kernel
theorem d_Mo_init_227 : decode b_Mo_init 227 = .ok (.putfield 90, 3) := by decide +kernel
theorem d_Mo_init_230 : decode b_Mo_init 230 = .ok (.iconst 0, 1) := by decide +kernel
theorem d_Mo_init_231 : decode b_Mo_init 231 = .ok (.istore_n 1, 1) := by decide +kernel
theorem d_Mo_init_232 : decode b_Mo_init 232 = .ok (.iload_n 1, 1) := by decide +kernel
theorem d_Mo_init_233 : decode b_Mo_init 233 = .ok (.bipush 96, 2) := by decide +kernel
theorem d_Mo_init_235 : decode b_Mo_init 235 = .ok (.if_icmp .ge 16, 3) := by decide +kernel
theorem d_Mo_init_238 : decode b_Mo_init 238 = .ok (.aload_n 0, 1) := by decide +kernel
theorem d_Mo_init_239 : decode b_Mo_init 239 = .ok (.getfield 71, 3) := by decide +kernel
theorem d_Mo_init_242 : decode b_Mo_init 242 = .ok (.iload_n 1, 1) := by decide +kernel
theorem d_Mo_init_243 : decode b_Mo_init 243 = .ok (.iconst (-1), 1) := by decide +kernel
theorem d_Mo_init_244 : decode b_Mo_init 244 = .ok (.iastore, 1) := by decide +kernel
theorem d_Mo_init_245 : decode b_Mo_init 245 = .ok (.iinc 1 1, 3) := by decide +kernel
theorem d_Mo_init_248 : decode b_Mo_init 248 = .ok (.goto (-16), 3) := by decide +kernel
theorem d_Mo_init_251 : decode b_Mo_init 251 = .ok (.return_, 1) := by decide +kernel
theorem d_Mo_thrown_0 : decode b_Mo_thrown 0 = .ok (.aload_n 0, 1) := by decide +kernel
theorem d_Mo_thrown_1 : decode b_Mo_thrown 1 = .ok (.getfield 93, 3) := by decide +kernel
theorem d_Mo_thrown_4 : decode b_Mo_thrown 4 = .ok (.ireturn, 1) := by decide +kernel
theorem d_Mo_object_0 : decode b_Mo_object 0 = .ok (.aload_n 0, 1) := by decide +kernel
theorem d_Mo_object_1 : decode b_Mo_object 1 = .ok (.iconst 0, 1) := by decide +kernel
theorem d_Mo_object_2 : decode b_Mo_object 2 = .ok (.putfield 93, 3) := by decide +kernel
theorem d_Mo_object_5 : decode b_Mo_object 5 = .ok (.aload_n 0, 1) := by decide +kernel
theorem d_Mo_object_6 : decode b_Mo_object 6 = .ok (.getfield 96, 3) := by decide +kernel
theorem d_Mo_object_9 : decode b_Mo_object 9 = .ok (.bipush 12, 2) := by decide +kernel
theorem d_Mo_object_11 : decode b_Mo_object 11 = .ok (.if_icmp .ne 9, 3) := by decide +kernel
theorem d_Mo_object_14 : decode b_Mo_object 14 = .ok (.aload_n 0, 1) := by decide +kernel
theorem d_Mo_object_15 : decode b_Mo_object 15 = .ok (.iconst 1, 1) := by decide +kernel
theorem d_Mo_object_16 : decode b_Mo_object 16 = .ok (.invokevirtual 103, 3) := by decide +kernel
theorem d_Mo_object_19 : decode b_Mo_object 19 = .ok (.ireturn, 1) := by decide +kernel
theorem d_Mo_object_20 : decode b_Mo_object 20 = .ok (.aload_n 0, 1) := by decide +kernel
theorem d_Mo_object_21 : decode b_Mo_object 21 = .ok (.aload_n 0, 1) := by decide +kernel
theorem d_Mo_object_22 : decode b_Mo_object 22 = .ok (.getfield 96, 3) := by decide +kernel
theorem d_Mo_object_25 : decode b_Mo_object 25 = .ok (.invokevirtual 107, 3) := by decide +kernel
theorem d_Mo_object_28 : decode b_Mo_object 28 = .ok (.aload_n 0, 1) := by decide +kernel
theorem d_Mo_object_29 : decode b_Mo_object 29 = .ok (.dup, 1) := by decide +kernel
theorem d_Mo_object_30 : decode b_Mo_object 30 = .ok (.getfield 96, 3) := by decide +kernel
theorem d_Mo_object_33 : decode b_Mo_object 33 = .ok (.iconst 1, 1) := by decide +kernel
theorem d_Mo_object_34 : decode b_Mo_object 34 = .ok (.iadd, 1) := by decide +kernel
theorem d_Mo_object_35 : decode b_Mo_object 35 = .ok (.putfield 96, 3) := by decide +kernel
theorem d_Mo_object_38 : decode b_Mo_object 38 = .ok (.aload_n 0, 1) := by decide +kernel
theorem d_Mo_object_39 : decode b_Mo_object 39 = .ok (.getfield 96, 3) := by decide +kernel
theorem d_Mo_object_42 : decode b_Mo_object 42 = .ok (.iconst 1, 1) := by decide +kernel
theorem d_Mo_object_43 : decode b_Mo_object 43 = .ok (.isub, 1) := by decide +kernel
theorem d_Mo_object_44 : decode b_Mo_object 44 = .ok (.ireturn, 1) := by decide +kernel
theorem d_Mo_fail_0 : decode b_Mo_fail 0 = .ok (.aload_n 0, 1) := by decide +kernel
theorem d_Mo_fail_1 : decode b_Mo_fail 1 = .ok (.iload_n 1, 1) := by decide +kernel
theorem d_Mo_fail_2 : decode b_Mo_fail 2 = .ok (.putfield 93, 3) := by decide +kernel
theorem d_Mo_fail_5 : decode b_Mo_fail 5 = .ok (.iconst 0, 1) := by decide +kernel
theorem d_Mo_fail_6 : decode b_Mo_fail 6 = .ok (.ireturn, 1) := by decide +kernel
theorem d_Mo_emptyObject_0 : decode b_Mo_emptyObject 0 = .ok (.aload_n 0, 1) := by decide +kernel
theorem d_Mo_emptyObject_1 : decode b_Mo_emptyObject 1 = .ok (.getfield 7, 3) := by decide +kernel
theorem d_Mo_emptyObject_4 : decode b_Mo_emptyObject 4 = .ok (.iload_n 1, 1) := by decide +kernel
theorem d_Mo_emptyObject_5 : decode b_Mo_emptyObject 5 = .ok (.iconst 0, 1) := by decide +kernel
theorem d_Mo_emptyObject_6 : decode b_Mo_emptyObject 6 = .ok (.iastore, 1) := by decide +kernel
theorem d_Mo_emptyObject_7 : decode b_Mo_emptyObject 7 = .ok (.aload_n 0, 1) := by decide +kernel
theorem d_Mo_emptyObject_8 : decode b_Mo_emptyObject 8 = .ok (.getfield 25, 3) := by decide +kernel
theorem d_Mo_emptyObject_11 : decode b_Mo_emptyObject 11 = .ok (.iload_n 1, 1) := by decide +kernel
theorem d_Mo_emptyObject_12 : decode b_Mo_emptyObject 12 = .ok (.iconst 0, 1) := by decide +kernel
theorem d_Mo_emptyObject_13 : decode b_Mo_emptyObject 13 = .ok (.iastore, 1) := by decide +kernel
theorem d_Mo_emptyObject_14 : decode b_Mo_emptyObject 14 = .ok (.aload_n 0, 1) := by decide +kernel
theorem d_Mo_emptyObject_15 : decode b_Mo_emptyObject 15 = .ok (.getfield 40, 3) := by decide +kernel
theorem d_Mo_emptyObject_18 : decode b_Mo_emptyObject 18 = .ok (.iload_n 1, 1) := by decide +kernel
theorem d_Mo_emptyObject_19 : decode b_Mo_emptyObject 19 = .ok (.iconst 0, 1) := by decide +kernel
theorem d_Mo_emptyObject_20 : decode b_Mo_emptyObject 20 = .ok (.iastore, 1) := by decide +kernel
theorem d_Mo_emptyObject_21 : decode b_Mo_emptyObject 21 = .ok (.return_, 1) := by decide +kernel
theorem d_Mo_section_0 : decode b_Mo_section 0 = .ok (.aload_n 0, 1) := by decide +kernel
theorem d_Mo_section_1 : decode b_Mo_section 1 = .ok (.iload_n 1, 1) := by decide +kernel
theorem d_Mo_section_2 : decode b_Mo_section 2 = .ok (.invokevirtual 111, 3) := by decide +kernel
theorem d_Mo_section_5 : decode b_Mo_section 5 = .ok (.ifCond .ne 5, 3) := by decide +kernel
theorem d_Mo_section_8 : decode b_Mo_section 8 = .ok (.iconst 0, 1) := by decide +kernel
theorem d_Mo_section_9 : decode b_Mo_section 9 = .ok (.ireturn, 1) := by decide +kernel
theorem d_Mo_section_10 : decode b_Mo_section 10 = .ok (.iload_n 2, 1) := by decide +kernel
theorem d_Mo_section_11 : decode b_Mo_section 11 = .ok (.iload_n 3, 1) := by decide +kernel
theorem d_Mo_section_12 : decode b_Mo_section 12 = .ok (.iload 4, 2) := by decide +kernel
theorem d_Mo_section_14 : decode b_Mo_section 14 = .ok (.invokestatic 115, 3) := by decide +kernel
theorem d_Mo_section_17 : decode b_Mo_section 17 = .ok (.ifCond .ne 9, 3) := by decide +kernel
theorem d_Mo_section_20 : decode b_Mo_section 20 = .ok (.aload_n 0, 1) := by decide +kernel
theorem d_Mo_section_21 : decode b_Mo_section 21 = .ok (.iconst 2, 1) := by decide +kernel
theorem d_Mo_section_22 : decode b_Mo_section 22 = .ok (.invokevirtual 103, 3) := by decide +kernel
theorem d_Mo_section_25 : decode b_Mo_section 25 = .ok (.ireturn, 1) := by decide +kernel
theorem d_Mo_section_26 : decode b_Mo_section 26 = .ok (.aload_n 0, 1) := by decide +kernel
theorem d_Mo_section_27 : decode b_Mo_section 27 = .ok (.getfield 7, 3) := by decide +kernel
theorem d_Mo_section_30 : decode b_Mo_section 30 = .ok (.iload_n 1, 1) := by decide +kernel
theorem d_Mo_section_31 : decode b_Mo_section 31 = .ok (.iaload, 1) := by decide +kernel
theorem d_Mo_section_32 : decode b_Mo_section 32 = .ok (.bipush 8, 2) := by decide +kernel
theorem d_Mo_section_34 : decode b_Mo_section 34 = .ok (.if_icmp .ne 9, 3) := by decide +kernel
theorem d_Mo_section_37 : decode b_Mo_section 37 = .ok (.aload_n 0, 1) := by decide +kernel
theorem d_Mo_section_38 : decode b_Mo_section 38 = .ok (.iconst 3, 1) := by decide +kernel
theorem d_Mo_section_39 : decode b_Mo_section 39 = .ok (.invokevirtual 103, 3) := by decide +kernel
theorem d_Mo_section_42 : decode b_Mo_section 42 = .ok (.ireturn, 1) := by decide +kernel
theorem d_Mo_section_43 : decode b_Mo_section 43 = .ok (.aload_n 0, 1) := by decide +kernel
theorem d_Mo_section_44 : decode b_Mo_section 44 = .ok (.iload_n 1, 1) := by decide +kernel
theorem d_Mo_section_45 : decode b_Mo_section 45 = .ok (.iload_n 2, 1) := by decide +kernel
theorem d_Mo_section_46 : decode b_Mo_section 46 = .ok (.iload_n 3, 1) := by decide +kernel
theorem d_Mo_section_47 : decode b_Mo_section 47 = .ok (.iload 4, 2) := by decide +kernel
theorem d_Mo_section_49 : decode b_Mo_section 49 = .ok (.invokevirtual 118, 3) := by decide +kernel
theorem d_Mo_section_52 : decode b_Mo_section 52 = .ok (.aload_n 0, 1) := by decide +kernel
theorem d_Mo_section_53 : decode b_Mo_section 53 = .ok (.getfield 7, 3) := by decide +kernel
theorem d_Mo_section_56 : decode b_Mo_section 56 = .ok (.iload_n 1, 1) := by decide +kernel
theorem d_Mo_section_57 : decode b_Mo_section 57 = .ok (.iaload, 1) := by decide +kernel
theorem d_Mo_section_58 : decode b_Mo_section 58 = .ok (.iconst 1, 1) := by decide +kernel
theorem d_Mo_section_59 : decode b_Mo_section 59 = .ok (.isub, 1) := by decide +kernel
theorem d_Mo_section_60 : decode b_Mo_section 60 = .ok (.ireturn, 1) := by decide +kernel
theorem d_Mo_isObject_0 : decode b_Mo_isObject 0 = .ok (.aload_n 0, 1) := by decide +kernel
theorem d_Mo_isObject_1 : decode b_Mo_isObject 1 = .ok (.iload_n 1, 1) := by decide +kernel
theorem d_Mo_isObject_2 : decode b_Mo_isObject 2 = .ok (.iconst 0, 1) := by decide +kernel
theorem d_Mo_isObject_3 : decode b_Mo_isObject 3 = .ok (.aload_n 0, 1) := by decide +kernel
theorem d_Mo_isObject_4 : decode b_Mo_isObject 4 = .ok (.getfield 96, 3) := by decide +kernel
theorem d_Mo_isObject_7 : decode b_Mo_isObject 7 = .ok (.iconst 1, 1) := by decide +kernel
theorem d_Mo_isObject_8 : decode b_Mo_isObject 8 = .ok (.isub, 1) := by decide +kernel
theorem d_Mo_isObject_9 : decode b_Mo_isObject 9 = .ok (.invokestatic 99, 3) := by decide +kernel
theorem d_Mo_isObject_12 : decode b_Mo_isObject 12 = .ok (.ifCond .eq 7, 3) := by decide +kernel
theorem d_Mo_isObject_15 : decode b_Mo_isObject 15 = .ok (.iconst 0, 1) := by decide +kernel
theorem d_Mo_isObject_16 : decode b_Mo_isObject 16 = .ok (.goto 4, 3) := by decide +kernel
theorem d_Mo_isObject_19 : decode b_Mo_isObject 19 = .ok (.iconst 1, 1) := by decide +kernel
theorem d_Mo_isObject_20 : decode b_Mo_isObject 20 = .ok (.putfield 93, 3) := by decide +kernel
theorem d_Mo_isObject_23 : decode b_Mo_isObject 23 = .ok (.aload_n 0, 1) := by decide +kernel
theorem d_Mo_isObject_24 : decode b_Mo_isObject 24 = .ok (.getfield 93, 3) := by decide +kernel
theorem d_Mo_isObject_27 : decode b_Mo_isObject 27 = .ok (.ifCond .ne 7, 3) := by decide +kernel
theorem d_Mo_isObject_30 : decode b_Mo_isObject 30 = .ok (.iconst 1, 1) := by decide +kernel
theorem d_Mo_isObject_31 : decode b_Mo_isObject 31 = .ok (.goto 4, 3) := by decide +kernel
theorem d_Mo_isObject_34 : decode b_Mo_isObject 34 = .ok (.iconst 0, 1) := by decide +kernel
theorem d_Mo_isObject_35 : decode b_Mo_isObject 35 = .ok (.ireturn, 1) := by decide +kernel
theorem d_Mo_within_0 : decode b_Mo_within 0 = .ok (.iload_n 0, 1) := by decide +kernel
theorem d_Mo_within_1 : decode b_Mo_within 1 = .ok (.iload_n 1, 1) := by decide +kernel
theorem d_Mo_within_2 : decode b_Mo_within 2 = .ok (.if_icmp .lt 12, 3) := by decide +kernel
theorem d_Mo_within_5 : decode b_Mo_within 5 = .ok (.iload_n 0, 1) := by decide +kernel
theorem d_Mo_within_6 : decode b_Mo_within 6 = .ok (.iload_n 2, 1) := by decide +kernel
theorem d_Mo_within_7 : decode b_Mo_within 7 = .ok (.if_icmp .gt 7, 3) := by decide +kernel
theorem d_Mo_within_10 : decode b_Mo_within 10 = .ok (.iconst 1, 1) := by decide +kernel
theorem d_Mo_within_11 : decode b_Mo_within 11 = .ok (.goto 4, 3) := by decide +kernel
theorem d_Mo_within_14 : decode b_Mo_within 14 = .ok (.iconst 0, 1) := by decide +kernel
theorem d_Mo_within_15 : decode b_Mo_within 15 = .ok (.ireturn, 1) := by decide +kernel
theorem d_Mo_isSection_0 : decode b_Mo_isSection 0 = .ok (.iload_n 0, 1) := by decide +kernel
theorem d_Mo_isSection_1 : decode b_Mo_isSection 1 = .ok (.iconst 0, 1) := by decide +kernel
theorem d_Mo_isSection_2 : decode b_Mo_isSection 2 = .ok (.iconst 3, 1) := by decide +kernel
theorem d_Mo_isSection_3 : decode b_Mo_isSection 3 = .ok (.invokestatic 99, 3) := by decide +kernel
theorem d_Mo_isSection_6 : decode b_Mo_isSection 6 = .ok (.ifCond .eq 28, 3) := by decide +kernel
theorem d_Mo_isSection_9 : decode b_Mo_isSection 9 = .ok (.iload_n 1, 1) := by decide +kernel
theorem d_Mo_isSection_10 : decode b_Mo_isSection 10 = .ok (.iconst 0, 1) := by decide +kernel
theorem d_Mo_isSection_11 : decode b_Mo_isSection 11 = .ok (.bipush 6, 2) := by decide +kernel
theorem d_Mo_isSection_13 : decode b_Mo_isSection 13 = .ok (.invokestatic 99, 3) := by decide +kernel
theorem d_Mo_isSection_16 : decode b_Mo_isSection 16 = .ok (.ifCond .eq 18, 3) := by decide +kernel
theorem d_Mo_isSection_19 : decode b_Mo_isSection 19 = .ok (.iload_n 2, 1) := by decide +kernel
theorem d_Mo_isSection_20 : decode b_Mo_isSection 20 = .ok (.iconst 0, 1) := by decide +kernel
theorem d_Mo_isSection_21 : decode b_Mo_isSection 21 = .ok (.sipush 128, 3) := by decide +kernel
theorem d_Mo_isSection_24 : decode b_Mo_isSection 24 = .ok (.invokestatic 99, 3) := by decide +kernel
theorem d_Mo_isSection_27 : decode b_Mo_isSection 27 = .ok (.ifCond .eq 7, 3) := by decide +kernel
theorem d_Mo_isSection_30 : decode b_Mo_isSection 30 = .ok (.iconst 1, 1) := by decide +kernel
theorem d_Mo_isSection_31 : decode b_Mo_isSection 31 = .ok (.goto 4, 3) := by decide +kernel
theorem d_Mo_isSection_34 : decode b_Mo_isSection 34 = .ok (.iconst 0, 1) := by decide +kernel
theorem d_Mo_isSection_35 : decode b_Mo_isSection 35 = .ok (.ireturn, 1) := by decide +kernel
theorem d_Mo_addSection_0 : decode b_Mo_addSection 0 = .ok (.bipush 8, 2) := by decide +kernel
theorem d_Mo_addSection_2 : decode b_Mo_addSection 2 = .ok (.iload_n 1, 1) := by decide +kernel
theorem d_Mo_addSection_3 : decode b_Mo_addSection 3 = .ok (.imul, 1) := by decide +kernel
theorem d_Mo_addSection_4 : decode b_Mo_addSection 4 = .ok (.aload_n 0, 1) := by decide +kernel
theorem d_Mo_addSection_5 : decode b_Mo_addSection 5 = .ok (.getfield 7, 3) := by decide +kernel
theorem d_Mo_addSection_8 : decode b_Mo_addSection 8 = .ok (.iload_n 1, 1) := by decide +kernel
theorem d_Mo_addSection_9 : decode b_Mo_addSection 9 = .ok (.iaload, 1) := by decide +kernel
theorem d_Mo_addSection_10 : decode b_Mo_addSection 10 = .ok (.iadd, 1) := by decide +kernel
theorem d_Mo_addSection_11 : decode b_Mo_addSection 11 = .ok (.istore 5, 2) := by decide +kernel
theorem d_Mo_addSection_13 : decode b_Mo_addSection 13 = .ok (.aload_n 0, 1) := by decide +kernel
theorem d_Mo_addSection_14 : decode b_Mo_addSection 14 = .ok (.getfield 13, 3) := by decide +kernel
theorem d_Mo_addSection_17 : decode b_Mo_addSection 17 = .ok (.iload 5, 2) := by decide +kernel
theorem d_Mo_addSection_19 : decode b_Mo_addSection 19 = .ok (.iload_n 2, 1) := by decide +kernel
theorem d_Mo_addSection_20 : decode b_Mo_addSection 20 = .ok (.iastore, 1) := by decide +kernel
theorem d_Mo_addSection_21 : decode b_Mo_addSection 21 = .ok (.aload_n 0, 1) := by decide +kernel
theorem d_Mo_addSection_22 : decode b_Mo_addSection 22 = .ok (.getfield 16, 3) := by decide +kernel
theorem d_Mo_addSection_25 : decode b_Mo_addSection 25 = .ok (.iload 5, 2) := by decide +kernel
theorem d_Mo_addSection_27 : decode b_Mo_addSection 27 = .ok (.iload_n 3, 1) := by decide +kernel
theorem d_Mo_addSection_28 : decode b_Mo_addSection 28 = .ok (.iastore, 1) := by decide +kernel
theorem d_Mo_addSection_29 : decode b_Mo_addSection 29 = .ok (.aload_n 0, 1) := by decide +kernel
theorem d_Mo_addSection_30 : decode b_Mo_addSection 30 = .ok (.getfield 19, 3) := by decide +kernel
theorem d_Mo_addSection_33 : decode b_Mo_addSection 33 = .ok (.iload 5, 2) := by decide +kernel
theorem d_Mo_addSection_35 : decode b_Mo_addSection 35 = .ok (.iload 4, 2) := by decide +kernel
theorem d_Mo_addSection_37 : decode b_Mo_addSection 37 = .ok (.iastore, 1) := by decide +kernel
theorem d_Mo_addSection_38 : decode b_Mo_addSection 38 = .ok (.iconst 0, 1) := by decide +kernel
theorem d_Mo_addSection_39 : decode b_Mo_addSection 39 = .ok (.istore 6, 2) := by decide +kernel
theorem d_Mo_addSection_41 : decode b_Mo_addSection 41 = .ok (.iload 6, 2) := by decide +kernel
theorem d_Mo_addSection_43 : decode b_Mo_addSection 43 = .ok (.sipush 128, 3) := by decide +kernel
theorem d_Mo_addSection_46 : decode b_Mo_addSection 46 = .ok (.if_icmp .ge 24, 3) := by decide +kernel
theorem d_Mo_addSection_49 : decode b_Mo_addSection 49 = .ok (.aload_n 0, 1) := by decide +kernel
theorem d_Mo_addSection_50 : decode b_Mo_addSection 50 = .ok (.getfield 22, 3) := by decide +kernel
theorem d_Mo_addSection_53 : decode b_Mo_addSection 53 = .ok (.sipush 128, 3) := by decide +kernel
theorem d_Mo_addSection_56 : decode b_Mo_addSection 56 = .ok (.iload 5, 2) := by decide +kernel
theorem d_Mo_addSection_58 : decode b_Mo_addSection 58 = .ok (.imul, 1) := by decide +kernel
theorem d_Mo_addSection_59 : decode b_Mo_addSection 59 = .ok (.iload 6, 2) := by decide +kernel
theorem d_Mo_addSection_61 : decode b_Mo_addSection 61 = .ok (.iadd, 1) := by decide +kernel
theorem d_Mo_addSection_62 : decode b_Mo_addSection 62 = .ok (.iconst 0, 1) := by decide +kernel
theorem d_Mo_addSection_63 : decode b_Mo_addSection 63 = .ok (.iastore, 1) := by decide +kernel
theorem d_Mo_addSection_64 : decode b_Mo_addSection 64 = .ok (.iinc 6 1, 3) := by decide +kernel
theorem d_Mo_addSection_67 : decode b_Mo_addSection 67 = .ok (.goto (-26), 3) := by decide +kernel
theorem d_Mo_addSection_70 : decode b_Mo_addSection 70 = .ok (.aload_n 0, 1) := by decide +kernel
theorem d_Mo_addSection_71 : decode b_Mo_addSection 71 = .ok (.getfield 7, 3) := by decide +kernel
theorem d_Mo_addSection_74 : decode b_Mo_addSection 74 = .ok (.iload_n 1, 1) := by decide +kernel
theorem d_Mo_addSection_75 : decode b_Mo_addSection 75 = .ok (.dup2, 1) := by decide +kernel
theorem d_Mo_addSection_76 : decode b_Mo_addSection 76 = .ok (.iaload, 1) := by decide +kernel
theorem d_Mo_addSection_77 : decode b_Mo_addSection 77 = .ok (.iconst 1, 1) := by decide +kernel
theorem d_Mo_addSection_78 : decode b_Mo_addSection 78 = .ok (.iadd, 1) := by decide +kernel
theorem d_Mo_addSection_79 : decode b_Mo_addSection 79 = .ok (.iastore, 1) := by decide +kernel
theorem d_Mo_addSection_80 : decode b_Mo_addSection 80 = .ok (.return_, 1) := by decide +kernel
theorem d_Mo_bytes_0 : decode b_Mo_bytes 0 = .ok (.aload_n 0, 1) := by decide +kernel
theorem d_Mo_bytes_1 : decode b_Mo_bytes 1 = .ok (.iload_n 1, 1) := by decide +kernel
theorem d_Mo_bytes_2 : decode b_Mo_bytes 2 = .ok (.invokevirtual 111, 3) := by decide +kernel
theorem d_Mo_bytes_5 : decode b_Mo_bytes 5 = .ok (.ifCond .ne 5, 3) := by decide +kernel
theorem d_Mo_bytes_8 : decode b_Mo_bytes 8 = .ok (.iconst 0, 1) := by decide +kernel
theorem d_Mo_bytes_9 : decode b_Mo_bytes 9 = .ok (.ireturn, 1) := by decide +kernel
theorem d_Mo_bytes_10 : decode b_Mo_bytes 10 = .ok (.bipush 8, 2) := by decide +kernel
theorem d_Mo_bytes_12 : decode b_Mo_bytes 12 = .ok (.iload_n 1, 1) := by decide +kernel
theorem d_Mo_bytes_13 : decode b_Mo_bytes 13 = .ok (.imul, 1) := by decide +kernel
theorem d_Mo_bytes_14 : decode b_Mo_bytes 14 = .ok (.iload_n 2, 1) := by decide +kernel
theorem d_Mo_bytes_15 : decode b_Mo_bytes 15 = .ok (.iadd, 1) := by decide +kernel
theorem d_Mo_bytes_16 : decode b_Mo_bytes 16 = .ok (.istore 5, 2) := by decide +kernel
theorem d_Mo_bytes_18 : decode b_Mo_bytes 18 = .ok (.aload_n 0, 1) := by decide +kernel
theorem d_Mo_bytes_19 : decode b_Mo_bytes 19 = .ok (.iload_n 1, 1) := by decide +kernel
theorem d_Mo_bytes_20 : decode b_Mo_bytes 20 = .ok (.iload_n 2, 1) := by decide +kernel
theorem d_Mo_bytes_21 : decode b_Mo_bytes 21 = .ok (.invokevirtual 122, 3) := by decide +kernel
theorem d_Mo_bytes_24 : decode b_Mo_bytes 24 = .ok (.ifCond .eq 31, 3) := by decide +kernel
theorem d_Mo_bytes_27 : decode b_Mo_bytes 27 = .ok (.aload_n 0, 1) := by decide +kernel
theorem d_Mo_bytes_28 : decode b_Mo_bytes 28 = .ok (.getfield 13, 3) := by decide +kernel
theorem d_Mo_bytes_31 : decode b_Mo_bytes 31 = .ok (.iload 5, 2) := by decide +kernel
theorem d_Mo_bytes_33 : decode b_Mo_bytes 33 = .ok (.iaload, 1) := by decide +kernel
theorem d_Mo_bytes_34 : decode b_Mo_bytes 34 = .ok (.iconst 3, 1) := by decide +kernel
theorem d_Mo_bytes_35 : decode b_Mo_bytes 35 = .ok (.if_icmp .eq 20, 3) := by decide +kernel
theorem d_Mo_bytes_38 : decode b_Mo_bytes 38 = .ok (.iload_n 3, 1) := by decide +kernel
theorem d_Mo_bytes_39 : decode b_Mo_bytes 39 = .ok (.iconst 0, 1) := by decide +kernel
theorem d_Mo_bytes_40 : decode b_Mo_bytes 40 = .ok (.aload_n 0, 1) := by decide +kernel
theorem d_Mo_bytes_41 : decode b_Mo_bytes 41 = .ok (.getfield 19, 3) := by decide +kernel
theorem d_Mo_bytes_44 : decode b_Mo_bytes 44 = .ok (.iload 5, 2) := by decide +kernel
theorem d_Mo_bytes_46 : decode b_Mo_bytes 46 = .ok (.iaload, 1) := by decide +kernel
theorem d_Mo_bytes_47 : decode b_Mo_bytes 47 = .ok (.iconst 1, 1) := by decide +kernel
theorem d_Mo_bytes_48 : decode b_Mo_bytes 48 = .ok (.isub, 1) := by decide +kernel
theorem d_Mo_bytes_49 : decode b_Mo_bytes 49 = .ok (.invokestatic 99, 3) := by decide +kernel
theorem d_Mo_bytes_52 : decode b_Mo_bytes 52 = .ok (.ifCond .ne 9, 3) := by decide +kernel
theorem d_Mo_bytes_55 : decode b_Mo_bytes 55 = .ok (.aload_n 0, 1) := by decide +kernel
theorem d_Mo_bytes_56 : decode b_Mo_bytes 56 = .ok (.iconst 2, 1) := by decide +kernel
theorem d_Mo_bytes_57 : decode b_Mo_bytes 57 = .ok (.invokevirtual 103, 3) := by decide +kernel
theorem d_Mo_bytes_60 : decode b_Mo_bytes 60 = .ok (.ireturn, 1) := by decide +kernel
theorem d_Mo_bytes_61 : decode b_Mo_bytes 61 = .ok (.iconst 0, 1) := by decide +kernel
theorem d_Mo_bytes_62 : decode b_Mo_bytes 62 = .ok (.istore 6, 2) := by decide +kernel
theorem d_Mo_bytes_64 : decode b_Mo_bytes 64 = .ok (.iconst 0, 1) := by decide +kernel
theorem d_Mo_bytes_65 : decode b_Mo_bytes 65 = .ok (.istore 7, 2) := by decide +kernel
theorem d_Mo_bytes_67 : decode b_Mo_bytes 67 = .ok (.iload 7, 2) := by decide +kernel
theorem d_Mo_bytes_69 : decode b_Mo_bytes 69 = .ok (.iconst 4, 1) := by decide +kernel
theorem d_Mo_bytes_70 : decode b_Mo_bytes 70 = .ok (.if_icmp .ge 57, 3) := by decide +kernel
theorem d_Mo_bytes_73 : decode b_Mo_bytes 73 = .ok (.iload_n 3, 1) := by decide +kernel
theorem d_Mo_bytes_74 : decode b_Mo_bytes 74 = .ok (.iload 7, 2) := by decide +kernel
theorem d_Mo_bytes_76 : decode b_Mo_bytes 76 = .ok (.iadd, 1) := by decide +kernel
theorem d_Mo_bytes_77 : decode b_Mo_bytes 77 = .ok (.aload_n 0, 1) := by decide +kernel
theorem d_Mo_bytes_78 : decode b_Mo_bytes 78 = .ok (.getfield 19, 3) := by decide +kernel
theorem d_Mo_bytes_81 : decode b_Mo_bytes 81 = .ok (.iload 5, 2) := by decide +kernel
theorem d_Mo_bytes_83 : decode b_Mo_bytes 83 = .ok (.iaload, 1) := by decide +kernel
theorem d_Mo_bytes_84 : decode b_Mo_bytes 84 = .ok (.if_icmp .ge 43, 3) := by decide +kernel
theorem d_Mo_bytes_87 : decode b_Mo_bytes 87 = .ok (.aload_n 0, 1) := by decide +kernel
theorem d_Mo_bytes_88 : decode b_Mo_bytes 88 = .ok (.getfield 22, 3) := by decide +kernel
theorem d_Mo_bytes_91 : decode b_Mo_bytes 91 = .ok (.sipush 128, 3) := by decide +kernel
theorem d_Mo_bytes_94 : decode b_Mo_bytes 94 = .ok (.iload 5, 2) := by decide +kernel
theorem d_Mo_bytes_96 : decode b_Mo_bytes 96 = .ok (.imul, 1) := by decide +kernel
theorem d_Mo_bytes_97 : decode b_Mo_bytes 97 = .ok (.iload_n 3, 1) := by decide +kernel
theorem d_Mo_bytes_98 : decode b_Mo_bytes 98 = .ok (.iadd, 1) := by decide +kernel
theorem d_Mo_bytes_99 : decode b_Mo_bytes 99 = .ok (.iload 7, 2) := by decide +kernel
theorem d_Mo_bytes_101 : decode b_Mo_bytes 101 = .ok (.iadd, 1) := by decide +kernel
theorem d_Mo_bytes_102 : decode b_Mo_bytes 102 = .ok (.iload 4, 2) := by decide +kernel
theorem d_Mo_bytes_104 : decode b_Mo_bytes 104 = .ok (.bipush 24, 2) := by decide +kernel
theorem d_Mo_bytes_106 : decode b_Mo_bytes 106 = .ok (.bipush 8, 2) := by decide +kernel
theorem d_Mo_bytes_108 : decode b_Mo_bytes 108 = .ok (.iload 7, 2) := by decide +kernel
theorem d_Mo_bytes_110 : decode b_Mo_bytes 110 = .ok (.imul, 1) := by decide +kernel
theorem d_Mo_bytes_111 : decode b_Mo_bytes 111 = .ok (.isub, 1) := by decide +kernel
theorem d_Mo_bytes_112 : decode b_Mo_bytes 112 = .ok (.ishr, 1) := by decide +kernel
theorem d_Mo_bytes_113 : decode b_Mo_bytes 113 = .ok (.sipush 255, 3) := by decide +kernel
theorem d_Mo_bytes_116 : decode b_Mo_bytes 116 = .ok (.iand, 1) := by decide +kernel
theorem d_Mo_bytes_117 : decode b_Mo_bytes 117 = .ok (.iastore, 1) := by decide +kernel
theorem d_Mo_bytes_118 : decode b_Mo_bytes 118 = .ok (.iinc 6 1, 3) := by decide +kernel
theorem d_Mo_bytes_121 : decode b_Mo_bytes 121 = .ok (.iinc 7 1, 3) := by decide +kernel
theorem d_Mo_bytes_124 : decode b_Mo_bytes 124 = .ok (.goto (-57), 3) := by decide +kernel
theorem d_Mo_bytes_127 : decode b_Mo_bytes 127 = .ok (.iload 6, 2) := by decide +kernel
theorem d_Mo_bytes_129 : decode b_Mo_bytes 129 = .ok (.ireturn, 1) := by decide +kernel
theorem d_Mo_hasSection_0 : decode b_Mo_hasSection 0 = .ok (.iload_n 2, 1) := by decide +kernel
theorem d_Mo_hasSection_1 : decode b_Mo_hasSection 1 = .ok (.iconst 0, 1) := by decide +kernel
theorem d_Mo_hasSection_2 : decode b_Mo_hasSection 2 = .ok (.aload_n 0, 1) := by decide +kernel
theorem d_Mo_hasSection_3 : decode b_Mo_hasSection 3 = .ok (.getfield 7, 3) := by decide +kernel
theorem d_Mo_hasSection_6 : decode b_Mo_hasSection 6 = .ok (.iload_n 1, 1) := by decide +kernel
theorem d_Mo_hasSection_7 : decode b_Mo_hasSection 7 = .ok (.iaload, 1) := by decide +kernel
theorem d_Mo_hasSection_8 : decode b_Mo_hasSection 8 = .ok (.iconst 1, 1) := by decide +kernel
theorem d_Mo_hasSection_9 : decode b_Mo_hasSection 9 = .ok (.isub, 1) := by decide +kernel
theorem d_Mo_hasSection_10 : decode b_Mo_hasSection 10 = .ok (.invokestatic 99, 3) := by decide +kernel
theorem d_Mo_hasSection_13 : decode b_Mo_hasSection 13 = .ok (.ireturn, 1) := by decide +kernel
theorem d_Mo_name_0 : decode b_Mo_name 0 = .ok (.aload_n 0, 1) := by decide +kernel
theorem d_Mo_name_1 : decode b_Mo_name 1 = .ok (.iload_n 1, 1) := by decide +kernel
theorem d_Mo_name_2 : decode b_Mo_name 2 = .ok (.invokevirtual 111, 3) := by decide +kernel
theorem d_Mo_name_5 : decode b_Mo_name 5 = .ok (.ifCond .ne 5, 3) := by decide +kernel
theorem d_Mo_name_8 : decode b_Mo_name 8 = .ok (.iconst 0, 1) := by decide +kernel
theorem d_Mo_name_9 : decode b_Mo_name 9 = .ok (.ireturn, 1) := by decide +kernel
theorem d_Mo_name_10 : decode b_Mo_name 10 = .ok (.aload_n 0, 1) := by decide +kernel
theorem d_Mo_name_11 : decode b_Mo_name 11 = .ok (.iload_n 1, 1) := by decide +kernel
theorem d_Mo_name_12 : decode b_Mo_name 12 = .ok (.iload_n 2, 1) := by decide +kernel
theorem d_Mo_name_13 : decode b_Mo_name 13 = .ok (.iload_n 3, 1) := by decide +kernel
theorem d_Mo_name_14 : decode b_Mo_name 14 = .ok (.iload 4, 2) := by decide +kernel
theorem d_Mo_name_16 : decode b_Mo_name 16 = .ok (.iload 5, 2) := by decide +kernel
theorem d_Mo_name_18 : decode b_Mo_name 18 = .ok (.invokevirtual 129, 3) := by decide +kernel
theorem d_Mo_name_21 : decode b_Mo_name 21 = .ok (.ifCond .ne 9, 3) := by decide +kernel
theorem d_Mo_name_24 : decode b_Mo_name 24 = .ok (.aload_n 0, 1) := by decide +kernel
theorem d_Mo_name_25 : decode b_Mo_name 25 = .ok (.iconst 2, 1) := by decide +kernel
theorem d_Mo_name_26 : decode b_Mo_name 26 = .ok (.invokevirtual 103, 3) := by decide +kernel
theorem d_Mo_name_29 : decode b_Mo_name 29 = .ok (.ireturn, 1) := by decide +kernel
theorem d_Mo_name_30 : decode b_Mo_name 30 = .ok (.aload_n 0, 1) := by decide +kernel
theorem d_Mo_name_31 : decode b_Mo_name 31 = .ok (.getfield 25, 3) := by decide +kernel
theorem d_Mo_name_34 : decode b_Mo_name 34 = .ok (.iload_n 1, 1) := by decide +kernel
theorem d_Mo_name_35 : decode b_Mo_name 35 = .ok (.iaload, 1) := by decide +kernel
theorem d_Mo_name_36 : decode b_Mo_name 36 = .ok (.bipush 12, 2) := by decide +kernel
theorem d_Mo_name_38 : decode b_Mo_name 38 = .ok (.if_icmp .ne 9, 3) := by decide +kernel
theorem d_Mo_name_41 : decode b_Mo_name 41 = .ok (.aload_n 0, 1) := by decide +kernel
theorem d_Mo_name_42 : decode b_Mo_name 42 = .ok (.iconst 3, 1) := by decide +kernel
theorem d_Mo_name_43 : decode b_Mo_name 43 = .ok (.invokevirtual 103, 3) := by decide +kernel
theorem d_Mo_name_46 : decode b_Mo_name 46 = .ok (.ireturn, 1) := by decide +kernel
theorem d_Mo_name_47 : decode b_Mo_name 47 = .ok (.aload_n 0, 1) := by decide +kernel
theorem d_Mo_name_48 : decode b_Mo_name 48 = .ok (.iload_n 1, 1) := by decide +kernel
theorem d_Mo_name_49 : decode b_Mo_name 49 = .ok (.iload_n 2, 1) := by decide +kernel
theorem d_Mo_name_50 : decode b_Mo_name 50 = .ok (.iload_n 3, 1) := by decide +kernel
theorem d_Mo_name_51 : decode b_Mo_name 51 = .ok (.iload 4, 2) := by decide +kernel
theorem d_Mo_name_53 : decode b_Mo_name 53 = .ok (.iload 5, 2) := by decide +kernel
theorem d_Mo_name_55 : decode b_Mo_name 55 = .ok (.invokevirtual 133, 3) := by decide +kernel
theorem d_Mo_name_58 : decode b_Mo_name 58 = .ok (.aload_n 0, 1) := by decide +kernel
theorem d_Mo_name_59 : decode b_Mo_name 59 = .ok (.getfield 25, 3) := by decide +kernel
theorem d_Mo_name_62 : decode b_Mo_name 62 = .ok (.iload_n 1, 1) := by decide +kernel
theorem d_Mo_name_63 : decode b_Mo_name 63 = .ok (.iaload, 1) := by decide +kernel
theorem d_Mo_name_64 : decode b_Mo_name 64 = .ok (.iconst 1, 1) := by decide +kernel
theorem d_Mo_name_65 : decode b_Mo_name 65 = .ok (.isub, 1) := by decide +kernel
theorem d_Mo_name_66 : decode b_Mo_name 66 = .ok (.ireturn, 1) := by decide +kernel
theorem d_Mo_isName_0 : decode b_Mo_isName 0 = .ok (.iload_n 3, 1) := by decide +kernel
theorem d_Mo_isName_1 : decode b_Mo_isName 1 = .ok (.iconst 0, 1) := by decide +kernel
theorem d_Mo_isName_2 : decode b_Mo_isName 2 = .ok (.iconst 3, 1) := by decide +kernel
theorem d_Mo_isName_3 : decode b_Mo_isName 3 = .ok (.invokestatic 99, 3) := by decide +kernel
theorem d_Mo_isName_6 : decode b_Mo_isName 6 = .ok (.ifCond .eq 12, 3) := by decide +kernel
theorem d_Mo_isName_9 : decode b_Mo_isName 9 = .ok (.aload_n 0, 1) := by decide +kernel
theorem d_Mo_isName_10 : decode b_Mo_isName 10 = .ok (.iload_n 1, 1) := by decide +kernel
theorem d_Mo_isName_11 : decode b_Mo_isName 11 = .ok (.iload_n 2, 1) := by decide +kernel
theorem d_Mo_isName_12 : decode b_Mo_isName 12 = .ok (.invokevirtual 126, 3) := by decide +kernel
theorem d_Mo_isName_15 : decode b_Mo_isName 15 = .ok (.ifCond .eq 5, 3) := by decide +kernel
theorem d_Mo_isName_18 : decode b_Mo_isName 18 = .ok (.iconst 0, 1) := by decide +kernel
theorem d_Mo_isName_19 : decode b_Mo_isName 19 = .ok (.ireturn, 1) := by decide +kernel
theorem d_Mo_isName_20 : decode b_Mo_isName 20 = .ok (.iload_n 3, 1) := by decide +kernel
theorem d_Mo_isName_21 : decode b_Mo_isName 21 = .ok (.iconst 3, 1) := by decide +kernel
theorem d_Mo_isName_22 : decode b_Mo_isName 22 = .ok (.if_icmp .ne 19, 3) := by decide +kernel
theorem d_Mo_isName_25 : decode b_Mo_isName 25 = .ok (.iload 4, 2) := by decide +kernel
theorem d_Mo_isName_27 : decode b_Mo_isName 27 = .ok (.ifCond .ne 12, 3) := by decide +kernel
theorem d_Mo_isName_30 : decode b_Mo_isName 30 = .ok (.iload 5, 2) := by decide +kernel
theorem d_Mo_isName_32 : decode b_Mo_isName 32 = .ok (.ifCond .ne 7, 3) := by decide +kernel
theorem d_Mo_isName_35 : decode b_Mo_isName 35 = .ok (.iconst 1, 1) := by decide +kernel
theorem d_Mo_isName_36 : decode b_Mo_isName 36 = .ok (.goto 4, 3) := by decide +kernel
theorem d_Mo_isName_39 : decode b_Mo_isName 39 = .ok (.iconst 0, 1) := by decide +kernel
theorem d_Mo_isName_40 : decode b_Mo_isName 40 = .ok (.ireturn, 1) := by decide +kernel
theorem d_Mo_isName_41 : decode b_Mo_isName 41 = .ok (.iload_n 3, 1) := by decide +kernel
theorem d_Mo_isName_42 : decode b_Mo_isName 42 = .ok (.iconst 2, 1) := by decide +kernel
theorem d_Mo_isName_43 : decode b_Mo_isName 43 = .ok (.if_icmp .ne 32, 3) := by decide +kernel
theorem d_Mo_isName_46 : decode b_Mo_isName 46 = .ok (.iload 4, 2) := by decide +kernel
theorem d_Mo_isName_48 : decode b_Mo_isName 48 = .ok (.iconst 0, 1) := by decide +kernel
theorem d_Mo_isName_49 : decode b_Mo_isName 49 = .ok (.bipush 6, 2) := by decide +kernel
theorem d_Mo_isName_51 : decode b_Mo_isName 51 = .ok (.invokestatic 99, 3) := by decide +kernel
theorem d_Mo_isName_54 : decode b_Mo_isName 54 = .ok (.ifCond .eq 19, 3) := by decide +kernel
theorem d_Mo_isName_57 : decode b_Mo_isName 57 = .ok (.iload 5, 2) := by decide +kernel
theorem d_Mo_isName_59 : decode b_Mo_isName 59 = .ok (.iconst 1, 1) := by decide +kernel
theorem d_Mo_isName_60 : decode b_Mo_isName 60 = .ok (.sipush 1024, 3) := by decide +kernel
theorem d_Mo_isName_63 : decode b_Mo_isName 63 = .ok (.invokestatic 99, 3) := by decide +kernel
theorem d_Mo_isName_66 : decode b_Mo_isName 66 = .ok (.ifCond .eq 7, 3) := by decide +kernel
theorem d_Mo_isName_69 : decode b_Mo_isName 69 = .ok (.iconst 1, 1) := by decide +kernel
theorem d_Mo_isName_70 : decode b_Mo_isName 70 = .ok (.goto 4, 3) := by decide +kernel
theorem d_Mo_isName_73 : decode b_Mo_isName 73 = .ok (.iconst 0, 1) := by decide +kernel
theorem d_Mo_isName_74 : decode b_Mo_isName 74 = .ok (.ireturn, 1) := by decide +kernel
theorem d_Mo_isName_75 : decode b_Mo_isName 75 = .ok (.aload_n 0, 1) := by decide +kernel
theorem d_Mo_isName_76 : decode b_Mo_isName 76 = .ok (.iload_n 1, 1) := by decide +kernel
theorem d_Mo_isName_77 : decode b_Mo_isName 77 = .ok (.iload 4, 2) := by decide +kernel
theorem d_Mo_isName_79 : decode b_Mo_isName 79 = .ok (.invokevirtual 122, 3) := by decide +kernel
theorem d_Mo_isName_82 : decode b_Mo_isName 82 = .ok (.ifCond .eq 28, 3) := by decide +kernel
theorem d_Mo_isName_85 : decode b_Mo_isName 85 = .ok (.iload 5, 2) := by decide +kernel
theorem d_Mo_isName_87 : decode b_Mo_isName 87 = .ok (.iconst 0, 1) := by decide +kernel
theorem d_Mo_isName_88 : decode b_Mo_isName 88 = .ok (.aload_n 0, 1) := by decide +kernel
theorem d_Mo_isName_89 : decode b_Mo_isName 89 = .ok (.getfield 19, 3) := by decide +kernel
theorem d_Mo_isName_92 : decode b_Mo_isName 92 = .ok (.bipush 8, 2) := by decide +kernel
theorem d_Mo_isName_94 : decode b_Mo_isName 94 = .ok (.iload_n 1, 1) := by decide +kernel
theorem d_Mo_isName_95 : decode b_Mo_isName 95 = .ok (.imul, 1) := by decide +kernel
theorem d_Mo_isName_96 : decode b_Mo_isName 96 = .ok (.iload 4, 2) := by decide +kernel
theorem d_Mo_isName_98 : decode b_Mo_isName 98 = .ok (.iadd, 1) := by decide +kernel
theorem d_Mo_isName_99 : decode b_Mo_isName 99 = .ok (.iaload, 1) := by decide +kernel
theorem d_Mo_isName_100 : decode b_Mo_isName 100 = .ok (.invokestatic 99, 3) := by decide +kernel
theorem d_Mo_isName_103 : decode b_Mo_isName 103 = .ok (.ifCond .eq 7, 3) := by decide +kernel
theorem d_Mo_isName_106 : decode b_Mo_isName 106 = .ok (.iconst 1, 1) := by decide +kernel
theorem d_Mo_isName_107 : decode b_Mo_isName 107 = .ok (.goto 4, 3) := by decide +kernel
theorem d_Mo_isName_110 : decode b_Mo_isName 110 = .ok (.iconst 0, 1) := by decide +kernel
theorem d_Mo_isName_111 : decode b_Mo_isName 111 = .ok (.ireturn, 1) := by decide +kernel
theorem d_Mo_hasName_0 : decode b_Mo_hasName 0 = .ok (.iconst 0, 1) := by decide +kernel
theorem d_Mo_hasName_1 : decode b_Mo_hasName 1 = .ok (.istore_n 3, 1) := by decide +kernel
theorem d_Mo_hasName_2 : decode b_Mo_hasName 2 = .ok (.iconst 0, 1) := by decide +kernel
theorem d_Mo_hasName_3 : decode b_Mo_hasName 3 = .ok (.istore 4, 2) := by decide +kernel
theorem d_Mo_hasName_5 : decode b_Mo_hasName 5 = .ok (.iload 4, 2) := by decide +kernel
theorem d_Mo_hasName_7 : decode b_Mo_hasName 7 = .ok (.aload_n 0, 1) := by decide +kernel
theorem d_Mo_hasName_8 : decode b_Mo_hasName 8 = .ok (.getfield 25, 3) := by decide +kernel
theorem d_Mo_hasName_11 : decode b_Mo_hasName 11 = .ok (.iload_n 1, 1) := by decide +kernel
theorem d_Mo_hasName_12 : decode b_Mo_hasName 12 = .ok (.iaload, 1) := by decide +kernel
theorem d_Mo_hasName_13 : decode b_Mo_hasName 13 = .ok (.if_icmp .ge 35, 3) := by decide +kernel
theorem d_Mo_hasName_16 : decode b_Mo_hasName 16 = .ok (.iload_n 3, 1) := by decide +kernel
theorem d_Mo_hasName_17 : decode b_Mo_hasName 17 = .ok (.ifCond .ne 19, 3) := by decide +kernel
theorem d_Mo_hasName_20 : decode b_Mo_hasName 20 = .ok (.aload_n 0, 1) := by decide +kernel
theorem d_Mo_hasName_21 : decode b_Mo_hasName 21 = .ok (.getfield 28, 3) := by decide +kernel
theorem d_Mo_hasName_24 : decode b_Mo_hasName 24 = .ok (.bipush 12, 2) := by decide +kernel
theorem d_Mo_hasName_26 : decode b_Mo_hasName 26 = .ok (.iload_n 1, 1) := by decide +kernel
theorem d_Mo_hasName_27 : decode b_Mo_hasName 27 = .ok (.imul, 1) := by decide +kernel
theorem d_Mo_hasName_28 : decode b_Mo_hasName 28 = .ok (.iload 4, 2) := by decide +kernel
theorem d_Mo_hasName_30 : decode b_Mo_hasName 30 = .ok (.iadd, 1) := by decide +kernel
theorem d_Mo_hasName_31 : decode b_Mo_hasName 31 = .ok (.iaload, 1) := by decide +kernel
theorem d_Mo_hasName_32 : decode b_Mo_hasName 32 = .ok (.iload_n 2, 1) := by decide +kernel
theorem d_Mo_hasName_33 : decode b_Mo_hasName 33 = .ok (.if_icmp .ne 7, 3) := by decide +kernel
theorem d_Mo_hasName_36 : decode b_Mo_hasName 36 = .ok (.iconst 1, 1) := by decide +kernel
theorem d_Mo_hasName_37 : decode b_Mo_hasName 37 = .ok (.goto 4, 3) := by decide +kernel
theorem d_Mo_hasName_40 : decode b_Mo_hasName 40 = .ok (.iconst 0, 1) := by decide +kernel
theorem d_Mo_hasName_41 : decode b_Mo_hasName 41 = .ok (.istore_n 3, 1) := by decide +kernel
theorem d_Mo_hasName_42 : decode b_Mo_hasName 42 = .ok (.iinc 4 1, 3) := by decide +kernel
theorem d_Mo_hasName_45 : decode b_Mo_hasName 45 = .ok (.goto (-40), 3) := by decide +kernel
theorem d_Mo_hasName_48 : decode b_Mo_hasName 48 = .ok (.iload_n 3, 1) := by decide +kernel
theorem d_Mo_hasName_49 : decode b_Mo_hasName 49 = .ok (.ireturn, 1) := by decide +kernel
theorem d_Mo_addName_0 : decode b_Mo_addName 0 = .ok (.bipush 12, 2) := by decide +kernel
theorem d_Mo_addName_2 : decode b_Mo_addName 2 = .ok (.iload_n 1, 1) := by decide +kernel
theorem d_Mo_addName_3 : decode b_Mo_addName 3 = .ok (.imul, 1) := by decide +kernel
theorem d_Mo_addName_4 : decode b_Mo_addName 4 = .ok (.aload_n 0, 1) := by decide +kernel
theorem d_Mo_addName_5 : decode b_Mo_addName 5 = .ok (.getfield 25, 3) := by decide +kernel
theorem d_Mo_addName_8 : decode b_Mo_addName 8 = .ok (.iload_n 1, 1) := by decide +kernel
theorem d_Mo_addName_9 : decode b_Mo_addName 9 = .ok (.iaload, 1) := by decide +kernel
theorem d_Mo_addName_10 : decode b_Mo_addName 10 = .ok (.iadd, 1) := by decide +kernel
theorem d_Mo_addName_11 : decode b_Mo_addName 11 = .ok (.istore 6, 2) := by decide +kernel
theorem d_Mo_addName_13 : decode b_Mo_addName 13 = .ok (.aload_n 0, 1) := by decide +kernel
theorem d_Mo_addName_14 : decode b_Mo_addName 14 = .ok (.getfield 28, 3) := by decide +kernel
theorem d_Mo_addName_17 : decode b_Mo_addName 17 = .ok (.iload 6, 2) := by decide +kernel
theorem d_Mo_addName_19 : decode b_Mo_addName 19 = .ok (.iload_n 2, 1) := by decide +kernel
theorem d_Mo_addName_20 : decode b_Mo_addName 20 = .ok (.iastore, 1) := by decide +kernel
theorem d_Mo_addName_21 : decode b_Mo_addName 21 = .ok (.aload_n 0, 1) := by decide +kernel
theorem d_Mo_addName_22 : decode b_Mo_addName 22 = .ok (.getfield 31, 3) := by decide +kernel
theorem d_Mo_addName_25 : decode b_Mo_addName 25 = .ok (.iload 6, 2) := by decide +kernel
theorem d_Mo_addName_27 : decode b_Mo_addName 27 = .ok (.iload_n 3, 1) := by decide +kernel
theorem d_Mo_addName_28 : decode b_Mo_addName 28 = .ok (.iastore, 1) := by decide +kernel
theorem d_Mo_addName_29 : decode b_Mo_addName 29 = .ok (.aload_n 0, 1) := by decide +kernel
theorem d_Mo_addName_30 : decode b_Mo_addName 30 = .ok (.getfield 34, 3) := by decide +kernel
theorem d_Mo_addName_33 : decode b_Mo_addName 33 = .ok (.iload 6, 2) := by decide +kernel
theorem d_Mo_addName_35 : decode b_Mo_addName 35 = .ok (.iload 4, 2) := by decide +kernel
theorem d_Mo_addName_37 : decode b_Mo_addName 37 = .ok (.iastore, 1) := by decide +kernel
theorem d_Mo_addName_38 : decode b_Mo_addName 38 = .ok (.aload_n 0, 1) := by decide +kernel
theorem d_Mo_addName_39 : decode b_Mo_addName 39 = .ok (.getfield 37, 3) := by decide +kernel
theorem d_Mo_addName_42 : decode b_Mo_addName 42 = .ok (.iload 6, 2) := by decide +kernel
theorem d_Mo_addName_44 : decode b_Mo_addName 44 = .ok (.iload 5, 2) := by decide +kernel
theorem d_Mo_addName_46 : decode b_Mo_addName 46 = .ok (.iastore, 1) := by decide +kernel
theorem d_Mo_addName_47 : decode b_Mo_addName 47 = .ok (.aload_n 0, 1) := by decide +kernel
theorem d_Mo_addName_48 : decode b_Mo_addName 48 = .ok (.getfield 25, 3) := by decide +kernel
theorem d_Mo_addName_51 : decode b_Mo_addName 51 = .ok (.iload_n 1, 1) := by decide +kernel
theorem d_Mo_addName_52 : decode b_Mo_addName 52 = .ok (.dup2, 1) := by decide +kernel
theorem d_Mo_addName_53 : decode b_Mo_addName 53 = .ok (.iaload, 1) := by decide +kernel
theorem d_Mo_addName_54 : decode b_Mo_addName 54 = .ok (.iconst 1, 1) := by decide +kernel
theorem d_Mo_addName_55 : decode b_Mo_addName 55 = .ok (.iadd, 1) := by decide +kernel
theorem d_Mo_addName_56 : decode b_Mo_addName 56 = .ok (.iastore, 1) := by decide +kernel
theorem d_Mo_addName_57 : decode b_Mo_addName 57 = .ok (.return_, 1) := by decide +kernel
theorem d_Mo_reference_0 : decode b_Mo_reference 0 = .ok (.aload_n 0, 1) := by decide +kernel
theorem d_Mo_reference_1 : decode b_Mo_reference 1 = .ok (.iload_n 1, 1) := by decide +kernel
theorem d_Mo_reference_2 : decode b_Mo_reference 2 = .ok (.invokevirtual 111, 3) := by decide +kernel
theorem d_Mo_reference_5 : decode b_Mo_reference 5 = .ok (.ifCond .ne 5, 3) := by decide +kernel
theorem d_Mo_reference_8 : decode b_Mo_reference 8 = .ok (.iconst 0, 1) := by decide +kernel
theorem d_Mo_reference_9 : decode b_Mo_reference 9 = .ok (.ireturn, 1) := by decide +kernel
theorem d_Mo_reference_10 : decode b_Mo_reference 10 = .ok (.aload_n 0, 1) := by decide +kernel
theorem d_Mo_reference_11 : decode b_Mo_reference 11 = .ok (.iload_n 1, 1) := by decide +kernel
theorem d_Mo_reference_12 : decode b_Mo_reference 12 = .ok (.iload_n 2, 1) := by decide +kernel
theorem d_Mo_reference_13 : decode b_Mo_reference 13 = .ok (.iload_n 3, 1) := by decide +kernel
theorem d_Mo_reference_14 : decode b_Mo_reference 14 = .ok (.iload 4, 2) := by decide +kernel
theorem d_Mo_reference_16 : decode b_Mo_reference 16 = .ok (.iload 5, 2) := by decide +kernel
theorem d_Mo_reference_18 : decode b_Mo_reference 18 = .ok (.invokevirtual 137, 3) := by decide +kernel
theorem d_Mo_reference_21 : decode b_Mo_reference 21 = .ok (.ifCond .ne 9, 3) := by decide +kernel
theorem d_Mo_reference_24 : decode b_Mo_reference 24 = .ok (.aload_n 0, 1) := by decide +kernel
theorem d_Mo_reference_25 : decode b_Mo_reference 25 = .ok (.iconst 2, 1) := by decide +kernel
theorem d_Mo_reference_26 : decode b_Mo_reference 26 = .ok (.invokevirtual 103, 3) := by decide +kernel
theorem d_Mo_reference_29 : decode b_Mo_reference 29 = .ok (.ireturn, 1) := by decide +kernel
theorem d_Mo_reference_30 : decode b_Mo_reference 30 = .ok (.aload_n 0, 1) := by decide +kernel
theorem d_Mo_reference_31 : decode b_Mo_reference 31 = .ok (.getfield 40, 3) := by decide +kernel
theorem d_Mo_reference_34 : decode b_Mo_reference 34 = .ok (.iload_n 1, 1) := by decide +kernel
theorem d_Mo_reference_35 : decode b_Mo_reference 35 = .ok (.iaload, 1) := by decide +kernel
theorem d_Mo_reference_36 : decode b_Mo_reference 36 = .ok (.bipush 16, 2) := by decide +kernel
theorem d_Mo_reference_38 : decode b_Mo_reference 38 = .ok (.if_icmp .ne 9, 3) := by decide +kernel
theorem d_Mo_reference_41 : decode b_Mo_reference 41 = .ok (.aload_n 0, 1) := by decide +kernel
theorem d_Mo_reference_42 : decode b_Mo_reference 42 = .ok (.iconst 3, 1) := by decide +kernel
theorem d_Mo_reference_43 : decode b_Mo_reference 43 = .ok (.invokevirtual 103, 3) := by decide +kernel
theorem d_Mo_reference_46 : decode b_Mo_reference 46 = .ok (.ireturn, 1) := by decide +kernel
theorem d_Mo_reference_47 : decode b_Mo_reference 47 = .ok (.aload_n 0, 1) := by decide +kernel
theorem d_Mo_reference_48 : decode b_Mo_reference 48 = .ok (.iload_n 1, 1) := by decide +kernel
theorem d_Mo_reference_49 : decode b_Mo_reference 49 = .ok (.iload_n 2, 1) := by decide +kernel
theorem d_Mo_reference_50 : decode b_Mo_reference 50 = .ok (.iload_n 3, 1) := by decide +kernel
theorem d_Mo_reference_51 : decode b_Mo_reference 51 = .ok (.iload 4, 2) := by decide +kernel
theorem d_Mo_reference_53 : decode b_Mo_reference 53 = .ok (.iload 5, 2) := by decide +kernel
theorem d_Mo_reference_55 : decode b_Mo_reference 55 = .ok (.iload 6, 2) := by decide +kernel
theorem d_Mo_reference_57 : decode b_Mo_reference 57 = .ok (.invokevirtual 140, 3) := by decide +kernel
theorem d_Mo_reference_60 : decode b_Mo_reference 60 = .ok (.aload_n 0, 1) := by decide +kernel
theorem d_Mo_reference_61 : decode b_Mo_reference 61 = .ok (.getfield 40, 3) := by decide +kernel
theorem d_Mo_reference_64 : decode b_Mo_reference 64 = .ok (.iload_n 1, 1) := by decide +kernel
theorem d_Mo_reference_65 : decode b_Mo_reference 65 = .ok (.iaload, 1) := by decide +kernel
theorem d_Mo_reference_66 : decode b_Mo_reference 66 = .ok (.iconst 1, 1) := by decide +kernel
theorem d_Mo_reference_67 : decode b_Mo_reference 67 = .ok (.isub, 1) := by decide +kernel
theorem d_Mo_reference_68 : decode b_Mo_reference 68 = .ok (.ireturn, 1) := by decide +kernel
theorem d_Mo_isReference_0 : decode b_Mo_isReference 0 = .ok (.aload_n 0, 1) := by decide +kernel
theorem d_Mo_isReference_1 : decode b_Mo_isReference 1 = .ok (.iload_n 1, 1) := by decide +kernel
theorem d_Mo_isReference_2 : decode b_Mo_isReference 2 = .ok (.iload_n 2, 1) := by decide +kernel
theorem d_Mo_isReference_3 : decode b_Mo_isReference 3 = .ok (.invokevirtual 122, 3) := by decide +kernel
theorem d_Mo_isReference_6 : decode b_Mo_isReference 6 = .ok (.ifCond .eq 68, 3) := by decide +kernel
theorem d_Mo_isReference_9 : decode b_Mo_isReference 9 = .ok (.aload_n 0, 1) := by decide +kernel
theorem d_Mo_isReference_10 : decode b_Mo_isReference 10 = .ok (.getfield 13, 3) := by decide +kernel
theorem d_Mo_isReference_13 : decode b_Mo_isReference 13 = .ok (.bipush 8, 2) := by decide +kernel
theorem d_Mo_isReference_15 : decode b_Mo_isReference 15 = .ok (.iload_n 1, 1) := by decide +kernel
theorem d_Mo_isReference_16 : decode b_Mo_isReference 16 = .ok (.imul, 1) := by decide +kernel
theorem d_Mo_isReference_17 : decode b_Mo_isReference 17 = .ok (.iload_n 2, 1) := by decide +kernel
theorem d_Mo_isReference_18 : decode b_Mo_isReference 18 = .ok (.iadd, 1) := by decide +kernel
theorem d_Mo_isReference_19 : decode b_Mo_isReference 19 = .ok (.iaload, 1) := by decide +kernel
theorem d_Mo_isReference_20 : decode b_Mo_isReference 20 = .ok (.iconst 3, 1) := by decide +kernel
theorem d_Mo_isReference_21 : decode b_Mo_isReference 21 = .ok (.if_icmp .eq 53, 3) := by decide +kernel
theorem d_Mo_isReference_24 : decode b_Mo_isReference 24 = .ok (.iload_n 3, 1) := by decide +kernel
theorem d_Mo_isReference_25 : decode b_Mo_isReference 25 = .ok (.iconst 0, 1) := by decide +kernel
theorem d_Mo_isReference_26 : decode b_Mo_isReference 26 = .ok (.aload_n 0, 1) := by decide +kernel
theorem d_Mo_isReference_27 : decode b_Mo_isReference 27 = .ok (.getfield 19, 3) := by decide +kernel
theorem d_Mo_isReference_30 : decode b_Mo_isReference 30 = .ok (.bipush 8, 2) := by decide +kernel
theorem d_Mo_isReference_32 : decode b_Mo_isReference 32 = .ok (.iload_n 1, 1) := by decide +kernel
theorem d_Mo_isReference_33 : decode b_Mo_isReference 33 = .ok (.imul, 1) := by decide +kernel
theorem d_Mo_isReference_34 : decode b_Mo_isReference 34 = .ok (.iload_n 2, 1) := by decide +kernel
theorem d_Mo_isReference_35 : decode b_Mo_isReference 35 = .ok (.iadd, 1) := by decide +kernel
theorem d_Mo_isReference_36 : decode b_Mo_isReference 36 = .ok (.iaload, 1) := by decide +kernel
theorem d_Mo_isReference_37 : decode b_Mo_isReference 37 = .ok (.invokestatic 99, 3) := by decide +kernel
theorem d_Mo_isReference_40 : decode b_Mo_isReference 40 = .ok (.ifCond .eq 34, 3) := by decide +kernel
theorem d_Mo_isReference_43 : decode b_Mo_isReference 43 = .ok (.iload 4, 2) := by decide +kernel
theorem d_Mo_isReference_45 : decode b_Mo_isReference 45 = .ok (.iconst 0, 1) := by decide +kernel
theorem d_Mo_isReference_46 : decode b_Mo_isReference 46 = .ok (.iconst 4, 1) := by decide +kernel
theorem d_Mo_isReference_47 : decode b_Mo_isReference 47 = .ok (.invokestatic 99, 3) := by decide +kernel
theorem d_Mo_isReference_50 : decode b_Mo_isReference 50 = .ok (.ifCond .eq 24, 3) := by decide +kernel
theorem d_Mo_isReference_53 : decode b_Mo_isReference 53 = .ok (.iload 5, 2) := by decide +kernel
theorem d_Mo_isReference_55 : decode b_Mo_isReference 55 = .ok (.iconst 0, 1) := by decide +kernel
theorem d_Mo_isReference_56 : decode b_Mo_isReference 56 = .ok (.aload_n 0, 1) := by decide +kernel
theorem d_Mo_isReference_57 : decode b_Mo_isReference 57 = .ok (.getfield 25, 3) := by decide +kernel
theorem d_Mo_isReference_60 : decode b_Mo_isReference 60 = .ok (.iload_n 1, 1) := by decide +kernel
theorem d_Mo_isReference_61 : decode b_Mo_isReference 61 = .ok (.iaload, 1) := by decide +kernel
theorem d_Mo_isReference_62 : decode b_Mo_isReference 62 = .ok (.iconst 1, 1) := by decide +kernel
theorem d_Mo_isReference_63 : decode b_Mo_isReference 63 = .ok (.isub, 1) := by decide +kernel
theorem d_Mo_isReference_64 : decode b_Mo_isReference 64 = .ok (.invokestatic 99, 3) := by decide +kernel
theorem d_Mo_isReference_67 : decode b_Mo_isReference 67 = .ok (.ifCond .eq 7, 3) := by decide +kernel
theorem d_Mo_isReference_70 : decode b_Mo_isReference 70 = .ok (.iconst 1, 1) := by decide +kernel
theorem d_Mo_isReference_71 : decode b_Mo_isReference 71 = .ok (.goto 4, 3) := by decide +kernel
theorem d_Mo_isReference_74 : decode b_Mo_isReference 74 = .ok (.iconst 0, 1) := by decide +kernel
theorem d_Mo_isReference_75 : decode b_Mo_isReference 75 = .ok (.ireturn, 1) := by decide +kernel
theorem d_Mo_addReference_0 : decode b_Mo_addReference 0 = .ok (.bipush 16, 2) := by decide +kernel
theorem d_Mo_addReference_2 : decode b_Mo_addReference 2 = .ok (.iload_n 1, 1) := by decide +kernel
theorem d_Mo_addReference_3 : decode b_Mo_addReference 3 = .ok (.imul, 1) := by decide +kernel
theorem d_Mo_addReference_4 : decode b_Mo_addReference 4 = .ok (.aload_n 0, 1) := by decide +kernel
theorem d_Mo_addReference_5 : decode b_Mo_addReference 5 = .ok (.getfield 40, 3) := by decide +kernel
theorem d_Mo_addReference_8 : decode b_Mo_addReference 8 = .ok (.iload_n 1, 1) := by decide +kernel
theorem d_Mo_addReference_9 : decode b_Mo_addReference 9 = .ok (.iaload, 1) := by decide +kernel
theorem d_Mo_addReference_10 : decode b_Mo_addReference 10 = .ok (.iadd, 1) := by decide +kernel
theorem d_Mo_addReference_11 : decode b_Mo_addReference 11 = .ok (.istore 7, 2) := by decide +kernel
theorem d_Mo_addReference_13 : decode b_Mo_addReference 13 = .ok (.aload_n 0, 1) := by decide +kernel
theorem d_Mo_addReference_14 : decode b_Mo_addReference 14 = .ok (.getfield 43, 3) := by decide +kernel
theorem d_Mo_addReference_17 : decode b_Mo_addReference 17 = .ok (.iload 7, 2) := by decide +kernel
theorem d_Mo_addReference_19 : decode b_Mo_addReference 19 = .ok (.iload_n 2, 1) := by decide +kernel
theorem d_Mo_addReference_20 : decode b_Mo_addReference 20 = .ok (.iastore, 1) := by decide +kernel
theorem d_Mo_addReference_21 : decode b_Mo_addReference 21 = .ok (.aload_n 0, 1) := by decide +kernel
theorem d_Mo_addReference_22 : decode b_Mo_addReference 22 = .ok (.getfield 46, 3) := by decide +kernel
theorem d_Mo_addReference_25 : decode b_Mo_addReference 25 = .ok (.iload 7, 2) := by decide +kernel
theorem d_Mo_addReference_27 : decode b_Mo_addReference 27 = .ok (.iload_n 3, 1) := by decide +kernel
theorem d_Mo_addReference_28 : decode b_Mo_addReference 28 = .ok (.iastore, 1) := by decide +kernel
theorem d_Mo_addReference_29 : decode b_Mo_addReference 29 = .ok (.aload_n 0, 1) := by decide +kernel
theorem d_Mo_addReference_30 : decode b_Mo_addReference 30 = .ok (.getfield 49, 3) := by decide +kernel
theorem d_Mo_addReference_33 : decode b_Mo_addReference 33 = .ok (.iload 7, 2) := by decide +kernel
theorem d_Mo_addReference_35 : decode b_Mo_addReference 35 = .ok (.iload 4, 2) := by decide +kernel
theorem d_Mo_addReference_37 : decode b_Mo_addReference 37 = .ok (.iastore, 1) := by decide +kernel
theorem d_Mo_addReference_38 : decode b_Mo_addReference 38 = .ok (.aload_n 0, 1) := by decide +kernel
theorem d_Mo_addReference_39 : decode b_Mo_addReference 39 = .ok (.getfield 52, 3) := by decide +kernel
theorem d_Mo_addReference_42 : decode b_Mo_addReference 42 = .ok (.iload 7, 2) := by decide +kernel
theorem d_Mo_addReference_44 : decode b_Mo_addReference 44 = .ok (.iload 5, 2) := by decide +kernel
theorem d_Mo_addReference_46 : decode b_Mo_addReference 46 = .ok (.iastore, 1) := by decide +kernel
theorem d_Mo_addReference_47 : decode b_Mo_addReference 47 = .ok (.aload_n 0, 1) := by decide +kernel
theorem d_Mo_addReference_48 : decode b_Mo_addReference 48 = .ok (.getfield 55, 3) := by decide +kernel
theorem d_Mo_addReference_51 : decode b_Mo_addReference 51 = .ok (.iload 7, 2) := by decide +kernel
theorem d_Mo_addReference_53 : decode b_Mo_addReference 53 = .ok (.iload 6, 2) := by decide +kernel
theorem d_Mo_addReference_55 : decode b_Mo_addReference 55 = .ok (.iastore, 1) := by decide +kernel
theorem d_Mo_addReference_56 : decode b_Mo_addReference 56 = .ok (.aload_n 0, 1) := by decide +kernel
theorem d_Mo_addReference_57 : decode b_Mo_addReference 57 = .ok (.getfield 40, 3) := by decide +kernel
theorem d_Mo_addReference_60 : decode b_Mo_addReference 60 = .ok (.iload_n 1, 1) := by decide +kernel
theorem d_Mo_addReference_61 : decode b_Mo_addReference 61 = .ok (.dup2, 1) := by decide +kernel
theorem d_Mo_addReference_62 : decode b_Mo_addReference 62 = .ok (.iaload, 1) := by decide +kernel
theorem d_Mo_addReference_63 : decode b_Mo_addReference 63 = .ok (.iconst 1, 1) := by decide +kernel
theorem d_Mo_addReference_64 : decode b_Mo_addReference 64 = .ok (.iadd, 1) := by decide +kernel
theorem d_Mo_addReference_65 : decode b_Mo_addReference 65 = .ok (.iastore, 1) := by decide +kernel
theorem d_Mo_addReference_66 : decode b_Mo_addReference 66 = .ok (.return_, 1) := by decide +kernel
theorem d_Mo_choose_0 : decode b_Mo_choose 0 = .ok (.aload_n 0, 1) := by decide +kernel
theorem d_Mo_choose_1 : decode b_Mo_choose 1 = .ok (.iload_n 1, 1) := by decide +kernel
theorem d_Mo_choose_2 : decode b_Mo_choose 2 = .ok (.invokevirtual 111, 3) := by decide +kernel
theorem d_Mo_choose_5 : decode b_Mo_choose 5 = .ok (.ifCond .ne 5, 3) := by decide +kernel
theorem d_Mo_choose_8 : decode b_Mo_choose 8 = .ok (.iconst 0, 1) := by decide +kernel
theorem d_Mo_choose_9 : decode b_Mo_choose 9 = .ok (.ireturn, 1) := by decide +kernel
theorem d_Mo_choose_10 : decode b_Mo_choose 10 = .ok (.iconst 0, 1) := by decide +kernel
theorem d_Mo_choose_11 : decode b_Mo_choose 11 = .ok (.istore_n 2, 1) := by decide +kernel
theorem d_Mo_choose_12 : decode b_Mo_choose 12 = .ok (.iload_n 2, 1) := by decide +kernel
theorem d_Mo_choose_13 : decode b_Mo_choose 13 = .ok (.aload_n 0, 1) := by decide +kernel
theorem d_Mo_choose_14 : decode b_Mo_choose 14 = .ok (.getfield 144, 3) := by decide +kernel
theorem d_Mo_choose_17 : decode b_Mo_choose 17 = .ok (.if_icmp .ge 25, 3) := by decide +kernel
theorem d_Mo_choose_20 : decode b_Mo_choose 20 = .ok (.aload_n 0, 1) := by decide +kernel
theorem d_Mo_choose_21 : decode b_Mo_choose 21 = .ok (.getfield 58, 3) := by decide +kernel
theorem d_Mo_choose_24 : decode b_Mo_choose 24 = .ok (.iload_n 2, 1) := by decide +kernel
theorem d_Mo_choose_25 : decode b_Mo_choose 25 = .ok (.iaload, 1) := by decide +kernel
theorem d_Mo_choose_26 : decode b_Mo_choose 26 = .ok (.iload_n 1, 1) := by decide +kernel
theorem d_Mo_choose_27 : decode b_Mo_choose 27 = .ok (.if_icmp .ne 9, 3) := by decide +kernel
theorem d_Mo_choose_30 : decode b_Mo_choose 30 = .ok (.aload_n 0, 1) := by decide +kernel
theorem d_Mo_choose_31 : decode b_Mo_choose 31 = .ok (.iconst 2, 1) := by decide +kernel
theorem d_Mo_choose_32 : decode b_Mo_choose 32 = .ok (.invokevirtual 103, 3) := by decide +kernel
theorem d_Mo_choose_35 : decode b_Mo_choose 35 = .ok (.ireturn, 1) := by decide +kernel
theorem d_Mo_choose_36 : decode b_Mo_choose 36 = .ok (.iinc 2 1, 3) := by decide +kernel
theorem d_Mo_choose_39 : decode b_Mo_choose 39 = .ok (.goto (-27), 3) := by decide +kernel
theorem d_Mo_choose_42 : decode b_Mo_choose 42 = .ok (.aload_n 0, 1) := by decide +kernel
theorem d_Mo_choose_43 : decode b_Mo_choose 43 = .ok (.getfield 58, 3) := by decide +kernel
theorem d_Mo_choose_46 : decode b_Mo_choose 46 = .ok (.aload_n 0, 1) := by decide +kernel
theorem d_Mo_choose_47 : decode b_Mo_choose 47 = .ok (.getfield 144, 3) := by decide +kernel
theorem d_Mo_choose_50 : decode b_Mo_choose 50 = .ok (.iload_n 1, 1) := by decide +kernel
theorem d_Mo_choose_51 : decode b_Mo_choose 51 = .ok (.iastore, 1) := by decide +kernel
theorem d_Mo_choose_52 : decode b_Mo_choose 52 = .ok (.aload_n 0, 1) := by decide +kernel
theorem d_Mo_choose_53 : decode b_Mo_choose 53 = .ok (.dup, 1) := by decide +kernel
theorem d_Mo_choose_54 : decode b_Mo_choose 54 = .ok (.getfield 144, 3) := by decide +kernel
theorem d_Mo_choose_57 : decode b_Mo_choose 57 = .ok (.iconst 1, 1) := by decide +kernel
theorem d_Mo_choose_58 : decode b_Mo_choose 58 = .ok (.iadd, 1) := by decide +kernel
theorem d_Mo_choose_59 : decode b_Mo_choose 59 = .ok (.putfield 144, 3) := by decide +kernel
theorem d_Mo_choose_62 : decode b_Mo_choose 62 = .ok (.aload_n 0, 1) := by decide +kernel
theorem d_Mo_choose_63 : decode b_Mo_choose 63 = .ok (.getfield 144, 3) := by decide +kernel
theorem d_Mo_choose_66 : decode b_Mo_choose 66 = .ok (.ireturn, 1) := by decide +kernel
theorem d_Mo_link_0 : decode b_Mo_link 0 = .ok (.aload_n 0, 1) := by decide +kernel
theorem d_Mo_link_1 : decode b_Mo_link 1 = .ok (.iconst 0, 1) := by decide +kernel
theorem d_Mo_link_2 : decode b_Mo_link 2 = .ok (.putfield 93, 3) := by decide +kernel
theorem d_Mo_link_5 : decode b_Mo_link 5 = .ok (.iload_n 2, 1) := by decide +kernel
theorem d_Mo_link_6 : decode b_Mo_link 6 = .ok (.iconst 0, 1) := by decide +kernel
theorem d_Mo_link_7 : decode b_Mo_link 7 = .ok (.ldc 229, 2) := by decide +kernel
theorem d_Mo_link_9 : decode b_Mo_link 9 = .ok (.invokestatic 99, 3) := by decide +kernel
theorem d_Mo_link_12 : decode b_Mo_link 12 = .ok (.ifCond .ne 9, 3) := by decide +kernel
theorem d_Mo_link_15 : decode b_Mo_link 15 = .ok (.aload_n 0, 1) := by decide +kernel
theorem d_Mo_link_16 : decode b_Mo_link 16 = .ok (.iconst 1, 1) := by decide +kernel
theorem d_Mo_link_17 : decode b_Mo_link 17 = .ok (.invokevirtual 103, 3) := by decide +kernel
theorem d_Mo_link_20 : decode b_Mo_link 20 = .ok (.ireturn, 1) := by decide +kernel
theorem d_Mo_link_21 : decode b_Mo_link 21 = .ok (.aload_n 0, 1) := by decide +kernel
theorem d_Mo_link_22 : decode b_Mo_link 22 = .ok (.getfield 144, 3) := by decide +kernel
theorem d_Mo_link_25 : decode b_Mo_link 25 = .ok (.ifCond .ne 9, 3) := by decide +kernel
theorem d_Mo_link_28 : decode b_Mo_link 28 = .ok (.aload_n 0, 1) := by decide +kernel
theorem d_Mo_link_29 : decode b_Mo_link 29 = .ok (.iconst 2, 1) := by decide +kernel
theorem d_Mo_link_30 : decode b_Mo_link 30 = .ok (.invokevirtual 103, 3) := by decide +kernel
theorem d_Mo_link_33 : decode b_Mo_link 33 = .ok (.ireturn, 1) := by decide +kernel
theorem d_Mo_link_34 : decode b_Mo_link 34 = .ok (.aload_n 0, 1) := by decide +kernel
theorem d_Mo_link_35 : decode b_Mo_link 35 = .ok (.iload_n 2, 1) := by decide +kernel
theorem d_Mo_link_36 : decode b_Mo_link 36 = .ok (.putfield 176, 3) := by decide +kernel
theorem d_Mo_link_39 : decode b_Mo_link 39 = .ok (.aload_n 0, 1) := by decide +kernel
theorem d_Mo_link_40 : decode b_Mo_link 40 = .ok (.iconst 0, 1) := by decide +kernel
theorem d_Mo_link_41 : decode b_Mo_link 41 = .ok (.putfield 154, 3) := by decide +kernel
theorem d_Mo_link_44 : decode b_Mo_link 44 = .ok (.aload_n 0, 1) := by decide +kernel
theorem d_Mo_link_45 : decode b_Mo_link 45 = .ok (.iconst (-1), 1) := by decide +kernel
theorem d_Mo_link_46 : decode b_Mo_link 46 = .ok (.putfield 74, 3) := by decide +kernel
theorem d_Mo_link_49 : decode b_Mo_link 49 = .ok (.aload_n 0, 1) := by decide +kernel
theorem d_Mo_link_50 : decode b_Mo_link 50 = .ok (.iconst (-1), 1) := by decide +kernel
theorem d_Mo_link_51 : decode b_Mo_link 51 = .ok (.putfield 78, 3) := by decide +kernel
theorem d_Mo_link_54 : decode b_Mo_link 54 = .ok (.aload_n 0, 1) := by decide +kernel
theorem d_Mo_link_55 : decode b_Mo_link 55 = .ok (.invokevirtual 230, 3) := by decide +kernel
theorem d_Mo_link_58 : decode b_Mo_link 58 = .ok (.aload_n 0, 1) := by decide +kernel
theorem d_Mo_link_59 : decode b_Mo_link 59 = .ok (.getfield 154, 3) := by decide +kernel
theorem d_Mo_link_62 : decode b_Mo_link 62 = .ok (.ifCond .ne 8, 3) := by decide +kernel
theorem d_Mo_link_65 : decode b_Mo_link 65 = .ok (.aload_n 0, 1) := by decide +kernel
theorem d_Mo_link_66 : decode b_Mo_link 66 = .ok (.iload_n 1, 1) := by decide +kernel
theorem d_Mo_link_67 : decode b_Mo_link 67 = .ok (.invokevirtual 233, 3) := by decide +kernel
theorem d_Mo_link_70 : decode b_Mo_link 70 = .ok (.aload_n 0, 1) := by decide +kernel
theorem d_Mo_link_71 : decode b_Mo_link 71 = .ok (.getfield 154, 3) := by decide +kernel
theorem d_Mo_link_74 : decode b_Mo_link 74 = .ok (.ifCond .ne 7, 3) := by decide +kernel
theorem d_Mo_link_77 : decode b_Mo_link 77 = .ok (.aload_n 0, 1) := by decide +kernel
theorem d_Mo_link_78 : decode b_Mo_link 78 = .ok (.invokevirtual 236, 3) := by decide +kernel
theorem d_Mo_link_81 : decode b_Mo_link 81 = .ok (.aload_n 0, 1) := by decide +kernel
theorem d_Mo_link_82 : decode b_Mo_link 82 = .ok (.getfield 154, 3) := by decide +kernel
theorem d_Mo_link_85 : decode b_Mo_link 85 = .ok (.ifCond .ne 82, 3) := by decide +kernel
theorem d_Mo_link_88 : decode b_Mo_link 88 = .ok (.aload_n 0, 1) := by decide +kernel
theorem d_Mo_link_89 : decode b_Mo_link 89 = .ok (.invokevirtual 239, 3) := by decide +kernel
theorem d_Mo_link_92 : decode b_Mo_link 92 = .ok (.iconst 0, 1) := by decide +kernel
theorem d_Mo_link_93 : decode b_Mo_link 93 = .ok (.istore_n 3, 1) := by decide +kernel
theorem d_Mo_link_94 : decode b_Mo_link 94 = .ok (.iload_n 3, 1) := by decide +kernel
theorem d_Mo_link_95 : decode b_Mo_link 95 = .ok (.aload_n 0, 1) := by decide +kernel
theorem d_Mo_link_96 : decode b_Mo_link 96 = .ok (.getfield 144, 3) := by decide +kernel
theorem d_Mo_link_99 : decode b_Mo_link 99 = .ok (.if_icmp .ge 68, 3) := by decide +kernel
theorem d_Mo_link_102 : decode b_Mo_link 102 = .ok (.iconst 0, 1) := by decide +kernel
theorem d_Mo_link_103 : decode b_Mo_link 103 = .ok (.istore 4, 2) := by decide +kernel
theorem d_Mo_link_105 : decode b_Mo_link 105 = .ok (.iload 4, 2) := by decide +kernel
theorem d_Mo_link_107 : decode b_Mo_link 107 = .ok (.aload_n 0, 1) := by decide +kernel
theorem d_Mo_link_108 : decode b_Mo_link 108 = .ok (.getfield 40, 3) := by decide +kernel
theorem d_Mo_link_111 : decode b_Mo_link 111 = .ok (.aload_n 0, 1) := by decide +kernel
theorem d_Mo_link_112 : decode b_Mo_link 112 = .ok (.getfield 58, 3) := by decide +kernel
theorem d_Mo_link_115 : decode b_Mo_link 115 = .ok (.iload_n 3, 1) := by decide +kernel
theorem d_Mo_link_116 : decode b_Mo_link 116 = .ok (.iaload, 1) := by decide +kernel
theorem d_Mo_link_117 : decode b_Mo_link 117 = .ok (.iaload, 1) := by decide +kernel
theorem d_Mo_link_118 : decode b_Mo_link 118 = .ok (.if_icmp .ge 43, 3) := by decide +kernel
theorem d_Mo_link_121 : decode b_Mo_link 121 = .ok (.aload_n 0, 1) := by decide +kernel
theorem d_Mo_link_122 : decode b_Mo_link 122 = .ok (.getfield 154, 3) := by decide +kernel
theorem d_Mo_link_125 : decode b_Mo_link 125 = .ok (.ifCond .ne 30, 3) := by decide +kernel
theorem d_Mo_link_128 : decode b_Mo_link 128 = .ok (.aload_n 0, 1) := by decide +kernel
theorem d_Mo_link_129 : decode b_Mo_link 129 = .ok (.aload_n 0, 1) := by decide +kernel
theorem d_Mo_link_130 : decode b_Mo_link 130 = .ok (.getfield 58, 3) := by decide +kernel
theorem d_Mo_link_133 : decode b_Mo_link 133 = .ok (.iload_n 3, 1) := by decide +kernel
theorem d_Mo_link_134 : decode b_Mo_link 134 = .ok (.iaload, 1) := by decide +kernel
theorem d_Mo_link_135 : decode b_Mo_link 135 = .ok (.iload 4, 2) := by decide +kernel
theorem d_Mo_link_137 : decode b_Mo_link 137 = .ok (.invokevirtual 164, 3) := by decide +kernel
theorem d_Mo_link_140 : decode b_Mo_link 140 = .ok (.ifCond .eq 15, 3) := by decide +kernel
theorem d_Mo_link_143 : decode b_Mo_link 143 = .ok (.aload_n 0, 1) := by decide +kernel
theorem d_Mo_link_144 : decode b_Mo_link 144 = .ok (.aload_n 0, 1) := by decide +kernel
theorem d_Mo_link_145 : decode b_Mo_link 145 = .ok (.getfield 58, 3) := by decide +kernel
theorem d_Mo_link_148 : decode b_Mo_link 148 = .ok (.iload_n 3, 1) := by decide +kernel
theorem d_Mo_link_149 : decode b_Mo_link 149 = .ok (.iaload, 1) := by decide +kernel
theorem d_Mo_link_150 : decode b_Mo_link 150 = .ok (.iload 4, 2) := by decide +kernel
theorem d_Mo_link_152 : decode b_Mo_link 152 = .ok (.invokevirtual 242, 3) := by decide +kernel
theorem d_Mo_link_155 : decode b_Mo_link 155 = .ok (.iinc 4 1, 3) := by decide +kernel
theorem d_Mo_link_158 : decode b_Mo_link 158 = .ok (.goto (-53), 3) := by decide +kernel
theorem d_Mo_link_161 : decode b_Mo_link 161 = .ok (.iinc 3 1, 3) := by decide +kernel
theorem d_Mo_link_164 : decode b_Mo_link 164 = .ok (.goto (-70), 3) := by decide +kernel
theorem d_Mo_link_167 : decode b_Mo_link 167 = .ok (.aload_n 0, 1) := by decide +kernel
theorem d_Mo_link_168 : decode b_Mo_link 168 = .ok (.aload_n 0, 1) := by decide +kernel
theorem d_Mo_link_169 : decode b_Mo_link 169 = .ok (.getfield 154, 3) := by decide +kernel
theorem d_Mo_link_172 : decode b_Mo_link 172 = .ok (.ifCond .ne 7, 3) := by decide +kernel
theorem d_Mo_link_175 : decode b_Mo_link 175 = .ok (.iconst 1, 1) := by decide +kernel
theorem d_Mo_link_176 : decode b_Mo_link 176 = .ok (.goto 4, 3) := by decide +kernel
theorem d_Mo_link_179 : decode b_Mo_link 179 = .ok (.iconst 0, 1) := by decide +kernel
theorem d_Mo_link_180 : decode b_Mo_link 180 = .ok (.putfield 225, 3) := by decide +kernel
theorem d_Mo_link_183 : decode b_Mo_link 183 = .ok (.aload_n 0, 1) := by decide +kernel
theorem d_Mo_link_184 : decode b_Mo_link 184 = .ok (.getfield 225, 3) := by decide +kernel
theorem d_Mo_link_187 : decode b_Mo_link 187 = .ok (.ifCond .eq 10, 3) := by decide +kernel
theorem d_Mo_link_190 : decode b_Mo_link 190 = .ok (.aload_n 0, 1) := by decide +kernel
theorem d_Mo_link_191 : decode b_Mo_link 191 = .ok (.invokevirtual 246, 3) := by decide +kernel
theorem d_Mo_link_194 : decode b_Mo_link 194 = .ok (.goto 7, 3) := by decide +kernel
theorem d_Mo_link_197 : decode b_Mo_link 197 = .ok (.aload_n 0, 1) := by decide +kernel
theorem d_Mo_link_198 : decode b_Mo_link 198 = .ok (.invokevirtual 249, 3) := by decide +kernel
theorem d_Mo_link_201 : decode b_Mo_link 201 = .ok (.aload_n 0, 1) := by decide +kernel
theorem d_Mo_link_202 : decode b_Mo_link 202 = .ok (.iconst 0, 1) := by decide +kernel
theorem d_Mo_link_203 : decode b_Mo_link 203 = .ok (.putfield 144, 3) := by decide +kernel
theorem d_Mo_link_206 : decode b_Mo_link 206 = .ok (.aload_n 0, 1) := by decide +kernel
theorem d_Mo_link_207 : decode b_Mo_link 207 = .ok (.getfield 225, 3) := by decide +kernel
theorem d_Mo_link_210 : decode b_Mo_link 210 = .ok (.ifCond .eq 10, 3) := by decide +kernel
theorem d_Mo_link_213 : decode b_Mo_link 213 = .ok (.aload_n 0, 1) := by decide +kernel
theorem d_Mo_link_214 : decode b_Mo_link 214 = .ok (.getfield 192, 3) := by decide +kernel
theorem d_Mo_link_217 : decode b_Mo_link 217 = .ok (.goto 8, 3) := by decide +kernel
theorem d_Mo_link_220 : decode b_Mo_link 220 = .ok (.aload_n 0, 1) := by decide +kernel
theorem d_Mo_link_221 : decode b_Mo_link 221 = .ok (.iconst 3, 1) := by decide +kernel
theorem d_Mo_link_222 : decode b_Mo_link 222 = .ok (.invokevirtual 103, 3) := by decide +kernel
theorem d_Mo_link_225 : decode b_Mo_link 225 = .ok (.ireturn, 1) := by decide +kernel
theorem d_Mo_findDoubled_0 : decode b_Mo_findDoubled 0 = .ok (.iconst 0, 1) := by decide +kernel
theorem d_Mo_findDoubled_1 : decode b_Mo_findDoubled 1 = .ok (.istore_n 1, 1) := by decide +kernel
theorem d_Mo_findDoubled_2 : decode b_Mo_findDoubled 2 = .ok (.iload_n 1, 1) := by decide +kernel
theorem d_Mo_findDoubled_3 : decode b_Mo_findDoubled 3 = .ok (.aload_n 0, 1) := by decide +kernel
theorem d_Mo_findDoubled_4 : decode b_Mo_findDoubled 4 = .ok (.getfield 144, 3) := by decide +kernel
theorem d_Mo_findDoubled_7 : decode b_Mo_findDoubled 7 = .ok (.if_icmp .ge 76, 3) := by decide +kernel
theorem d_Mo_findDoubled_10 : decode b_Mo_findDoubled 10 = .ok (.aload_n 0, 1) := by decide +kernel
theorem d_Mo_findDoubled_11 : decode b_Mo_findDoubled 11 = .ok (.getfield 58, 3) := by decide +kernel
theorem d_Mo_findDoubled_14 : decode b_Mo_findDoubled 14 = .ok (.iload_n 1, 1) := by decide +kernel
theorem d_Mo_findDoubled_15 : decode b_Mo_findDoubled 15 = .ok (.iaload, 1) := by decide +kernel
theorem d_Mo_findDoubled_16 : decode b_Mo_findDoubled 16 = .ok (.istore_n 2, 1) := by decide +kernel
theorem d_Mo_findDoubled_17 : decode b_Mo_findDoubled 17 = .ok (.iconst 0, 1) := by decide +kernel
theorem d_Mo_findDoubled_18 : decode b_Mo_findDoubled 18 = .ok (.istore_n 3, 1) := by decide +kernel
theorem d_Mo_findDoubled_19 : decode b_Mo_findDoubled 19 = .ok (.iload_n 3, 1) := by decide +kernel
theorem d_Mo_findDoubled_20 : decode b_Mo_findDoubled 20 = .ok (.aload_n 0, 1) := by decide +kernel
theorem d_Mo_findDoubled_21 : decode b_Mo_findDoubled 21 = .ok (.getfield 25, 3) := by decide +kernel
theorem d_Mo_findDoubled_24 : decode b_Mo_findDoubled 24 = .ok (.iload_n 2, 1) := by decide +kernel
theorem d_Mo_findDoubled_25 : decode b_Mo_findDoubled 25 = .ok (.iaload, 1) := by decide +kernel
theorem d_Mo_findDoubled_26 : decode b_Mo_findDoubled 26 = .ok (.if_icmp .ge 51, 3) := by decide +kernel
theorem d_Mo_findDoubled_29 : decode b_Mo_findDoubled 29 = .ok (.bipush 12, 2) := by decide +kernel
theorem d_Mo_findDoubled_31 : decode b_Mo_findDoubled 31 = .ok (.iload_n 2, 1) := by decide +kernel
theorem d_Mo_findDoubled_32 : decode b_Mo_findDoubled 32 = .ok (.imul, 1) := by decide +kernel
theorem d_Mo_findDoubled_33 : decode b_Mo_findDoubled 33 = .ok (.iload_n 3, 1) := by decide +kernel
theorem d_Mo_findDoubled_34 : decode b_Mo_findDoubled 34 = .ok (.iadd, 1) := by decide +kernel
theorem d_Mo_findDoubled_35 : decode b_Mo_findDoubled 35 = .ok (.istore 4, 2) := by decide +kernel
theorem d_Mo_findDoubled_37 : decode b_Mo_findDoubled 37 = .ok (.aload_n 0, 1) := by decide +kernel
theorem d_Mo_findDoubled_38 : decode b_Mo_findDoubled 38 = .ok (.getfield 31, 3) := by decide +kernel
theorem d_Mo_findDoubled_41 : decode b_Mo_findDoubled 41 = .ok (.iload 4, 2) := by decide +kernel
theorem d_Mo_findDoubled_43 : decode b_Mo_findDoubled 43 = .ok (.iaload, 1) := by decide +kernel
theorem d_Mo_findDoubled_44 : decode b_Mo_findDoubled 44 = .ok (.ifCond .ne 27, 3) := by decide +kernel
theorem d_Mo_findDoubled_47 : decode b_Mo_findDoubled 47 = .ok (.aload_n 0, 1) := by decide +kernel
theorem d_Mo_findDoubled_48 : decode b_Mo_findDoubled 48 = .ok (.aload_n 0, 1) := by decide +kernel
theorem d_Mo_findDoubled_49 : decode b_Mo_findDoubled 49 = .ok (.getfield 28, 3) := by decide +kernel
theorem d_Mo_findDoubled_52 : decode b_Mo_findDoubled 52 = .ok (.iload 4, 2) := by decide +kernel
theorem d_Mo_findDoubled_54 : decode b_Mo_findDoubled 54 = .ok (.iaload, 1) := by decide +kernel
theorem d_Mo_findDoubled_55 : decode b_Mo_findDoubled 55 = .ok (.iconst 0, 1) := by decide +kernel
theorem d_Mo_findDoubled_56 : decode b_Mo_findDoubled 56 = .ok (.invokevirtual 147, 3) := by decide +kernel
theorem d_Mo_findDoubled_59 : decode b_Mo_findDoubled 59 = .ok (.iload 4, 2) := by decide +kernel
theorem d_Mo_findDoubled_61 : decode b_Mo_findDoubled 61 = .ok (.if_icmp .eq 10, 3) := by decide +kernel
theorem d_Mo_findDoubled_64 : decode b_Mo_findDoubled 64 = .ok (.aload_n 0, 1) := by decide +kernel
theorem d_Mo_findDoubled_65 : decode b_Mo_findDoubled 65 = .ok (.iconst 1, 1) := by decide +kernel
theorem d_Mo_findDoubled_66 : decode b_Mo_findDoubled 66 = .ok (.iload_n 2, 1) := by decide +kernel
theorem d_Mo_findDoubled_67 : decode b_Mo_findDoubled 67 = .ok (.iload_n 3, 1) := by decide +kernel
theorem d_Mo_findDoubled_68 : decode b_Mo_findDoubled 68 = .ok (.invokevirtual 157, 3) := by decide +kernel
theorem d_Mo_findDoubled_71 : decode b_Mo_findDoubled 71 = .ok (.iinc 3 1, 3) := by decide +kernel
theorem d_Mo_findDoubled_74 : decode b_Mo_findDoubled 74 = .ok (.goto (-55), 3) := by decide +kernel
theorem d_Mo_findDoubled_77 : decode b_Mo_findDoubled 77 = .ok (.iinc 1 1, 3) := by decide +kernel
theorem d_Mo_findDoubled_80 : decode b_Mo_findDoubled 80 = .ok (.goto (-78), 3) := by decide +kernel
theorem d_Mo_findDoubled_83 : decode b_Mo_findDoubled 83 = .ok (.return_, 1) := by decide +kernel
theorem d_Mo_firstOf_0 : decode b_Mo_firstOf 0 = .ok (.iconst 0, 1) := by decide +kernel
theorem d_Mo_firstOf_1 : decode b_Mo_firstOf 1 = .ok (.istore_n 3, 1) := by decide +kernel
theorem d_Mo_firstOf_2 : decode b_Mo_firstOf 2 = .ok (.iload_n 3, 1) := by decide +kernel
theorem d_Mo_firstOf_3 : decode b_Mo_firstOf 3 = .ok (.aload_n 0, 1) := by decide +kernel
theorem d_Mo_firstOf_4 : decode b_Mo_firstOf 4 = .ok (.getfield 144, 3) := by decide +kernel
theorem d_Mo_firstOf_7 : decode b_Mo_firstOf 7 = .ok (.if_icmp .ge 73, 3) := by decide +kernel
theorem d_Mo_firstOf_10 : decode b_Mo_firstOf 10 = .ok (.aload_n 0, 1) := by decide +kernel
theorem d_Mo_firstOf_11 : decode b_Mo_firstOf 11 = .ok (.getfield 58, 3) := by decide +kernel
theorem d_Mo_firstOf_14 : decode b_Mo_firstOf 14 = .ok (.iload_n 3, 1) := by decide +kernel
theorem d_Mo_firstOf_15 : decode b_Mo_firstOf 15 = .ok (.iaload, 1) := by decide +kernel
theorem d_Mo_firstOf_16 : decode b_Mo_firstOf 16 = .ok (.istore 4, 2) := by decide +kernel
theorem d_Mo_firstOf_18 : decode b_Mo_firstOf 18 = .ok (.bipush 12, 2) := by decide +kernel
theorem d_Mo_firstOf_20 : decode b_Mo_firstOf 20 = .ok (.iload 4, 2) := by decide +kernel
theorem d_Mo_firstOf_22 : decode b_Mo_firstOf 22 = .ok (.imul, 1) := by decide +kernel
theorem d_Mo_firstOf_23 : decode b_Mo_firstOf 23 = .ok (.istore 5, 2) := by decide +kernel
theorem d_Mo_firstOf_25 : decode b_Mo_firstOf 25 = .ok (.iload 5, 2) := by decide +kernel
theorem d_Mo_firstOf_27 : decode b_Mo_firstOf 27 = .ok (.bipush 12, 2) := by decide +kernel
theorem d_Mo_firstOf_29 : decode b_Mo_firstOf 29 = .ok (.iload 4, 2) := by decide +kernel
theorem d_Mo_firstOf_31 : decode b_Mo_firstOf 31 = .ok (.imul, 1) := by decide +kernel
theorem d_Mo_firstOf_32 : decode b_Mo_firstOf 32 = .ok (.aload_n 0, 1) := by decide +kernel
theorem d_Mo_firstOf_33 : decode b_Mo_firstOf 33 = .ok (.getfield 25, 3) := by decide +kernel
theorem d_Mo_firstOf_36 : decode b_Mo_firstOf 36 = .ok (.iload 4, 2) := by decide +kernel
theorem d_Mo_firstOf_38 : decode b_Mo_firstOf 38 = .ok (.iaload, 1) := by decide +kernel
theorem d_Mo_firstOf_39 : decode b_Mo_firstOf 39 = .ok (.iadd, 1) := by decide +kernel
theorem d_Mo_firstOf_40 : decode b_Mo_firstOf 40 = .ok (.if_icmp .ge 34, 3) := by decide +kernel
theorem d_Mo_firstOf_43 : decode b_Mo_firstOf 43 = .ok (.aload_n 0, 1) := by decide +kernel
theorem d_Mo_firstOf_44 : decode b_Mo_firstOf 44 = .ok (.getfield 28, 3) := by decide +kernel
theorem d_Mo_firstOf_47 : decode b_Mo_firstOf 47 = .ok (.iload 5, 2) := by decide +kernel
theorem d_Mo_firstOf_49 : decode b_Mo_firstOf 49 = .ok (.iaload, 1) := by decide +kernel
theorem d_Mo_firstOf_50 : decode b_Mo_firstOf 50 = .ok (.iload_n 1, 1) := by decide +kernel
theorem d_Mo_firstOf_51 : decode b_Mo_firstOf 51 = .ok (.if_icmp .ne 17, 3) := by decide +kernel
theorem d_Mo_firstOf_54 : decode b_Mo_firstOf 54 = .ok (.aload_n 0, 1) := by decide +kernel
theorem d_Mo_firstOf_55 : decode b_Mo_firstOf 55 = .ok (.getfield 31, 3) := by decide +kernel
theorem d_Mo_firstOf_58 : decode b_Mo_firstOf 58 = .ok (.iload 5, 2) := by decide +kernel
theorem d_Mo_firstOf_60 : decode b_Mo_firstOf 60 = .ok (.iaload, 1) := by decide +kernel
theorem d_Mo_firstOf_61 : decode b_Mo_firstOf 61 = .ok (.iload_n 2, 1) := by decide +kernel
theorem d_Mo_firstOf_62 : decode b_Mo_firstOf 62 = .ok (.if_icmp .ne 6, 3) := by decide +kernel
theorem d_Mo_firstOf_65 : decode b_Mo_firstOf 65 = .ok (.iload 5, 2) := by decide +kernel
theorem d_Mo_firstOf_67 : decode b_Mo_firstOf 67 = .ok (.ireturn, 1) := by decide +kernel
theorem d_Mo_firstOf_68 : decode b_Mo_firstOf 68 = .ok (.iinc 5 1, 3) := by decide +kernel
theorem d_Mo_firstOf_71 : decode b_Mo_firstOf 71 = .ok (.goto (-46), 3) := by decide +kernel
theorem d_Mo_firstOf_74 : decode b_Mo_firstOf 74 = .ok (.iinc 3 1, 3) := by decide +kernel
theorem d_Mo_firstOf_77 : decode b_Mo_firstOf 77 = .ok (.goto (-75), 3) := by decide +kernel
theorem d_Mo_firstOf_80 : decode b_Mo_firstOf 80 = .ok (.iconst (-1), 1) := by decide +kernel
theorem d_Mo_firstOf_81 : decode b_Mo_firstOf 81 = .ok (.ireturn, 1) := by decide +kernel
theorem d_Mo_tell_0 : decode b_Mo_tell 0 = .ok (.aload_n 0, 1) := by decide +kernel
theorem d_Mo_tell_1 : decode b_Mo_tell 1 = .ok (.getfield 154, 3) := by decide +kernel
theorem d_Mo_tell_4 : decode b_Mo_tell 4 = .ok (.ifCond .le 4, 3) := by decide +kernel
theorem d_Mo_tell_7 : decode b_Mo_tell 7 = .ok (.return_, 1) := by decide +kernel
theorem d_Mo_tell_8 : decode b_Mo_tell 8 = .ok (.aload_n 0, 1) := by decide +kernel
theorem d_Mo_tell_9 : decode b_Mo_tell 9 = .ok (.iload_n 1, 1) := by decide +kernel
theorem d_Mo_tell_10 : decode b_Mo_tell 10 = .ok (.putfield 154, 3) := by decide +kernel
theorem d_Mo_tell_13 : decode b_Mo_tell 13 = .ok (.aload_n 0, 1) := by decide +kernel
theorem d_Mo_tell_14 : decode b_Mo_tell 14 = .ok (.iload_n 2, 1) := by decide +kernel
theorem d_Mo_tell_15 : decode b_Mo_tell 15 = .ok (.putfield 74, 3) := by decide +kernel
theorem d_Mo_tell_18 : decode b_Mo_tell 18 = .ok (.aload_n 0, 1) := by decide +kernel
theorem d_Mo_tell_19 : decode b_Mo_tell 19 = .ok (.iload_n 3, 1) := by decide +kernel
theorem d_Mo_tell_20 : decode b_Mo_tell 20 = .ok (.putfield 78, 3) := by decide +kernel
theorem d_Mo_tell_23 : decode b_Mo_tell 23 = .ok (.return_, 1) := by decide +kernel
theorem d_Mo_findReached_0 : decode b_Mo_findReached 0 = .ok (.iconst 0, 1) := by decide +kernel
theorem d_Mo_findReached_1 : decode b_Mo_findReached 1 = .ok (.istore_n 2, 1) := by decide +kernel
theorem d_Mo_findReached_2 : decode b_Mo_findReached 2 = .ok (.iload_n 2, 1) := by decide +kernel
theorem d_Mo_findReached_3 : decode b_Mo_findReached 3 = .ok (.bipush 96, 2) := by decide +kernel
theorem d_Mo_findReached_5 : decode b_Mo_findReached 5 = .ok (.if_icmp .ge 16, 3) := by decide +kernel
theorem d_Mo_findReached_8 : decode b_Mo_findReached 8 = .ok (.aload_n 0, 1) := by decide +kernel
theorem d_Mo_findReached_9 : decode b_Mo_findReached 9 = .ok (.getfield 61, 3) := by decide +kernel
theorem d_Mo_findReached_12 : decode b_Mo_findReached 12 = .ok (.iload_n 2, 1) := by decide +kernel
theorem d_Mo_findReached_13 : decode b_Mo_findReached 13 = .ok (.iconst 0, 1) := by decide +kernel
theorem d_Mo_findReached_14 : decode b_Mo_findReached 14 = .ok (.bastore, 1) := by decide +kernel
theorem d_Mo_findReached_15 : decode b_Mo_findReached 15 = .ok (.iinc 2 1, 3) := by decide +kernel
theorem d_Mo_findReached_18 : decode b_Mo_findReached 18 = .ok (.goto (-16), 3) := by decide +kernel
theorem d_Mo_findReached_21 : decode b_Mo_findReached 21 = .ok (.iconst 0, 1) := by decide +kernel
theorem d_Mo_findReached_22 : decode b_Mo_findReached 22 = .ok (.istore_n 2, 1) := by decide +kernel
theorem d_Mo_findReached_23 : decode b_Mo_findReached 23 = .ok (.iload_n 2, 1) := by decide +kernel
theorem d_Mo_findReached_24 : decode b_Mo_findReached 24 = .ok (.sipush 144, 3) := by decide +kernel
theorem d_Mo_findReached_27 : decode b_Mo_findReached 27 = .ok (.if_icmp .ge 16, 3) := by decide +kernel
theorem d_Mo_findReached_30 : decode b_Mo_findReached 30 = .ok (.aload_n 0, 1) := by decide +kernel
theorem d_Mo_findReached_31 : decode b_Mo_findReached 31 = .ok (.getfield 65, 3) := by decide +kernel
theorem d_Mo_findReached_34 : decode b_Mo_findReached 34 = .ok (.iload_n 2, 1) := by decide +kernel
theorem d_Mo_findReached_35 : decode b_Mo_findReached 35 = .ok (.iconst 0, 1) := by decide +kernel
theorem d_Mo_findReached_36 : decode b_Mo_findReached 36 = .ok (.bastore, 1) := by decide +kernel
theorem d_Mo_findReached_37 : decode b_Mo_findReached 37 = .ok (.iinc 2 1, 3) := by decide +kernel
theorem d_Mo_findReached_40 : decode b_Mo_findReached 40 = .ok (.goto (-17), 3) := by decide +kernel
theorem d_Mo_findReached_43 : decode b_Mo_findReached 43 = .ok (.aload_n 0, 1) := by decide +kernel
theorem d_Mo_findReached_44 : decode b_Mo_findReached 44 = .ok (.iload_n 1, 1) := by decide +kernel
theorem d_Mo_findReached_45 : decode b_Mo_findReached 45 = .ok (.invokevirtual 151, 3) := by decide +kernel
theorem d_Mo_findReached_48 : decode b_Mo_findReached 48 = .ok (.istore_n 2, 1) := by decide +kernel
theorem d_Mo_findReached_49 : decode b_Mo_findReached 49 = .ok (.iload_n 2, 1) := by decide +kernel
theorem d_Mo_findReached_50 : decode b_Mo_findReached 50 = .ok (.ifCond .ge 10, 3) := by decide +kernel
theorem d_Mo_findReached_53 : decode b_Mo_findReached 53 = .ok (.aload_n 0, 1) := by decide +kernel
theorem d_Mo_findReached_54 : decode b_Mo_findReached 54 = .ok (.iconst 2, 1) := by decide +kernel
theorem d_Mo_findReached_55 : decode b_Mo_findReached 55 = .ok (.iconst (-1), 1) := by decide +kernel
theorem d_Mo_findReached_56 : decode b_Mo_findReached 56 = .ok (.iload_n 1, 1) := by decide +kernel
theorem d_Mo_findReached_57 : decode b_Mo_findReached 57 = .ok (.invokevirtual 157, 3) := by decide +kernel
theorem d_Mo_findReached_60 : decode b_Mo_findReached 60 = .ok (.aload_n 0, 1) := by decide +kernel
theorem d_Mo_findReached_61 : decode b_Mo_findReached 61 = .ok (.iload_n 2, 1) := by decide +kernel
theorem d_Mo_findReached_62 : decode b_Mo_findReached 62 = .ok (.invokevirtual 161, 3) := by decide +kernel
theorem d_Mo_findReached_65 : decode b_Mo_findReached 65 = .ok (.istore_n 3, 1) := by decide +kernel
theorem d_Mo_findReached_66 : decode b_Mo_findReached 66 = .ok (.iload_n 3, 1) := by decide +kernel
theorem d_Mo_findReached_67 : decode b_Mo_findReached 67 = .ok (.ifCond .eq 84, 3) := by decide +kernel
theorem d_Mo_findReached_70 : decode b_Mo_findReached 70 = .ok (.iconst 0, 1) := by decide +kernel
theorem d_Mo_findReached_71 : decode b_Mo_findReached 71 = .ok (.istore_n 3, 1) := by decide +kernel
theorem d_Mo_findReached_72 : decode b_Mo_findReached 72 = .ok (.iconst 0, 1) := by decide +kernel
theorem d_Mo_findReached_73 : decode b_Mo_findReached 73 = .ok (.istore 4, 2) := by decide +kernel
theorem d_Mo_findReached_75 : decode b_Mo_findReached 75 = .ok (.iload 4, 2) := by decide +kernel
theorem d_Mo_findReached_77 : decode b_Mo_findReached 77 = .ok (.aload_n 0, 1) := by decide +kernel
theorem d_Mo_findReached_78 : decode b_Mo_findReached 78 = .ok (.getfield 144, 3) := by decide +kernel
theorem d_Mo_findReached_81 : decode b_Mo_findReached 81 = .ok (.if_icmp .ge 67, 3) := by decide +kernel
theorem d_Mo_findReached_84 : decode b_Mo_findReached 84 = .ok (.aload_n 0, 1) := by decide +kernel
theorem d_Mo_findReached_85 : decode b_Mo_findReached 85 = .ok (.getfield 58, 3) := by decide +kernel
theorem d_Mo_findReached_88 : decode b_Mo_findReached 88 = .ok (.iload 4, 2) := by decide +kernel
theorem d_Mo_findReached_90 : decode b_Mo_findReached 90 = .ok (.iaload, 1) := by decide +kernel
theorem d_Mo_findReached_91 : decode b_Mo_findReached 91 = .ok (.istore 5, 2) := by decide +kernel
theorem d_Mo_findReached_93 : decode b_Mo_findReached 93 = .ok (.iconst 0, 1) := by decide +kernel
theorem d_Mo_findReached_94 : decode b_Mo_findReached 94 = .ok (.istore 6, 2) := by decide +kernel
theorem d_Mo_findReached_96 : decode b_Mo_findReached 96 = .ok (.iload 6, 2) := by decide +kernel
theorem d_Mo_findReached_98 : decode b_Mo_findReached 98 = .ok (.aload_n 0, 1) := by decide +kernel
theorem d_Mo_findReached_99 : decode b_Mo_findReached 99 = .ok (.getfield 40, 3) := by decide +kernel
theorem d_Mo_findReached_102 : decode b_Mo_findReached 102 = .ok (.iload 5, 2) := by decide +kernel
theorem d_Mo_findReached_104 : decode b_Mo_findReached 104 = .ok (.iaload, 1) := by decide +kernel
theorem d_Mo_findReached_105 : decode b_Mo_findReached 105 = .ok (.if_icmp .ge 37, 3) := by decide +kernel
theorem d_Mo_findReached_108 : decode b_Mo_findReached 108 = .ok (.aload_n 0, 1) := by decide +kernel
theorem d_Mo_findReached_109 : decode b_Mo_findReached 109 = .ok (.iload 5, 2) := by decide +kernel
theorem d_Mo_findReached_111 : decode b_Mo_findReached 111 = .ok (.iload 6, 2) := by decide +kernel
theorem d_Mo_findReached_113 : decode b_Mo_findReached 113 = .ok (.invokevirtual 164, 3) := by decide +kernel
theorem d_Mo_findReached_116 : decode b_Mo_findReached 116 = .ok (.ifCond .eq 20, 3) := by decide +kernel
theorem d_Mo_findReached_119 : decode b_Mo_findReached 119 = .ok (.aload_n 0, 1) := by decide +kernel
theorem d_Mo_findReached_120 : decode b_Mo_findReached 120 = .ok (.aload_n 0, 1) := by decide +kernel
theorem d_Mo_findReached_121 : decode b_Mo_findReached 121 = .ok (.iload 5, 2) := by decide +kernel
theorem d_Mo_findReached_123 : decode b_Mo_findReached 123 = .ok (.iload 6, 2) := by decide +kernel
theorem d_Mo_findReached_125 : decode b_Mo_findReached 125 = .ok (.invokevirtual 167, 3) := by decide +kernel
theorem d_Mo_findReached_128 : decode b_Mo_findReached 128 = .ok (.invokevirtual 161, 3) := by decide +kernel
theorem d_Mo_findReached_131 : decode b_Mo_findReached 131 = .ok (.ifCond .eq 5, 3) := by decide +kernel
theorem d_Mo_findReached_134 : decode b_Mo_findReached 134 = .ok (.iconst 1, 1) := by decide +kernel
theorem d_Mo_findReached_135 : decode b_Mo_findReached 135 = .ok (.istore_n 3, 1) := by decide +kernel
theorem d_Mo_findReached_136 : decode b_Mo_findReached 136 = .ok (.iinc 6 1, 3) := by decide +kernel
theorem d_Mo_findReached_139 : decode b_Mo_findReached 139 = .ok (.goto (-43), 3) := by decide +kernel
theorem d_Mo_findReached_142 : decode b_Mo_findReached 142 = .ok (.iinc 4 1, 3) := by decide +kernel
theorem d_Mo_findReached_145 : decode b_Mo_findReached 145 = .ok (.goto (-70), 3) := by decide +kernel
theorem d_Mo_findReached_148 : decode b_Mo_findReached 148 = .ok (.goto (-82), 3) := by decide +kernel
theorem d_Mo_findReached_151 : decode b_Mo_findReached 151 = .ok (.iconst 0, 1) := by decide +kernel
theorem d_Mo_findReached_152 : decode b_Mo_findReached 152 = .ok (.istore 4, 2) := by decide +kernel
theorem d_Mo_findReached_154 : decode b_Mo_findReached 154 = .ok (.iload 4, 2) := by decide +kernel
theorem d_Mo_findReached_156 : decode b_Mo_findReached 156 = .ok (.aload_n 0, 1) := by decide +kernel
theorem d_Mo_findReached_157 : decode b_Mo_findReached 157 = .ok (.getfield 144, 3) := by decide +kernel
theorem d_Mo_findReached_160 : decode b_Mo_findReached 160 = .ok (.if_icmp .ge 70, 3) := by decide +kernel
theorem d_Mo_findReached_163 : decode b_Mo_findReached 163 = .ok (.aload_n 0, 1) := by decide +kernel
theorem d_Mo_findReached_164 : decode b_Mo_findReached 164 = .ok (.getfield 58, 3) := by decide +kernel
theorem d_Mo_findReached_167 : decode b_Mo_findReached 167 = .ok (.iload 4, 2) := by decide +kernel
theorem d_Mo_findReached_169 : decode b_Mo_findReached 169 = .ok (.iaload, 1) := by decide +kernel
theorem d_Mo_findReached_170 : decode b_Mo_findReached 170 = .ok (.istore 5, 2) := by decide +kernel
theorem d_Mo_findReached_172 : decode b_Mo_findReached 172 = .ok (.iconst 0, 1) := by decide +kernel
theorem d_Mo_findReached_173 : decode b_Mo_findReached 173 = .ok (.istore 6, 2) := by decide +kernel
theorem d_Mo_findReached_175 : decode b_Mo_findReached 175 = .ok (.iload 6, 2) := by decide +kernel
theorem d_Mo_findReached_177 : decode b_Mo_findReached 177 = .ok (.aload_n 0, 1) := by decide +kernel
theorem d_Mo_findReached_178 : decode b_Mo_findReached 178 = .ok (.getfield 40, 3) := by decide +kernel
theorem d_Mo_findReached_181 : decode b_Mo_findReached 181 = .ok (.iload 5, 2) := by decide +kernel
theorem d_Mo_findReached_183 : decode b_Mo_findReached 183 = .ok (.iaload, 1) := by decide +kernel
theorem d_Mo_findReached_184 : decode b_Mo_findReached 184 = .ok (.if_icmp .ge 40, 3) := by decide +kernel
theorem d_Mo_findReached_187 : decode b_Mo_findReached 187 = .ok (.aload_n 0, 1) := by decide +kernel
theorem d_Mo_findReached_188 : decode b_Mo_findReached 188 = .ok (.iload 5, 2) := by decide +kernel
theorem d_Mo_findReached_190 : decode b_Mo_findReached 190 = .ok (.iload 6, 2) := by decide +kernel
theorem d_Mo_findReached_192 : decode b_Mo_findReached 192 = .ok (.invokevirtual 164, 3) := by decide +kernel
theorem d_Mo_findReached_195 : decode b_Mo_findReached 195 = .ok (.ifCond .eq 23, 3) := by decide +kernel
theorem d_Mo_findReached_198 : decode b_Mo_findReached 198 = .ok (.aload_n 0, 1) := by decide +kernel
theorem d_Mo_findReached_199 : decode b_Mo_findReached 199 = .ok (.iload 5, 2) := by decide +kernel
theorem d_Mo_findReached_201 : decode b_Mo_findReached 201 = .ok (.iload 6, 2) := by decide +kernel
theorem d_Mo_findReached_203 : decode b_Mo_findReached 203 = .ok (.invokevirtual 167, 3) := by decide +kernel
theorem d_Mo_findReached_206 : decode b_Mo_findReached 206 = .ok (.ifCond .ge 12, 3) := by decide +kernel
theorem d_Mo_findReached_209 : decode b_Mo_findReached 209 = .ok (.aload_n 0, 1) := by decide +kernel
theorem d_Mo_findReached_210 : decode b_Mo_findReached 210 = .ok (.iconst 2, 1) := by decide +kernel
theorem d_Mo_findReached_211 : decode b_Mo_findReached 211 = .ok (.iload 5, 2) := by decide +kernel
theorem d_Mo_findReached_213 : decode b_Mo_findReached 213 = .ok (.iload 6, 2) := by decide +kernel
theorem d_Mo_findReached_215 : decode b_Mo_findReached 215 = .ok (.invokevirtual 157, 3) := by decide +kernel
theorem d_Mo_findReached_218 : decode b_Mo_findReached 218 = .ok (.iinc 6 1, 3) := by decide +kernel
theorem d_Mo_findReached_221 : decode b_Mo_findReached 221 = .ok (.goto (-46), 3) := by decide +kernel
theorem d_Mo_findReached_224 : decode b_Mo_findReached 224 = .ok (.iinc 4 1, 3) := by decide +kernel
theorem d_Mo_findReached_227 : decode b_Mo_findReached 227 = .ok (.goto (-73), 3) := by decide +kernel
theorem d_Mo_findReached_230 : decode b_Mo_findReached 230 = .ok (.return_, 1) := by decide +kernel
theorem d_Mo_meaning_0 : decode b_Mo_meaning 0 = .ok (.aload_n 0, 1) := by decide +kernel
theorem d_Mo_meaning_1 : decode b_Mo_meaning 1 = .ok (.iload_n 1, 1) := by decide +kernel
theorem d_Mo_meaning_2 : decode b_Mo_meaning 2 = .ok (.iconst 0, 1) := by decide +kernel
theorem d_Mo_meaning_3 : decode b_Mo_meaning 3 = .ok (.invokevirtual 147, 3) := by decide +kernel
theorem d_Mo_meaning_6 : decode b_Mo_meaning 6 = .ok (.istore_n 2, 1) := by decide +kernel
theorem d_Mo_meaning_7 : decode b_Mo_meaning 7 = .ok (.iload_n 2, 1) := by decide +kernel
theorem d_Mo_meaning_8 : decode b_Mo_meaning 8 = .ok (.ifCond .ge 12, 3) := by decide +kernel
theorem d_Mo_meaning_11 : decode b_Mo_meaning 11 = .ok (.aload_n 0, 1) := by decide +kernel
theorem d_Mo_meaning_12 : decode b_Mo_meaning 12 = .ok (.iload_n 1, 1) := by decide +kernel
theorem d_Mo_meaning_13 : decode b_Mo_meaning 13 = .ok (.iconst 2, 1) := by decide +kernel
theorem d_Mo_meaning_14 : decode b_Mo_meaning 14 = .ok (.invokevirtual 147, 3) := by decide +kernel
theorem d_Mo_meaning_17 : decode b_Mo_meaning 17 = .ok (.goto 4, 3) := by decide +kernel
theorem d_Mo_meaning_20 : decode b_Mo_meaning 20 = .ok (.iconst (-1), 1) := by decide +kernel
theorem d_Mo_meaning_21 : decode b_Mo_meaning 21 = .ok (.istore_n 3, 1) := by decide +kernel
theorem d_Mo_meaning_22 : decode b_Mo_meaning 22 = .ok (.iload_n 2, 1) := by decide +kernel
theorem d_Mo_meaning_23 : decode b_Mo_meaning 23 = .ok (.ifCond .lt 7, 3) := by decide +kernel
theorem d_Mo_meaning_26 : decode b_Mo_meaning 26 = .ok (.iload_n 2, 1) := by decide +kernel
theorem d_Mo_meaning_27 : decode b_Mo_meaning 27 = .ok (.goto 17, 3) := by decide +kernel
theorem d_Mo_meaning_30 : decode b_Mo_meaning 30 = .ok (.iload_n 3, 1) := by decide +kernel
theorem d_Mo_meaning_31 : decode b_Mo_meaning 31 = .ok (.ifCond .lt 7, 3) := by decide +kernel
theorem d_Mo_meaning_34 : decode b_Mo_meaning 34 = .ok (.iload_n 3, 1) := by decide +kernel
theorem d_Mo_meaning_35 : decode b_Mo_meaning 35 = .ok (.goto 9, 3) := by decide +kernel
theorem d_Mo_meaning_38 : decode b_Mo_meaning 38 = .ok (.aload_n 0, 1) := by decide +kernel
theorem d_Mo_meaning_39 : decode b_Mo_meaning 39 = .ok (.iload_n 1, 1) := by decide +kernel
theorem d_Mo_meaning_40 : decode b_Mo_meaning 40 = .ok (.iconst 1, 1) := by decide +kernel
theorem d_Mo_meaning_41 : decode b_Mo_meaning 41 = .ok (.invokevirtual 147, 3) := by decide +kernel
theorem d_Mo_meaning_44 : decode b_Mo_meaning 44 = .ok (.ireturn, 1) := by decide +kernel
theorem d_Mo_reach_0 : decode b_Mo_reach 0 = .ok (.iload_n 1, 1) := by decide +kernel
theorem d_Mo_reach_1 : decode b_Mo_reach 1 = .ok (.ifCond .ge 5, 3) := by decide +kernel
theorem d_Mo_reach_4 : decode b_Mo_reach 4 = .ok (.iconst 0, 1) := by decide +kernel
theorem d_Mo_reach_5 : decode b_Mo_reach 5 = .ok (.ireturn, 1) := by decide +kernel
theorem d_Mo_reach_6 : decode b_Mo_reach 6 = .ok (.aload_n 0, 1) := by decide +kernel
theorem d_Mo_reach_7 : decode b_Mo_reach 7 = .ok (.getfield 31, 3) := by decide +kernel
theorem d_Mo_reach_10 : decode b_Mo_reach 10 = .ok (.iload_n 1, 1) := by decide +kernel
theorem d_Mo_reach_11 : decode b_Mo_reach 11 = .ok (.iaload, 1) := by decide +kernel
theorem d_Mo_reach_12 : decode b_Mo_reach 12 = .ok (.iconst 2, 1) := by decide +kernel
theorem d_Mo_reach_13 : decode b_Mo_reach 13 = .ok (.if_icmp .ne 27, 3) := by decide +kernel
theorem d_Mo_reach_16 : decode b_Mo_reach 16 = .ok (.aload_n 0, 1) := by decide +kernel
theorem d_Mo_reach_17 : decode b_Mo_reach 17 = .ok (.getfield 65, 3) := by decide +kernel
theorem d_Mo_reach_20 : decode b_Mo_reach 20 = .ok (.iload_n 1, 1) := by decide +kernel
theorem d_Mo_reach_21 : decode b_Mo_reach 21 = .ok (.baload, 1) := by decide +kernel
theorem d_Mo_reach_22 : decode b_Mo_reach 22 = .ok (.ifCond .ne 7, 3) := by decide +kernel
theorem d_Mo_reach_25 : decode b_Mo_reach 25 = .ok (.iconst 1, 1) := by decide +kernel
theorem d_Mo_reach_26 : decode b_Mo_reach 26 = .ok (.goto 4, 3) := by decide +kernel
theorem d_Mo_reach_29 : decode b_Mo_reach 29 = .ok (.iconst 0, 1) := by decide +kernel
theorem d_Mo_reach_30 : decode b_Mo_reach 30 = .ok (.istore_n 2, 1) := by decide +kernel
theorem d_Mo_reach_31 : decode b_Mo_reach 31 = .ok (.aload_n 0, 1) := by decide +kernel
theorem d_Mo_reach_32 : decode b_Mo_reach 32 = .ok (.getfield 65, 3) := by decide +kernel
theorem d_Mo_reach_35 : decode b_Mo_reach 35 = .ok (.iload_n 1, 1) := by decide +kernel
theorem d_Mo_reach_36 : decode b_Mo_reach 36 = .ok (.iconst 1, 1) := by decide +kernel
theorem d_Mo_reach_37 : decode b_Mo_reach 37 = .ok (.bastore, 1) := by decide +kernel
theorem d_Mo_reach_38 : decode b_Mo_reach 38 = .ok (.iload_n 2, 1) := by decide +kernel
theorem d_Mo_reach_39 : decode b_Mo_reach 39 = .ok (.ireturn, 1) := by decide +kernel
theorem d_Mo_reach_40 : decode b_Mo_reach 40 = .ok (.bipush 8, 2) := by decide +kernel
theorem d_Mo_reach_42 : decode b_Mo_reach 42 = .ok (.iload_n 1, 1) := by decide +kernel
theorem d_Mo_reach_43 : decode b_Mo_reach 43 = .ok (.bipush 12, 2) := by decide +kernel
theorem d_Mo_reach_45 : decode b_Mo_reach 45 = .ok (.idiv, 1) := by decide +kernel
theorem d_Mo_reach_46 : decode b_Mo_reach 46 = .ok (.imul, 1) := by decide +kernel
theorem d_Mo_reach_47 : decode b_Mo_reach 47 = .ok (.aload_n 0, 1) := by decide +kernel
theorem d_Mo_reach_48 : decode b_Mo_reach 48 = .ok (.getfield 34, 3) := by decide +kernel
theorem d_Mo_reach_51 : decode b_Mo_reach 51 = .ok (.iload_n 1, 1) := by decide +kernel
theorem d_Mo_reach_52 : decode b_Mo_reach 52 = .ok (.iaload, 1) := by decide +kernel
theorem d_Mo_reach_53 : decode b_Mo_reach 53 = .ok (.iadd, 1) := by decide +kernel
theorem d_Mo_reach_54 : decode b_Mo_reach 54 = .ok (.istore_n 2, 1) := by decide +kernel
theorem d_Mo_reach_55 : decode b_Mo_reach 55 = .ok (.aload_n 0, 1) := by decide +kernel
theorem d_Mo_reach_56 : decode b_Mo_reach 56 = .ok (.getfield 61, 3) := by decide +kernel
theorem d_Mo_reach_59 : decode b_Mo_reach 59 = .ok (.iload_n 2, 1) := by decide +kernel
theorem d_Mo_reach_60 : decode b_Mo_reach 60 = .ok (.baload, 1) := by decide +kernel
theorem d_Mo_reach_61 : decode b_Mo_reach 61 = .ok (.ifCond .ne 7, 3) := by decide +kernel
theorem d_Mo_reach_64 : decode b_Mo_reach 64 = .ok (.iconst 1, 1) := by decide +kernel
theorem d_Mo_reach_65 : decode b_Mo_reach 65 = .ok (.goto 4, 3) := by decide +kernel
theorem d_Mo_reach_68 : decode b_Mo_reach 68 = .ok (.iconst 0, 1) := by decide +kernel
theorem d_Mo_reach_69 : decode b_Mo_reach 69 = .ok (.istore_n 3, 1) := by decide +kernel
theorem d_Mo_reach_70 : decode b_Mo_reach 70 = .ok (.aload_n 0, 1) := by decide +kernel
theorem d_Mo_reach_71 : decode b_Mo_reach 71 = .ok (.getfield 61, 3) := by decide +kernel
theorem d_Mo_reach_74 : decode b_Mo_reach 74 = .ok (.iload_n 2, 1) := by decide +kernel
theorem d_Mo_reach_75 : decode b_Mo_reach 75 = .ok (.iconst 1, 1) := by decide +kernel
theorem d_Mo_reach_76 : decode b_Mo_reach 76 = .ok (.bastore, 1) := by decide +kernel
theorem d_Mo_reach_77 : decode b_Mo_reach 77 = .ok (.iload_n 3, 1) := by decide +kernel
theorem d_Mo_reach_78 : decode b_Mo_reach 78 = .ok (.ireturn, 1) := by decide +kernel
theorem d_Mo_isWorked_0 : decode b_Mo_isWorked 0 = .ok (.aload_n 0, 1) := by decide +kernel
theorem d_Mo_isWorked_1 : decode b_Mo_isWorked 1 = .ok (.getfield 61, 3) := by decide +kernel
theorem d_Mo_isWorked_4 : decode b_Mo_isWorked 4 = .ok (.bipush 8, 2) := by decide +kernel
theorem d_Mo_isWorked_6 : decode b_Mo_isWorked 6 = .ok (.iload_n 1, 1) := by decide +kernel
theorem d_Mo_isWorked_7 : decode b_Mo_isWorked 7 = .ok (.imul, 1) := by decide +kernel
theorem d_Mo_isWorked_8 : decode b_Mo_isWorked 8 = .ok (.aload_n 0, 1) := by decide +kernel
theorem d_Mo_isWorked_9 : decode b_Mo_isWorked 9 = .ok (.getfield 43, 3) := by decide +kernel
theorem d_Mo_isWorked_12 : decode b_Mo_isWorked 12 = .ok (.bipush 16, 2) := by decide +kernel
theorem d_Mo_isWorked_14 : decode b_Mo_isWorked 14 = .ok (.iload_n 1, 1) := by decide +kernel
theorem d_Mo_isWorked_15 : decode b_Mo_isWorked 15 = .ok (.imul, 1) := by decide +kernel
theorem d_Mo_isWorked_16 : decode b_Mo_isWorked 16 = .ok (.iload_n 2, 1) := by decide +kernel
theorem d_Mo_isWorked_17 : decode b_Mo_isWorked 17 = .ok (.iadd, 1) := by decide +kernel
theorem d_Mo_isWorked_18 : decode b_Mo_isWorked 18 = .ok (.iaload, 1) := by decide +kernel
theorem d_Mo_isWorked_19 : decode b_Mo_isWorked 19 = .ok (.iadd, 1) := by decide +kernel
theorem d_Mo_isWorked_20 : decode b_Mo_isWorked 20 = .ok (.baload, 1) := by decide +kernel
theorem d_Mo_isWorked_21 : decode b_Mo_isWorked 21 = .ok (.ireturn, 1) := by decide +kernel
theorem d_Mo_meaningOf_0 : decode b_Mo_meaningOf 0 = .ok (.aload_n 0, 1) := by decide +kernel
theorem d_Mo_meaningOf_1 : decode b_Mo_meaningOf 1 = .ok (.aload_n 0, 1) := by decide +kernel
theorem d_Mo_meaningOf_2 : decode b_Mo_meaningOf 2 = .ok (.getfield 28, 3) := by decide +kernel
theorem d_Mo_meaningOf_5 : decode b_Mo_meaningOf 5 = .ok (.bipush 12, 2) := by decide +kernel
theorem d_Mo_meaningOf_7 : decode b_Mo_meaningOf 7 = .ok (.iload_n 1, 1) := by decide +kernel
theorem d_Mo_meaningOf_8 : decode b_Mo_meaningOf 8 = .ok (.imul, 1) := by decide +kernel
theorem d_Mo_meaningOf_9 : decode b_Mo_meaningOf 9 = .ok (.aload_n 0, 1) := by decide +kernel
theorem d_Mo_meaningOf_10 : decode b_Mo_meaningOf 10 = .ok (.getfield 52, 3) := by decide +kernel
theorem d_Mo_meaningOf_13 : decode b_Mo_meaningOf 13 = .ok (.bipush 16, 2) := by decide +kernel
theorem d_Mo_meaningOf_15 : decode b_Mo_meaningOf 15 = .ok (.iload_n 1, 1) := by decide +kernel
theorem d_Mo_meaningOf_16 : decode b_Mo_meaningOf 16 = .ok (.imul, 1) := by decide +kernel
theorem d_Mo_meaningOf_17 : decode b_Mo_meaningOf 17 = .ok (.iload_n 2, 1) := by decide +kernel
theorem d_Mo_meaningOf_18 : decode b_Mo_meaningOf 18 = .ok (.iadd, 1) := by decide +kernel
theorem d_Mo_meaningOf_19 : decode b_Mo_meaningOf 19 = .ok (.iaload, 1) := by decide +kernel
theorem d_Mo_meaningOf_20 : decode b_Mo_meaningOf 20 = .ok (.iadd, 1) := by decide +kernel
theorem d_Mo_meaningOf_21 : decode b_Mo_meaningOf 21 = .ok (.iaload, 1) := by decide +kernel
theorem d_Mo_meaningOf_22 : decode b_Mo_meaningOf 22 = .ok (.invokevirtual 151, 3) := by decide +kernel
theorem d_Mo_meaningOf_25 : decode b_Mo_meaningOf 25 = .ok (.ireturn, 1) := by decide +kernel
theorem d_Mo_order_0 : decode b_Mo_order 0 = .ok (.aload_n 0, 1) := by decide +kernel
theorem d_Mo_order_1 : decode b_Mo_order 1 = .ok (.aload_n 0, 1) := by decide +kernel
theorem d_Mo_order_2 : decode b_Mo_order 2 = .ok (.getfield 176, 3) := by decide +kernel
theorem d_Mo_order_5 : decode b_Mo_order 5 = .ok (.putfield 170, 3) := by decide +kernel
theorem d_Mo_order_8 : decode b_Mo_order 8 = .ok (.aload_n 0, 1) := by decide +kernel
theorem d_Mo_order_9 : decode b_Mo_order 9 = .ok (.iconst 0, 1) := by decide +kernel
theorem d_Mo_order_10 : decode b_Mo_order 10 = .ok (.putfield 173, 3) := by decide +kernel
theorem d_Mo_order_13 : decode b_Mo_order 13 = .ok (.aload_n 0, 1) := by decide +kernel
theorem d_Mo_order_14 : decode b_Mo_order 14 = .ok (.iconst 0, 1) := by decide +kernel
theorem d_Mo_order_15 : decode b_Mo_order 15 = .ok (.putfield 179, 3) := by decide +kernel
theorem d_Mo_order_18 : decode b_Mo_order 18 = .ok (.aload_n 0, 1) := by decide +kernel
theorem d_Mo_order_19 : decode b_Mo_order 19 = .ok (.iconst 0, 1) := by decide +kernel
theorem d_Mo_order_20 : decode b_Mo_order 20 = .ok (.putfield 182, 3) := by decide +kernel
theorem d_Mo_order_23 : decode b_Mo_order 23 = .ok (.iconst 0, 1) := by decide +kernel
theorem d_Mo_order_24 : decode b_Mo_order 24 = .ok (.istore_n 1, 1) := by decide +kernel
theorem d_Mo_order_25 : decode b_Mo_order 25 = .ok (.iload_n 1, 1) := by decide +kernel
theorem d_Mo_order_26 : decode b_Mo_order 26 = .ok (.bipush 96, 2) := by decide +kernel
theorem d_Mo_order_28 : decode b_Mo_order 28 = .ok (.if_icmp .ge 16, 3) := by decide +kernel
theorem d_Mo_order_31 : decode b_Mo_order 31 = .ok (.aload_n 0, 1) := by decide +kernel
theorem d_Mo_order_32 : decode b_Mo_order 32 = .ok (.getfield 71, 3) := by decide +kernel
theorem d_Mo_order_35 : decode b_Mo_order 35 = .ok (.iload_n 1, 1) := by decide +kernel
theorem d_Mo_order_36 : decode b_Mo_order 36 = .ok (.iconst (-1), 1) := by decide +kernel
theorem d_Mo_order_37 : decode b_Mo_order 37 = .ok (.iastore, 1) := by decide +kernel
theorem d_Mo_order_38 : decode b_Mo_order 38 = .ok (.iinc 1 1, 3) := by decide +kernel
theorem d_Mo_order_41 : decode b_Mo_order 41 = .ok (.goto (-16), 3) := by decide +kernel
theorem d_Mo_order_44 : decode b_Mo_order 44 = .ok (.iconst 0, 1) := by decide +kernel
theorem d_Mo_order_45 : decode b_Mo_order 45 = .ok (.istore_n 1, 1) := by decide +kernel
theorem d_Mo_order_46 : decode b_Mo_order 46 = .ok (.iload_n 1, 1) := by decide +kernel
theorem d_Mo_order_47 : decode b_Mo_order 47 = .ok (.iconst 4, 1) := by decide +kernel
theorem d_Mo_order_48 : decode b_Mo_order 48 = .ok (.if_icmp .ge 126, 3) := by decide +kernel
theorem d_Mo_order_51 : decode b_Mo_order 51 = .ok (.iconst 0, 1) := by decide +kernel
theorem d_Mo_order_52 : decode b_Mo_order 52 = .ok (.istore_n 2, 1) := by decide +kernel
theorem d_Mo_order_53 : decode b_Mo_order 53 = .ok (.iload_n 2, 1) := by decide +kernel
theorem d_Mo_order_54 : decode b_Mo_order 54 = .ok (.aload_n 0, 1) := by decide +kernel
theorem d_Mo_order_55 : decode b_Mo_order 55 = .ok (.getfield 144, 3) := by decide +kernel
theorem d_Mo_order_58 : decode b_Mo_order 58 = .ok (.if_icmp .ge 110, 3) := by decide +kernel
theorem d_Mo_order_61 : decode b_Mo_order 61 = .ok (.bipush 8, 2) := by decide +kernel
theorem d_Mo_order_63 : decode b_Mo_order 63 = .ok (.aload_n 0, 1) := by decide +kernel
theorem d_Mo_order_64 : decode b_Mo_order 64 = .ok (.getfield 58, 3) := by decide +kernel
theorem d_Mo_order_67 : decode b_Mo_order 67 = .ok (.iload_n 2, 1) := by decide +kernel
theorem d_Mo_order_68 : decode b_Mo_order 68 = .ok (.iaload, 1) := by decide +kernel
theorem d_Mo_order_69 : decode b_Mo_order 69 = .ok (.imul, 1) := by decide +kernel
theorem d_Mo_order_70 : decode b_Mo_order 70 = .ok (.istore_n 3, 1) := by decide +kernel
theorem d_Mo_order_71 : decode b_Mo_order 71 = .ok (.iload_n 3, 1) := by decide +kernel
theorem d_Mo_order_72 : decode b_Mo_order 72 = .ok (.bipush 8, 2) := by decide +kernel
theorem d_Mo_order_74 : decode b_Mo_order 74 = .ok (.aload_n 0, 1) := by decide +kernel
theorem d_Mo_order_75 : decode b_Mo_order 75 = .ok (.getfield 58, 3) := by decide +kernel
theorem d_Mo_order_78 : decode b_Mo_order 78 = .ok (.iload_n 2, 1) := by decide +kernel
theorem d_Mo_order_79 : decode b_Mo_order 79 = .ok (.iaload, 1) := by decide +kernel
theorem d_Mo_order_80 : decode b_Mo_order 80 = .ok (.imul, 1) := by decide +kernel
theorem d_Mo_order_81 : decode b_Mo_order 81 = .ok (.aload_n 0, 1) := by decide +kernel
theorem d_Mo_order_82 : decode b_Mo_order 82 = .ok (.getfield 7, 3) := by decide +kernel
theorem d_Mo_order_85 : decode b_Mo_order 85 = .ok (.aload_n 0, 1) := by decide +kernel
theorem d_Mo_order_86 : decode b_Mo_order 86 = .ok (.getfield 58, 3) := by decide +kernel
theorem d_Mo_order_89 : decode b_Mo_order 89 = .ok (.iload_n 2, 1) := by decide +kernel
theorem d_Mo_order_90 : decode b_Mo_order 90 = .ok (.iaload, 1) := by decide +kernel
theorem d_Mo_order_91 : decode b_Mo_order 91 = .ok (.iaload, 1) := by decide +kernel
theorem d_Mo_order_92 : decode b_Mo_order 92 = .ok (.iadd, 1) := by decide +kernel
theorem d_Mo_order_93 : decode b_Mo_order 93 = .ok (.if_icmp .ge 69, 3) := by decide +kernel
theorem d_Mo_order_96 : decode b_Mo_order 96 = .ok (.aload_n 0, 1) := by decide +kernel
theorem d_Mo_order_97 : decode b_Mo_order 97 = .ok (.getfield 61, 3) := by decide +kernel
theorem d_Mo_order_100 : decode b_Mo_order 100 = .ok (.iload_n 3, 1) := by decide +kernel
theorem d_Mo_order_101 : decode b_Mo_order 101 = .ok (.baload, 1) := by decide +kernel
theorem d_Mo_order_102 : decode b_Mo_order 102 = .ok (.ifCond .eq 54, 3) := by decide +kernel
theorem d_Mo_order_105 : decode b_Mo_order 105 = .ok (.aload_n 0, 1) := by decide +kernel
theorem d_Mo_order_106 : decode b_Mo_order 106 = .ok (.getfield 13, 3) := by decide +kernel
theorem d_Mo_order_109 : decode b_Mo_order 109 = .ok (.iload_n 3, 1) := by decide +kernel
theorem d_Mo_order_110 : decode b_Mo_order 110 = .ok (.iaload, 1) := by decide +kernel
theorem d_Mo_order_111 : decode b_Mo_order 111 = .ok (.iload_n 1, 1) := by decide +kernel
theorem d_Mo_order_112 : decode b_Mo_order 112 = .ok (.if_icmp .ne 44, 3) := by decide +kernel
theorem d_Mo_order_115 : decode b_Mo_order 115 = .ok (.aload_n 0, 1) := by decide +kernel
theorem d_Mo_order_116 : decode b_Mo_order 116 = .ok (.getfield 71, 3) := by decide +kernel
theorem d_Mo_order_119 : decode b_Mo_order 119 = .ok (.iload_n 3, 1) := by decide +kernel
theorem d_Mo_order_120 : decode b_Mo_order 120 = .ok (.aload_n 0, 1) := by decide +kernel
theorem d_Mo_order_121 : decode b_Mo_order 121 = .ok (.aload_n 0, 1) := by decide +kernel
theorem d_Mo_order_122 : decode b_Mo_order 122 = .ok (.getfield 16, 3) := by decide +kernel
theorem d_Mo_order_125 : decode b_Mo_order 125 = .ok (.iload_n 3, 1) := by decide +kernel
theorem d_Mo_order_126 : decode b_Mo_order 126 = .ok (.iaload, 1) := by decide +kernel
theorem d_Mo_order_127 : decode b_Mo_order 127 = .ok (.invokevirtual 185, 3) := by decide +kernel
theorem d_Mo_order_130 : decode b_Mo_order 130 = .ok (.iastore, 1) := by decide +kernel
theorem d_Mo_order_131 : decode b_Mo_order 131 = .ok (.aload_n 0, 1) := by decide +kernel
theorem d_Mo_order_132 : decode b_Mo_order 132 = .ok (.dup, 1) := by decide +kernel
theorem d_Mo_order_133 : decode b_Mo_order 133 = .ok (.getfield 170, 3) := by decide +kernel
theorem d_Mo_order_136 : decode b_Mo_order 136 = .ok (.aload_n 0, 1) := by decide +kernel
theorem d_Mo_order_137 : decode b_Mo_order 137 = .ok (.getfield 19, 3) := by decide +kernel
theorem d_Mo_order_140 : decode b_Mo_order 140 = .ok (.iload_n 3, 1) := by decide +kernel
theorem d_Mo_order_141 : decode b_Mo_order 141 = .ok (.iaload, 1) := by decide +kernel
theorem d_Mo_order_142 : decode b_Mo_order 142 = .ok (.iadd, 1) := by decide +kernel
theorem d_Mo_order_143 : decode b_Mo_order 143 = .ok (.putfield 170, 3) := by decide +kernel
theorem d_Mo_order_146 : decode b_Mo_order 146 = .ok (.aload_n 0, 1) := by decide +kernel
theorem d_Mo_order_147 : decode b_Mo_order 147 = .ok (.dup, 1) := by decide +kernel
theorem d_Mo_order_148 : decode b_Mo_order 148 = .ok (.getfield 179, 3) := by decide +kernel
theorem d_Mo_order_151 : decode b_Mo_order 151 = .ok (.iconst 1, 1) := by decide +kernel
theorem d_Mo_order_152 : decode b_Mo_order 152 = .ok (.iadd, 1) := by decide +kernel
theorem d_Mo_order_153 : decode b_Mo_order 153 = .ok (.putfield 179, 3) := by decide +kernel
theorem d_Mo_order_156 : decode b_Mo_order 156 = .ok (.iinc 3 1, 3) := by decide +kernel
theorem d_Mo_order_159 : decode b_Mo_order 159 = .ok (.goto (-88), 3) := by decide +kernel
theorem d_Mo_order_162 : decode b_Mo_order 162 = .ok (.iinc 2 1, 3) := by decide +kernel
theorem d_Mo_order_165 : decode b_Mo_order 165 = .ok (.goto (-112), 3) := by decide +kernel
theorem d_Mo_order_168 : decode b_Mo_order 168 = .ok (.iinc 1 1, 3) := by decide +kernel
theorem d_Mo_order_171 : decode b_Mo_order 171 = .ok (.goto (-125), 3) := by decide +kernel
theorem d_Mo_order_174 : decode b_Mo_order 174 = .ok (.iconst 0, 1) := by decide +kernel
theorem d_Mo_order_175 : decode b_Mo_order 175 = .ok (.istore_n 1, 1) := by decide +kernel
theorem d_Mo_order_176 : decode b_Mo_order 176 = .ok (.iload_n 1, 1) := by decide +kernel
theorem d_Mo_order_177 : decode b_Mo_order 177 = .ok (.aload_n 0, 1) := by decide +kernel
theorem d_Mo_order_178 : decode b_Mo_order 178 = .ok (.getfield 144, 3) := by decide +kernel
theorem d_Mo_order_181 : decode b_Mo_order 181 = .ok (.if_icmp .ge 102, 3) := by decide +kernel
theorem d_Mo_order_184 : decode b_Mo_order 184 = .ok (.aload_n 0, 1) := by decide +kernel
theorem d_Mo_order_185 : decode b_Mo_order 185 = .ok (.getfield 58, 3) := by decide +kernel
theorem d_Mo_order_188 : decode b_Mo_order 188 = .ok (.iload_n 1, 1) := by decide +kernel
theorem d_Mo_order_189 : decode b_Mo_order 189 = .ok (.iaload, 1) := by decide +kernel
theorem d_Mo_order_190 : decode b_Mo_order 190 = .ok (.istore_n 2, 1) := by decide +kernel
theorem d_Mo_order_191 : decode b_Mo_order 191 = .ok (.bipush 12, 2) := by decide +kernel
theorem d_Mo_order_193 : decode b_Mo_order 193 = .ok (.iload_n 2, 1) := by decide +kernel
theorem d_Mo_order_194 : decode b_Mo_order 194 = .ok (.imul, 1) := by decide +kernel
theorem d_Mo_order_195 : decode b_Mo_order 195 = .ok (.istore_n 3, 1) := by decide +kernel
theorem d_Mo_order_196 : decode b_Mo_order 196 = .ok (.iload_n 3, 1) := by decide +kernel
theorem d_Mo_order_197 : decode b_Mo_order 197 = .ok (.bipush 12, 2) := by decide +kernel
theorem d_Mo_order_199 : decode b_Mo_order 199 = .ok (.iload_n 2, 1) := by decide +kernel
theorem d_Mo_order_200 : decode b_Mo_order 200 = .ok (.imul, 1) := by decide +kernel
theorem d_Mo_order_201 : decode b_Mo_order 201 = .ok (.aload_n 0, 1) := by decide +kernel
theorem d_Mo_order_202 : decode b_Mo_order 202 = .ok (.getfield 25, 3) := by decide +kernel
theorem d_Mo_order_205 : decode b_Mo_order 205 = .ok (.iload_n 2, 1) := by decide +kernel
theorem d_Mo_order_206 : decode b_Mo_order 206 = .ok (.iaload, 1) := by decide +kernel
theorem d_Mo_order_207 : decode b_Mo_order 207 = .ok (.iadd, 1) := by decide +kernel
theorem d_Mo_order_208 : decode b_Mo_order 208 = .ok (.if_icmp .ge 69, 3) := by decide +kernel
theorem d_Mo_order_211 : decode b_Mo_order 211 = .ok (.aload_n 0, 1) := by decide +kernel
theorem d_Mo_order_212 : decode b_Mo_order 212 = .ok (.getfield 65, 3) := by decide +kernel
theorem d_Mo_order_215 : decode b_Mo_order 215 = .ok (.iload_n 3, 1) := by decide +kernel
theorem d_Mo_order_216 : decode b_Mo_order 216 = .ok (.baload, 1) := by decide +kernel
theorem d_Mo_order_217 : decode b_Mo_order 217 = .ok (.ifCond .eq 54, 3) := by decide +kernel
theorem d_Mo_order_220 : decode b_Mo_order 220 = .ok (.aload_n 0, 1) := by decide +kernel
theorem d_Mo_order_221 : decode b_Mo_order 221 = .ok (.getfield 68, 3) := by decide +kernel
theorem d_Mo_order_224 : decode b_Mo_order 224 = .ok (.iload_n 3, 1) := by decide +kernel
theorem d_Mo_order_225 : decode b_Mo_order 225 = .ok (.aload_n 0, 1) := by decide +kernel
theorem d_Mo_order_226 : decode b_Mo_order 226 = .ok (.aload_n 0, 1) := by decide +kernel
theorem d_Mo_order_227 : decode b_Mo_order 227 = .ok (.aload_n 0, 1) := by decide +kernel
theorem d_Mo_order_228 : decode b_Mo_order 228 = .ok (.getfield 28, 3) := by decide +kernel
theorem d_Mo_order_231 : decode b_Mo_order 231 = .ok (.iload_n 3, 1) := by decide +kernel
theorem d_Mo_order_232 : decode b_Mo_order 232 = .ok (.iaload, 1) := by decide +kernel
theorem d_Mo_order_233 : decode b_Mo_order 233 = .ok (.iconst 0, 1) := by decide +kernel
theorem d_Mo_order_234 : decode b_Mo_order 234 = .ok (.invokevirtual 188, 3) := by decide +kernel
theorem d_Mo_order_237 : decode b_Mo_order 237 = .ok (.invokevirtual 185, 3) := by decide +kernel
theorem d_Mo_order_240 : decode b_Mo_order 240 = .ok (.iastore, 1) := by decide +kernel
theorem d_Mo_order_241 : decode b_Mo_order 241 = .ok (.aload_n 0, 1) := by decide +kernel
theorem d_Mo_order_242 : decode b_Mo_order 242 = .ok (.dup, 1) := by decide +kernel
theorem d_Mo_order_243 : decode b_Mo_order 243 = .ok (.getfield 170, 3) := by decide +kernel
theorem d_Mo_order_246 : decode b_Mo_order 246 = .ok (.aload_n 0, 1) := by decide +kernel
theorem d_Mo_order_247 : decode b_Mo_order 247 = .ok (.aload_n 0, 1) := by decide +kernel
theorem d_Mo_order_248 : decode b_Mo_order 248 = .ok (.getfield 28, 3) := by decide +kernel
theorem d_Mo_order_251 : decode b_Mo_order 251 = .ok (.iload_n 3, 1) := by decide +kernel
theorem d_Mo_order_252 : decode b_Mo_order 252 = .ok (.iaload, 1) := by decide +kernel
theorem d_Mo_order_253 : decode b_Mo_order 253 = .ok (.iconst 1, 1) := by decide +kernel
theorem d_Mo_order_254 : decode b_Mo_order 254 = .ok (.invokevirtual 188, 3) := by decide +kernel
theorem d_Mo_order_257 : decode b_Mo_order 257 = .ok (.iadd, 1) := by decide +kernel
theorem d_Mo_order_258 : decode b_Mo_order 258 = .ok (.putfield 170, 3) := by decide +kernel
theorem d_Mo_order_261 : decode b_Mo_order 261 = .ok (.aload_n 0, 1) := by decide +kernel
theorem d_Mo_order_262 : decode b_Mo_order 262 = .ok (.dup, 1) := by decide +kernel
theorem d_Mo_order_263 : decode b_Mo_order 263 = .ok (.getfield 182, 3) := by decide +kernel
theorem d_Mo_order_266 : decode b_Mo_order 266 = .ok (.iconst 1, 1) := by decide +kernel
theorem d_Mo_order_267 : decode b_Mo_order 267 = .ok (.iadd, 1) := by decide +kernel
theorem d_Mo_order_268 : decode b_Mo_order 268 = .ok (.putfield 182, 3) := by decide +kernel
theorem d_Mo_order_271 : decode b_Mo_order 271 = .ok (.iinc 3 1, 3) := by decide +kernel
theorem d_Mo_order_274 : decode b_Mo_order 274 = .ok (.goto (-78), 3) := by decide +kernel
theorem d_Mo_order_277 : decode b_Mo_order 277 = .ok (.iinc 1 1, 3) := by decide +kernel
theorem d_Mo_order_280 : decode b_Mo_order 280 = .ok (.goto (-104), 3) := by decide +kernel
theorem d_Mo_order_283 : decode b_Mo_order 283 = .ok (.aload_n 0, 1) := by decide +kernel
theorem d_Mo_order_284 : decode b_Mo_order 284 = .ok (.aload_n 0, 1) := by decide +kernel
theorem d_Mo_order_285 : decode b_Mo_order 285 = .ok (.getfield 170, 3) := by decide +kernel
theorem d_Mo_order_288 : decode b_Mo_order 288 = .ok (.aload_n 0, 1) := by decide +kernel
theorem d_Mo_order_289 : decode b_Mo_order 289 = .ok (.getfield 176, 3) := by decide +kernel
theorem d_Mo_order_292 : decode b_Mo_order 292 = .ok (.isub, 1) := by decide +kernel
theorem d_Mo_order_293 : decode b_Mo_order 293 = .ok (.putfield 192, 3) := by decide +kernel
theorem d_Mo_order_296 : decode b_Mo_order 296 = .ok (.aload_n 0, 1) := by decide +kernel
theorem d_Mo_order_297 : decode b_Mo_order 297 = .ok (.getfield 192, 3) := by decide +kernel
theorem d_Mo_order_300 : decode b_Mo_order 300 = .ok (.sipush 4096, 3) := by decide +kernel
theorem d_Mo_order_303 : decode b_Mo_order 303 = .ok (.if_icmp .le 11, 3) := by decide +kernel
theorem d_Mo_order_306 : decode b_Mo_order 306 = .ok (.aload_n 0, 1) := by decide +kernel
theorem d_Mo_order_307 : decode b_Mo_order 307 = .ok (.bipush 6, 2) := by decide +kernel
theorem d_Mo_order_309 : decode b_Mo_order 309 = .ok (.iconst (-1), 1) := by decide +kernel
theorem d_Mo_order_310 : decode b_Mo_order 310 = .ok (.iconst (-1), 1) := by decide +kernel
theorem d_Mo_order_311 : decode b_Mo_order 311 = .ok (.invokevirtual 157, 3) := by decide +kernel
theorem d_Mo_order_314 : decode b_Mo_order 314 = .ok (.return_, 1) := by decide +kernel
theorem d_Mo_next_0 : decode b_Mo_next 0 = .ok (.aload_n 0, 1) := by decide +kernel
theorem d_Mo_next_1 : decode b_Mo_next 1 = .ok (.getfield 170, 3) := by decide +kernel
theorem d_Mo_next_4 : decode b_Mo_next 4 = .ok (.iconst 1, 1) := by decide +kernel
theorem d_Mo_next_5 : decode b_Mo_next 5 = .ok (.iload_n 1, 1) := by decide +kernel
theorem d_Mo_next_6 : decode b_Mo_next 6 = .ok (.ishl, 1) := by decide +kernel
theorem d_Mo_next_7 : decode b_Mo_next 7 = .ok (.iadd, 1) := by decide +kernel
theorem d_Mo_next_8 : decode b_Mo_next 8 = .ok (.iconst 1, 1) := by decide +kernel
theorem d_Mo_next_9 : decode b_Mo_next 9 = .ok (.isub, 1) := by decide +kernel
theorem d_Mo_next_10 : decode b_Mo_next 10 = .ok (.iload_n 1, 1) := by decide +kernel
theorem d_Mo_next_11 : decode b_Mo_next 11 = .ok (.ishr, 1) := by decide +kernel
theorem d_Mo_next_12 : decode b_Mo_next 12 = .ok (.iload_n 1, 1) := by decide +kernel
theorem d_Mo_next_13 : decode b_Mo_next 13 = .ok (.ishl, 1) := by decide +kernel
theorem d_Mo_next_14 : decode b_Mo_next 14 = .ok (.istore_n 2, 1) := by decide +kernel
theorem d_Mo_next_15 : decode b_Mo_next 15 = .ok (.aload_n 0, 1) := by decide +kernel
theorem d_Mo_next_16 : decode b_Mo_next 16 = .ok (.dup, 1) := by decide +kernel
theorem d_Mo_next_17 : decode b_Mo_next 17 = .ok (.getfield 173, 3) := by decide +kernel
theorem d_Mo_next_20 : decode b_Mo_next 20 = .ok (.iload_n 2, 1) := by decide +kernel
theorem d_Mo_next_21 : decode b_Mo_next 21 = .ok (.aload_n 0, 1) := by decide +kernel
theorem d_Mo_next_22 : decode b_Mo_next 22 = .ok (.getfield 170, 3) := by decide +kernel
theorem d_Mo_next_25 : decode b_Mo_next 25 = .ok (.isub, 1) := by decide +kernel
theorem d_Mo_next_26 : decode b_Mo_next 26 = .ok (.iadd, 1) := by decide +kernel
theorem d_Mo_next_27 : decode b_Mo_next 27 = .ok (.putfield 173, 3) := by decide +kernel
theorem d_Mo_next_30 : decode b_Mo_next 30 = .ok (.aload_n 0, 1) := by decide +kernel
theorem d_Mo_next_31 : decode b_Mo_next 31 = .ok (.iload_n 2, 1) := by decide +kernel
theorem d_Mo_next_32 : decode b_Mo_next 32 = .ok (.putfield 170, 3) := by decide +kernel
theorem d_Mo_next_35 : decode b_Mo_next 35 = .ok (.iload_n 2, 1) := by decide +kernel
theorem d_Mo_next_36 : decode b_Mo_next 36 = .ok (.ireturn, 1) := by decide +kernel
theorem d_Mo_greatest_0 : decode b_Mo_greatest 0 = .ok (.iconst 0, 1) := by decide +kernel
theorem d_Mo_greatest_1 : decode b_Mo_greatest 1 = .ok (.istore_n 3, 1) := by decide +kernel
theorem d_Mo_greatest_2 : decode b_Mo_greatest 2 = .ok (.iconst 0, 1) := by decide +kernel
theorem d_Mo_greatest_3 : decode b_Mo_greatest 3 = .ok (.istore 4, 2) := by decide +kernel
theorem d_Mo_greatest_5 : decode b_Mo_greatest 5 = .ok (.iload 4, 2) := by decide +kernel
theorem d_Mo_greatest_7 : decode b_Mo_greatest 7 = .ok (.aload_n 0, 1) := by decide +kernel
theorem d_Mo_greatest_8 : decode b_Mo_greatest 8 = .ok (.getfield 144, 3) := by decide +kernel
theorem d_Mo_greatest_11 : decode b_Mo_greatest 11 = .ok (.if_icmp .ge 103, 3) := by decide +kernel
theorem d_Mo_greatest_14 : decode b_Mo_greatest 14 = .ok (.aload_n 0, 1) := by decide +kernel
theorem d_Mo_greatest_15 : decode b_Mo_greatest 15 = .ok (.getfield 58, 3) := by decide +kernel
theorem d_Mo_greatest_18 : decode b_Mo_greatest 18 = .ok (.iload 4, 2) := by decide +kernel
theorem d_Mo_greatest_20 : decode b_Mo_greatest 20 = .ok (.iaload, 1) := by decide +kernel
theorem d_Mo_greatest_21 : decode b_Mo_greatest 21 = .ok (.istore 5, 2) := by decide +kernel
theorem d_Mo_greatest_23 : decode b_Mo_greatest 23 = .ok (.bipush 12, 2) := by decide +kernel
theorem d_Mo_greatest_25 : decode b_Mo_greatest 25 = .ok (.iload 5, 2) := by decide +kernel
theorem d_Mo_greatest_27 : decode b_Mo_greatest 27 = .ok (.imul, 1) := by decide +kernel
theorem d_Mo_greatest_28 : decode b_Mo_greatest 28 = .ok (.istore 6, 2) := by decide +kernel
theorem d_Mo_greatest_30 : decode b_Mo_greatest 30 = .ok (.iload 6, 2) := by decide +kernel
theorem d_Mo_greatest_32 : decode b_Mo_greatest 32 = .ok (.bipush 12, 2) := by decide +kernel
theorem d_Mo_greatest_34 : decode b_Mo_greatest 34 = .ok (.iload 5, 2) := by decide +kernel
theorem d_Mo_greatest_36 : decode b_Mo_greatest 36 = .ok (.imul, 1) := by decide +kernel
theorem d_Mo_greatest_37 : decode b_Mo_greatest 37 = .ok (.aload_n 0, 1) := by decide +kernel
theorem d_Mo_greatest_38 : decode b_Mo_greatest 38 = .ok (.getfield 25, 3) := by decide +kernel
theorem d_Mo_greatest_41 : decode b_Mo_greatest 41 = .ok (.iload 5, 2) := by decide +kernel
theorem d_Mo_greatest_43 : decode b_Mo_greatest 43 = .ok (.iaload, 1) := by decide +kernel
theorem d_Mo_greatest_44 : decode b_Mo_greatest 44 = .ok (.iadd, 1) := by decide +kernel
theorem d_Mo_greatest_45 : decode b_Mo_greatest 45 = .ok (.if_icmp .ge 63, 3) := by decide +kernel
theorem d_Mo_greatest_48 : decode b_Mo_greatest 48 = .ok (.iload_n 2, 1) := by decide +kernel
theorem d_Mo_greatest_49 : decode b_Mo_greatest 49 = .ok (.ifCond .eq 13, 3) := by decide +kernel
theorem d_Mo_greatest_52 : decode b_Mo_greatest 52 = .ok (.aload_n 0, 1) := by decide +kernel
theorem d_Mo_greatest_53 : decode b_Mo_greatest 53 = .ok (.getfield 37, 3) := by decide +kernel
theorem d_Mo_greatest_56 : decode b_Mo_greatest 56 = .ok (.iload 6, 2) := by decide +kernel
theorem d_Mo_greatest_58 : decode b_Mo_greatest 58 = .ok (.iaload, 1) := by decide +kernel
theorem d_Mo_greatest_59 : decode b_Mo_greatest 59 = .ok (.goto 10, 3) := by decide +kernel
theorem d_Mo_greatest_62 : decode b_Mo_greatest 62 = .ok (.aload_n 0, 1) := by decide +kernel
theorem d_Mo_greatest_63 : decode b_Mo_greatest 63 = .ok (.getfield 34, 3) := by decide +kernel
theorem d_Mo_greatest_66 : decode b_Mo_greatest 66 = .ok (.iload 6, 2) := by decide +kernel
theorem d_Mo_greatest_68 : decode b_Mo_greatest 68 = .ok (.iaload, 1) := by decide +kernel
theorem d_Mo_greatest_69 : decode b_Mo_greatest 69 = .ok (.istore 7, 2) := by decide +kernel
theorem d_Mo_greatest_71 : decode b_Mo_greatest 71 = .ok (.aload_n 0, 1) := by decide +kernel
theorem d_Mo_greatest_72 : decode b_Mo_greatest 72 = .ok (.getfield 31, 3) := by decide +kernel
theorem d_Mo_greatest_75 : decode b_Mo_greatest 75 = .ok (.iload 6, 2) := by decide +kernel
theorem d_Mo_greatest_77 : decode b_Mo_greatest 77 = .ok (.iaload, 1) := by decide +kernel
theorem d_Mo_greatest_78 : decode b_Mo_greatest 78 = .ok (.iconst 2, 1) := by decide +kernel
theorem d_Mo_greatest_79 : decode b_Mo_greatest 79 = .ok (.if_icmp .ne 23, 3) := by decide +kernel
theorem d_Mo_greatest_82 : decode b_Mo_greatest 82 = .ok (.aload_n 0, 1) := by decide +kernel
theorem d_Mo_greatest_83 : decode b_Mo_greatest 83 = .ok (.getfield 28, 3) := by decide +kernel
theorem d_Mo_greatest_86 : decode b_Mo_greatest 86 = .ok (.iload 6, 2) := by decide +kernel
theorem d_Mo_greatest_88 : decode b_Mo_greatest 88 = .ok (.iaload, 1) := by decide +kernel
theorem d_Mo_greatest_89 : decode b_Mo_greatest 89 = .ok (.iload_n 1, 1) := by decide +kernel
theorem d_Mo_greatest_90 : decode b_Mo_greatest 90 = .ok (.if_icmp .ne 12, 3) := by decide +kernel
theorem d_Mo_greatest_93 : decode b_Mo_greatest 93 = .ok (.iload 7, 2) := by decide +kernel
theorem d_Mo_greatest_95 : decode b_Mo_greatest 95 = .ok (.iload_n 3, 1) := by decide +kernel
theorem d_Mo_greatest_96 : decode b_Mo_greatest 96 = .ok (.if_icmp .le 6, 3) := by decide +kernel
theorem d_Mo_greatest_99 : decode b_Mo_greatest 99 = .ok (.iload 7, 2) := by decide +kernel
theorem d_Mo_greatest_101 : decode b_Mo_greatest 101 = .ok (.istore_n 3, 1) := by decide +kernel
theorem d_Mo_greatest_102 : decode b_Mo_greatest 102 = .ok (.iinc 6 1, 3) := by decide +kernel
theorem d_Mo_greatest_105 : decode b_Mo_greatest 105 = .ok (.goto (-75), 3) := by decide +kernel
theorem d_Mo_greatest_108 : decode b_Mo_greatest 108 = .ok (.iinc 4 1, 3) := by decide +kernel
theorem d_Mo_greatest_111 : decode b_Mo_greatest 111 = .ok (.goto (-106), 3) := by decide +kernel
theorem d_Mo_greatest_114 : decode b_Mo_greatest 114 = .ok (.iload_n 3, 1) := by decide +kernel
theorem d_Mo_greatest_115 : decode b_Mo_greatest 115 = .ok (.ireturn, 1) := by decide +kernel
theorem d_Mo_copySections_0 : decode b_Mo_copySections 0 = .ok (.iconst 0, 1) := by decide +kernel
theorem d_Mo_copySections_1 : decode b_Mo_copySections 1 = .ok (.istore_n 1, 1) := by decide +kernel
theorem d_Mo_copySections_2 : decode b_Mo_copySections 2 = .ok (.iload_n 1, 1) := by decide +kernel
theorem d_Mo_copySections_3 : decode b_Mo_copySections 3 = .ok (.sipush 4096, 3) := by decide +kernel
theorem d_Mo_copySections_6 : decode b_Mo_copySections 6 = .ok (.if_icmp .ge 16, 3) := by decide +kernel
theorem d_Mo_copySections_9 : decode b_Mo_copySections 9 = .ok (.aload_n 0, 1) := by decide +kernel
theorem d_Mo_copySections_10 : decode b_Mo_copySections 10 = .ok (.getfield 81, 3) := by decide +kernel
theorem d_Mo_copySections_13 : decode b_Mo_copySections 13 = .ok (.iload_n 1, 1) := by decide +kernel
theorem d_Mo_copySections_14 : decode b_Mo_copySections 14 = .ok (.iconst 0, 1) := by decide +kernel
theorem d_Mo_copySections_15 : decode b_Mo_copySections 15 = .ok (.iastore, 1) := by decide +kernel
theorem d_Mo_copySections_16 : decode b_Mo_copySections 16 = .ok (.iinc 1 1, 3) := by decide +kernel
theorem d_Mo_copySections_19 : decode b_Mo_copySections 19 = .ok (.goto (-17), 3) := by decide +kernel
theorem d_Mo_copySections_22 : decode b_Mo_copySections 22 = .ok (.iconst 0, 1) := by decide +kernel
theorem d_Mo_copySections_23 : decode b_Mo_copySections 23 = .ok (.istore_n 1, 1) := by decide +kernel
theorem d_Mo_copySections_24 : decode b_Mo_copySections 24 = .ok (.iload_n 1, 1) := by decide +kernel
theorem d_Mo_copySections_25 : decode b_Mo_copySections 25 = .ok (.bipush 96, 2) := by decide +kernel
theorem d_Mo_copySections_27 : decode b_Mo_copySections 27 = .ok (.if_icmp .ge 76, 3) := by decide +kernel
theorem d_Mo_copySections_30 : decode b_Mo_copySections 30 = .ok (.iconst 0, 1) := by decide +kernel
theorem d_Mo_copySections_31 : decode b_Mo_copySections 31 = .ok (.istore_n 2, 1) := by decide +kernel
theorem d_Mo_copySections_32 : decode b_Mo_copySections 32 = .ok (.aload_n 0, 1) := by decide +kernel
theorem d_Mo_copySections_33 : decode b_Mo_copySections 33 = .ok (.getfield 61, 3) := by decide +kernel
theorem d_Mo_copySections_36 : decode b_Mo_copySections 36 = .ok (.iload_n 1, 1) := by decide +kernel
theorem d_Mo_copySections_37 : decode b_Mo_copySections 37 = .ok (.baload, 1) := by decide +kernel
theorem d_Mo_copySections_38 : decode b_Mo_copySections 38 = .ok (.ifCond .eq 59, 3) := by decide +kernel
theorem d_Mo_copySections_41 : decode b_Mo_copySections 41 = .ok (.iload_n 2, 1) := by decide +kernel
theorem d_Mo_copySections_42 : decode b_Mo_copySections 42 = .ok (.aload_n 0, 1) := by decide +kernel
theorem d_Mo_copySections_43 : decode b_Mo_copySections 43 = .ok (.getfield 19, 3) := by decide +kernel
theorem d_Mo_copySections_46 : decode b_Mo_copySections 46 = .ok (.iload_n 1, 1) := by decide +kernel
theorem d_Mo_copySections_47 : decode b_Mo_copySections 47 = .ok (.iaload, 1) := by decide +kernel
theorem d_Mo_copySections_48 : decode b_Mo_copySections 48 = .ok (.if_icmp .ge 49, 3) := by decide +kernel
theorem d_Mo_copySections_51 : decode b_Mo_copySections 51 = .ok (.aload_n 0, 1) := by decide +kernel
theorem d_Mo_copySections_52 : decode b_Mo_copySections 52 = .ok (.getfield 13, 3) := by decide +kernel
theorem d_Mo_copySections_55 : decode b_Mo_copySections 55 = .ok (.iload_n 1, 1) := by decide +kernel
theorem d_Mo_copySections_56 : decode b_Mo_copySections 56 = .ok (.iaload, 1) := by decide +kernel
theorem d_Mo_copySections_57 : decode b_Mo_copySections 57 = .ok (.iconst 3, 1) := by decide +kernel
theorem d_Mo_copySections_58 : decode b_Mo_copySections 58 = .ok (.if_icmp .eq 39, 3) := by decide +kernel
theorem d_Mo_copySections_61 : decode b_Mo_copySections 61 = .ok (.aload_n 0, 1) := by decide +kernel
theorem d_Mo_copySections_62 : decode b_Mo_copySections 62 = .ok (.getfield 81, 3) := by decide +kernel
theorem d_Mo_copySections_65 : decode b_Mo_copySections 65 = .ok (.aload_n 0, 1) := by decide +kernel
theorem d_Mo_copySections_66 : decode b_Mo_copySections 66 = .ok (.getfield 71, 3) := by decide +kernel
theorem d_Mo_copySections_69 : decode b_Mo_copySections 69 = .ok (.iload_n 1, 1) := by decide +kernel
theorem d_Mo_copySections_70 : decode b_Mo_copySections 70 = .ok (.iaload, 1) := by decide +kernel
theorem d_Mo_copySections_71 : decode b_Mo_copySections 71 = .ok (.aload_n 0, 1) := by decide +kernel
theorem d_Mo_copySections_72 : decode b_Mo_copySections 72 = .ok (.getfield 176, 3) := by decide +kernel
theorem d_Mo_copySections_75 : decode b_Mo_copySections 75 = .ok (.isub, 1) := by decide +kernel
theorem d_Mo_copySections_76 : decode b_Mo_copySections 76 = .ok (.iload_n 2, 1) := by decide +kernel
theorem d_Mo_copySections_77 : decode b_Mo_copySections 77 = .ok (.iadd, 1) := by decide +kernel
theorem d_Mo_copySections_78 : decode b_Mo_copySections 78 = .ok (.aload_n 0, 1) := by decide +kernel
theorem d_Mo_copySections_79 : decode b_Mo_copySections 79 = .ok (.getfield 22, 3) := by decide +kernel
theorem d_Mo_copySections_82 : decode b_Mo_copySections 82 = .ok (.sipush 128, 3) := by decide +kernel
theorem d_Mo_copySections_85 : decode b_Mo_copySections 85 = .ok (.iload_n 1, 1) := by decide +kernel
theorem d_Mo_copySections_86 : decode b_Mo_copySections 86 = .ok (.imul, 1) := by decide +kernel
theorem d_Mo_copySections_87 : decode b_Mo_copySections 87 = .ok (.iload_n 2, 1) := by decide +kernel
theorem d_Mo_copySections_88 : decode b_Mo_copySections 88 = .ok (.iadd, 1) := by decide +kernel
theorem d_Mo_copySections_89 : decode b_Mo_copySections 89 = .ok (.iaload, 1) := by decide +kernel
theorem d_Mo_copySections_90 : decode b_Mo_copySections 90 = .ok (.iastore, 1) := by decide +kernel
theorem d_Mo_copySections_91 : decode b_Mo_copySections 91 = .ok (.iinc 2 1, 3) := by decide +kernel
theorem d_Mo_copySections_94 : decode b_Mo_copySections 94 = .ok (.goto (-62), 3) := by decide +kernel
theorem d_Mo_copySections_97 : decode b_Mo_copySections 97 = .ok (.iinc 1 1, 3) := by decide +kernel
theorem d_Mo_copySections_100 : decode b_Mo_copySections 100 = .ok (.goto (-76), 3) := by decide +kernel
theorem d_Mo_copySections_103 : decode b_Mo_copySections 103 = .ok (.return_, 1) := by decide +kernel
theorem d_Mo_workIn_0 : decode b_Mo_workIn 0 = .ok (.bipush 16, 2) := by decide +kernel
theorem d_Mo_workIn_2 : decode b_Mo_workIn 2 = .ok (.iload_n 1, 1) := by decide +kernel
theorem d_Mo_workIn_3 : decode b_Mo_workIn 3 = .ok (.imul, 1) := by decide +kernel
theorem d_Mo_workIn_4 : decode b_Mo_workIn 4 = .ok (.iload_n 2, 1) := by decide +kernel
theorem d_Mo_workIn_5 : decode b_Mo_workIn 5 = .ok (.iadd, 1) := by decide +kernel
theorem d_Mo_workIn_6 : decode b_Mo_workIn 6 = .ok (.istore_n 3, 1) := by decide +kernel
theorem d_Mo_workIn_7 : decode b_Mo_workIn 7 = .ok (.bipush 8, 2) := by decide +kernel
theorem d_Mo_workIn_9 : decode b_Mo_workIn 9 = .ok (.iload_n 1, 1) := by decide +kernel
theorem d_Mo_workIn_10 : decode b_Mo_workIn 10 = .ok (.imul, 1) := by decide +kernel
theorem d_Mo_workIn_11 : decode b_Mo_workIn 11 = .ok (.aload_n 0, 1) := by decide +kernel
theorem d_Mo_workIn_12 : decode b_Mo_workIn 12 = .ok (.getfield 43, 3) := by decide +kernel
theorem d_Mo_workIn_15 : decode b_Mo_workIn 15 = .ok (.iload_n 3, 1) := by decide +kernel
theorem d_Mo_workIn_16 : decode b_Mo_workIn 16 = .ok (.iaload, 1) := by decide +kernel
theorem d_Mo_workIn_17 : decode b_Mo_workIn 17 = .ok (.iadd, 1) := by decide +kernel
theorem d_Mo_workIn_18 : decode b_Mo_workIn 18 = .ok (.istore 4, 2) := by decide +kernel
theorem d_Mo_workIn_20 : decode b_Mo_workIn 20 = .ok (.aload_n 0, 1) := by decide +kernel
theorem d_Mo_workIn_21 : decode b_Mo_workIn 21 = .ok (.getfield 49, 3) := by decide +kernel
theorem d_Mo_workIn_24 : decode b_Mo_workIn 24 = .ok (.iload_n 3, 1) := by decide +kernel
theorem d_Mo_workIn_25 : decode b_Mo_workIn 25 = .ok (.iaload, 1) := by decide +kernel
theorem d_Mo_workIn_26 : decode b_Mo_workIn 26 = .ok (.istore 5, 2) := by decide +kernel
theorem d_Mo_workIn_28 : decode b_Mo_workIn 28 = .ok (.iload 5, 2) := by decide +kernel
theorem d_Mo_workIn_30 : decode b_Mo_workIn 30 = .ok (.ifCond .ne 7, 3) := by decide +kernel
theorem d_Mo_workIn_33 : decode b_Mo_workIn 33 = .ok (.iconst 4, 1) := by decide +kernel
theorem d_Mo_workIn_34 : decode b_Mo_workIn 34 = .ok (.goto 14, 3) := by decide +kernel
theorem d_Mo_workIn_37 : decode b_Mo_workIn 37 = .ok (.iload 5, 2) := by decide +kernel
theorem d_Mo_workIn_39 : decode b_Mo_workIn 39 = .ok (.iconst 3, 1) := by decide +kernel
theorem d_Mo_workIn_40 : decode b_Mo_workIn 40 = .ok (.if_icmp .ne 7, 3) := by decide +kernel
theorem d_Mo_workIn_43 : decode b_Mo_workIn 43 = .ok (.iconst 1, 1) := by decide +kernel
theorem d_Mo_workIn_44 : decode b_Mo_workIn 44 = .ok (.goto 4, 3) := by decide +kernel
theorem d_Mo_workIn_47 : decode b_Mo_workIn 47 = .ok (.iconst 2, 1) := by decide +kernel
theorem d_Mo_workIn_48 : decode b_Mo_workIn 48 = .ok (.istore 6, 2) := by decide +kernel
theorem d_Mo_workIn_50 : decode b_Mo_workIn 50 = .ok (.aload_n 0, 1) := by decide +kernel
theorem d_Mo_workIn_51 : decode b_Mo_workIn 51 = .ok (.getfield 46, 3) := by decide +kernel
theorem d_Mo_workIn_54 : decode b_Mo_workIn 54 = .ok (.iload_n 3, 1) := by decide +kernel
theorem d_Mo_workIn_55 : decode b_Mo_workIn 55 = .ok (.iaload, 1) := by decide +kernel
theorem d_Mo_workIn_56 : decode b_Mo_workIn 56 = .ok (.iload 6, 2) := by decide +kernel
theorem d_Mo_workIn_58 : decode b_Mo_workIn 58 = .ok (.iadd, 1) := by decide +kernel
theorem d_Mo_workIn_59 : decode b_Mo_workIn 59 = .ok (.aload_n 0, 1) := by decide +kernel
theorem d_Mo_workIn_60 : decode b_Mo_workIn 60 = .ok (.getfield 19, 3) := by decide +kernel
theorem d_Mo_workIn_63 : decode b_Mo_workIn 63 = .ok (.iload 4, 2) := by decide +kernel
theorem d_Mo_workIn_65 : decode b_Mo_workIn 65 = .ok (.iaload, 1) := by decide +kernel
theorem d_Mo_workIn_66 : decode b_Mo_workIn 66 = .ok (.if_icmp .le 11, 3) := by decide +kernel
theorem d_Mo_workIn_69 : decode b_Mo_workIn 69 = .ok (.aload_n 0, 1) := by decide +kernel
theorem d_Mo_workIn_70 : decode b_Mo_workIn 70 = .ok (.iconst 3, 1) := by decide +kernel
theorem d_Mo_workIn_71 : decode b_Mo_workIn 71 = .ok (.iload_n 1, 1) := by decide +kernel
theorem d_Mo_workIn_72 : decode b_Mo_workIn 72 = .ok (.iload_n 2, 1) := by decide +kernel
theorem d_Mo_workIn_73 : decode b_Mo_workIn 73 = .ok (.invokevirtual 157, 3) := by decide +kernel
theorem d_Mo_workIn_76 : decode b_Mo_workIn 76 = .ok (.return_, 1) := by decide +kernel
theorem d_Mo_workIn_77 : decode b_Mo_workIn 77 = .ok (.aload_n 0, 1) := by decide +kernel
theorem d_Mo_workIn_78 : decode b_Mo_workIn 78 = .ok (.getfield 71, 3) := by decide +kernel
theorem d_Mo_workIn_81 : decode b_Mo_workIn 81 = .ok (.iload 4, 2) := by decide +kernel
theorem d_Mo_workIn_83 : decode b_Mo_workIn 83 = .ok (.iaload, 1) := by decide +kernel
theorem d_Mo_workIn_84 : decode b_Mo_workIn 84 = .ok (.aload_n 0, 1) := by decide +kernel
theorem d_Mo_workIn_85 : decode b_Mo_workIn 85 = .ok (.getfield 46, 3) := by decide +kernel
theorem d_Mo_workIn_88 : decode b_Mo_workIn 88 = .ok (.iload_n 3, 1) := by decide +kernel
theorem d_Mo_workIn_89 : decode b_Mo_workIn 89 = .ok (.iaload, 1) := by decide +kernel
theorem d_Mo_workIn_90 : decode b_Mo_workIn 90 = .ok (.iadd, 1) := by decide +kernel
theorem d_Mo_workIn_91 : decode b_Mo_workIn 91 = .ok (.istore 7, 2) := by decide +kernel
theorem d_Mo_workIn_93 : decode b_Mo_workIn 93 = .ok (.aload_n 0, 1) := by decide +kernel
theorem d_Mo_workIn_94 : decode b_Mo_workIn 94 = .ok (.aload_n 0, 1) := by decide +kernel
theorem d_Mo_workIn_95 : decode b_Mo_workIn 95 = .ok (.iload_n 1, 1) := by decide +kernel
theorem d_Mo_workIn_96 : decode b_Mo_workIn 96 = .ok (.iload_n 2, 1) := by decide +kernel
theorem d_Mo_workIn_97 : decode b_Mo_workIn 97 = .ok (.invokevirtual 167, 3) := by decide +kernel
theorem d_Mo_workIn_100 : decode b_Mo_workIn 100 = .ok (.invokevirtual 197, 3) := by decide +kernel
theorem d_Mo_workIn_103 : decode b_Mo_workIn 103 = .ok (.i2l, 1) := by decide +kernel
theorem d_Mo_workIn_104 : decode b_Mo_workIn 104 = .ok (.aload_n 0, 1) := by decide +kernel
theorem d_Mo_workIn_105 : decode b_Mo_workIn 105 = .ok (.getfield 55, 3) := by decide +kernel
theorem d_Mo_workIn_108 : decode b_Mo_workIn 108 = .ok (.iload_n 3, 1) := by decide +kernel
theorem d_Mo_workIn_109 : decode b_Mo_workIn 109 = .ok (.iaload, 1) := by decide +kernel
theorem d_Mo_workIn_110 : decode b_Mo_workIn 110 = .ok (.i2l, 1) := by decide +kernel
theorem d_Mo_workIn_111 : decode b_Mo_workIn 111 = .ok (.ladd, 1) := by decide +kernel
theorem d_Mo_workIn_112 : decode b_Mo_workIn 112 = .ok (.lstore 8, 2) := by decide +kernel
theorem d_Mo_workIn_114 : decode b_Mo_workIn 114 = .ok (.lload 8, 2) := by decide +kernel
theorem d_Mo_workIn_116 : decode b_Mo_workIn 116 = .ok (.iload 7, 2) := by decide +kernel
theorem d_Mo_workIn_118 : decode b_Mo_workIn 118 = .ok (.i2l, 1) := by decide +kernel
theorem d_Mo_workIn_119 : decode b_Mo_workIn 119 = .ok (.lsub, 1) := by decide +kernel
theorem d_Mo_workIn_120 : decode b_Mo_workIn 120 = .ok (.lstore 10, 2) := by decide +kernel
theorem d_Mo_workIn_122 : decode b_Mo_workIn 122 = .ok (.iload 5, 2) := by decide +kernel
theorem d_Mo_workIn_124 : decode b_Mo_workIn 124 = .ok (.ifCond .ne 12, 3) := by decide +kernel
theorem d_Mo_workIn_127 : decode b_Mo_workIn 127 = .ok (.aload_n 0, 1) := by decide +kernel
theorem d_Mo_workIn_128 : decode b_Mo_workIn 128 = .ok (.iload 7, 2) := by decide +kernel
theorem d_Mo_workIn_130 : decode b_Mo_workIn 130 = .ok (.lload 8, 2) := by decide +kernel
theorem d_Mo_workIn_132 : decode b_Mo_workIn 132 = .ok (.iconst 4, 1) := by decide +kernel
theorem d_Mo_workIn_133 : decode b_Mo_workIn 133 = .ok (.invokevirtual 200, 3) := by decide +kernel
theorem d_Mo_workIn_136 : decode b_Mo_workIn 136 = .ok (.iload 5, 2) := by decide +kernel
theorem d_Mo_workIn_138 : decode b_Mo_workIn 138 = .ok (.iconst 4, 1) := by decide +kernel
theorem d_Mo_workIn_139 : decode b_Mo_workIn 139 = .ok (.if_icmp .ne 19, 3) := by decide +kernel
theorem d_Mo_workIn_142 : decode b_Mo_workIn 142 = .ok (.aload_n 0, 1) := by decide +kernel
theorem d_Mo_workIn_143 : decode b_Mo_workIn 143 = .ok (.iload 7, 2) := by decide +kernel
theorem d_Mo_workIn_145 : decode b_Mo_workIn 145 = .ok (.lload 8, 2) := by decide +kernel
theorem d_Mo_workIn_147 : decode b_Mo_workIn 147 = .ok (.ldc2_w 204, 3) := by decide +kernel
theorem d_Mo_workIn_150 : decode b_Mo_workIn 150 = .ok (.ladd, 1) := by decide +kernel
theorem d_Mo_workIn_151 : decode b_Mo_workIn 151 = .ok (.bipush 16, 2) := by decide +kernel
theorem d_Mo_workIn_153 : decode b_Mo_workIn 153 = .ok (.lshr, 1) := by decide +kernel
theorem d_Mo_workIn_154 : decode b_Mo_workIn 154 = .ok (.iconst 2, 1) := by decide +kernel
theorem d_Mo_workIn_155 : decode b_Mo_workIn 155 = .ok (.invokevirtual 200, 3) := by decide +kernel
theorem d_Mo_workIn_158 : decode b_Mo_workIn 158 = .ok (.iload 5, 2) := by decide +kernel
theorem d_Mo_workIn_160 : decode b_Mo_workIn 160 = .ok (.iconst 1, 1) := by decide +kernel
theorem d_Mo_workIn_161 : decode b_Mo_workIn 161 = .ok (.if_icmp .ne 15, 3) := by decide +kernel
theorem d_Mo_workIn_164 : decode b_Mo_workIn 164 = .ok (.lload 8, 2) := by decide +kernel
theorem d_Mo_workIn_166 : decode b_Mo_workIn 166 = .ok (.lconst 0, 1) := by decide +kernel
theorem d_Mo_workIn_167 : decode b_Mo_workIn 167 = .ok (.ldc2_w 206, 3) := by decide +kernel
theorem d_Mo_workIn_170 : decode b_Mo_workIn 170 = .ok (.invokestatic 208, 3) := by decide +kernel
theorem d_Mo_workIn_173 : decode b_Mo_workIn 173 = .ok (.ifCond .eq 23, 3) := by decide +kernel
theorem d_Mo_workIn_176 : decode b_Mo_workIn 176 = .ok (.iload 5, 2) := by decide +kernel
theorem d_Mo_workIn_178 : decode b_Mo_workIn 178 = .ok (.iconst 2, 1) := by decide +kernel
theorem d_Mo_workIn_179 : decode b_Mo_workIn 179 = .ok (.if_icmp .ne 24, 3) := by decide +kernel
theorem d_Mo_workIn_182 : decode b_Mo_workIn 182 = .ok (.lload 10, 2) := by decide +kernel
theorem d_Mo_workIn_184 : decode b_Mo_workIn 184 = .ok (.ldc2_w 212, 3) := by decide +kernel
theorem d_Mo_workIn_187 : decode b_Mo_workIn 187 = .ok (.ldc2_w 214, 3) := by decide +kernel
theorem d_Mo_workIn_190 : decode b_Mo_workIn 190 = .ok (.invokestatic 208, 3) := by decide +kernel
theorem d_Mo_workIn_193 : decode b_Mo_workIn 193 = .ok (.ifCond .ne 10, 3) := by decide +kernel
theorem d_Mo_workIn_196 : decode b_Mo_workIn 196 = .ok (.aload_n 0, 1) := by decide +kernel
theorem d_Mo_workIn_197 : decode b_Mo_workIn 197 = .ok (.iconst 5, 1) := by decide +kernel
theorem d_Mo_workIn_198 : decode b_Mo_workIn 198 = .ok (.iload_n 1, 1) := by decide +kernel
theorem d_Mo_workIn_199 : decode b_Mo_workIn 199 = .ok (.iload_n 2, 1) := by decide +kernel
theorem d_Mo_workIn_200 : decode b_Mo_workIn 200 = .ok (.invokevirtual 157, 3) := by decide +kernel
theorem d_Mo_workIn_203 : decode b_Mo_workIn 203 = .ok (.iload 5, 2) := by decide +kernel
theorem d_Mo_workIn_205 : decode b_Mo_workIn 205 = .ok (.iconst 1, 1) := by decide +kernel
theorem d_Mo_workIn_206 : decode b_Mo_workIn 206 = .ok (.if_icmp .ne 12, 3) := by decide +kernel
theorem d_Mo_workIn_209 : decode b_Mo_workIn 209 = .ok (.aload_n 0, 1) := by decide +kernel
theorem d_Mo_workIn_210 : decode b_Mo_workIn 210 = .ok (.iload 7, 2) := by decide +kernel
theorem d_Mo_workIn_212 : decode b_Mo_workIn 212 = .ok (.lload 8, 2) := by decide +kernel
theorem d_Mo_workIn_214 : decode b_Mo_workIn 214 = .ok (.iconst 2, 1) := by decide +kernel
theorem d_Mo_workIn_215 : decode b_Mo_workIn 215 = .ok (.invokevirtual 200, 3) := by decide +kernel
theorem d_Mo_workIn_218 : decode b_Mo_workIn 218 = .ok (.iload 5, 2) := by decide +kernel
theorem d_Mo_workIn_220 : decode b_Mo_workIn 220 = .ok (.iconst 2, 1) := by decide +kernel
theorem d_Mo_workIn_221 : decode b_Mo_workIn 221 = .ok (.if_icmp .ne 12, 3) := by decide +kernel
theorem d_Mo_workIn_224 : decode b_Mo_workIn 224 = .ok (.aload_n 0, 1) := by decide +kernel
theorem d_Mo_workIn_225 : decode b_Mo_workIn 225 = .ok (.iload 7, 2) := by decide +kernel
theorem d_Mo_workIn_227 : decode b_Mo_workIn 227 = .ok (.lload 10, 2) := by decide +kernel
theorem d_Mo_workIn_229 : decode b_Mo_workIn 229 = .ok (.iconst 2, 1) := by decide +kernel
theorem d_Mo_workIn_230 : decode b_Mo_workIn 230 = .ok (.invokevirtual 200, 3) := by decide +kernel
theorem d_Mo_workIn_233 : decode b_Mo_workIn 233 = .ok (.iload 5, 2) := by decide +kernel
theorem d_Mo_workIn_235 : decode b_Mo_workIn 235 = .ok (.iconst 3, 1) := by decide +kernel
theorem d_Mo_workIn_236 : decode b_Mo_workIn 236 = .ok (.if_icmp .ne 58, 3) := by decide +kernel
theorem d_Mo_workIn_239 : decode b_Mo_workIn 239 = .ok (.lload 10, 2) := by decide +kernel
theorem d_Mo_workIn_241 : decode b_Mo_workIn 241 = .ok (.ldc2_w 216, 3) := by decide +kernel
theorem d_Mo_workIn_244 : decode b_Mo_workIn 244 = .ok (.land, 1) := by decide +kernel
theorem d_Mo_workIn_245 : decode b_Mo_workIn 245 = .ok (.lconst 0, 1) := by decide +kernel
theorem d_Mo_workIn_246 : decode b_Mo_workIn 246 = .ok (.lcmp, 1) := by decide +kernel
theorem d_Mo_workIn_247 : decode b_Mo_workIn 247 = .ok (.ifCond .eq 13, 3) := by decide +kernel
theorem d_Mo_workIn_250 : decode b_Mo_workIn 250 = .ok (.aload_n 0, 1) := by decide +kernel
theorem d_Mo_workIn_251 : decode b_Mo_workIn 251 = .ok (.iconst 4, 1) := by decide +kernel
theorem d_Mo_workIn_252 : decode b_Mo_workIn 252 = .ok (.iload_n 1, 1) := by decide +kernel
theorem d_Mo_workIn_253 : decode b_Mo_workIn 253 = .ok (.iload_n 2, 1) := by decide +kernel
theorem d_Mo_workIn_254 : decode b_Mo_workIn 254 = .ok (.invokevirtual 157, 3) := by decide +kernel
theorem d_Mo_workIn_257 : decode b_Mo_workIn 257 = .ok (.goto 26, 3) := by decide +kernel
theorem d_Mo_workIn_260 : decode b_Mo_workIn 260 = .ok (.lload 10, 2) := by decide +kernel
theorem d_Mo_workIn_262 : decode b_Mo_workIn 262 = .ok (.iconst 2, 1) := by decide +kernel
theorem d_Mo_workIn_263 : decode b_Mo_workIn 263 = .ok (.lshr, 1) := by decide +kernel
theorem d_Mo_workIn_264 : decode b_Mo_workIn 264 = .ok (.ldc2_w 218, 3) := by decide +kernel
theorem d_Mo_workIn_267 : decode b_Mo_workIn 267 = .ok (.ldc2_w 220, 3) := by decide +kernel
theorem d_Mo_workIn_270 : decode b_Mo_workIn 270 = .ok (.invokestatic 208, 3) := by decide +kernel
theorem d_Mo_workIn_273 : decode b_Mo_workIn 273 = .ok (.ifCond .ne 10, 3) := by decide +kernel
theorem d_Mo_workIn_276 : decode b_Mo_workIn 276 = .ok (.aload_n 0, 1) := by decide +kernel
theorem d_Mo_workIn_277 : decode b_Mo_workIn 277 = .ok (.iconst 5, 1) := by decide +kernel
theorem d_Mo_workIn_278 : decode b_Mo_workIn 278 = .ok (.iload_n 1, 1) := by decide +kernel
theorem d_Mo_workIn_279 : decode b_Mo_workIn 279 = .ok (.iload_n 2, 1) := by decide +kernel
theorem d_Mo_workIn_280 : decode b_Mo_workIn 280 = .ok (.invokevirtual 157, 3) := by decide +kernel
theorem d_Mo_workIn_283 : decode b_Mo_workIn 283 = .ok (.aload_n 0, 1) := by decide +kernel
theorem d_Mo_workIn_284 : decode b_Mo_workIn 284 = .ok (.iload 7, 2) := by decide +kernel
theorem d_Mo_workIn_286 : decode b_Mo_workIn 286 = .ok (.lload 10, 2) := by decide +kernel
theorem d_Mo_workIn_288 : decode b_Mo_workIn 288 = .ok (.iconst 2, 1) := by decide +kernel
theorem d_Mo_workIn_289 : decode b_Mo_workIn 289 = .ok (.lshr, 1) := by decide +kernel
theorem d_Mo_workIn_290 : decode b_Mo_workIn 290 = .ok (.iconst 1, 1) := by decide +kernel
theorem d_Mo_workIn_291 : decode b_Mo_workIn 291 = .ok (.invokevirtual 200, 3) := by decide +kernel
theorem d_Mo_workIn_294 : decode b_Mo_workIn 294 = .ok (.return_, 1) := by decide +kernel
theorem d_Mo_placeOfMeaning_0 : decode b_Mo_placeOfMeaning 0 = .ok (.iload_n 1, 1) := by decide +kernel
theorem d_Mo_placeOfMeaning_1 : decode b_Mo_placeOfMeaning 1 = .ok (.ifCond .ge 5, 3) := by decide +kernel
theorem d_Mo_placeOfMeaning_4 : decode b_Mo_placeOfMeaning 4 = .ok (.iconst (-1), 1) := by decide +kernel
theorem d_Mo_placeOfMeaning_5 : decode b_Mo_placeOfMeaning 5 = .ok (.ireturn, 1) := by decide +kernel
theorem d_Mo_placeOfMeaning_6 : decode b_Mo_placeOfMeaning 6 = .ok (.aload_n 0, 1) := by decide +kernel
theorem d_Mo_placeOfMeaning_7 : decode b_Mo_placeOfMeaning 7 = .ok (.getfield 31, 3) := by decide +kernel
theorem d_Mo_placeOfMeaning_10 : decode b_Mo_placeOfMeaning 10 = .ok (.iload_n 1, 1) := by decide +kernel
theorem d_Mo_placeOfMeaning_11 : decode b_Mo_placeOfMeaning 11 = .ok (.iaload, 1) := by decide +kernel
theorem d_Mo_placeOfMeaning_12 : decode b_Mo_placeOfMeaning 12 = .ok (.iconst 2, 1) := by decide +kernel
theorem d_Mo_placeOfMeaning_13 : decode b_Mo_placeOfMeaning 13 = .ok (.if_icmp .ne 23, 3) := by decide +kernel
theorem d_Mo_placeOfMeaning_16 : decode b_Mo_placeOfMeaning 16 = .ok (.aload_n 0, 1) := by decide +kernel
theorem d_Mo_placeOfMeaning_17 : decode b_Mo_placeOfMeaning 17 = .ok (.getfield 65, 3) := by decide +kernel
theorem d_Mo_placeOfMeaning_20 : decode b_Mo_placeOfMeaning 20 = .ok (.iload_n 1, 1) := by decide +kernel
theorem d_Mo_placeOfMeaning_21 : decode b_Mo_placeOfMeaning 21 = .ok (.baload, 1) := by decide +kernel
theorem d_Mo_placeOfMeaning_22 : decode b_Mo_placeOfMeaning 22 = .ok (.ifCond .eq 12, 3) := by decide +kernel
theorem d_Mo_placeOfMeaning_25 : decode b_Mo_placeOfMeaning 25 = .ok (.aload_n 0, 1) := by decide +kernel
theorem d_Mo_placeOfMeaning_26 : decode b_Mo_placeOfMeaning 26 = .ok (.getfield 68, 3) := by decide +kernel
theorem d_Mo_placeOfMeaning_29 : decode b_Mo_placeOfMeaning 29 = .ok (.iload_n 1, 1) := by decide +kernel
theorem d_Mo_placeOfMeaning_30 : decode b_Mo_placeOfMeaning 30 = .ok (.iaload, 1) := by decide +kernel
theorem d_Mo_placeOfMeaning_31 : decode b_Mo_placeOfMeaning 31 = .ok (.goto 4, 3) := by decide +kernel
theorem d_Mo_placeOfMeaning_34 : decode b_Mo_placeOfMeaning 34 = .ok (.iconst (-1), 1) := by decide +kernel
theorem d_Mo_placeOfMeaning_35 : decode b_Mo_placeOfMeaning 35 = .ok (.ireturn, 1) := by decide +kernel
theorem d_Mo_placeOfMeaning_36 : decode b_Mo_placeOfMeaning 36 = .ok (.bipush 8, 2) := by decide +kernel
theorem d_Mo_placeOfMeaning_38 : decode b_Mo_placeOfMeaning 38 = .ok (.iload_n 1, 1) := by decide +kernel
theorem d_Mo_placeOfMeaning_39 : decode b_Mo_placeOfMeaning 39 = .ok (.bipush 12, 2) := by decide +kernel
theorem d_Mo_placeOfMeaning_41 : decode b_Mo_placeOfMeaning 41 = .ok (.idiv, 1) := by decide +kernel
theorem d_Mo_placeOfMeaning_42 : decode b_Mo_placeOfMeaning 42 = .ok (.imul, 1) := by decide +kernel
theorem d_Mo_placeOfMeaning_43 : decode b_Mo_placeOfMeaning 43 = .ok (.aload_n 0, 1) := by decide +kernel
theorem d_Mo_placeOfMeaning_44 : decode b_Mo_placeOfMeaning 44 = .ok (.getfield 34, 3) := by decide +kernel
theorem d_Mo_placeOfMeaning_47 : decode b_Mo_placeOfMeaning 47 = .ok (.iload_n 1, 1) := by decide +kernel
theorem d_Mo_placeOfMeaning_48 : decode b_Mo_placeOfMeaning 48 = .ok (.iaload, 1) := by decide +kernel
theorem d_Mo_placeOfMeaning_49 : decode b_Mo_placeOfMeaning 49 = .ok (.iadd, 1) := by decide +kernel
theorem d_Mo_placeOfMeaning_50 : decode b_Mo_placeOfMeaning 50 = .ok (.istore_n 2, 1) := by decide +kernel
theorem d_Mo_placeOfMeaning_51 : decode b_Mo_placeOfMeaning 51 = .ok (.aload_n 0, 1) := by decide +kernel
theorem d_Mo_placeOfMeaning_52 : decode b_Mo_placeOfMeaning 52 = .ok (.getfield 61, 3) := by decide +kernel
theorem d_Mo_placeOfMeaning_55 : decode b_Mo_placeOfMeaning 55 = .ok (.iload_n 2, 1) := by decide +kernel
theorem d_Mo_placeOfMeaning_56 : decode b_Mo_placeOfMeaning 56 = .ok (.baload, 1) := by decide +kernel
theorem d_Mo_placeOfMeaning_57 : decode b_Mo_placeOfMeaning 57 = .ok (.ifCond .eq 19, 3) := by decide +kernel
theorem d_Mo_placeOfMeaning_60 : decode b_Mo_placeOfMeaning 60 = .ok (.aload_n 0, 1) := by decide +kernel
theorem d_Mo_placeOfMeaning_61 : decode b_Mo_placeOfMeaning 61 = .ok (.getfield 71, 3) := by decide +kernel
theorem d_Mo_placeOfMeaning_64 : decode b_Mo_placeOfMeaning 64 = .ok (.iload_n 2, 1) := by decide +kernel
theorem d_Mo_placeOfMeaning_65 : decode b_Mo_placeOfMeaning 65 = .ok (.iaload, 1) := by decide +kernel
theorem d_Mo_placeOfMeaning_66 : decode b_Mo_placeOfMeaning 66 = .ok (.aload_n 0, 1) := by decide +kernel
theorem d_Mo_placeOfMeaning_67 : decode b_Mo_placeOfMeaning 67 = .ok (.getfield 37, 3) := by decide +kernel
theorem d_Mo_placeOfMeaning_70 : decode b_Mo_placeOfMeaning 70 = .ok (.iload_n 1, 1) := by decide +kernel
theorem d_Mo_placeOfMeaning_71 : decode b_Mo_placeOfMeaning 71 = .ok (.iaload, 1) := by decide +kernel
theorem d_Mo_placeOfMeaning_72 : decode b_Mo_placeOfMeaning 72 = .ok (.iadd, 1) := by decide +kernel
theorem d_Mo_placeOfMeaning_73 : decode b_Mo_placeOfMeaning 73 = .ok (.goto 4, 3) := by decide +kernel
theorem d_Mo_placeOfMeaning_76 : decode b_Mo_placeOfMeaning 76 = .ok (.iconst (-1), 1) := by decide +kernel
theorem d_Mo_placeOfMeaning_77 : decode b_Mo_placeOfMeaning 77 = .ok (.ireturn, 1) := by decide +kernel
theorem d_Mo_put_0 : decode b_Mo_put 0 = .ok (.iconst 0, 1) := by decide +kernel
theorem d_Mo_put_1 : decode b_Mo_put 1 = .ok (.istore 5, 2) := by decide +kernel
theorem d_Mo_put_3 : decode b_Mo_put 3 = .ok (.iload 5, 2) := by decide +kernel
theorem d_Mo_put_5 : decode b_Mo_put 5 = .ok (.iload 4, 2) := by decide +kernel
theorem d_Mo_put_7 : decode b_Mo_put 7 = .ok (.if_icmp .ge 40, 3) := by decide +kernel
theorem d_Mo_put_10 : decode b_Mo_put 10 = .ok (.aload_n 0, 1) := by decide +kernel
theorem d_Mo_put_11 : decode b_Mo_put 11 = .ok (.getfield 81, 3) := by decide +kernel
theorem d_Mo_put_14 : decode b_Mo_put 14 = .ok (.iload_n 1, 1) := by decide +kernel
theorem d_Mo_put_15 : decode b_Mo_put 15 = .ok (.aload_n 0, 1) := by decide +kernel
theorem d_Mo_put_16 : decode b_Mo_put 16 = .ok (.getfield 176, 3) := by decide +kernel
theorem d_Mo_put_19 : decode b_Mo_put 19 = .ok (.isub, 1) := by decide +kernel
theorem d_Mo_put_20 : decode b_Mo_put 20 = .ok (.iload 5, 2) := by decide +kernel
theorem d_Mo_put_22 : decode b_Mo_put 22 = .ok (.iadd, 1) := by decide +kernel
theorem d_Mo_put_23 : decode b_Mo_put 23 = .ok (.lload_n 2, 1) := by decide +kernel
theorem d_Mo_put_24 : decode b_Mo_put 24 = .ok (.bipush 8, 2) := by decide +kernel
theorem d_Mo_put_26 : decode b_Mo_put 26 = .ok (.iload 4, 2) := by decide +kernel
theorem d_Mo_put_28 : decode b_Mo_put 28 = .ok (.iconst 1, 1) := by decide +kernel
theorem d_Mo_put_29 : decode b_Mo_put 29 = .ok (.isub, 1) := by decide +kernel
theorem d_Mo_put_30 : decode b_Mo_put 30 = .ok (.iload 5, 2) := by decide +kernel
theorem d_Mo_put_32 : decode b_Mo_put 32 = .ok (.isub, 1) := by decide +kernel
theorem d_Mo_put_33 : decode b_Mo_put 33 = .ok (.imul, 1) := by decide +kernel
theorem d_Mo_put_34 : decode b_Mo_put 34 = .ok (.lshr, 1) := by decide +kernel
theorem d_Mo_put_35 : decode b_Mo_put 35 = .ok (.ldc2_w 195, 3) := by decide +kernel
theorem d_Mo_put_38 : decode b_Mo_put 38 = .ok (.land, 1) := by decide +kernel
theorem d_Mo_put_39 : decode b_Mo_put 39 = .ok (.l2i, 1) := by decide +kernel
theorem d_Mo_put_40 : decode b_Mo_put 40 = .ok (.iastore, 1) := by decide +kernel
theorem d_Mo_put_41 : decode b_Mo_put 41 = .ok (.iinc 5 1, 3) := by decide +kernel
theorem d_Mo_put_44 : decode b_Mo_put 44 = .ok (.goto (-41), 3) := by decide +kernel
theorem d_Mo_put_47 : decode b_Mo_put 47 = .ok (.return_, 1) := by decide +kernel
theorem d_Mo_in_0 : decode b_Mo_in 0 = .ok (.lload_n 0, 1) := by decide +kernel
theorem d_Mo_in_1 : decode b_Mo_in 1 = .ok (.lload_n 2, 1) := by decide +kernel
theorem d_Mo_in_2 : decode b_Mo_in 2 = .ok (.lcmp, 1) := by decide +kernel
theorem d_Mo_in_3 : decode b_Mo_in 3 = .ok (.ifCond .lt 14, 3) := by decide +kernel
theorem d_Mo_in_6 : decode b_Mo_in 6 = .ok (.lload_n 0, 1) := by decide +kernel
theorem d_Mo_in_7 : decode b_Mo_in 7 = .ok (.lload 4, 2) := by decide +kernel
theorem d_Mo_in_9 : decode b_Mo_in 9 = .ok (.lcmp, 1) := by decide +kernel
theorem d_Mo_in_10 : decode b_Mo_in 10 = .ok (.ifCond .gt 7, 3) := by decide +kernel
theorem d_Mo_in_13 : decode b_Mo_in 13 = .ok (.iconst 1, 1) := by decide +kernel
theorem d_Mo_in_14 : decode b_Mo_in 14 = .ok (.goto 4, 3) := by decide +kernel
theorem d_Mo_in_17 : decode b_Mo_in 17 = .ok (.iconst 0, 1) := by decide +kernel
theorem d_Mo_in_18 : decode b_Mo_in 18 = .ok (.ireturn, 1) := by decide +kernel
theorem d_Mo_know_0 : decode b_Mo_know 0 = .ok (.aload_n 0, 1) := by decide +kernel
theorem d_Mo_know_1 : decode b_Mo_know 1 = .ok (.iconst 0, 1) := by decide +kernel
theorem d_Mo_know_2 : decode b_Mo_know 2 = .ok (.putfield 222, 3) := by decide +kernel
theorem d_Mo_know_5 : decode b_Mo_know 5 = .ok (.iconst 0, 1) := by decide +kernel
theorem d_Mo_know_6 : decode b_Mo_know 6 = .ok (.istore_n 1, 1) := by decide +kernel
theorem d_Mo_know_7 : decode b_Mo_know 7 = .ok (.iload_n 1, 1) := by decide +kernel
theorem d_Mo_know_8 : decode b_Mo_know 8 = .ok (.aload_n 0, 1) := by decide +kernel
theorem d_Mo_know_9 : decode b_Mo_know 9 = .ok (.getfield 144, 3) := by decide +kernel
theorem d_Mo_know_12 : decode b_Mo_know 12 = .ok (.if_icmp .ge 90, 3) := by decide +kernel
theorem d_Mo_know_15 : decode b_Mo_know 15 = .ok (.aload_n 0, 1) := by decide +kernel
theorem d_Mo_know_16 : decode b_Mo_know 16 = .ok (.getfield 58, 3) := by decide +kernel
theorem d_Mo_know_19 : decode b_Mo_know 19 = .ok (.iload_n 1, 1) := by decide +kernel
theorem d_Mo_know_20 : decode b_Mo_know 20 = .ok (.iaload, 1) := by decide +kernel
theorem d_Mo_know_21 : decode b_Mo_know 21 = .ok (.istore_n 2, 1) := by decide +kernel
theorem d_Mo_know_22 : decode b_Mo_know 22 = .ok (.bipush 12, 2) := by decide +kernel
theorem d_Mo_know_24 : decode b_Mo_know 24 = .ok (.iload_n 2, 1) := by decide +kernel
theorem d_Mo_know_25 : decode b_Mo_know 25 = .ok (.imul, 1) := by decide +kernel
theorem d_Mo_know_26 : decode b_Mo_know 26 = .ok (.istore_n 3, 1) := by decide +kernel
theorem d_Mo_know_27 : decode b_Mo_know 27 = .ok (.iload_n 3, 1) := by decide +kernel
theorem d_Mo_know_28 : decode b_Mo_know 28 = .ok (.bipush 12, 2) := by decide +kernel
theorem d_Mo_know_30 : decode b_Mo_know 30 = .ok (.iload_n 2, 1) := by decide +kernel
theorem d_Mo_know_31 : decode b_Mo_know 31 = .ok (.imul, 1) := by decide +kernel
theorem d_Mo_know_32 : decode b_Mo_know 32 = .ok (.aload_n 0, 1) := by decide +kernel
theorem d_Mo_know_33 : decode b_Mo_know 33 = .ok (.getfield 25, 3) := by decide +kernel
theorem d_Mo_know_36 : decode b_Mo_know 36 = .ok (.iload_n 2, 1) := by decide +kernel
theorem d_Mo_know_37 : decode b_Mo_know 37 = .ok (.iaload, 1) := by decide +kernel
theorem d_Mo_know_38 : decode b_Mo_know 38 = .ok (.iadd, 1) := by decide +kernel
theorem d_Mo_know_39 : decode b_Mo_know 39 = .ok (.if_icmp .ge 57, 3) := by decide +kernel
theorem d_Mo_know_42 : decode b_Mo_know 42 = .ok (.aload_n 0, 1) := by decide +kernel
theorem d_Mo_know_43 : decode b_Mo_know 43 = .ok (.getfield 84, 3) := by decide +kernel
theorem d_Mo_know_46 : decode b_Mo_know 46 = .ok (.aload_n 0, 1) := by decide +kernel
theorem d_Mo_know_47 : decode b_Mo_know 47 = .ok (.getfield 222, 3) := by decide +kernel
theorem d_Mo_know_50 : decode b_Mo_know 50 = .ok (.aload_n 0, 1) := by decide +kernel
theorem d_Mo_know_51 : decode b_Mo_know 51 = .ok (.getfield 28, 3) := by decide +kernel
theorem d_Mo_know_54 : decode b_Mo_know 54 = .ok (.iload_n 3, 1) := by decide +kernel
theorem d_Mo_know_55 : decode b_Mo_know 55 = .ok (.iaload, 1) := by decide +kernel
theorem d_Mo_know_56 : decode b_Mo_know 56 = .ok (.iastore, 1) := by decide +kernel
theorem d_Mo_know_57 : decode b_Mo_know 57 = .ok (.aload_n 0, 1) := by decide +kernel
theorem d_Mo_know_58 : decode b_Mo_know 58 = .ok (.getfield 87, 3) := by decide +kernel
theorem d_Mo_know_61 : decode b_Mo_know 61 = .ok (.aload_n 0, 1) := by decide +kernel
theorem d_Mo_know_62 : decode b_Mo_know 62 = .ok (.getfield 222, 3) := by decide +kernel
theorem d_Mo_know_65 : decode b_Mo_know 65 = .ok (.aload_n 0, 1) := by decide +kernel
theorem d_Mo_know_66 : decode b_Mo_know 66 = .ok (.aload_n 0, 1) := by decide +kernel
theorem d_Mo_know_67 : decode b_Mo_know 67 = .ok (.aload_n 0, 1) := by decide +kernel
theorem d_Mo_know_68 : decode b_Mo_know 68 = .ok (.getfield 28, 3) := by decide +kernel
theorem d_Mo_know_71 : decode b_Mo_know 71 = .ok (.iload_n 3, 1) := by decide +kernel
theorem d_Mo_know_72 : decode b_Mo_know 72 = .ok (.iaload, 1) := by decide +kernel
theorem d_Mo_know_73 : decode b_Mo_know 73 = .ok (.invokevirtual 151, 3) := by decide +kernel
theorem d_Mo_know_76 : decode b_Mo_know 76 = .ok (.invokevirtual 197, 3) := by decide +kernel
theorem d_Mo_know_79 : decode b_Mo_know 79 = .ok (.iastore, 1) := by decide +kernel
theorem d_Mo_know_80 : decode b_Mo_know 80 = .ok (.aload_n 0, 1) := by decide +kernel
theorem d_Mo_know_81 : decode b_Mo_know 81 = .ok (.dup, 1) := by decide +kernel
theorem d_Mo_know_82 : decode b_Mo_know 82 = .ok (.getfield 222, 3) := by decide +kernel
theorem d_Mo_know_85 : decode b_Mo_know 85 = .ok (.iconst 1, 1) := by decide +kernel
theorem d_Mo_know_86 : decode b_Mo_know 86 = .ok (.iadd, 1) := by decide +kernel
theorem d_Mo_know_87 : decode b_Mo_know 87 = .ok (.putfield 222, 3) := by decide +kernel
theorem d_Mo_know_90 : decode b_Mo_know 90 = .ok (.iinc 3 1, 3) := by decide +kernel
theorem d_Mo_know_93 : decode b_Mo_know 93 = .ok (.goto (-66), 3) := by decide +kernel
theorem d_Mo_know_96 : decode b_Mo_know 96 = .ok (.iinc 1 1, 3) := by decide +kernel
theorem d_Mo_know_99 : decode b_Mo_know 99 = .ok (.goto (-92), 3) := by decide +kernel
theorem d_Mo_know_102 : decode b_Mo_know 102 = .ok (.return_, 1) := by decide +kernel
theorem d_Mo_noImage_0 : decode b_Mo_noImage 0 = .ok (.aload_n 0, 1) := by decide +kernel
theorem d_Mo_noImage_1 : decode b_Mo_noImage 1 = .ok (.iconst 0, 1) := by decide +kernel
theorem d_Mo_noImage_2 : decode b_Mo_noImage 2 = .ok (.putfield 225, 3) := by decide +kernel
theorem d_Mo_noImage_5 : decode b_Mo_noImage 5 = .ok (.aload_n 0, 1) := by decide +kernel
theorem d_Mo_noImage_6 : decode b_Mo_noImage 6 = .ok (.iconst 0, 1) := by decide +kernel
theorem d_Mo_noImage_7 : decode b_Mo_noImage 7 = .ok (.putfield 192, 3) := by decide +kernel
theorem d_Mo_noImage_10 : decode b_Mo_noImage 10 = .ok (.aload_n 0, 1) := by decide +kernel
theorem d_Mo_noImage_11 : decode b_Mo_noImage 11 = .ok (.iconst 0, 1) := by decide +kernel
theorem d_Mo_noImage_12 : decode b_Mo_noImage 12 = .ok (.putfield 179, 3) := by decide +kernel
theorem d_Mo_noImage_15 : decode b_Mo_noImage 15 = .ok (.aload_n 0, 1) := by decide +kernel
theorem d_Mo_noImage_16 : decode b_Mo_noImage 16 = .ok (.iconst 0, 1) := by decide +kernel
theorem d_Mo_noImage_17 : decode b_Mo_noImage 17 = .ok (.putfield 173, 3) := by decide +kernel
theorem d_Mo_noImage_20 : decode b_Mo_noImage 20 = .ok (.aload_n 0, 1) := by decide +kernel
theorem d_Mo_noImage_21 : decode b_Mo_noImage 21 = .ok (.iconst 0, 1) := by decide +kernel
theorem d_Mo_noImage_22 : decode b_Mo_noImage 22 = .ok (.putfield 182, 3) := by decide +kernel
theorem d_Mo_noImage_25 : decode b_Mo_noImage 25 = .ok (.aload_n 0, 1) := by decide +kernel
theorem d_Mo_noImage_26 : decode b_Mo_noImage 26 = .ok (.iconst 0, 1) := by decide +kernel
theorem d_Mo_noImage_27 : decode b_Mo_noImage 27 = .ok (.putfield 222, 3) := by decide +kernel
theorem d_Mo_noImage_30 : decode b_Mo_noImage 30 = .ok (.iconst 0, 1) := by decide +kernel
theorem d_Mo_noImage_31 : decode b_Mo_noImage 31 = .ok (.istore_n 1, 1) := by decide +kernel
theorem d_Mo_noImage_32 : decode b_Mo_noImage 32 = .ok (.iload_n 1, 1) := by decide +kernel
theorem d_Mo_noImage_33 : decode b_Mo_noImage 33 = .ok (.bipush 96, 2) := by decide +kernel
theorem d_Mo_noImage_35 : decode b_Mo_noImage 35 = .ok (.if_icmp .ge 16, 3) := by decide +kernel
theorem d_Mo_noImage_38 : decode b_Mo_noImage 38 = .ok (.aload_n 0, 1) := by decide +kernel
theorem d_Mo_noImage_39 : decode b_Mo_noImage 39 = .ok (.getfield 71, 3) := by decide +kernel
theorem d_Mo_noImage_42 : decode b_Mo_noImage 42 = .ok (.iload_n 1, 1) := by decide +kernel
theorem d_Mo_noImage_43 : decode b_Mo_noImage 43 = .ok (.iconst (-1), 1) := by decide +kernel
theorem d_Mo_noImage_44 : decode b_Mo_noImage 44 = .ok (.iastore, 1) := by decide +kernel
theorem d_Mo_noImage_45 : decode b_Mo_noImage 45 = .ok (.iinc 1 1, 3) := by decide +kernel
theorem d_Mo_noImage_48 : decode b_Mo_noImage 48 = .ok (.goto (-16), 3) := by decide +kernel
theorem d_Mo_noImage_51 : decode b_Mo_noImage 51 = .ok (.return_, 1) := by decide +kernel
theorem d_Mo_fault_0 : decode b_Mo_fault 0 = .ok (.aload_n 0, 1) := by decide +kernel
theorem d_Mo_fault_1 : decode b_Mo_fault 1 = .ok (.iconst 0, 1) := by decide +kernel
theorem d_Mo_fault_2 : decode b_Mo_fault 2 = .ok (.putfield 93, 3) := by decide +kernel
theorem d_Mo_fault_5 : decode b_Mo_fault 5 = .ok (.iload_n 1, 1) := by decide +kernel
theorem d_Mo_fault_6 : decode b_Mo_fault 6 = .ok (.ifCond .ne 10, 3) := by decide +kernel
theorem d_Mo_fault_9 : decode b_Mo_fault 9 = .ok (.aload_n 0, 1) := by decide +kernel
theorem d_Mo_fault_10 : decode b_Mo_fault 10 = .ok (.getfield 154, 3) := by decide +kernel
theorem d_Mo_fault_13 : decode b_Mo_fault 13 = .ok (.goto 32, 3) := by decide +kernel
theorem d_Mo_fault_16 : decode b_Mo_fault 16 = .ok (.iload_n 1, 1) := by decide +kernel
theorem d_Mo_fault_17 : decode b_Mo_fault 17 = .ok (.iconst 1, 1) := by decide +kernel
theorem d_Mo_fault_18 : decode b_Mo_fault 18 = .ok (.if_icmp .ne 10, 3) := by decide +kernel
theorem d_Mo_fault_21 : decode b_Mo_fault 21 = .ok (.aload_n 0, 1) := by decide +kernel
theorem d_Mo_fault_22 : decode b_Mo_fault 22 = .ok (.getfield 74, 3) := by decide +kernel
theorem d_Mo_fault_25 : decode b_Mo_fault 25 = .ok (.goto 20, 3) := by decide +kernel
theorem d_Mo_fault_28 : decode b_Mo_fault 28 = .ok (.iload_n 1, 1) := by decide +kernel
theorem d_Mo_fault_29 : decode b_Mo_fault 29 = .ok (.iconst 2, 1) := by decide +kernel
theorem d_Mo_fault_30 : decode b_Mo_fault 30 = .ok (.if_icmp .ne 10, 3) := by decide +kernel
theorem d_Mo_fault_33 : decode b_Mo_fault 33 = .ok (.aload_n 0, 1) := by decide +kernel
theorem d_Mo_fault_34 : decode b_Mo_fault 34 = .ok (.getfield 78, 3) := by decide +kernel
theorem d_Mo_fault_37 : decode b_Mo_fault 37 = .ok (.goto 8, 3) := by decide +kernel
theorem d_Mo_fault_40 : decode b_Mo_fault 40 = .ok (.aload_n 0, 1) := by decide +kernel
theorem d_Mo_fault_41 : decode b_Mo_fault 41 = .ok (.iconst 1, 1) := by decide +kernel
theorem d_Mo_fault_42 : decode b_Mo_fault 42 = .ok (.invokevirtual 103, 3) := by decide +kernel
theorem d_Mo_fault_45 : decode b_Mo_fault 45 = .ok (.ireturn, 1) := by decide +kernel
theorem d_Mo_image_0 : decode b_Mo_image 0 = .ok (.aload_n 0, 1) := by decide +kernel
theorem d_Mo_image_1 : decode b_Mo_image 1 = .ok (.iconst 0, 1) := by decide +kernel
theorem d_Mo_image_2 : decode b_Mo_image 2 = .ok (.putfield 93, 3) := by decide +kernel
theorem d_Mo_image_5 : decode b_Mo_image 5 = .ok (.iload_n 1, 1) := by decide +kernel
theorem d_Mo_image_6 : decode b_Mo_image 6 = .ok (.iconst 0, 1) := by decide +kernel
theorem d_Mo_image_7 : decode b_Mo_image 7 = .ok (.aload_n 0, 1) := by decide +kernel
theorem d_Mo_image_8 : decode b_Mo_image 8 = .ok (.getfield 192, 3) := by decide +kernel
theorem d_Mo_image_11 : decode b_Mo_image 11 = .ok (.iconst 1, 1) := by decide +kernel
theorem d_Mo_image_12 : decode b_Mo_image 12 = .ok (.isub, 1) := by decide +kernel
theorem d_Mo_image_13 : decode b_Mo_image 13 = .ok (.invokestatic 99, 3) := by decide +kernel
theorem d_Mo_image_16 : decode b_Mo_image 16 = .ok (.ifCond .eq 12, 3) := by decide +kernel
theorem d_Mo_image_19 : decode b_Mo_image 19 = .ok (.aload_n 0, 1) := by decide +kernel
theorem d_Mo_image_20 : decode b_Mo_image 20 = .ok (.getfield 81, 3) := by decide +kernel
theorem d_Mo_image_23 : decode b_Mo_image 23 = .ok (.iload_n 1, 1) := by decide +kernel
theorem d_Mo_image_24 : decode b_Mo_image 24 = .ok (.iaload, 1) := by decide +kernel
theorem d_Mo_image_25 : decode b_Mo_image 25 = .ok (.goto 8, 3) := by decide +kernel
theorem d_Mo_image_28 : decode b_Mo_image 28 = .ok (.aload_n 0, 1) := by decide +kernel
theorem d_Mo_image_29 : decode b_Mo_image 29 = .ok (.iconst 1, 1) := by decide +kernel
theorem d_Mo_image_30 : decode b_Mo_image 30 = .ok (.invokevirtual 103, 3) := by decide +kernel
theorem d_Mo_image_33 : decode b_Mo_image 33 = .ok (.ireturn, 1) := by decide +kernel
theorem d_Mo_placeOf_0 : decode b_Mo_placeOf 0 = .ok (.aload_n 0, 1) := by decide +kernel
theorem d_Mo_placeOf_1 : decode b_Mo_placeOf 1 = .ok (.iload_n 1, 1) := by decide +kernel
theorem d_Mo_placeOf_2 : decode b_Mo_placeOf 2 = .ok (.invokevirtual 111, 3) := by decide +kernel
theorem d_Mo_placeOf_5 : decode b_Mo_placeOf 5 = .ok (.ifCond .ne 5, 3) := by decide +kernel
theorem d_Mo_placeOf_8 : decode b_Mo_placeOf 8 = .ok (.iconst 0, 1) := by decide +kernel
theorem d_Mo_placeOf_9 : decode b_Mo_placeOf 9 = .ok (.ireturn, 1) := by decide +kernel
theorem d_Mo_placeOf_10 : decode b_Mo_placeOf 10 = .ok (.aload_n 0, 1) := by decide +kernel
theorem d_Mo_placeOf_11 : decode b_Mo_placeOf 11 = .ok (.iload_n 1, 1) := by decide +kernel
theorem d_Mo_placeOf_12 : decode b_Mo_placeOf 12 = .ok (.iload_n 2, 1) := by decide +kernel
theorem d_Mo_placeOf_13 : decode b_Mo_placeOf 13 = .ok (.invokevirtual 122, 3) := by decide +kernel
theorem d_Mo_placeOf_16 : decode b_Mo_placeOf 16 = .ok (.ifCond .ne 9, 3) := by decide +kernel
theorem d_Mo_placeOf_19 : decode b_Mo_placeOf 19 = .ok (.aload_n 0, 1) := by decide +kernel
theorem d_Mo_placeOf_20 : decode b_Mo_placeOf 20 = .ok (.iconst 2, 1) := by decide +kernel
theorem d_Mo_placeOf_21 : decode b_Mo_placeOf 21 = .ok (.invokevirtual 103, 3) := by decide +kernel
theorem d_Mo_placeOf_24 : decode b_Mo_placeOf 24 = .ok (.ireturn, 1) := by decide +kernel
theorem d_Mo_placeOf_25 : decode b_Mo_placeOf 25 = .ok (.aload_n 0, 1) := by decide +kernel
theorem d_Mo_placeOf_26 : decode b_Mo_placeOf 26 = .ok (.getfield 71, 3) := by decide +kernel
theorem d_Mo_placeOf_29 : decode b_Mo_placeOf 29 = .ok (.bipush 8, 2) := by decide +kernel
theorem d_Mo_placeOf_31 : decode b_Mo_placeOf 31 = .ok (.iload_n 1, 1) := by decide +kernel
theorem d_Mo_placeOf_32 : decode b_Mo_placeOf 32 = .ok (.imul, 1) := by decide +kernel
theorem d_Mo_placeOf_33 : decode b_Mo_placeOf 33 = .ok (.iload_n 2, 1) := by decide +kernel
theorem d_Mo_placeOf_34 : decode b_Mo_placeOf 34 = .ok (.iadd, 1) := by decide +kernel
theorem d_Mo_placeOf_35 : decode b_Mo_placeOf 35 = .ok (.iaload, 1) := by decide +kernel
theorem d_Mo_placeOf_36 : decode b_Mo_placeOf 36 = .ok (.istore_n 3, 1) := by decide +kernel
theorem d_Mo_placeOf_37 : decode b_Mo_placeOf 37 = .ok (.iload_n 3, 1) := by decide +kernel
theorem d_Mo_placeOf_38 : decode b_Mo_placeOf 38 = .ok (.ifCond .ge 7, 3) := by decide +kernel
theorem d_Mo_placeOf_41 : decode b_Mo_placeOf 41 = .ok (.iconst (-1), 1) := by decide +kernel
theorem d_Mo_placeOf_42 : decode b_Mo_placeOf 42 = .ok (.goto 9, 3) := by decide +kernel
theorem d_Mo_placeOf_45 : decode b_Mo_placeOf 45 = .ok (.iload_n 3, 1) := by decide +kernel
theorem d_Mo_placeOf_46 : decode b_Mo_placeOf 46 = .ok (.aload_n 0, 1) := by decide +kernel
theorem d_Mo_placeOf_47 : decode b_Mo_placeOf 47 = .ok (.getfield 176, 3) := by decide +kernel
theorem d_Mo_placeOf_50 : decode b_Mo_placeOf 50 = .ok (.isub, 1) := by decide +kernel
theorem d_Mo_placeOf_51 : decode b_Mo_placeOf 51 = .ok (.ireturn, 1) := by decide +kernel
theorem d_Mo_nameAt_0 : decode b_Mo_nameAt 0 = .ok (.aload_n 0, 1) := by decide +kernel
theorem d_Mo_nameAt_1 : decode b_Mo_nameAt 1 = .ok (.iconst 0, 1) := by decide +kernel
theorem d_Mo_nameAt_2 : decode b_Mo_nameAt 2 = .ok (.putfield 93, 3) := by decide +kernel
theorem d_Mo_nameAt_5 : decode b_Mo_nameAt 5 = .ok (.iconst 0, 1) := by decide +kernel
theorem d_Mo_nameAt_6 : decode b_Mo_nameAt 6 = .ok (.istore_n 2, 1) := by decide +kernel
theorem d_Mo_nameAt_7 : decode b_Mo_nameAt 7 = .ok (.iload_n 2, 1) := by decide +kernel
theorem d_Mo_nameAt_8 : decode b_Mo_nameAt 8 = .ok (.aload_n 0, 1) := by decide +kernel
theorem d_Mo_nameAt_9 : decode b_Mo_nameAt 9 = .ok (.getfield 222, 3) := by decide +kernel
theorem d_Mo_nameAt_12 : decode b_Mo_nameAt 12 = .ok (.if_icmp .ge 26, 3) := by decide +kernel
theorem d_Mo_nameAt_15 : decode b_Mo_nameAt 15 = .ok (.aload_n 0, 1) := by decide +kernel
theorem d_Mo_nameAt_16 : decode b_Mo_nameAt 16 = .ok (.getfield 84, 3) := by decide +kernel
theorem d_Mo_nameAt_19 : decode b_Mo_nameAt 19 = .ok (.iload_n 2, 1) := by decide +kernel
theorem d_Mo_nameAt_20 : decode b_Mo_nameAt 20 = .ok (.iaload, 1) := by decide +kernel
theorem d_Mo_nameAt_21 : decode b_Mo_nameAt 21 = .ok (.iload_n 1, 1) := by decide +kernel
theorem d_Mo_nameAt_22 : decode b_Mo_nameAt 22 = .ok (.if_icmp .ne 10, 3) := by decide +kernel
theorem d_Mo_nameAt_25 : decode b_Mo_nameAt 25 = .ok (.aload_n 0, 1) := by decide +kernel
theorem d_Mo_nameAt_26 : decode b_Mo_nameAt 26 = .ok (.getfield 87, 3) := by decide +kernel
theorem d_Mo_nameAt_29 : decode b_Mo_nameAt 29 = .ok (.iload_n 2, 1) := by decide +kernel
theorem d_Mo_nameAt_30 : decode b_Mo_nameAt 30 = .ok (.iaload, 1) := by decide +kernel
theorem d_Mo_nameAt_31 : decode b_Mo_nameAt 31 = .ok (.ireturn, 1) := by decide +kernel
theorem d_Mo_nameAt_32 : decode b_Mo_nameAt 32 = .ok (.iinc 2 1, 3) := by decide +kernel
theorem d_Mo_nameAt_35 : decode b_Mo_nameAt 35 = .ok (.goto (-28), 3) := by decide +kernel
theorem d_Mo_nameAt_38 : decode b_Mo_nameAt 38 = .ok (.iconst (-1), 1) := by decide +kernel
theorem d_Mo_nameAt_39 : decode b_Mo_nameAt 39 = .ok (.ireturn, 1) := by decide +kernel
theorem d_Mo_write_0 : decode b_Mo_write 0 = .ok (.aload_n 0, 1) := by decide +kernel
theorem d_Mo_write_1 : decode b_Mo_write 1 = .ok (.iload_n 1, 1) := by decide +kernel
theorem d_Mo_write_2 : decode b_Mo_write 2 = .ok (.invokevirtual 111, 3) := by decide +kernel
theorem d_Mo_write_5 : decode b_Mo_write 5 = .ok (.ifCond .ne 5, 3) := by decide +kernel
theorem d_Mo_write_8 : decode b_Mo_write 8 = .ok (.iconst 0, 1) := by decide +kernel
theorem d_Mo_write_9 : decode b_Mo_write 9 = .ok (.ireturn, 1) := by decide +kernel
theorem d_Mo_write_10 : decode b_Mo_write 10 = .ok (.aload_n 0, 1) := by decide +kernel
theorem d_Mo_write_11 : decode b_Mo_write 11 = .ok (.iconst 0, 1) := by decide +kernel
theorem d_Mo_write_12 : decode b_Mo_write 12 = .ok (.putfield 252, 3) := by decide +kernel
theorem d_Mo_write_15 : decode b_Mo_write 15 = .ok (.aload_n 0, 1) := by decide +kernel
theorem d_Mo_write_16 : decode b_Mo_write 16 = .ok (.bipush 79, 2) := by decide +kernel
theorem d_Mo_write_18 : decode b_Mo_write 18 = .ok (.iconst 1, 1) := by decide +kernel
theorem d_Mo_write_19 : decode b_Mo_write 19 = .ok (.invokevirtual 256, 3) := by decide +kernel
theorem d_Mo_write_22 : decode b_Mo_write 22 = .ok (.aload_n 0, 1) := by decide +kernel
theorem d_Mo_write_23 : decode b_Mo_write 23 = .ok (.bipush 66, 2) := by decide +kernel
theorem d_Mo_write_25 : decode b_Mo_write 25 = .ok (.iconst 1, 1) := by decide +kernel
theorem d_Mo_write_26 : decode b_Mo_write 26 = .ok (.invokevirtual 256, 3) := by decide +kernel
theorem d_Mo_write_29 : decode b_Mo_write 29 = .ok (.aload_n 0, 1) := by decide +kernel
theorem d_Mo_write_30 : decode b_Mo_write 30 = .ok (.aload_n 0, 1) := by decide +kernel
theorem d_Mo_write_31 : decode b_Mo_write 31 = .ok (.getfield 7, 3) := by decide +kernel
theorem d_Mo_write_34 : decode b_Mo_write 34 = .ok (.iload_n 1, 1) := by decide +kernel
theorem d_Mo_write_35 : decode b_Mo_write 35 = .ok (.iaload, 1) := by decide +kernel
theorem d_Mo_write_36 : decode b_Mo_write 36 = .ok (.iconst 1, 1) := by decide +kernel
theorem d_Mo_write_37 : decode b_Mo_write 37 = .ok (.invokevirtual 256, 3) := by decide +kernel
theorem d_Mo_write_40 : decode b_Mo_write 40 = .ok (.aload_n 0, 1) := by decide +kernel
theorem d_Mo_write_41 : decode b_Mo_write 41 = .ok (.aload_n 0, 1) := by decide +kernel
theorem d_Mo_write_42 : decode b_Mo_write 42 = .ok (.getfield 25, 3) := by decide +kernel
theorem d_Mo_write_45 : decode b_Mo_write 45 = .ok (.iload_n 1, 1) := by decide +kernel
theorem d_Mo_write_46 : decode b_Mo_write 46 = .ok (.iaload, 1) := by decide +kernel
theorem d_Mo_write_47 : decode b_Mo_write 47 = .ok (.iconst 1, 1) := by decide +kernel
theorem d_Mo_write_48 : decode b_Mo_write 48 = .ok (.invokevirtual 256, 3) := by decide +kernel
theorem d_Mo_write_51 : decode b_Mo_write 51 = .ok (.aload_n 0, 1) := by decide +kernel
theorem d_Mo_write_52 : decode b_Mo_write 52 = .ok (.aload_n 0, 1) := by decide +kernel
theorem d_Mo_write_53 : decode b_Mo_write 53 = .ok (.getfield 40, 3) := by decide +kernel
theorem d_Mo_write_56 : decode b_Mo_write 56 = .ok (.iload_n 1, 1) := by decide +kernel
theorem d_Mo_write_57 : decode b_Mo_write 57 = .ok (.iaload, 1) := by decide +kernel
theorem d_Mo_write_58 : decode b_Mo_write 58 = .ok (.iconst 1, 1) := by decide +kernel
theorem d_Mo_write_59 : decode b_Mo_write 59 = .ok (.invokevirtual 256, 3) := by decide +kernel
theorem d_Mo_write_62 : decode b_Mo_write 62 = .ok (.bipush 8, 2) := by decide +kernel
theorem d_Mo_write_64 : decode b_Mo_write 64 = .ok (.iload_n 1, 1) := by decide +kernel
theorem d_Mo_write_65 : decode b_Mo_write 65 = .ok (.imul, 1) := by decide +kernel
theorem d_Mo_write_66 : decode b_Mo_write 66 = .ok (.istore_n 2, 1) := by decide +kernel
theorem d_Mo_write_67 : decode b_Mo_write 67 = .ok (.iload_n 2, 1) := by decide +kernel
theorem d_Mo_write_68 : decode b_Mo_write 68 = .ok (.bipush 8, 2) := by decide +kernel
theorem d_Mo_write_70 : decode b_Mo_write 70 = .ok (.iload_n 1, 1) := by decide +kernel
theorem d_Mo_write_71 : decode b_Mo_write 71 = .ok (.imul, 1) := by decide +kernel
theorem d_Mo_write_72 : decode b_Mo_write 72 = .ok (.aload_n 0, 1) := by decide +kernel
theorem d_Mo_write_73 : decode b_Mo_write 73 = .ok (.getfield 7, 3) := by decide +kernel
theorem d_Mo_write_76 : decode b_Mo_write 76 = .ok (.iload_n 1, 1) := by decide +kernel
theorem d_Mo_write_77 : decode b_Mo_write 77 = .ok (.iaload, 1) := by decide +kernel
theorem d_Mo_write_78 : decode b_Mo_write 78 = .ok (.iadd, 1) := by decide +kernel
theorem d_Mo_write_79 : decode b_Mo_write 79 = .ok (.if_icmp .ge 87, 3) := by decide +kernel
theorem d_Mo_write_82 : decode b_Mo_write 82 = .ok (.aload_n 0, 1) := by decide +kernel
theorem d_Mo_write_83 : decode b_Mo_write 83 = .ok (.aload_n 0, 1) := by decide +kernel
theorem d_Mo_write_84 : decode b_Mo_write 84 = .ok (.getfield 13, 3) := by decide +kernel
theorem d_Mo_write_87 : decode b_Mo_write 87 = .ok (.iload_n 2, 1) := by decide +kernel
theorem d_Mo_write_88 : decode b_Mo_write 88 = .ok (.iaload, 1) := by decide +kernel
theorem d_Mo_write_89 : decode b_Mo_write 89 = .ok (.iconst 1, 1) := by decide +kernel
theorem d_Mo_write_90 : decode b_Mo_write 90 = .ok (.invokevirtual 256, 3) := by decide +kernel
theorem d_Mo_write_93 : decode b_Mo_write 93 = .ok (.aload_n 0, 1) := by decide +kernel
theorem d_Mo_write_94 : decode b_Mo_write 94 = .ok (.aload_n 0, 1) := by decide +kernel
theorem d_Mo_write_95 : decode b_Mo_write 95 = .ok (.getfield 16, 3) := by decide +kernel
theorem d_Mo_write_98 : decode b_Mo_write 98 = .ok (.iload_n 2, 1) := by decide +kernel
theorem d_Mo_write_99 : decode b_Mo_write 99 = .ok (.iaload, 1) := by decide +kernel
theorem d_Mo_write_100 : decode b_Mo_write 100 = .ok (.iconst 1, 1) := by decide +kernel
theorem d_Mo_write_101 : decode b_Mo_write 101 = .ok (.invokevirtual 256, 3) := by decide +kernel
theorem d_Mo_write_104 : decode b_Mo_write 104 = .ok (.aload_n 0, 1) := by decide +kernel
theorem d_Mo_write_105 : decode b_Mo_write 105 = .ok (.aload_n 0, 1) := by decide +kernel
theorem d_Mo_write_106 : decode b_Mo_write 106 = .ok (.getfield 19, 3) := by decide +kernel
theorem d_Mo_write_109 : decode b_Mo_write 109 = .ok (.iload_n 2, 1) := by decide +kernel
theorem d_Mo_write_110 : decode b_Mo_write 110 = .ok (.iaload, 1) := by decide +kernel
theorem d_Mo_write_111 : decode b_Mo_write 111 = .ok (.iconst 2, 1) := by decide +kernel
theorem d_Mo_write_112 : decode b_Mo_write 112 = .ok (.invokevirtual 256, 3) := by decide +kernel
theorem d_Mo_write_115 : decode b_Mo_write 115 = .ok (.iconst 0, 1) := by decide +kernel
theorem d_Mo_write_116 : decode b_Mo_write 116 = .ok (.istore_n 3, 1) := by decide +kernel
theorem d_Mo_write_117 : decode b_Mo_write 117 = .ok (.iload_n 3, 1) := by decide +kernel
theorem d_Mo_write_118 : decode b_Mo_write 118 = .ok (.aload_n 0, 1) := by decide +kernel
theorem d_Mo_write_119 : decode b_Mo_write 119 = .ok (.getfield 19, 3) := by decide +kernel
theorem d_Mo_write_122 : decode b_Mo_write 122 = .ok (.iload_n 2, 1) := by decide +kernel
theorem d_Mo_write_123 : decode b_Mo_write 123 = .ok (.iaload, 1) := by decide +kernel
theorem d_Mo_write_124 : decode b_Mo_write 124 = .ok (.if_icmp .ge 36, 3) := by decide +kernel
theorem d_Mo_write_127 : decode b_Mo_write 127 = .ok (.aload_n 0, 1) := by decide +kernel
theorem d_Mo_write_128 : decode b_Mo_write 128 = .ok (.getfield 13, 3) := by decide +kernel
theorem d_Mo_write_131 : decode b_Mo_write 131 = .ok (.iload_n 2, 1) := by decide +kernel
theorem d_Mo_write_132 : decode b_Mo_write 132 = .ok (.iaload, 1) := by decide +kernel
theorem d_Mo_write_133 : decode b_Mo_write 133 = .ok (.iconst 3, 1) := by decide +kernel
theorem d_Mo_write_134 : decode b_Mo_write 134 = .ok (.if_icmp .eq 26, 3) := by decide +kernel
theorem d_Mo_write_137 : decode b_Mo_write 137 = .ok (.aload_n 0, 1) := by decide +kernel
theorem d_Mo_write_138 : decode b_Mo_write 138 = .ok (.aload_n 0, 1) := by decide +kernel
theorem d_Mo_write_139 : decode b_Mo_write 139 = .ok (.getfield 22, 3) := by decide +kernel
theorem d_Mo_write_142 : decode b_Mo_write 142 = .ok (.sipush 128, 3) := by decide +kernel
theorem d_Mo_write_145 : decode b_Mo_write 145 = .ok (.iload_n 2, 1) := by decide +kernel
theorem d_Mo_write_146 : decode b_Mo_write 146 = .ok (.imul, 1) := by decide +kernel
theorem d_Mo_write_147 : decode b_Mo_write 147 = .ok (.iload_n 3, 1) := by decide +kernel
theorem d_Mo_write_148 : decode b_Mo_write 148 = .ok (.iadd, 1) := by decide +kernel
theorem d_Mo_write_149 : decode b_Mo_write 149 = .ok (.iaload, 1) := by decide +kernel
theorem d_Mo_write_150 : decode b_Mo_write 150 = .ok (.iconst 1, 1) := by decide +kernel
theorem d_Mo_write_151 : decode b_Mo_write 151 = .ok (.invokevirtual 256, 3) := by decide +kernel
theorem d_Mo_write_154 : decode b_Mo_write 154 = .ok (.iinc 3 1, 3) := by decide +kernel
theorem d_Mo_write_157 : decode b_Mo_write 157 = .ok (.goto (-40), 3) := by decide +kernel
theorem d_Mo_write_160 : decode b_Mo_write 160 = .ok (.iinc 2 1, 3) := by decide +kernel
theorem d_Mo_write_163 : decode b_Mo_write 163 = .ok (.goto (-96), 3) := by decide +kernel
theorem d_Mo_write_166 : decode b_Mo_write 166 = .ok (.bipush 12, 2) := by decide +kernel
theorem d_Mo_write_168 : decode b_Mo_write 168 = .ok (.iload_n 1, 1) := by decide +kernel
theorem d_Mo_write_169 : decode b_Mo_write 169 = .ok (.imul, 1) := by decide +kernel
theorem d_Mo_write_170 : decode b_Mo_write 170 = .ok (.istore_n 2, 1) := by decide +kernel
theorem d_Mo_write_171 : decode b_Mo_write 171 = .ok (.iload_n 2, 1) := by decide +kernel
theorem d_Mo_write_172 : decode b_Mo_write 172 = .ok (.bipush 12, 2) := by decide +kernel
theorem d_Mo_write_174 : decode b_Mo_write 174 = .ok (.iload_n 1, 1) := by decide +kernel
theorem d_Mo_write_175 : decode b_Mo_write 175 = .ok (.imul, 1) := by decide +kernel
theorem d_Mo_write_176 : decode b_Mo_write 176 = .ok (.aload_n 0, 1) := by decide +kernel
theorem d_Mo_write_177 : decode b_Mo_write 177 = .ok (.getfield 25, 3) := by decide +kernel
theorem d_Mo_write_180 : decode b_Mo_write 180 = .ok (.iload_n 1, 1) := by decide +kernel
theorem d_Mo_write_181 : decode b_Mo_write 181 = .ok (.iaload, 1) := by decide +kernel
theorem d_Mo_write_182 : decode b_Mo_write 182 = .ok (.iadd, 1) := by decide +kernel
theorem d_Mo_write_183 : decode b_Mo_write 183 = .ok (.if_icmp .ge 53, 3) := by decide +kernel
theorem d_Mo_write_186 : decode b_Mo_write 186 = .ok (.aload_n 0, 1) := by decide +kernel
theorem d_Mo_write_187 : decode b_Mo_write 187 = .ok (.aload_n 0, 1) := by decide +kernel
theorem d_Mo_write_188 : decode b_Mo_write 188 = .ok (.getfield 28, 3) := by decide +kernel
theorem d_Mo_write_191 : decode b_Mo_write 191 = .ok (.iload_n 2, 1) := by decide +kernel
theorem d_Mo_write_192 : decode b_Mo_write 192 = .ok (.iaload, 1) := by decide +kernel
theorem d_Mo_write_193 : decode b_Mo_write 193 = .ok (.iconst 4, 1) := by decide +kernel
theorem d_Mo_write_194 : decode b_Mo_write 194 = .ok (.invokevirtual 256, 3) := by decide +kernel
theorem d_Mo_write_197 : decode b_Mo_write 197 = .ok (.aload_n 0, 1) := by decide +kernel
theorem d_Mo_write_198 : decode b_Mo_write 198 = .ok (.aload_n 0, 1) := by decide +kernel
theorem d_Mo_write_199 : decode b_Mo_write 199 = .ok (.getfield 31, 3) := by decide +kernel
theorem d_Mo_write_202 : decode b_Mo_write 202 = .ok (.iload_n 2, 1) := by decide +kernel
theorem d_Mo_write_203 : decode b_Mo_write 203 = .ok (.iaload, 1) := by decide +kernel
theorem d_Mo_write_204 : decode b_Mo_write 204 = .ok (.iconst 1, 1) := by decide +kernel
theorem d_Mo_write_205 : decode b_Mo_write 205 = .ok (.invokevirtual 256, 3) := by decide +kernel
theorem d_Mo_write_208 : decode b_Mo_write 208 = .ok (.aload_n 0, 1) := by decide +kernel
theorem d_Mo_write_209 : decode b_Mo_write 209 = .ok (.aload_n 0, 1) := by decide +kernel
theorem d_Mo_write_210 : decode b_Mo_write 210 = .ok (.getfield 34, 3) := by decide +kernel
theorem d_Mo_write_213 : decode b_Mo_write 213 = .ok (.iload_n 2, 1) := by decide +kernel
theorem d_Mo_write_214 : decode b_Mo_write 214 = .ok (.iaload, 1) := by decide +kernel
theorem d_Mo_write_215 : decode b_Mo_write 215 = .ok (.iconst 1, 1) := by decide +kernel
theorem d_Mo_write_216 : decode b_Mo_write 216 = .ok (.invokevirtual 256, 3) := by decide +kernel
theorem d_Mo_write_219 : decode b_Mo_write 219 = .ok (.aload_n 0, 1) := by decide +kernel
theorem d_Mo_write_220 : decode b_Mo_write 220 = .ok (.aload_n 0, 1) := by decide +kernel
theorem d_Mo_write_221 : decode b_Mo_write 221 = .ok (.getfield 37, 3) := by decide +kernel
theorem d_Mo_write_224 : decode b_Mo_write 224 = .ok (.iload_n 2, 1) := by decide +kernel
theorem d_Mo_write_225 : decode b_Mo_write 225 = .ok (.iaload, 1) := by decide +kernel
theorem d_Mo_write_226 : decode b_Mo_write 226 = .ok (.iconst 2, 1) := by decide +kernel
theorem d_Mo_write_227 : decode b_Mo_write 227 = .ok (.invokevirtual 256, 3) := by decide +kernel
theorem d_Mo_write_230 : decode b_Mo_write 230 = .ok (.iinc 2 1, 3) := by decide +kernel
theorem d_Mo_write_233 : decode b_Mo_write 233 = .ok (.goto (-62), 3) := by decide +kernel
theorem d_Mo_write_236 : decode b_Mo_write 236 = .ok (.bipush 16, 2) := by decide +kernel
theorem d_Mo_write_238 : decode b_Mo_write 238 = .ok (.iload_n 1, 1) := by decide +kernel
theorem d_Mo_write_239 : decode b_Mo_write 239 = .ok (.imul, 1) := by decide +kernel
theorem d_Mo_write_240 : decode b_Mo_write 240 = .ok (.istore_n 2, 1) := by decide +kernel
theorem d_Mo_write_241 : decode b_Mo_write 241 = .ok (.iload_n 2, 1) := by decide +kernel
theorem d_Mo_write_242 : decode b_Mo_write 242 = .ok (.bipush 16, 2) := by decide +kernel
theorem d_Mo_write_244 : decode b_Mo_write 244 = .ok (.iload_n 1, 1) := by decide +kernel
theorem d_Mo_write_245 : decode b_Mo_write 245 = .ok (.imul, 1) := by decide +kernel
theorem d_Mo_write_246 : decode b_Mo_write 246 = .ok (.aload_n 0, 1) := by decide +kernel
theorem d_Mo_write_247 : decode b_Mo_write 247 = .ok (.getfield 40, 3) := by decide +kernel
theorem d_Mo_write_250 : decode b_Mo_write 250 = .ok (.iload_n 1, 1) := by decide +kernel
theorem d_Mo_write_251 : decode b_Mo_write 251 = .ok (.iaload, 1) := by decide +kernel
theorem d_Mo_write_252 : decode b_Mo_write 252 = .ok (.iadd, 1) := by decide +kernel
theorem d_Mo_write_253 : decode b_Mo_write 253 = .ok (.if_icmp .ge 64, 3) := by decide +kernel
theorem d_Mo_write_256 : decode b_Mo_write 256 = .ok (.aload_n 0, 1) := by decide +kernel
theorem d_Mo_write_257 : decode b_Mo_write 257 = .ok (.aload_n 0, 1) := by decide +kernel
theorem d_Mo_write_258 : decode b_Mo_write 258 = .ok (.getfield 43, 3) := by decide +kernel
theorem d_Mo_write_261 : decode b_Mo_write 261 = .ok (.iload_n 2, 1) := by decide +kernel
theorem d_Mo_write_262 : decode b_Mo_write 262 = .ok (.iaload, 1) := by decide +kernel
theorem d_Mo_write_263 : decode b_Mo_write 263 = .ok (.iconst 1, 1) := by decide +kernel
theorem d_Mo_write_264 : decode b_Mo_write 264 = .ok (.invokevirtual 256, 3) := by decide +kernel
theorem d_Mo_write_267 : decode b_Mo_write 267 = .ok (.aload_n 0, 1) := by decide +kernel
theorem d_Mo_write_268 : decode b_Mo_write 268 = .ok (.aload_n 0, 1) := by decide +kernel
theorem d_Mo_write_269 : decode b_Mo_write 269 = .ok (.getfield 46, 3) := by decide +kernel
theorem d_Mo_write_272 : decode b_Mo_write 272 = .ok (.iload_n 2, 1) := by decide +kernel
theorem d_Mo_write_273 : decode b_Mo_write 273 = .ok (.iaload, 1) := by decide +kernel
theorem d_Mo_write_274 : decode b_Mo_write 274 = .ok (.iconst 2, 1) := by decide +kernel
theorem d_Mo_write_275 : decode b_Mo_write 275 = .ok (.invokevirtual 256, 3) := by decide +kernel
theorem d_Mo_write_278 : decode b_Mo_write 278 = .ok (.aload_n 0, 1) := by decide +kernel
theorem d_Mo_write_279 : decode b_Mo_write 279 = .ok (.aload_n 0, 1) := by decide +kernel
theorem d_Mo_write_280 : decode b_Mo_write 280 = .ok (.getfield 49, 3) := by decide +kernel
theorem d_Mo_write_283 : decode b_Mo_write 283 = .ok (.iload_n 2, 1) := by decide +kernel
theorem d_Mo_write_284 : decode b_Mo_write 284 = .ok (.iaload, 1) := by decide +kernel
theorem d_Mo_write_285 : decode b_Mo_write 285 = .ok (.iconst 1, 1) := by decide +kernel
theorem d_Mo_write_286 : decode b_Mo_write 286 = .ok (.invokevirtual 256, 3) := by decide +kernel
theorem d_Mo_write_289 : decode b_Mo_write 289 = .ok (.aload_n 0, 1) := by decide +kernel
theorem d_Mo_write_290 : decode b_Mo_write 290 = .ok (.aload_n 0, 1) := by decide +kernel
theorem d_Mo_write_291 : decode b_Mo_write 291 = .ok (.getfield 52, 3) := by decide +kernel
theorem d_Mo_write_294 : decode b_Mo_write 294 = .ok (.iload_n 2, 1) := by decide +kernel
theorem d_Mo_write_295 : decode b_Mo_write 295 = .ok (.iaload, 1) := by decide +kernel
theorem d_Mo_write_296 : decode b_Mo_write 296 = .ok (.iconst 1, 1) := by decide +kernel
theorem d_Mo_write_297 : decode b_Mo_write 297 = .ok (.invokevirtual 256, 3) := by decide +kernel
theorem d_Mo_write_300 : decode b_Mo_write 300 = .ok (.aload_n 0, 1) := by decide +kernel
theorem d_Mo_write_301 : decode b_Mo_write 301 = .ok (.aload_n 0, 1) := by decide +kernel
theorem d_Mo_write_302 : decode b_Mo_write 302 = .ok (.getfield 55, 3) := by decide +kernel
theorem d_Mo_write_305 : decode b_Mo_write 305 = .ok (.iload_n 2, 1) := by decide +kernel
theorem d_Mo_write_306 : decode b_Mo_write 306 = .ok (.iaload, 1) := by decide +kernel
theorem d_Mo_write_307 : decode b_Mo_write 307 = .ok (.iconst 4, 1) := by decide +kernel
theorem d_Mo_write_308 : decode b_Mo_write 308 = .ok (.invokevirtual 256, 3) := by decide +kernel
theorem d_Mo_write_311 : decode b_Mo_write 311 = .ok (.iinc 2 1, 3) := by decide +kernel
theorem d_Mo_write_314 : decode b_Mo_write 314 = .ok (.goto (-73), 3) := by decide +kernel
theorem d_Mo_write_317 : decode b_Mo_write 317 = .ok (.aload_n 0, 1) := by decide +kernel
theorem d_Mo_write_318 : decode b_Mo_write 318 = .ok (.aload_n 0, 1) := by decide +kernel
theorem d_Mo_write_319 : decode b_Mo_write 319 = .ok (.getfield 252, 3) := by decide +kernel
theorem d_Mo_write_322 : decode b_Mo_write 322 = .ok (.invokevirtual 259, 3) := by decide +kernel
theorem d_Mo_write_325 : decode b_Mo_write 325 = .ok (.istore_n 2, 1) := by decide +kernel
theorem d_Mo_write_326 : decode b_Mo_write 326 = .ok (.aload_n 0, 1) := by decide +kernel
theorem d_Mo_write_327 : decode b_Mo_write 327 = .ok (.iload_n 2, 1) := by decide +kernel
theorem d_Mo_write_328 : decode b_Mo_write 328 = .ok (.iconst 2, 1) := by decide +kernel
theorem d_Mo_write_329 : decode b_Mo_write 329 = .ok (.invokevirtual 256, 3) := by decide +kernel
theorem d_Mo_write_332 : decode b_Mo_write 332 = .ok (.aload_n 0, 1) := by decide +kernel
theorem d_Mo_write_333 : decode b_Mo_write 333 = .ok (.getfield 252, 3) := by decide +kernel
theorem d_Mo_write_336 : decode b_Mo_write 336 = .ok (.ireturn, 1) := by decide +kernel
theorem d_Mo_say_0 : decode b_Mo_say 0 = .ok (.iload_n 2, 1) := by decide +kernel
theorem d_Mo_say_1 : decode b_Mo_say 1 = .ok (.iconst 1, 1) := by decide +kernel
theorem d_Mo_say_2 : decode b_Mo_say 2 = .ok (.isub, 1) := by decide +kernel
theorem d_Mo_say_3 : decode b_Mo_say 3 = .ok (.istore_n 3, 1) := by decide +kernel
theorem d_Mo_say_4 : decode b_Mo_say 4 = .ok (.iload_n 3, 1) := by decide +kernel
theorem d_Mo_say_5 : decode b_Mo_say 5 = .ok (.ifCond .lt 38, 3) := by decide +kernel
theorem d_Mo_say_8 : decode b_Mo_say 8 = .ok (.aload_n 0, 1) := by decide +kernel
theorem d_Mo_say_9 : decode b_Mo_say 9 = .ok (.getfield 90, 3) := by decide +kernel
theorem d_Mo_say_12 : decode b_Mo_say 12 = .ok (.aload_n 0, 1) := by decide +kernel
theorem d_Mo_say_13 : decode b_Mo_say 13 = .ok (.getfield 252, 3) := by decide +kernel
theorem d_Mo_say_16 : decode b_Mo_say 16 = .ok (.iload_n 1, 1) := by decide +kernel
theorem d_Mo_say_17 : decode b_Mo_say 17 = .ok (.bipush 8, 2) := by decide +kernel
theorem d_Mo_say_19 : decode b_Mo_say 19 = .ok (.iload_n 3, 1) := by decide +kernel
theorem d_Mo_say_20 : decode b_Mo_say 20 = .ok (.imul, 1) := by decide +kernel
theorem d_Mo_say_21 : decode b_Mo_say 21 = .ok (.ishr, 1) := by decide +kernel
theorem d_Mo_say_22 : decode b_Mo_say 22 = .ok (.sipush 255, 3) := by decide +kernel
theorem d_Mo_say_25 : decode b_Mo_say 25 = .ok (.iand, 1) := by decide +kernel
theorem d_Mo_say_26 : decode b_Mo_say 26 = .ok (.iastore, 1) := by decide +kernel
theorem d_Mo_say_27 : decode b_Mo_say 27 = .ok (.aload_n 0, 1) := by decide +kernel
theorem d_Mo_say_28 : decode b_Mo_say 28 = .ok (.dup, 1) := by decide +kernel
theorem d_Mo_say_29 : decode b_Mo_say 29 = .ok (.getfield 252, 3) := by decide +kernel
theorem d_Mo_say_32 : decode b_Mo_say 32 = .ok (.iconst 1, 1) := by decide +kernel
theorem d_Mo_say_33 : decode b_Mo_say 33 = .ok (.iadd, 1) := by decide +kernel
theorem d_Mo_say_34 : decode b_Mo_say 34 = .ok (.putfield 252, 3) := by decide +kernel
theorem d_Mo_say_37 : decode b_Mo_say 37 = .ok (.iinc 3 (-1), 3) := by decide +kernel
theorem d_Mo_say_40 : decode b_Mo_say 40 = .ok (.goto (-36), 3) := by decide +kernel
theorem d_Mo_say_43 : decode b_Mo_say 43 = .ok (.return_, 1) := by decide +kernel
theorem d_Mo_sumOf_0 : decode b_Mo_sumOf 0 = .ok (.iconst 0, 1) := by decide +kernel
theorem d_Mo_sumOf_1 : decode b_Mo_sumOf 1 = .ok (.istore_n 2, 1) := by decide +kernel
theorem d_Mo_sumOf_2 : decode b_Mo_sumOf 2 = .ok (.iconst 0, 1) := by decide +kernel
theorem d_Mo_sumOf_3 : decode b_Mo_sumOf 3 = .ok (.istore_n 3, 1) := by decide +kernel
theorem d_Mo_sumOf_4 : decode b_Mo_sumOf 4 = .ok (.iload_n 3, 1) := by decide +kernel
theorem d_Mo_sumOf_5 : decode b_Mo_sumOf 5 = .ok (.iload_n 1, 1) := by decide +kernel
theorem d_Mo_sumOf_6 : decode b_Mo_sumOf 6 = .ok (.if_icmp .ge 22, 3) := by decide +kernel
theorem d_Mo_sumOf_9 : decode b_Mo_sumOf 9 = .ok (.iload_n 2, 1) := by decide +kernel
theorem d_Mo_sumOf_10 : decode b_Mo_sumOf 10 = .ok (.aload_n 0, 1) := by decide +kernel
theorem d_Mo_sumOf_11 : decode b_Mo_sumOf 11 = .ok (.getfield 90, 3) := by decide +kernel
theorem d_Mo_sumOf_14 : decode b_Mo_sumOf 14 = .ok (.iload_n 3, 1) := by decide +kernel
theorem d_Mo_sumOf_15 : decode b_Mo_sumOf 15 = .ok (.iaload, 1) := by decide +kernel
theorem d_Mo_sumOf_16 : decode b_Mo_sumOf 16 = .ok (.iload_n 3, 1) := by decide +kernel
theorem d_Mo_sumOf_17 : decode b_Mo_sumOf 17 = .ok (.iconst 1, 1) := by decide +kernel
theorem d_Mo_sumOf_18 : decode b_Mo_sumOf 18 = .ok (.iadd, 1) := by decide +kernel
theorem d_Mo_sumOf_19 : decode b_Mo_sumOf 19 = .ok (.imul, 1) := by decide +kernel
theorem d_Mo_sumOf_20 : decode b_Mo_sumOf 20 = .ok (.iadd, 1) := by decide +kernel
theorem d_Mo_sumOf_21 : decode b_Mo_sumOf 21 = .ok (.istore_n 2, 1) := by decide +kernel
theorem d_Mo_sumOf_22 : decode b_Mo_sumOf 22 = .ok (.iinc 3 1, 3) := by decide +kernel
theorem d_Mo_sumOf_25 : decode b_Mo_sumOf 25 = .ok (.goto (-21), 3) := by decide +kernel
theorem d_Mo_sumOf_28 : decode b_Mo_sumOf 28 = .ok (.iload_n 2, 1) := by decide +kernel
theorem d_Mo_sumOf_29 : decode b_Mo_sumOf 29 = .ok (.ldc 255, 2) := by decide +kernel
theorem d_Mo_sumOf_31 : decode b_Mo_sumOf 31 = .ok (.iand, 1) := by decide +kernel
theorem d_Mo_sumOf_32 : decode b_Mo_sumOf 32 = .ok (.ireturn, 1) := by decide +kernel
theorem d_Mo_written_0 : decode b_Mo_written 0 = .ok (.aload_n 0, 1) := by decide +kernel
theorem d_Mo_written_1 : decode b_Mo_written 1 = .ok (.iconst 0, 1) := by decide +kernel
theorem d_Mo_written_2 : decode b_Mo_written 2 = .ok (.putfield 93, 3) := by decide +kernel
theorem d_Mo_written_5 : decode b_Mo_written 5 = .ok (.iload_n 1, 1) := by decide +kernel
theorem d_Mo_written_6 : decode b_Mo_written 6 = .ok (.iconst 0, 1) := by decide +kernel
theorem d_Mo_written_7 : decode b_Mo_written 7 = .ok (.aload_n 0, 1) := by decide +kernel
theorem d_Mo_written_8 : decode b_Mo_written 8 = .ok (.getfield 252, 3) := by decide +kernel
theorem d_Mo_written_11 : decode b_Mo_written 11 = .ok (.iconst 1, 1) := by decide +kernel
theorem d_Mo_written_12 : decode b_Mo_written 12 = .ok (.isub, 1) := by decide +kernel
theorem d_Mo_written_13 : decode b_Mo_written 13 = .ok (.invokestatic 99, 3) := by decide +kernel
theorem d_Mo_written_16 : decode b_Mo_written 16 = .ok (.ifCond .eq 12, 3) := by decide +kernel
theorem d_Mo_written_19 : decode b_Mo_written 19 = .ok (.aload_n 0, 1) := by decide +kernel
theorem d_Mo_written_20 : decode b_Mo_written 20 = .ok (.getfield 90, 3) := by decide +kernel
theorem d_Mo_written_23 : decode b_Mo_written 23 = .ok (.iload_n 1, 1) := by decide +kernel
theorem d_Mo_written_24 : decode b_Mo_written 24 = .ok (.iaload, 1) := by decide +kernel
theorem d_Mo_written_25 : decode b_Mo_written 25 = .ok (.goto 8, 3) := by decide +kernel
theorem d_Mo_written_28 : decode b_Mo_written 28 = .ok (.aload_n 0, 1) := by decide +kernel
theorem d_Mo_written_29 : decode b_Mo_written 29 = .ok (.iconst 1, 1) := by decide +kernel
theorem d_Mo_written_30 : decode b_Mo_written 30 = .ok (.invokevirtual 103, 3) := by decide +kernel
theorem d_Mo_written_33 : decode b_Mo_written 33 = .ok (.ireturn, 1) := by decide +kernel
theorem d_Mo_alter_0 : decode b_Mo_alter 0 = .ok (.aload_n 0, 1) := by decide +kernel
theorem d_Mo_alter_1 : decode b_Mo_alter 1 = .ok (.iconst 0, 1) := by decide +kernel
theorem d_Mo_alter_2 : decode b_Mo_alter 2 = .ok (.putfield 93, 3) := by decide +kernel
theorem d_Mo_alter_5 : decode b_Mo_alter 5 = .ok (.iload_n 1, 1) := by decide +kernel
theorem d_Mo_alter_6 : decode b_Mo_alter 6 = .ok (.iconst 0, 1) := by decide +kernel
theorem d_Mo_alter_7 : decode b_Mo_alter 7 = .ok (.aload_n 0, 1) := by decide +kernel
theorem d_Mo_alter_8 : decode b_Mo_alter 8 = .ok (.getfield 252, 3) := by decide +kernel
theorem d_Mo_alter_11 : decode b_Mo_alter 11 = .ok (.iconst 1, 1) := by decide +kernel
theorem d_Mo_alter_12 : decode b_Mo_alter 12 = .ok (.isub, 1) := by decide +kernel
theorem d_Mo_alter_13 : decode b_Mo_alter 13 = .ok (.invokestatic 99, 3) := by decide +kernel
theorem d_Mo_alter_16 : decode b_Mo_alter 16 = .ok (.ifCond .ne 9, 3) := by decide +kernel
theorem d_Mo_alter_19 : decode b_Mo_alter 19 = .ok (.aload_n 0, 1) := by decide +kernel
theorem d_Mo_alter_20 : decode b_Mo_alter 20 = .ok (.iconst 1, 1) := by decide +kernel
theorem d_Mo_alter_21 : decode b_Mo_alter 21 = .ok (.invokevirtual 103, 3) := by decide +kernel
theorem d_Mo_alter_24 : decode b_Mo_alter 24 = .ok (.ireturn, 1) := by decide +kernel
theorem d_Mo_alter_25 : decode b_Mo_alter 25 = .ok (.iload_n 2, 1) := by decide +kernel
theorem d_Mo_alter_26 : decode b_Mo_alter 26 = .ok (.iconst 0, 1) := by decide +kernel
theorem d_Mo_alter_27 : decode b_Mo_alter 27 = .ok (.sipush 255, 3) := by decide +kernel
theorem d_Mo_alter_30 : decode b_Mo_alter 30 = .ok (.invokestatic 99, 3) := by decide +kernel
theorem d_Mo_alter_33 : decode b_Mo_alter 33 = .ok (.ifCond .ne 9, 3) := by decide +kernel
theorem d_Mo_alter_36 : decode b_Mo_alter 36 = .ok (.aload_n 0, 1) := by decide +kernel
theorem d_Mo_alter_37 : decode b_Mo_alter 37 = .ok (.iconst 2, 1) := by decide +kernel
theorem d_Mo_alter_38 : decode b_Mo_alter 38 = .ok (.invokevirtual 103, 3) := by decide +kernel
theorem d_Mo_alter_41 : decode b_Mo_alter 41 = .ok (.ireturn, 1) := by decide +kernel
theorem d_Mo_alter_42 : decode b_Mo_alter 42 = .ok (.aload_n 0, 1) := by decide +kernel
theorem d_Mo_alter_43 : decode b_Mo_alter 43 = .ok (.getfield 90, 3) := by decide +kernel
theorem d_Mo_alter_46 : decode b_Mo_alter 46 = .ok (.iload_n 1, 1) := by decide +kernel
theorem d_Mo_alter_47 : decode b_Mo_alter 47 = .ok (.iaload, 1) := by decide +kernel
theorem d_Mo_alter_48 : decode b_Mo_alter 48 = .ok (.istore_n 3, 1) := by decide +kernel
theorem d_Mo_alter_49 : decode b_Mo_alter 49 = .ok (.aload_n 0, 1) := by decide +kernel
theorem d_Mo_alter_50 : decode b_Mo_alter 50 = .ok (.getfield 90, 3) := by decide +kernel
theorem d_Mo_alter_53 : decode b_Mo_alter 53 = .ok (.iload_n 1, 1) := by decide +kernel
theorem d_Mo_alter_54 : decode b_Mo_alter 54 = .ok (.iload_n 2, 1) := by decide +kernel
theorem d_Mo_alter_55 : decode b_Mo_alter 55 = .ok (.iastore, 1) := by decide +kernel
theorem d_Mo_alter_56 : decode b_Mo_alter 56 = .ok (.iload_n 3, 1) := by decide +kernel
theorem d_Mo_alter_57 : decode b_Mo_alter 57 = .ok (.ireturn, 1) := by decide +kernel
theorem d_Mo_read_0 : decode b_Mo_read 0 = .ok (.aload_n 0, 1) := by decide +kernel
theorem d_Mo_read_1 : decode b_Mo_read 1 = .ok (.iconst 0, 1) := by decide +kernel
theorem d_Mo_read_2 : decode b_Mo_read 2 = .ok (.putfield 93, 3) := by decide +kernel
theorem d_Mo_read_5 : decode b_Mo_read 5 = .ok (.iload_n 1, 1) := by decide +kernel
theorem d_Mo_read_6 : decode b_Mo_read 6 = .ok (.iconst 0, 1) := by decide +kernel
theorem d_Mo_read_7 : decode b_Mo_read 7 = .ok (.aload_n 0, 1) := by decide +kernel
theorem d_Mo_read_8 : decode b_Mo_read 8 = .ok (.getfield 252, 3) := by decide +kernel
theorem d_Mo_read_11 : decode b_Mo_read 11 = .ok (.invokestatic 99, 3) := by decide +kernel
theorem d_Mo_read_14 : decode b_Mo_read 14 = .ok (.ifCond .ne 9, 3) := by decide +kernel
theorem d_Mo_read_17 : decode b_Mo_read 17 = .ok (.aload_n 0, 1) := by decide +kernel
theorem d_Mo_read_18 : decode b_Mo_read 18 = .ok (.iconst 1, 1) := by decide +kernel
theorem d_Mo_read_19 : decode b_Mo_read 19 = .ok (.invokevirtual 103, 3) := by decide +kernel
theorem d_Mo_read_22 : decode b_Mo_read 22 = .ok (.ireturn, 1) := by decide +kernel
theorem d_Mo_read_23 : decode b_Mo_read 23 = .ok (.aload_n 0, 1) := by decide +kernel
theorem d_Mo_read_24 : decode b_Mo_read 24 = .ok (.getfield 252, 3) := by decide +kernel
theorem d_Mo_read_27 : decode b_Mo_read 27 = .ok (.iload_n 1, 1) := by decide +kernel
theorem d_Mo_read_28 : decode b_Mo_read 28 = .ok (.isub, 1) := by decide +kernel
theorem d_Mo_read_29 : decode b_Mo_read 29 = .ok (.iconst 2, 1) := by decide +kernel
theorem d_Mo_read_30 : decode b_Mo_read 30 = .ok (.isub, 1) := by decide +kernel
theorem d_Mo_read_31 : decode b_Mo_read 31 = .ok (.istore_n 2, 1) := by decide +kernel
theorem d_Mo_read_32 : decode b_Mo_read 32 = .ok (.aload_n 0, 1) := by decide +kernel
theorem d_Mo_read_33 : decode b_Mo_read 33 = .ok (.iload_n 2, 1) := by decide +kernel
theorem d_Mo_read_34 : decode b_Mo_read 34 = .ok (.iconst 5, 1) := by decide +kernel
theorem d_Mo_read_35 : decode b_Mo_read 35 = .ok (.if_icmp .lt 7, 3) := by decide +kernel
theorem d_Mo_read_38 : decode b_Mo_read 38 = .ok (.iconst 1, 1) := by decide +kernel
theorem d_Mo_read_39 : decode b_Mo_read 39 = .ok (.goto 4, 3) := by decide +kernel
theorem d_Mo_read_42 : decode b_Mo_read 42 = .ok (.iconst 0, 1) := by decide +kernel
theorem d_Mo_read_43 : decode b_Mo_read 43 = .ok (.putfield 265, 3) := by decide +kernel
theorem d_Mo_read_46 : decode b_Mo_read 46 = .ok (.aload_n 0, 1) := by decide +kernel
theorem d_Mo_read_47 : decode b_Mo_read 47 = .ok (.getfield 265, 3) := by decide +kernel
theorem d_Mo_read_50 : decode b_Mo_read 50 = .ok (.ifCond .eq 10, 3) := by decide +kernel
theorem d_Mo_read_53 : decode b_Mo_read 53 = .ok (.aload_n 0, 1) := by decide +kernel
theorem d_Mo_read_54 : decode b_Mo_read 54 = .ok (.bipush 12, 2) := by decide +kernel
theorem d_Mo_read_56 : decode b_Mo_read 56 = .ok (.iload_n 2, 1) := by decide +kernel
theorem d_Mo_read_57 : decode b_Mo_read 57 = .ok (.invokevirtual 275, 3) := by decide +kernel
theorem d_Mo_read_60 : decode b_Mo_read 60 = .ok (.aload_n 0, 1) := by decide +kernel
theorem d_Mo_read_61 : decode b_Mo_read 61 = .ok (.iload_n 2, 1) := by decide +kernel
theorem d_Mo_read_62 : decode b_Mo_read 62 = .ok (.iconst 5, 1) := by decide +kernel
theorem d_Mo_read_63 : decode b_Mo_read 63 = .ok (.if_icmp .lt 34, 3) := by decide +kernel
theorem d_Mo_read_66 : decode b_Mo_read 66 = .ok (.aload_n 0, 1) := by decide +kernel
theorem d_Mo_read_67 : decode b_Mo_read 67 = .ok (.iload_n 2, 1) := by decide +kernel
theorem d_Mo_read_68 : decode b_Mo_read 68 = .ok (.invokevirtual 259, 3) := by decide +kernel
theorem d_Mo_read_71 : decode b_Mo_read 71 = .ok (.sipush 256, 3) := by decide +kernel
theorem d_Mo_read_74 : decode b_Mo_read 74 = .ok (.aload_n 0, 1) := by decide +kernel
theorem d_Mo_read_75 : decode b_Mo_read 75 = .ok (.getfield 90, 3) := by decide +kernel
theorem d_Mo_read_78 : decode b_Mo_read 78 = .ok (.iload_n 2, 1) := by decide +kernel
theorem d_Mo_read_79 : decode b_Mo_read 79 = .ok (.iaload, 1) := by decide +kernel
theorem d_Mo_read_80 : decode b_Mo_read 80 = .ok (.imul, 1) := by decide +kernel
theorem d_Mo_read_81 : decode b_Mo_read 81 = .ok (.aload_n 0, 1) := by decide +kernel
theorem d_Mo_read_82 : decode b_Mo_read 82 = .ok (.getfield 90, 3) := by decide +kernel
theorem d_Mo_read_85 : decode b_Mo_read 85 = .ok (.iload_n 2, 1) := by decide +kernel
theorem d_Mo_read_86 : decode b_Mo_read 86 = .ok (.iconst 1, 1) := by decide +kernel
theorem d_Mo_read_87 : decode b_Mo_read 87 = .ok (.iadd, 1) := by decide +kernel
theorem d_Mo_read_88 : decode b_Mo_read 88 = .ok (.iaload, 1) := by decide +kernel
theorem d_Mo_read_89 : decode b_Mo_read 89 = .ok (.iadd, 1) := by decide +kernel
theorem d_Mo_read_90 : decode b_Mo_read 90 = .ok (.if_icmp .ne 7, 3) := by decide +kernel
theorem d_Mo_read_93 : decode b_Mo_read 93 = .ok (.iconst 1, 1) := by decide +kernel
theorem d_Mo_read_94 : decode b_Mo_read 94 = .ok (.goto 4, 3) := by decide +kernel
theorem d_Mo_read_97 : decode b_Mo_read 97 = .ok (.iconst 0, 1) := by decide +kernel
theorem d_Mo_read_98 : decode b_Mo_read 98 = .ok (.invokevirtual 271, 3) := by decide +kernel
theorem d_Mo_read_101 : decode b_Mo_read 101 = .ok (.aload_n 0, 1) := by decide +kernel
theorem d_Mo_read_102 : decode b_Mo_read 102 = .ok (.getfield 265, 3) := by decide +kernel
theorem d_Mo_read_105 : decode b_Mo_read 105 = .ok (.ifCond .ne 9, 3) := by decide +kernel
theorem d_Mo_read_108 : decode b_Mo_read 108 = .ok (.aload_n 0, 1) := by decide +kernel
theorem d_Mo_read_109 : decode b_Mo_read 109 = .ok (.iconst 1, 1) := by decide +kernel
theorem d_Mo_read_110 : decode b_Mo_read 110 = .ok (.invokevirtual 103, 3) := by decide +kernel
theorem d_Mo_read_113 : decode b_Mo_read 113 = .ok (.ireturn, 1) := by decide +kernel
theorem d_Mo_read_114 : decode b_Mo_read 114 = .ok (.aload_n 0, 1) := by decide +kernel
theorem d_Mo_read_115 : decode b_Mo_read 115 = .ok (.getfield 96, 3) := by decide +kernel
theorem d_Mo_read_118 : decode b_Mo_read 118 = .ok (.bipush 12, 2) := by decide +kernel
theorem d_Mo_read_120 : decode b_Mo_read 120 = .ok (.if_icmp .ne 9, 3) := by decide +kernel
theorem d_Mo_read_123 : decode b_Mo_read 123 = .ok (.aload_n 0, 1) := by decide +kernel
theorem d_Mo_read_124 : decode b_Mo_read 124 = .ok (.iconst 2, 1) := by decide +kernel
theorem d_Mo_read_125 : decode b_Mo_read 125 = .ok (.invokevirtual 103, 3) := by decide +kernel
theorem d_Mo_read_128 : decode b_Mo_read 128 = .ok (.ireturn, 1) := by decide +kernel
theorem d_Mo_read_129 : decode b_Mo_read 129 = .ok (.aload_n 0, 1) := by decide +kernel
theorem d_Mo_read_130 : decode b_Mo_read 130 = .ok (.aload_n 0, 1) := by decide +kernel
theorem d_Mo_read_131 : decode b_Mo_read 131 = .ok (.getfield 96, 3) := by decide +kernel
theorem d_Mo_read_134 : decode b_Mo_read 134 = .ok (.iload_n 2, 1) := by decide +kernel
theorem d_Mo_read_135 : decode b_Mo_read 135 = .ok (.invokevirtual 275, 3) := by decide +kernel
theorem d_Mo_read_138 : decode b_Mo_read 138 = .ok (.aload_n 0, 1) := by decide +kernel
theorem d_Mo_read_139 : decode b_Mo_read 139 = .ok (.dup, 1) := by decide +kernel
theorem d_Mo_read_140 : decode b_Mo_read 140 = .ok (.getfield 96, 3) := by decide +kernel
theorem d_Mo_read_143 : decode b_Mo_read 143 = .ok (.iconst 1, 1) := by decide +kernel
theorem d_Mo_read_144 : decode b_Mo_read 144 = .ok (.iadd, 1) := by decide +kernel
theorem d_Mo_read_145 : decode b_Mo_read 145 = .ok (.putfield 96, 3) := by decide +kernel
theorem d_Mo_read_148 : decode b_Mo_read 148 = .ok (.aload_n 0, 1) := by decide +kernel
theorem d_Mo_read_149 : decode b_Mo_read 149 = .ok (.getfield 96, 3) := by decide +kernel
theorem d_Mo_read_152 : decode b_Mo_read 152 = .ok (.iconst 1, 1) := by decide +kernel
theorem d_Mo_read_153 : decode b_Mo_read 153 = .ok (.isub, 1) := by decide +kernel
theorem d_Mo_read_154 : decode b_Mo_read 154 = .ok (.ireturn, 1) := by decide +kernel
theorem d_Mo_fill_0 : decode b_Mo_fill 0 = .ok (.aload_n 0, 1) := by decide +kernel
theorem d_Mo_fill_1 : decode b_Mo_fill 1 = .ok (.iconst 0, 1) := by decide +kernel
theorem d_Mo_fill_2 : decode b_Mo_fill 2 = .ok (.putfield 262, 3) := by decide +kernel
theorem d_Mo_fill_5 : decode b_Mo_fill 5 = .ok (.aload_n 0, 1) := by decide +kernel
theorem d_Mo_fill_6 : decode b_Mo_fill 6 = .ok (.iconst 1, 1) := by decide +kernel
theorem d_Mo_fill_7 : decode b_Mo_fill 7 = .ok (.putfield 265, 3) := by decide +kernel
theorem d_Mo_fill_10 : decode b_Mo_fill 10 = .ok (.aload_n 0, 1) := by decide +kernel
theorem d_Mo_fill_11 : decode b_Mo_fill 11 = .ok (.iload_n 1, 1) := by decide +kernel
theorem d_Mo_fill_12 : decode b_Mo_fill 12 = .ok (.invokevirtual 107, 3) := by decide +kernel
theorem d_Mo_fill_15 : decode b_Mo_fill 15 = .ok (.aload_n 0, 1) := by decide +kernel
theorem d_Mo_fill_16 : decode b_Mo_fill 16 = .ok (.aload_n 0, 1) := by decide +kernel
theorem d_Mo_fill_17 : decode b_Mo_fill 17 = .ok (.iconst 1, 1) := by decide +kernel
theorem d_Mo_fill_18 : decode b_Mo_fill 18 = .ok (.iload_n 2, 1) := by decide +kernel
theorem d_Mo_fill_19 : decode b_Mo_fill 19 = .ok (.invokevirtual 268, 3) := by decide +kernel
theorem d_Mo_fill_22 : decode b_Mo_fill 22 = .ok (.bipush 79, 2) := by decide +kernel
theorem d_Mo_fill_24 : decode b_Mo_fill 24 = .ok (.if_icmp .ne 7, 3) := by decide +kernel
theorem d_Mo_fill_27 : decode b_Mo_fill 27 = .ok (.iconst 1, 1) := by decide +kernel
theorem d_Mo_fill_28 : decode b_Mo_fill 28 = .ok (.goto 4, 3) := by decide +kernel
theorem d_Mo_fill_31 : decode b_Mo_fill 31 = .ok (.iconst 0, 1) := by decide +kernel
theorem d_Mo_fill_32 : decode b_Mo_fill 32 = .ok (.invokevirtual 271, 3) := by decide +kernel
theorem d_Mo_fill_35 : decode b_Mo_fill 35 = .ok (.aload_n 0, 1) := by decide +kernel
theorem d_Mo_fill_36 : decode b_Mo_fill 36 = .ok (.aload_n 0, 1) := by decide +kernel
theorem d_Mo_fill_37 : decode b_Mo_fill 37 = .ok (.iconst 1, 1) := by decide +kernel
theorem d_Mo_fill_38 : decode b_Mo_fill 38 = .ok (.iload_n 2, 1) := by decide +kernel
theorem d_Mo_fill_39 : decode b_Mo_fill 39 = .ok (.invokevirtual 268, 3) := by decide +kernel
theorem d_Mo_fill_42 : decode b_Mo_fill 42 = .ok (.bipush 66, 2) := by decide +kernel
theorem d_Mo_fill_44 : decode b_Mo_fill 44 = .ok (.if_icmp .ne 7, 3) := by decide +kernel
theorem d_Mo_fill_47 : decode b_Mo_fill 47 = .ok (.iconst 1, 1) := by decide +kernel
theorem d_Mo_fill_48 : decode b_Mo_fill 48 = .ok (.goto 4, 3) := by decide +kernel
theorem d_Mo_fill_51 : decode b_Mo_fill 51 = .ok (.iconst 0, 1) := by decide +kernel
theorem d_Mo_fill_52 : decode b_Mo_fill 52 = .ok (.invokevirtual 271, 3) := by decide +kernel
theorem d_Mo_fill_55 : decode b_Mo_fill 55 = .ok (.aload_n 0, 1) := by decide +kernel
theorem d_Mo_fill_56 : decode b_Mo_fill 56 = .ok (.iconst 1, 1) := by decide +kernel
theorem d_Mo_fill_57 : decode b_Mo_fill 57 = .ok (.iload_n 2, 1) := by decide +kernel
theorem d_Mo_fill_58 : decode b_Mo_fill 58 = .ok (.invokevirtual 268, 3) := by decide +kernel
theorem d_Mo_fill_61 : decode b_Mo_fill 61 = .ok (.istore_n 3, 1) := by decide +kernel
theorem d_Mo_fill_62 : decode b_Mo_fill 62 = .ok (.aload_n 0, 1) := by decide +kernel
theorem d_Mo_fill_63 : decode b_Mo_fill 63 = .ok (.iconst 1, 1) := by decide +kernel
theorem d_Mo_fill_64 : decode b_Mo_fill 64 = .ok (.iload_n 2, 1) := by decide +kernel
theorem d_Mo_fill_65 : decode b_Mo_fill 65 = .ok (.invokevirtual 268, 3) := by decide +kernel
theorem d_Mo_fill_68 : decode b_Mo_fill 68 = .ok (.istore 4, 2) := by decide +kernel
theorem d_Mo_fill_70 : decode b_Mo_fill 70 = .ok (.aload_n 0, 1) := by decide +kernel
theorem d_Mo_fill_71 : decode b_Mo_fill 71 = .ok (.iconst 1, 1) := by decide +kernel
theorem d_Mo_fill_72 : decode b_Mo_fill 72 = .ok (.iload_n 2, 1) := by decide +kernel
theorem d_Mo_fill_73 : decode b_Mo_fill 73 = .ok (.invokevirtual 268, 3) := by decide +kernel
theorem d_Mo_fill_76 : decode b_Mo_fill 76 = .ok (.istore 5, 2) := by decide +kernel
theorem d_Mo_fill_78 : decode b_Mo_fill 78 = .ok (.aload_n 0, 1) := by decide +kernel
theorem d_Mo_fill_79 : decode b_Mo_fill 79 = .ok (.iload_n 3, 1) := by decide +kernel
theorem d_Mo_fill_80 : decode b_Mo_fill 80 = .ok (.bipush 8, 2) := by decide +kernel
theorem d_Mo_fill_82 : decode b_Mo_fill 82 = .ok (.if_icmp .gt 21, 3) := by decide +kernel
theorem d_Mo_fill_85 : decode b_Mo_fill 85 = .ok (.iload 4, 2) := by decide +kernel
theorem d_Mo_fill_87 : decode b_Mo_fill 87 = .ok (.bipush 12, 2) := by decide +kernel
theorem d_Mo_fill_89 : decode b_Mo_fill 89 = .ok (.if_icmp .gt 14, 3) := by decide +kernel
theorem d_Mo_fill_92 : decode b_Mo_fill 92 = .ok (.iload 5, 2) := by decide +kernel
theorem d_Mo_fill_94 : decode b_Mo_fill 94 = .ok (.bipush 16, 2) := by decide +kernel
theorem d_Mo_fill_96 : decode b_Mo_fill 96 = .ok (.if_icmp .gt 7, 3) := by decide +kernel
theorem d_Mo_fill_99 : decode b_Mo_fill 99 = .ok (.iconst 1, 1) := by decide +kernel
theorem d_Mo_fill_100 : decode b_Mo_fill 100 = .ok (.goto 4, 3) := by decide +kernel
theorem d_Mo_fill_103 : decode b_Mo_fill 103 = .ok (.iconst 0, 1) := by decide +kernel
theorem d_Mo_fill_104 : decode b_Mo_fill 104 = .ok (.invokevirtual 271, 3) := by decide +kernel
theorem d_Mo_fill_107 : decode b_Mo_fill 107 = .ok (.iconst 0, 1) := by decide +kernel
theorem d_Mo_fill_108 : decode b_Mo_fill 108 = .ok (.istore 6, 2) := by decide +kernel
theorem d_Mo_fill_110 : decode b_Mo_fill 110 = .ok (.iload 6, 2) := by decide +kernel
theorem d_Mo_fill_112 : decode b_Mo_fill 112 = .ok (.iload_n 3, 1) := by decide +kernel
theorem d_Mo_fill_113 : decode b_Mo_fill 113 = .ok (.if_icmp .ge 125, 3) := by decide +kernel
theorem d_Mo_fill_116 : decode b_Mo_fill 116 = .ok (.aload_n 0, 1) := by decide +kernel
theorem d_Mo_fill_117 : decode b_Mo_fill 117 = .ok (.getfield 265, 3) := by decide +kernel
theorem d_Mo_fill_120 : decode b_Mo_fill 120 = .ok (.ifCond .eq 118, 3) := by decide +kernel
theorem d_Mo_fill_123 : decode b_Mo_fill 123 = .ok (.aload_n 0, 1) := by decide +kernel
theorem d_Mo_fill_124 : decode b_Mo_fill 124 = .ok (.iconst 1, 1) := by decide +kernel
theorem d_Mo_fill_125 : decode b_Mo_fill 125 = .ok (.iload_n 2, 1) := by decide +kernel
theorem d_Mo_fill_126 : decode b_Mo_fill 126 = .ok (.invokevirtual 268, 3) := by decide +kernel
theorem d_Mo_fill_129 : decode b_Mo_fill 129 = .ok (.istore 7, 2) := by decide +kernel
theorem d_Mo_fill_131 : decode b_Mo_fill 131 = .ok (.aload_n 0, 1) := by decide +kernel
theorem d_Mo_fill_132 : decode b_Mo_fill 132 = .ok (.iconst 1, 1) := by decide +kernel
theorem d_Mo_fill_133 : decode b_Mo_fill 133 = .ok (.iload_n 2, 1) := by decide +kernel
theorem d_Mo_fill_134 : decode b_Mo_fill 134 = .ok (.invokevirtual 268, 3) := by decide +kernel
theorem d_Mo_fill_137 : decode b_Mo_fill 137 = .ok (.istore 8, 2) := by decide +kernel
theorem d_Mo_fill_139 : decode b_Mo_fill 139 = .ok (.aload_n 0, 1) := by decide +kernel
theorem d_Mo_fill_140 : decode b_Mo_fill 140 = .ok (.iconst 2, 1) := by decide +kernel
theorem d_Mo_fill_141 : decode b_Mo_fill 141 = .ok (.iload_n 2, 1) := by decide +kernel
theorem d_Mo_fill_142 : decode b_Mo_fill 142 = .ok (.invokevirtual 268, 3) := by decide +kernel
theorem d_Mo_fill_145 : decode b_Mo_fill 145 = .ok (.istore 9, 2) := by decide +kernel
theorem d_Mo_fill_147 : decode b_Mo_fill 147 = .ok (.aload_n 0, 1) := by decide +kernel
theorem d_Mo_fill_148 : decode b_Mo_fill 148 = .ok (.iload 7, 2) := by decide +kernel
theorem d_Mo_fill_150 : decode b_Mo_fill 150 = .ok (.iload 8, 2) := by decide +kernel
theorem d_Mo_fill_152 : decode b_Mo_fill 152 = .ok (.iload 9, 2) := by decide +kernel
theorem d_Mo_fill_154 : decode b_Mo_fill 154 = .ok (.invokestatic 115, 3) := by decide +kernel
theorem d_Mo_fill_157 : decode b_Mo_fill 157 = .ok (.invokevirtual 271, 3) := by decide +kernel
theorem d_Mo_fill_160 : decode b_Mo_fill 160 = .ok (.aload_n 0, 1) := by decide +kernel
theorem d_Mo_fill_161 : decode b_Mo_fill 161 = .ok (.getfield 265, 3) := by decide +kernel
theorem d_Mo_fill_164 : decode b_Mo_fill 164 = .ok (.ifCond .eq 14, 3) := by decide +kernel
theorem d_Mo_fill_167 : decode b_Mo_fill 167 = .ok (.aload_n 0, 1) := by decide +kernel
theorem d_Mo_fill_168 : decode b_Mo_fill 168 = .ok (.iload_n 1, 1) := by decide +kernel
theorem d_Mo_fill_169 : decode b_Mo_fill 169 = .ok (.iload 7, 2) := by decide +kernel
theorem d_Mo_fill_171 : decode b_Mo_fill 171 = .ok (.iload 8, 2) := by decide +kernel
theorem d_Mo_fill_173 : decode b_Mo_fill 173 = .ok (.iload 9, 2) := by decide +kernel
theorem d_Mo_fill_175 : decode b_Mo_fill 175 = .ok (.invokevirtual 118, 3) := by decide +kernel
theorem d_Mo_fill_178 : decode b_Mo_fill 178 = .ok (.iconst 0, 1) := by decide +kernel
theorem d_Mo_fill_179 : decode b_Mo_fill 179 = .ok (.istore 10, 2) := by decide +kernel
theorem d_Mo_fill_181 : decode b_Mo_fill 181 = .ok (.iload 10, 2) := by decide +kernel
theorem d_Mo_fill_183 : decode b_Mo_fill 183 = .ok (.iload 9, 2) := by decide +kernel
theorem d_Mo_fill_185 : decode b_Mo_fill 185 = .ok (.if_icmp .ge 47, 3) := by decide +kernel
theorem d_Mo_fill_188 : decode b_Mo_fill 188 = .ok (.aload_n 0, 1) := by decide +kernel
theorem d_Mo_fill_189 : decode b_Mo_fill 189 = .ok (.getfield 265, 3) := by decide +kernel
theorem d_Mo_fill_192 : decode b_Mo_fill 192 = .ok (.ifCond .eq 40, 3) := by decide +kernel
theorem d_Mo_fill_195 : decode b_Mo_fill 195 = .ok (.iload 7, 2) := by decide +kernel
theorem d_Mo_fill_197 : decode b_Mo_fill 197 = .ok (.iconst 3, 1) := by decide +kernel
theorem d_Mo_fill_198 : decode b_Mo_fill 198 = .ok (.if_icmp .eq 34, 3) := by decide +kernel
theorem d_Mo_fill_201 : decode b_Mo_fill 201 = .ok (.aload_n 0, 1) := by decide +kernel
theorem d_Mo_fill_202 : decode b_Mo_fill 202 = .ok (.getfield 22, 3) := by decide +kernel
theorem d_Mo_fill_205 : decode b_Mo_fill 205 = .ok (.sipush 128, 3) := by decide +kernel
theorem d_Mo_fill_208 : decode b_Mo_fill 208 = .ok (.bipush 8, 2) := by decide +kernel
theorem d_Mo_fill_210 : decode b_Mo_fill 210 = .ok (.iload_n 1, 1) := by decide +kernel
theorem d_Mo_fill_211 : decode b_Mo_fill 211 = .ok (.imul, 1) := by decide +kernel
theorem d_Mo_fill_212 : decode b_Mo_fill 212 = .ok (.iload 6, 2) := by decide +kernel
theorem d_Mo_fill_214 : decode b_Mo_fill 214 = .ok (.iadd, 1) := by decide +kernel
theorem d_Mo_fill_215 : decode b_Mo_fill 215 = .ok (.imul, 1) := by decide +kernel
theorem d_Mo_fill_216 : decode b_Mo_fill 216 = .ok (.iload 10, 2) := by decide +kernel
theorem d_Mo_fill_218 : decode b_Mo_fill 218 = .ok (.iadd, 1) := by decide +kernel
theorem d_Mo_fill_219 : decode b_Mo_fill 219 = .ok (.aload_n 0, 1) := by decide +kernel
theorem d_Mo_fill_220 : decode b_Mo_fill 220 = .ok (.iconst 1, 1) := by decide +kernel
theorem d_Mo_fill_221 : decode b_Mo_fill 221 = .ok (.iload_n 2, 1) := by decide +kernel
theorem d_Mo_fill_222 : decode b_Mo_fill 222 = .ok (.invokevirtual 268, 3) := by decide +kernel
theorem d_Mo_fill_225 : decode b_Mo_fill 225 = .ok (.iastore, 1) := by decide +kernel
theorem d_Mo_fill_226 : decode b_Mo_fill 226 = .ok (.iinc 10 1, 3) := by decide +kernel
theorem d_Mo_fill_229 : decode b_Mo_fill 229 = .ok (.goto (-48), 3) := by decide +kernel
theorem d_Mo_fill_232 : decode b_Mo_fill 232 = .ok (.iinc 6 1, 3) := by decide +kernel
theorem d_Mo_fill_235 : decode b_Mo_fill 235 = .ok (.goto (-125), 3) := by decide +kernel
theorem d_Mo_fill_238 : decode b_Mo_fill 238 = .ok (.iconst 0, 1) := by decide +kernel
theorem d_Mo_fill_239 : decode b_Mo_fill 239 = .ok (.istore 6, 2) := by decide +kernel
theorem d_Mo_fill_241 : decode b_Mo_fill 241 = .ok (.iload 6, 2) := by decide +kernel
theorem d_Mo_fill_243 : decode b_Mo_fill 243 = .ok (.iload 4, 2) := by decide +kernel
theorem d_Mo_fill_245 : decode b_Mo_fill 245 = .ok (.if_icmp .ge 85, 3) := by decide +kernel
theorem d_Mo_fill_248 : decode b_Mo_fill 248 = .ok (.aload_n 0, 1) := by decide +kernel
theorem d_Mo_fill_249 : decode b_Mo_fill 249 = .ok (.getfield 265, 3) := by decide +kernel
theorem d_Mo_fill_252 : decode b_Mo_fill 252 = .ok (.ifCond .eq 78, 3) := by decide +kernel
theorem d_Mo_fill_255 : decode b_Mo_fill 255 = .ok (.aload_n 0, 1) := by decide +kernel
theorem d_Mo_fill_256 : decode b_Mo_fill 256 = .ok (.iconst 4, 1) := by decide +kernel
theorem d_Mo_fill_257 : decode b_Mo_fill 257 = .ok (.iload_n 2, 1) := by decide +kernel
theorem d_Mo_fill_258 : decode b_Mo_fill 258 = .ok (.invokevirtual 268, 3) := by decide +kernel
theorem d_Mo_fill_261 : decode b_Mo_fill 261 = .ok (.istore 7, 2) := by decide +kernel
theorem d_Mo_fill_263 : decode b_Mo_fill 263 = .ok (.aload_n 0, 1) := by decide +kernel
theorem d_Mo_fill_264 : decode b_Mo_fill 264 = .ok (.iconst 1, 1) := by decide +kernel
theorem d_Mo_fill_265 : decode b_Mo_fill 265 = .ok (.iload_n 2, 1) := by decide +kernel
theorem d_Mo_fill_266 : decode b_Mo_fill 266 = .ok (.invokevirtual 268, 3) := by decide +kernel
theorem d_Mo_fill_269 : decode b_Mo_fill 269 = .ok (.istore 8, 2) := by decide +kernel
theorem d_Mo_fill_271 : decode b_Mo_fill 271 = .ok (.aload_n 0, 1) := by decide +kernel
theorem d_Mo_fill_272 : decode b_Mo_fill 272 = .ok (.iconst 1, 1) := by decide +kernel
theorem d_Mo_fill_273 : decode b_Mo_fill 273 = .ok (.iload_n 2, 1) := by decide +kernel
theorem d_Mo_fill_274 : decode b_Mo_fill 274 = .ok (.invokevirtual 268, 3) := by decide +kernel
theorem d_Mo_fill_277 : decode b_Mo_fill 277 = .ok (.istore 9, 2) := by decide +kernel
theorem d_Mo_fill_279 : decode b_Mo_fill 279 = .ok (.aload_n 0, 1) := by decide +kernel
theorem d_Mo_fill_280 : decode b_Mo_fill 280 = .ok (.iconst 2, 1) := by decide +kernel
theorem d_Mo_fill_281 : decode b_Mo_fill 281 = .ok (.iload_n 2, 1) := by decide +kernel
theorem d_Mo_fill_282 : decode b_Mo_fill 282 = .ok (.invokevirtual 268, 3) := by decide +kernel
theorem d_Mo_fill_285 : decode b_Mo_fill 285 = .ok (.istore 10, 2) := by decide +kernel
theorem d_Mo_fill_287 : decode b_Mo_fill 287 = .ok (.aload_n 0, 1) := by decide +kernel
theorem d_Mo_fill_288 : decode b_Mo_fill 288 = .ok (.aload_n 0, 1) := by decide +kernel
theorem d_Mo_fill_289 : decode b_Mo_fill 289 = .ok (.iload_n 1, 1) := by decide +kernel
theorem d_Mo_fill_290 : decode b_Mo_fill 290 = .ok (.iload 7, 2) := by decide +kernel
theorem d_Mo_fill_292 : decode b_Mo_fill 292 = .ok (.iload 8, 2) := by decide +kernel
theorem d_Mo_fill_294 : decode b_Mo_fill 294 = .ok (.iload 9, 2) := by decide +kernel
theorem d_Mo_fill_296 : decode b_Mo_fill 296 = .ok (.iload 10, 2) := by decide +kernel
theorem d_Mo_fill_298 : decode b_Mo_fill 298 = .ok (.invokevirtual 129, 3) := by decide +kernel
theorem d_Mo_fill_301 : decode b_Mo_fill 301 = .ok (.invokevirtual 271, 3) := by decide +kernel
theorem d_Mo_fill_304 : decode b_Mo_fill 304 = .ok (.aload_n 0, 1) := by decide +kernel
theorem d_Mo_fill_305 : decode b_Mo_fill 305 = .ok (.getfield 265, 3) := by decide +kernel
theorem d_Mo_fill_308 : decode b_Mo_fill 308 = .ok (.ifCond .eq 16, 3) := by decide +kernel
theorem d_Mo_fill_311 : decode b_Mo_fill 311 = .ok (.aload_n 0, 1) := by decide +kernel
theorem d_Mo_fill_312 : decode b_Mo_fill 312 = .ok (.iload_n 1, 1) := by decide +kernel
theorem d_Mo_fill_313 : decode b_Mo_fill 313 = .ok (.iload 7, 2) := by decide +kernel
theorem d_Mo_fill_315 : decode b_Mo_fill 315 = .ok (.iload 8, 2) := by decide +kernel
theorem d_Mo_fill_317 : decode b_Mo_fill 317 = .ok (.iload 9, 2) := by decide +kernel
theorem d_Mo_fill_319 : decode b_Mo_fill 319 = .ok (.iload 10, 2) := by decide +kernel
theorem d_Mo_fill_321 : decode b_Mo_fill 321 = .ok (.invokevirtual 133, 3) := by decide +kernel
theorem d_Mo_fill_324 : decode b_Mo_fill 324 = .ok (.iinc 6 1, 3) := by decide +kernel
theorem d_Mo_fill_327 : decode b_Mo_fill 327 = .ok (.goto (-86), 3) := by decide +kernel
theorem d_Mo_fill_330 : decode b_Mo_fill 330 = .ok (.iconst 0, 1) := by decide +kernel
theorem d_Mo_fill_331 : decode b_Mo_fill 331 = .ok (.istore 6, 2) := by decide +kernel
theorem d_Mo_fill_333 : decode b_Mo_fill 333 = .ok (.iload 6, 2) := by decide +kernel
theorem d_Mo_fill_335 : decode b_Mo_fill 335 = .ok (.iload 5, 2) := by decide +kernel
theorem d_Mo_fill_337 : decode b_Mo_fill 337 = .ok (.if_icmp .ge 95, 3) := by decide +kernel
theorem d_Mo_fill_340 : decode b_Mo_fill 340 = .ok (.aload_n 0, 1) := by decide +kernel
theorem d_Mo_fill_341 : decode b_Mo_fill 341 = .ok (.getfield 265, 3) := by decide +kernel
theorem d_Mo_fill_344 : decode b_Mo_fill 344 = .ok (.ifCond .eq 88, 3) := by decide +kernel
theorem d_Mo_fill_347 : decode b_Mo_fill 347 = .ok (.aload_n 0, 1) := by decide +kernel
theorem d_Mo_fill_348 : decode b_Mo_fill 348 = .ok (.iconst 1, 1) := by decide +kernel
theorem d_Mo_fill_349 : decode b_Mo_fill 349 = .ok (.iload_n 2, 1) := by decide +kernel
theorem d_Mo_fill_350 : decode b_Mo_fill 350 = .ok (.invokevirtual 268, 3) := by decide +kernel
theorem d_Mo_fill_353 : decode b_Mo_fill 353 = .ok (.istore 7, 2) := by decide +kernel
theorem d_Mo_fill_355 : decode b_Mo_fill 355 = .ok (.aload_n 0, 1) := by decide +kernel
theorem d_Mo_fill_356 : decode b_Mo_fill 356 = .ok (.iconst 2, 1) := by decide +kernel
theorem d_Mo_fill_357 : decode b_Mo_fill 357 = .ok (.iload_n 2, 1) := by decide +kernel
theorem d_Mo_fill_358 : decode b_Mo_fill 358 = .ok (.invokevirtual 268, 3) := by decide +kernel
theorem d_Mo_fill_361 : decode b_Mo_fill 361 = .ok (.istore 8, 2) := by decide +kernel
theorem d_Mo_fill_363 : decode b_Mo_fill 363 = .ok (.aload_n 0, 1) := by decide +kernel
theorem d_Mo_fill_364 : decode b_Mo_fill 364 = .ok (.iconst 1, 1) := by decide +kernel
theorem d_Mo_fill_365 : decode b_Mo_fill 365 = .ok (.iload_n 2, 1) := by decide +kernel
theorem d_Mo_fill_366 : decode b_Mo_fill 366 = .ok (.invokevirtual 268, 3) := by decide +kernel
theorem d_Mo_fill_369 : decode b_Mo_fill 369 = .ok (.istore 9, 2) := by decide +kernel
theorem d_Mo_fill_371 : decode b_Mo_fill 371 = .ok (.aload_n 0, 1) := by decide +kernel
theorem d_Mo_fill_372 : decode b_Mo_fill 372 = .ok (.iconst 1, 1) := by decide +kernel
theorem d_Mo_fill_373 : decode b_Mo_fill 373 = .ok (.iload_n 2, 1) := by decide +kernel
theorem d_Mo_fill_374 : decode b_Mo_fill 374 = .ok (.invokevirtual 268, 3) := by decide +kernel
theorem d_Mo_fill_377 : decode b_Mo_fill 377 = .ok (.istore 10, 2) := by decide +kernel
theorem d_Mo_fill_379 : decode b_Mo_fill 379 = .ok (.aload_n 0, 1) := by decide +kernel
theorem d_Mo_fill_380 : decode b_Mo_fill 380 = .ok (.iconst 4, 1) := by decide +kernel
theorem d_Mo_fill_381 : decode b_Mo_fill 381 = .ok (.iload_n 2, 1) := by decide +kernel
theorem d_Mo_fill_382 : decode b_Mo_fill 382 = .ok (.invokevirtual 268, 3) := by decide +kernel
theorem d_Mo_fill_385 : decode b_Mo_fill 385 = .ok (.istore 11, 2) := by decide +kernel
theorem d_Mo_fill_387 : decode b_Mo_fill 387 = .ok (.aload_n 0, 1) := by decide +kernel
theorem d_Mo_fill_388 : decode b_Mo_fill 388 = .ok (.aload_n 0, 1) := by decide +kernel
theorem d_Mo_fill_389 : decode b_Mo_fill 389 = .ok (.iload_n 1, 1) := by decide +kernel
theorem d_Mo_fill_390 : decode b_Mo_fill 390 = .ok (.iload 7, 2) := by decide +kernel
theorem d_Mo_fill_392 : decode b_Mo_fill 392 = .ok (.iload 8, 2) := by decide +kernel
theorem d_Mo_fill_394 : decode b_Mo_fill 394 = .ok (.iload 9, 2) := by decide +kernel
theorem d_Mo_fill_396 : decode b_Mo_fill 396 = .ok (.iload 10, 2) := by decide +kernel
theorem d_Mo_fill_398 : decode b_Mo_fill 398 = .ok (.invokevirtual 137, 3) := by decide +kernel
theorem d_Mo_fill_401 : decode b_Mo_fill 401 = .ok (.invokevirtual 271, 3) := by decide +kernel
theorem d_Mo_fill_404 : decode b_Mo_fill 404 = .ok (.aload_n 0, 1) := by decide +kernel
theorem d_Mo_fill_405 : decode b_Mo_fill 405 = .ok (.getfield 265, 3) := by decide +kernel
theorem d_Mo_fill_408 : decode b_Mo_fill 408 = .ok (.ifCond .eq 18, 3) := by decide +kernel
theorem d_Mo_fill_411 : decode b_Mo_fill 411 = .ok (.aload_n 0, 1) := by decide +kernel
theorem d_Mo_fill_412 : decode b_Mo_fill 412 = .ok (.iload_n 1, 1) := by decide +kernel
theorem d_Mo_fill_413 : decode b_Mo_fill 413 = .ok (.iload 7, 2) := by decide +kernel
theorem d_Mo_fill_415 : decode b_Mo_fill 415 = .ok (.iload 8, 2) := by decide +kernel
theorem d_Mo_fill_417 : decode b_Mo_fill 417 = .ok (.iload 9, 2) := by decide +kernel
theorem d_Mo_fill_419 : decode b_Mo_fill 419 = .ok (.iload 10, 2) := by decide +kernel
theorem d_Mo_fill_421 : decode b_Mo_fill 421 = .ok (.iload 11, 2) := by decide +kernel
theorem d_Mo_fill_423 : decode b_Mo_fill 423 = .ok (.invokevirtual 140, 3) := by decide +kernel
theorem d_Mo_fill_426 : decode b_Mo_fill 426 = .ok (.iinc 6 1, 3) := by decide +kernel
theorem d_Mo_fill_429 : decode b_Mo_fill 429 = .ok (.goto (-96), 3) := by decide +kernel
theorem d_Mo_fill_432 : decode b_Mo_fill 432 = .ok (.aload_n 0, 1) := by decide +kernel
theorem d_Mo_fill_433 : decode b_Mo_fill 433 = .ok (.aload_n 0, 1) := by decide +kernel
theorem d_Mo_fill_434 : decode b_Mo_fill 434 = .ok (.getfield 262, 3) := by decide +kernel
theorem d_Mo_fill_437 : decode b_Mo_fill 437 = .ok (.iload_n 2, 1) := by decide +kernel
theorem d_Mo_fill_438 : decode b_Mo_fill 438 = .ok (.if_icmp .ne 7, 3) := by decide +kernel
theorem d_Mo_fill_441 : decode b_Mo_fill 441 = .ok (.iconst 1, 1) := by decide +kernel
theorem d_Mo_fill_442 : decode b_Mo_fill 442 = .ok (.goto 4, 3) := by decide +kernel
theorem d_Mo_fill_445 : decode b_Mo_fill 445 = .ok (.iconst 0, 1) := by decide +kernel
theorem d_Mo_fill_446 : decode b_Mo_fill 446 = .ok (.invokevirtual 271, 3) := by decide +kernel
theorem d_Mo_fill_449 : decode b_Mo_fill 449 = .ok (.return_, 1) := by decide +kernel
theorem d_Mo_take_0 : decode b_Mo_take 0 = .ok (.iconst 0, 1) := by decide +kernel
theorem d_Mo_take_1 : decode b_Mo_take 1 = .ok (.istore_n 3, 1) := by decide +kernel
theorem d_Mo_take_2 : decode b_Mo_take 2 = .ok (.iconst 0, 1) := by decide +kernel
theorem d_Mo_take_3 : decode b_Mo_take 3 = .ok (.istore 4, 2) := by decide +kernel
theorem d_Mo_take_5 : decode b_Mo_take 5 = .ok (.iload 4, 2) := by decide +kernel
theorem d_Mo_take_7 : decode b_Mo_take 7 = .ok (.iload_n 1, 1) := by decide +kernel
theorem d_Mo_take_8 : decode b_Mo_take 8 = .ok (.if_icmp .ge 49, 3) := by decide +kernel
theorem d_Mo_take_11 : decode b_Mo_take 11 = .ok (.aload_n 0, 1) := by decide +kernel
theorem d_Mo_take_12 : decode b_Mo_take 12 = .ok (.getfield 262, 3) := by decide +kernel
theorem d_Mo_take_15 : decode b_Mo_take 15 = .ok (.iload_n 2, 1) := by decide +kernel
theorem d_Mo_take_16 : decode b_Mo_take 16 = .ok (.if_icmp .lt 10, 3) := by decide +kernel
theorem d_Mo_take_19 : decode b_Mo_take 19 = .ok (.aload_n 0, 1) := by decide +kernel
theorem d_Mo_take_20 : decode b_Mo_take 20 = .ok (.iconst 0, 1) := by decide +kernel
theorem d_Mo_take_21 : decode b_Mo_take 21 = .ok (.putfield 265, 3) := by decide +kernel
theorem d_Mo_take_24 : decode b_Mo_take 24 = .ok (.iconst 0, 1) := by decide +kernel
theorem d_Mo_take_25 : decode b_Mo_take 25 = .ok (.ireturn, 1) := by decide +kernel
theorem d_Mo_take_26 : decode b_Mo_take 26 = .ok (.iload_n 3, 1) := by decide +kernel
theorem d_Mo_take_27 : decode b_Mo_take 27 = .ok (.bipush 8, 2) := by decide +kernel
theorem d_Mo_take_29 : decode b_Mo_take 29 = .ok (.ishl, 1) := by decide +kernel
theorem d_Mo_take_30 : decode b_Mo_take 30 = .ok (.aload_n 0, 1) := by decide +kernel
theorem d_Mo_take_31 : decode b_Mo_take 31 = .ok (.getfield 90, 3) := by decide +kernel
theorem d_Mo_take_34 : decode b_Mo_take 34 = .ok (.aload_n 0, 1) := by decide +kernel
theorem d_Mo_take_35 : decode b_Mo_take 35 = .ok (.getfield 262, 3) := by decide +kernel
theorem d_Mo_take_38 : decode b_Mo_take 38 = .ok (.iaload, 1) := by decide +kernel
theorem d_Mo_take_39 : decode b_Mo_take 39 = .ok (.ior, 1) := by decide +kernel
theorem d_Mo_take_40 : decode b_Mo_take 40 = .ok (.istore_n 3, 1) := by decide +kernel
theorem d_Mo_take_41 : decode b_Mo_take 41 = .ok (.aload_n 0, 1) := by decide +kernel
theorem d_Mo_take_42 : decode b_Mo_take 42 = .ok (.dup, 1) := by decide +kernel
theorem d_Mo_take_43 : decode b_Mo_take 43 = .ok (.getfield 262, 3) := by decide +kernel
theorem d_Mo_take_46 : decode b_Mo_take 46 = .ok (.iconst 1, 1) := by decide +kernel
theorem d_Mo_take_47 : decode b_Mo_take 47 = .ok (.iadd, 1) := by decide +kernel
theorem d_Mo_take_48 : decode b_Mo_take 48 = .ok (.putfield 262, 3) := by decide +kernel
theorem d_Mo_take_51 : decode b_Mo_take 51 = .ok (.iinc 4 1, 3) := by decide +kernel
theorem d_Mo_take_54 : decode b_Mo_take 54 = .ok (.goto (-49), 3) := by decide +kernel
theorem d_Mo_take_57 : decode b_Mo_take 57 = .ok (.iload_n 3, 1) := by decide +kernel
theorem d_Mo_take_58 : decode b_Mo_take 58 = .ok (.ireturn, 1) := by decide +kernel
theorem d_Mo_need_0 : decode b_Mo_need 0 = .ok (.aload_n 0, 1) := by decide +kernel
theorem d_Mo_need_1 : decode b_Mo_need 1 = .ok (.aload_n 0, 1) := by decide +kernel
theorem d_Mo_need_2 : decode b_Mo_need 2 = .ok (.getfield 265, 3) := by decide +kernel
theorem d_Mo_need_5 : decode b_Mo_need 5 = .ok (.ifCond .eq 11, 3) := by decide +kernel
theorem d_Mo_need_8 : decode b_Mo_need 8 = .ok (.iload_n 1, 1) := by decide +kernel
theorem d_Mo_need_9 : decode b_Mo_need 9 = .ok (.ifCond .eq 7, 3) := by decide +kernel
theorem d_Mo_need_12 : decode b_Mo_need 12 = .ok (.iconst 1, 1) := by decide +kernel
theorem d_Mo_need_13 : decode b_Mo_need 13 = .ok (.goto 4, 3) := by decide +kernel
theorem d_Mo_need_16 : decode b_Mo_need 16 = .ok (.iconst 0, 1) := by decide +kernel
theorem d_Mo_need_17 : decode b_Mo_need 17 = .ok (.putfield 265, 3) := by decide +kernel
theorem d_Mo_need_20 : decode b_Mo_need 20 = .ok (.return_, 1) := by decide +kernel
theorem d_Mo_count_0 : decode b_Mo_count 0 = .ok (.aload_n 0, 1) := by decide +kernel
theorem d_Mo_count_1 : decode b_Mo_count 1 = .ok (.iconst 0, 1) := by decide +kernel
theorem d_Mo_count_2 : decode b_Mo_count 2 = .ok (.putfield 93, 3) := by decide +kernel
theorem d_Mo_count_5 : decode b_Mo_count 5 = .ok (.iload_n 1, 1) := by decide +kernel
theorem d_Mo_count_6 : decode b_Mo_count 6 = .ok (.tableswitch 158 0 9 #[54, 59, 64, 69, 74, 79, 84, 89, 112, 135], 54) := by decide +kernel
theorem d_Mo_count_60 : decode b_Mo_count 60 = .ok (.aload_n 0, 1) := by decide +kernel
theorem d_Mo_count_61 : decode b_Mo_count 61 = .ok (.getfield 96, 3) := by decide +kernel
theorem d_Mo_count_64 : decode b_Mo_count 64 = .ok (.ireturn, 1) := by decide +kernel
theorem d_Mo_count_65 : decode b_Mo_count 65 = .ok (.aload_n 0, 1) := by decide +kernel
theorem d_Mo_count_66 : decode b_Mo_count 66 = .ok (.getfield 144, 3) := by decide +kernel
theorem d_Mo_count_69 : decode b_Mo_count 69 = .ok (.ireturn, 1) := by decide +kernel
theorem d_Mo_count_70 : decode b_Mo_count 70 = .ok (.aload_n 0, 1) := by decide +kernel
theorem d_Mo_count_71 : decode b_Mo_count 71 = .ok (.getfield 192, 3) := by decide +kernel
theorem d_Mo_count_74 : decode b_Mo_count 74 = .ok (.ireturn, 1) := by decide +kernel
theorem d_Mo_count_75 : decode b_Mo_count 75 = .ok (.aload_n 0, 1) := by decide +kernel
theorem d_Mo_count_76 : decode b_Mo_count 76 = .ok (.getfield 179, 3) := by decide +kernel
theorem d_Mo_count_79 : decode b_Mo_count 79 = .ok (.ireturn, 1) := by decide +kernel
theorem d_Mo_count_80 : decode b_Mo_count 80 = .ok (.aload_n 0, 1) := by decide +kernel
theorem d_Mo_count_81 : decode b_Mo_count 81 = .ok (.getfield 173, 3) := by decide +kernel
theorem d_Mo_count_84 : decode b_Mo_count 84 = .ok (.ireturn, 1) := by decide +kernel
theorem d_Mo_count_85 : decode b_Mo_count 85 = .ok (.aload_n 0, 1) := by decide +kernel
theorem d_Mo_count_86 : decode b_Mo_count 86 = .ok (.getfield 182, 3) := by decide +kernel
theorem d_Mo_count_89 : decode b_Mo_count 89 = .ok (.ireturn, 1) := by decide +kernel
theorem d_Mo_count_90 : decode b_Mo_count 90 = .ok (.aload_n 0, 1) := by decide +kernel
theorem d_Mo_count_91 : decode b_Mo_count 91 = .ok (.getfield 252, 3) := by decide +kernel
theorem d_Mo_count_94 : decode b_Mo_count 94 = .ok (.ireturn, 1) := by decide +kernel
theorem d_Mo_count_95 : decode b_Mo_count 95 = .ok (.aload_n 0, 1) := by decide +kernel
theorem d_Mo_count_96 : decode b_Mo_count 96 = .ok (.getfield 96, 3) := by decide +kernel
theorem d_Mo_count_99 : decode b_Mo_count 99 = .ok (.ifCond .ne 7, 3) := by decide +kernel
theorem d_Mo_count_102 : decode b_Mo_count 102 = .ok (.iconst (-1), 1) := by decide +kernel
theorem d_Mo_count_103 : decode b_Mo_count 103 = .ok (.goto 14, 3) := by decide +kernel
theorem d_Mo_count_106 : decode b_Mo_count 106 = .ok (.aload_n 0, 1) := by decide +kernel
theorem d_Mo_count_107 : decode b_Mo_count 107 = .ok (.getfield 7, 3) := by decide +kernel
theorem d_Mo_count_110 : decode b_Mo_count 110 = .ok (.aload_n 0, 1) := by decide +kernel
theorem d_Mo_count_111 : decode b_Mo_count 111 = .ok (.getfield 96, 3) := by decide +kernel
theorem d_Mo_count_114 : decode b_Mo_count 114 = .ok (.iconst 1, 1) := by decide +kernel
theorem d_Mo_count_115 : decode b_Mo_count 115 = .ok (.isub, 1) := by decide +kernel
theorem d_Mo_count_116 : decode b_Mo_count 116 = .ok (.iaload, 1) := by decide +kernel
theorem d_Mo_count_117 : decode b_Mo_count 117 = .ok (.ireturn, 1) := by decide +kernel
theorem d_Mo_count_118 : decode b_Mo_count 118 = .ok (.aload_n 0, 1) := by decide +kernel
theorem d_Mo_count_119 : decode b_Mo_count 119 = .ok (.getfield 96, 3) := by decide +kernel
theorem d_Mo_count_122 : decode b_Mo_count 122 = .ok (.ifCond .ne 7, 3) := by decide +kernel
theorem d_Mo_count_125 : decode b_Mo_count 125 = .ok (.iconst (-1), 1) := by decide +kernel
theorem d_Mo_count_126 : decode b_Mo_count 126 = .ok (.goto 14, 3) := by decide +kernel
theorem d_Mo_count_129 : decode b_Mo_count 129 = .ok (.aload_n 0, 1) := by decide +kernel
theorem d_Mo_count_130 : decode b_Mo_count 130 = .ok (.getfield 25, 3) := by decide +kernel
theorem d_Mo_count_133 : decode b_Mo_count 133 = .ok (.aload_n 0, 1) := by decide +kernel
theorem d_Mo_count_134 : decode b_Mo_count 134 = .ok (.getfield 96, 3) := by decide +kernel
theorem d_Mo_count_137 : decode b_Mo_count 137 = .ok (.iconst 1, 1) := by decide +kernel
theorem d_Mo_count_138 : decode b_Mo_count 138 = .ok (.isub, 1) := by decide +kernel
theorem d_Mo_count_139 : decode b_Mo_count 139 = .ok (.iaload, 1) := by decide +kernel
theorem d_Mo_count_140 : decode b_Mo_count 140 = .ok (.ireturn, 1) := by decide +kernel
theorem d_Mo_count_141 : decode b_Mo_count 141 = .ok (.aload_n 0, 1) := by decide +kernel
theorem d_Mo_count_142 : decode b_Mo_count 142 = .ok (.getfield 96, 3) := by decide +kernel
theorem d_Mo_count_145 : decode b_Mo_count 145 = .ok (.ifCond .ne 7, 3) := by decide +kernel
theorem d_Mo_count_148 : decode b_Mo_count 148 = .ok (.iconst (-1), 1) := by decide +kernel
theorem d_Mo_count_149 : decode b_Mo_count 149 = .ok (.goto 14, 3) := by decide +kernel
theorem d_Mo_count_152 : decode b_Mo_count 152 = .ok (.aload_n 0, 1) := by decide +kernel
theorem d_Mo_count_153 : decode b_Mo_count 153 = .ok (.getfield 40, 3) := by decide +kernel
theorem d_Mo_count_156 : decode b_Mo_count 156 = .ok (.aload_n 0, 1) := by decide +kernel
theorem d_Mo_count_157 : decode b_Mo_count 157 = .ok (.getfield 96, 3) := by decide +kernel
theorem d_Mo_count_160 : decode b_Mo_count 160 = .ok (.iconst 1, 1) := by decide +kernel
theorem d_Mo_count_161 : decode b_Mo_count 161 = .ok (.isub, 1) := by decide +kernel
theorem d_Mo_count_162 : decode b_Mo_count 162 = .ok (.iaload, 1) := by decide +kernel
theorem d_Mo_count_163 : decode b_Mo_count 163 = .ok (.ireturn, 1) := by decide +kernel
theorem d_Mo_count_164 : decode b_Mo_count 164 = .ok (.iconst (-1), 1) := by decide +kernel
theorem d_Mo_count_165 : decode b_Mo_count 165 = .ok (.ireturn, 1) := by decide +kernel
