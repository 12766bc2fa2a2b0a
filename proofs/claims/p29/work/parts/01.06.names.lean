theorem dL_addsUp_154 : decode cL_addsUp 154 = .ok (.aload_n 0, 1) := by decide +kernel
theorem dL_addsUp_155 : decode cL_addsUp 155 = .ok (.iconst 1, 1) := by decide +kernel
theorem dL_addsUp_156 : decode cL_addsUp 156 = .ok (.invokevirtual 8, 3) := by decide +kernel
theorem dL_addsUp_159 : decode cL_addsUp 159 = .ok (.if_icmp .ge 5, 3) := by decide +kernel
theorem dL_addsUp_162 : decode cL_addsUp 162 = .ok (.iconst 0, 1) := by decide +kernel
theorem dL_addsUp_163 : decode cL_addsUp 163 = .ok (.ireturn, 1) := by decide +kernel
theorem dL_addsUp_164 : decode cL_addsUp 164 = .ok (.iinc 9 1, 3) := by decide +kernel
theorem dL_addsUp_167 : decode cL_addsUp 167 = .ok (.goto (-145), 3) := by decide +kernel
theorem dL_addsUp_170 : decode cL_addsUp 170 = .ok (.iload_n 2, 1) := by decide +kernel
theorem dL_addsUp_171 : decode cL_addsUp 171 = .ok (.iload_n 3, 1) := by decide +kernel
theorem dL_addsUp_172 : decode cL_addsUp 172 = .ok (.iadd, 1) := by decide +kernel
theorem dL_addsUp_173 : decode cL_addsUp 173 = .ok (.iload_n 1, 1) := by decide +kernel
theorem dL_addsUp_174 : decode cL_addsUp 174 = .ok (.iadd, 1) := by decide +kernel
theorem dL_addsUp_175 : decode cL_addsUp 175 = .ok (.aload_n 0, 1) := by decide +kernel
theorem dL_addsUp_176 : decode cL_addsUp 176 = .ok (.bipush 10, 2) := by decide +kernel
theorem dL_addsUp_178 : decode cL_addsUp 178 = .ok (.invokevirtual 8, 3) := by decide +kernel
theorem dL_addsUp_181 : decode cL_addsUp 181 = .ok (.if_icmp .ne 92, 3) := by decide +kernel
theorem dL_addsUp_184 : decode cL_addsUp 184 = .ok (.iload 6, 2) := by decide +kernel
theorem dL_addsUp_186 : decode cL_addsUp 186 = .ok (.aload_n 0, 1) := by decide +kernel
theorem dL_addsUp_187 : decode cL_addsUp 187 = .ok (.bipush 10, 2) := by decide +kernel
theorem dL_addsUp_189 : decode cL_addsUp 189 = .ok (.invokevirtual 8, 3) := by decide +kernel
theorem dL_addsUp_192 : decode cL_addsUp 192 = .ok (.if_icmp .ne 81, 3) := by decide +kernel
theorem dL_addsUp_195 : decode cL_addsUp 195 = .ok (.iload_n 3, 1) := by decide +kernel
theorem dL_addsUp_196 : decode cL_addsUp 196 = .ok (.aload_n 0, 1) := by decide +kernel
theorem dL_addsUp_197 : decode cL_addsUp 197 = .ok (.bipush 7, 2) := by decide +kernel
theorem dL_addsUp_199 : decode cL_addsUp 199 = .ok (.invokevirtual 8, 3) := by decide +kernel
theorem dL_addsUp_202 : decode cL_addsUp 202 = .ok (.if_icmp .ne 71, 3) := by decide +kernel
theorem dL_addsUp_205 : decode cL_addsUp 205 = .ok (.iload 4, 2) := by decide +kernel
theorem dL_addsUp_207 : decode cL_addsUp 207 = .ok (.aload_n 0, 1) := by decide +kernel
theorem dL_addsUp_208 : decode cL_addsUp 208 = .ok (.bipush 8, 2) := by decide +kernel
theorem dL_addsUp_210 : decode cL_addsUp 210 = .ok (.invokevirtual 8, 3) := by decide +kernel
theorem dL_addsUp_213 : decode cL_addsUp 213 = .ok (.if_icmp .ne 60, 3) := by decide +kernel
theorem dL_addsUp_216 : decode cL_addsUp 216 = .ok (.aload_n 0, 1) := by decide +kernel
theorem dL_addsUp_217 : decode cL_addsUp 217 = .ok (.bipush 9, 2) := by decide +kernel
theorem dL_addsUp_219 : decode cL_addsUp 219 = .ok (.invokevirtual 8, 3) := by decide +kernel
theorem dL_addsUp_222 : decode cL_addsUp 222 = .ok (.aload_n 0, 1) := by decide +kernel
theorem dL_addsUp_223 : decode cL_addsUp 223 = .ok (.bipush 7, 2) := by decide +kernel
theorem dL_addsUp_225 : decode cL_addsUp 225 = .ok (.invokevirtual 8, 3) := by decide +kernel
theorem dL_addsUp_228 : decode cL_addsUp 228 = .ok (.isub, 1) := by decide +kernel
theorem dL_addsUp_229 : decode cL_addsUp 229 = .ok (.iload_n 1, 1) := by decide +kernel
theorem dL_addsUp_230 : decode cL_addsUp 230 = .ok (.if_icmp .ne 43, 3) := by decide +kernel
theorem dL_addsUp_233 : decode cL_addsUp 233 = .ok (.iload 5, 2) := by decide +kernel
theorem dL_addsUp_235 : decode cL_addsUp 235 = .ok (.iload 4, 2) := by decide +kernel
theorem dL_addsUp_237 : decode cL_addsUp 237 = .ok (.ifCond .le 7, 3) := by decide +kernel
theorem dL_addsUp_240 : decode cL_addsUp 240 = .ok (.iload_n 3, 1) := by decide +kernel
theorem dL_addsUp_241 : decode cL_addsUp 241 = .ok (.goto 4, 3) := by decide +kernel
theorem dL_addsUp_244 : decode cL_addsUp 244 = .ok (.iconst 0, 1) := by decide +kernel
theorem dL_addsUp_245 : decode cL_addsUp 245 = .ok (.if_icmp .ne 28, 3) := by decide +kernel
theorem dL_addsUp_248 : decode cL_addsUp 248 = .ok (.iload 7, 2) := by decide +kernel
theorem dL_addsUp_250 : decode cL_addsUp 250 = .ok (.aload_n 0, 1) := by decide +kernel
theorem dL_addsUp_251 : decode cL_addsUp 251 = .ok (.iconst 2, 1) := by decide +kernel
theorem dL_addsUp_252 : decode cL_addsUp 252 = .ok (.invokevirtual 8, 3) := by decide +kernel
theorem dL_addsUp_255 : decode cL_addsUp 255 = .ok (.if_icmp .ne 18, 3) := by decide +kernel
theorem dL_addsUp_258 : decode cL_addsUp 258 = .ok (.iload 8, 2) := by decide +kernel
theorem dL_addsUp_260 : decode cL_addsUp 260 = .ok (.aload_n 0, 1) := by decide +kernel
theorem dL_addsUp_261 : decode cL_addsUp 261 = .ok (.bipush 12, 2) := by decide +kernel
theorem dL_addsUp_263 : decode cL_addsUp 263 = .ok (.invokevirtual 8, 3) := by decide +kernel
theorem dL_addsUp_266 : decode cL_addsUp 266 = .ok (.if_icmp .ne 7, 3) := by decide +kernel
theorem dL_addsUp_269 : decode cL_addsUp 269 = .ok (.iconst 1, 1) := by decide +kernel
theorem dL_addsUp_270 : decode cL_addsUp 270 = .ok (.goto 4, 3) := by decide +kernel
theorem dL_addsUp_273 : decode cL_addsUp 273 = .ok (.iconst 0, 1) := by decide +kernel
theorem dL_addsUp_274 : decode cL_addsUp 274 = .ok (.ireturn, 1) := by decide +kernel
theorem dL_isHearthRight_0 : decode cL_isHearthRight 0 = .ok (.iconst 0, 1) := by decide +kernel
theorem dL_isHearthRight_1 : decode cL_isHearthRight 1 = .ok (.istore_n 1, 1) := by decide +kernel
theorem dL_isHearthRight_2 : decode cL_isHearthRight 2 = .ok (.iconst 0, 1) := by decide +kernel
theorem dL_isHearthRight_3 : decode cL_isHearthRight 3 = .ok (.istore_n 2, 1) := by decide +kernel
theorem dL_isHearthRight_4 : decode cL_isHearthRight 4 = .ok (.iconst 0, 1) := by decide +kernel
theorem dL_isHearthRight_5 : decode cL_isHearthRight 5 = .ok (.istore_n 3, 1) := by decide +kernel
theorem dL_isHearthRight_6 : decode cL_isHearthRight 6 = .ok (.iload_n 3, 1) := by decide +kernel
theorem dL_isHearthRight_7 : decode cL_isHearthRight 7 = .ok (.aload_n 0, 1) := by decide +kernel
theorem dL_isHearthRight_8 : decode cL_isHearthRight 8 = .ok (.iconst 2, 1) := by decide +kernel
theorem dL_isHearthRight_9 : decode cL_isHearthRight 9 = .ok (.invokevirtual 8, 3) := by decide +kernel
theorem dL_isHearthRight_12 : decode cL_isHearthRight 12 = .ok (.if_icmp .ge 203, 3) := by decide +kernel
theorem dL_isHearthRight_15 : decode cL_isHearthRight 15 = .ok (.aload_n 0, 1) := by decide +kernel
theorem dL_isHearthRight_16 : decode cL_isHearthRight 16 = .ok (.iload_n 3, 1) := by decide +kernel
theorem dL_isHearthRight_17 : decode cL_isHearthRight 17 = .ok (.bipush 8, 2) := by decide +kernel
theorem dL_isHearthRight_19 : decode cL_isHearthRight 19 = .ok (.invokevirtual 59, 3) := by decide +kernel
theorem dL_isHearthRight_22 : decode cL_isHearthRight 22 = .ok (.istore 4, 2) := by decide +kernel
theorem dL_isHearthRight_24 : decode cL_isHearthRight 24 = .ok (.aload_n 0, 1) := by decide +kernel
theorem dL_isHearthRight_25 : decode cL_isHearthRight 25 = .ok (.iload_n 3, 1) := by decide +kernel
theorem dL_isHearthRight_26 : decode cL_isHearthRight 26 = .ok (.iconst 4, 1) := by decide +kernel
theorem dL_isHearthRight_27 : decode cL_isHearthRight 27 = .ok (.invokevirtual 59, 3) := by decide +kernel
theorem dL_isHearthRight_30 : decode cL_isHearthRight 30 = .ok (.istore 5, 2) := by decide +kernel
theorem dL_isHearthRight_32 : decode cL_isHearthRight 32 = .ok (.aload_n 0, 1) := by decide +kernel
theorem dL_isHearthRight_33 : decode cL_isHearthRight 33 = .ok (.iload_n 3, 1) := by decide +kernel
theorem dL_isHearthRight_34 : decode cL_isHearthRight 34 = .ok (.bipush 7, 2) := by decide +kernel
theorem dL_isHearthRight_36 : decode cL_isHearthRight 36 = .ok (.invokevirtual 59, 3) := by decide +kernel
theorem dL_isHearthRight_39 : decode cL_isHearthRight 39 = .ok (.istore 6, 2) := by decide +kernel
theorem dL_isHearthRight_41 : decode cL_isHearthRight 41 = .ok (.iload 4, 2) := by decide +kernel
theorem dL_isHearthRight_43 : decode cL_isHearthRight 43 = .ok (.iload_n 1, 1) := by decide +kernel
theorem dL_isHearthRight_44 : decode cL_isHearthRight 44 = .ok (.iand, 1) := by decide +kernel
theorem dL_isHearthRight_45 : decode cL_isHearthRight 45 = .ok (.ifCond .ne 92, 3) := by decide +kernel
theorem dL_isHearthRight_48 : decode cL_isHearthRight 48 = .ok (.iload 4, 2) := by decide +kernel
theorem dL_isHearthRight_50 : decode cL_isHearthRight 50 = .ok (.invokestatic 62, 3) := by decide +kernel
theorem dL_isHearthRight_53 : decode cL_isHearthRight 53 = .ok (.iload 5, 2) := by decide +kernel
theorem dL_isHearthRight_55 : decode cL_isHearthRight 55 = .ok (.iconst 1, 1) := by decide +kernel
theorem dL_isHearthRight_56 : decode cL_isHearthRight 56 = .ok (.if_icmp .ne 12, 3) := by decide +kernel
theorem dL_isHearthRight_59 : decode cL_isHearthRight 59 = .ok (.aload_n 0, 1) := by decide +kernel
theorem dL_isHearthRight_60 : decode cL_isHearthRight 60 = .ok (.iload_n 3, 1) := by decide +kernel
theorem dL_isHearthRight_61 : decode cL_isHearthRight 61 = .ok (.iconst 2, 1) := by decide +kernel
theorem dL_isHearthRight_62 : decode cL_isHearthRight 62 = .ok (.invokevirtual 59, 3) := by decide +kernel
theorem dL_isHearthRight_65 : decode cL_isHearthRight 65 = .ok (.goto 4, 3) := by decide +kernel
theorem dL_isHearthRight_68 : decode cL_isHearthRight 68 = .ok (.iconst 0, 1) := by decide +kernel
theorem dL_isHearthRight_69 : decode cL_isHearthRight 69 = .ok (.if_icmp .ne 68, 3) := by decide +kernel
theorem dL_isHearthRight_72 : decode cL_isHearthRight 72 = .ok (.iload 5, 2) := by decide +kernel
theorem dL_isHearthRight_74 : decode cL_isHearthRight 74 = .ok (.ifCond .ne 7, 3) := by decide +kernel
theorem dL_isHearthRight_77 : decode cL_isHearthRight 77 = .ok (.iconst 1, 1) := by decide +kernel
theorem dL_isHearthRight_78 : decode cL_isHearthRight 78 = .ok (.goto 4, 3) := by decide +kernel
theorem dL_isHearthRight_81 : decode cL_isHearthRight 81 = .ok (.iconst 0, 1) := by decide +kernel
theorem dL_isHearthRight_82 : decode cL_isHearthRight 82 = .ok (.iload 6, 2) := by decide +kernel
theorem dL_isHearthRight_84 : decode cL_isHearthRight 84 = .ok (.ifCond .lt 7, 3) := by decide +kernel
theorem dL_isHearthRight_87 : decode cL_isHearthRight 87 = .ok (.iconst 1, 1) := by decide +kernel
theorem dL_isHearthRight_88 : decode cL_isHearthRight 88 = .ok (.goto 4, 3) := by decide +kernel
theorem dL_isHearthRight_91 : decode cL_isHearthRight 91 = .ok (.iconst 0, 1) := by decide +kernel
theorem dL_isHearthRight_92 : decode cL_isHearthRight 92 = .ok (.if_icmp .ne 45, 3) := by decide +kernel
theorem dL_isHearthRight_95 : decode cL_isHearthRight 95 = .ok (.iload 5, 2) := by decide +kernel
theorem dL_isHearthRight_97 : decode cL_isHearthRight 97 = .ok (.ifCond .ne 7, 3) := by decide +kernel
theorem dL_isHearthRight_100 : decode cL_isHearthRight 100 = .ok (.iconst 1, 1) := by decide +kernel
theorem dL_isHearthRight_101 : decode cL_isHearthRight 101 = .ok (.goto 4, 3) := by decide +kernel
theorem dL_isHearthRight_104 : decode cL_isHearthRight 104 = .ok (.iconst 0, 1) := by decide +kernel
theorem dL_isHearthRight_105 : decode cL_isHearthRight 105 = .ok (.aload_n 0, 1) := by decide +kernel
theorem dL_isHearthRight_106 : decode cL_isHearthRight 106 = .ok (.iload_n 3, 1) := by decide +kernel
theorem dL_isHearthRight_107 : decode cL_isHearthRight 107 = .ok (.invokevirtual 65, 3) := by decide +kernel
theorem dL_isHearthRight_110 : decode cL_isHearthRight 110 = .ok (.ifCond .lt 7, 3) := by decide +kernel
theorem dL_isHearthRight_113 : decode cL_isHearthRight 113 = .ok (.iconst 1, 1) := by decide +kernel
theorem dL_isHearthRight_114 : decode cL_isHearthRight 114 = .ok (.goto 4, 3) := by decide +kernel
theorem dL_isHearthRight_117 : decode cL_isHearthRight 117 = .ok (.iconst 0, 1) := by decide +kernel
theorem dL_isHearthRight_118 : decode cL_isHearthRight 118 = .ok (.if_icmp .ne 19, 3) := by decide +kernel
theorem dL_isHearthRight_121 : decode cL_isHearthRight 121 = .ok (.aload_n 0, 1) := by decide +kernel
theorem dL_isHearthRight_122 : decode cL_isHearthRight 122 = .ok (.iload_n 3, 1) := by decide +kernel
theorem dL_isHearthRight_123 : decode cL_isHearthRight 123 = .ok (.bipush 9, 2) := by decide +kernel
theorem dL_isHearthRight_125 : decode cL_isHearthRight 125 = .ok (.invokevirtual 59, 3) := by decide +kernel
theorem dL_isHearthRight_128 : decode cL_isHearthRight 128 = .ok (.aload_n 0, 1) := by decide +kernel
theorem dL_isHearthRight_129 : decode cL_isHearthRight 129 = .ok (.iload_n 3, 1) := by decide +kernel
theorem dL_isHearthRight_130 : decode cL_isHearthRight 130 = .ok (.iconst 2, 1) := by decide +kernel
theorem dL_isHearthRight_131 : decode cL_isHearthRight 131 = .ok (.invokevirtual 59, 3) := by decide +kernel
theorem dL_isHearthRight_134 : decode cL_isHearthRight 134 = .ok (.if_icmp .le 5, 3) := by decide +kernel
theorem dL_isHearthRight_137 : decode cL_isHearthRight 137 = .ok (.iconst 0, 1) := by decide +kernel
theorem dL_isHearthRight_138 : decode cL_isHearthRight 138 = .ok (.ireturn, 1) := by decide +kernel
theorem dL_isHearthRight_139 : decode cL_isHearthRight 139 = .ok (.iload 5, 2) := by decide +kernel
theorem dL_isHearthRight_141 : decode cL_isHearthRight 141 = .ok (.ifCond .ne 13, 3) := by decide +kernel
theorem dL_isHearthRight_144 : decode cL_isHearthRight 144 = .ok (.aload_n 0, 1) := by decide +kernel
theorem dL_isHearthRight_145 : decode cL_isHearthRight 145 = .ok (.iload 6, 2) := by decide +kernel
theorem dL_isHearthRight_147 : decode cL_isHearthRight 147 = .ok (.invokevirtual 35, 3) := by decide +kernel
theorem dL_isHearthRight_150 : decode cL_isHearthRight 150 = .ok (.iload_n 3, 1) := by decide +kernel
theorem dL_isHearthRight_151 : decode cL_isHearthRight 151 = .ok (.if_icmp .ne 38, 3) := by decide +kernel
theorem dL_isHearthRight_154 : decode cL_isHearthRight 154 = .ok (.iload 5, 2) := by decide +kernel
theorem dL_isHearthRight_156 : decode cL_isHearthRight 156 = .ok (.iconst 1, 1) := by decide +kernel
theorem dL_isHearthRight_157 : decode cL_isHearthRight 157 = .ok (.if_icmp .eq 9, 3) := by decide +kernel
theorem dL_isHearthRight_160 : decode cL_isHearthRight 160 = .ok (.iload 5, 2) := by decide +kernel
theorem dL_isHearthRight_162 : decode cL_isHearthRight 162 = .ok (.iconst 2, 1) := by decide +kernel
theorem dL_isHearthRight_163 : decode cL_isHearthRight 163 = .ok (.if_icmp .ne 7, 3) := by decide +kernel
theorem dL_isHearthRight_166 : decode cL_isHearthRight 166 = .ok (.iconst 1, 1) := by decide +kernel
theorem dL_isHearthRight_167 : decode cL_isHearthRight 167 = .ok (.goto 4, 3) := by decide +kernel
theorem dL_isHearthRight_170 : decode cL_isHearthRight 170 = .ok (.iconst 0, 1) := by decide +kernel
theorem dL_isHearthRight_171 : decode cL_isHearthRight 171 = .ok (.aload_n 0, 1) := by decide +kernel
theorem dL_isHearthRight_172 : decode cL_isHearthRight 172 = .ok (.iload_n 3, 1) := by decide +kernel
theorem dL_isHearthRight_173 : decode cL_isHearthRight 173 = .ok (.bipush 6, 2) := by decide +kernel
theorem dL_isHearthRight_175 : decode cL_isHearthRight 175 = .ok (.invokevirtual 59, 3) := by decide +kernel
theorem dL_isHearthRight_178 : decode cL_isHearthRight 178 = .ok (.ifCond .lt 7, 3) := by decide +kernel
theorem dL_isHearthRight_181 : decode cL_isHearthRight 181 = .ok (.iconst 1, 1) := by decide +kernel
theorem dL_isHearthRight_182 : decode cL_isHearthRight 182 = .ok (.goto 4, 3) := by decide +kernel
theorem dL_isHearthRight_185 : decode cL_isHearthRight 185 = .ok (.iconst 0, 1) := by decide +kernel
theorem dL_isHearthRight_186 : decode cL_isHearthRight 186 = .ok (.if_icmp .eq 5, 3) := by decide +kernel
theorem dL_isHearthRight_189 : decode cL_isHearthRight 189 = .ok (.iconst 0, 1) := by decide +kernel
theorem dL_isHearthRight_190 : decode cL_isHearthRight 190 = .ok (.ireturn, 1) := by decide +kernel
theorem dL_isHearthRight_191 : decode cL_isHearthRight 191 = .ok (.iload_n 1, 1) := by decide +kernel
theorem dL_isHearthRight_192 : decode cL_isHearthRight 192 = .ok (.iload 4, 2) := by decide +kernel
theorem dL_isHearthRight_194 : decode cL_isHearthRight 194 = .ok (.ior, 1) := by decide +kernel
theorem dL_isHearthRight_195 : decode cL_isHearthRight 195 = .ok (.istore_n 1, 1) := by decide +kernel
theorem dL_isHearthRight_196 : decode cL_isHearthRight 196 = .ok (.iload_n 2, 1) := by decide +kernel
theorem dL_isHearthRight_197 : decode cL_isHearthRight 197 = .ok (.iload 5, 2) := by decide +kernel
theorem dL_isHearthRight_199 : decode cL_isHearthRight 199 = .ok (.ifCond .ne 7, 3) := by decide +kernel
theorem dL_isHearthRight_202 : decode cL_isHearthRight 202 = .ok (.iconst 1, 1) := by decide +kernel
theorem dL_isHearthRight_203 : decode cL_isHearthRight 203 = .ok (.goto 4, 3) := by decide +kernel
theorem dL_isHearthRight_206 : decode cL_isHearthRight 206 = .ok (.iconst 0, 1) := by decide +kernel
theorem dL_isHearthRight_207 : decode cL_isHearthRight 207 = .ok (.iadd, 1) := by decide +kernel
theorem dL_isHearthRight_208 : decode cL_isHearthRight 208 = .ok (.istore_n 2, 1) := by decide +kernel
theorem dL_isHearthRight_209 : decode cL_isHearthRight 209 = .ok (.iinc 3 1, 3) := by decide +kernel
theorem dL_isHearthRight_212 : decode cL_isHearthRight 212 = .ok (.goto (-206), 3) := by decide +kernel
theorem dL_isHearthRight_215 : decode cL_isHearthRight 215 = .ok (.iconst 0, 1) := by decide +kernel
theorem dL_isHearthRight_216 : decode cL_isHearthRight 216 = .ok (.istore_n 3, 1) := by decide +kernel
theorem dL_isHearthRight_217 : decode cL_isHearthRight 217 = .ok (.iload_n 3, 1) := by decide +kernel
theorem dL_isHearthRight_218 : decode cL_isHearthRight 218 = .ok (.bipush 12, 2) := by decide +kernel
theorem dL_isHearthRight_220 : decode cL_isHearthRight 220 = .ok (.if_icmp .ge 138, 3) := by decide +kernel
theorem dL_isHearthRight_223 : decode cL_isHearthRight 223 = .ok (.aload_n 0, 1) := by decide +kernel
theorem dL_isHearthRight_224 : decode cL_isHearthRight 224 = .ok (.iload_n 3, 1) := by decide +kernel
theorem dL_isHearthRight_225 : decode cL_isHearthRight 225 = .ok (.iconst 1, 1) := by decide +kernel
theorem dL_isHearthRight_226 : decode cL_isHearthRight 226 = .ok (.invokevirtual 68, 3) := by decide +kernel
theorem dL_isHearthRight_229 : decode cL_isHearthRight 229 = .ok (.istore 4, 2) := by decide +kernel
theorem dL_isHearthRight_231 : decode cL_isHearthRight 231 = .ok (.iload 4, 2) := by decide +kernel
theorem dL_isHearthRight_233 : decode cL_isHearthRight 233 = .ok (.ifCond .lt 7, 3) := by decide +kernel
theorem dL_isHearthRight_236 : decode cL_isHearthRight 236 = .ok (.iconst 1, 1) := by decide +kernel
theorem dL_isHearthRight_237 : decode cL_isHearthRight 237 = .ok (.goto 4, 3) := by decide +kernel
theorem dL_isHearthRight_240 : decode cL_isHearthRight 240 = .ok (.iconst 0, 1) := by decide +kernel
theorem dL_isHearthRight_241 : decode cL_isHearthRight 241 = .ok (.iload_n 1, 1) := by decide +kernel
theorem dL_isHearthRight_242 : decode cL_isHearthRight 242 = .ok (.iload_n 3, 1) := by decide +kernel
theorem dL_isHearthRight_243 : decode cL_isHearthRight 243 = .ok (.ishr, 1) := by decide +kernel
theorem dL_isHearthRight_244 : decode cL_isHearthRight 244 = .ok (.iconst 1, 1) := by decide +kernel
theorem dL_isHearthRight_245 : decode cL_isHearthRight 245 = .ok (.iand, 1) := by decide +kernel
theorem dL_isHearthRight_246 : decode cL_isHearthRight 246 = .ok (.iconst 1, 1) := by decide +kernel
theorem dL_isHearthRight_247 : decode cL_isHearthRight 247 = .ok (.if_icmp .ne 7, 3) := by decide +kernel
theorem dL_isHearthRight_250 : decode cL_isHearthRight 250 = .ok (.iconst 1, 1) := by decide +kernel
theorem dL_isHearthRight_251 : decode cL_isHearthRight 251 = .ok (.goto 4, 3) := by decide +kernel
theorem dL_isHearthRight_254 : decode cL_isHearthRight 254 = .ok (.iconst 0, 1) := by decide +kernel
theorem dL_isHearthRight_255 : decode cL_isHearthRight 255 = .ok (.if_icmp .ne 95, 3) := by decide +kernel
theorem dL_isHearthRight_258 : decode cL_isHearthRight 258 = .ok (.iload 4, 2) := by decide +kernel
theorem dL_isHearthRight_260 : decode cL_isHearthRight 260 = .ok (.ifCond .lt 18, 3) := by decide +kernel
theorem dL_isHearthRight_263 : decode cL_isHearthRight 263 = .ok (.aload_n 0, 1) := by decide +kernel
theorem dL_isHearthRight_264 : decode cL_isHearthRight 264 = .ok (.iload 4, 2) := by decide +kernel
theorem dL_isHearthRight_266 : decode cL_isHearthRight 266 = .ok (.bipush 8, 2) := by decide +kernel
theorem dL_isHearthRight_268 : decode cL_isHearthRight 268 = .ok (.invokevirtual 59, 3) := by decide +kernel
theorem dL_isHearthRight_271 : decode cL_isHearthRight 271 = .ok (.iload_n 3, 1) := by decide +kernel
theorem dL_isHearthRight_272 : decode cL_isHearthRight 272 = .ok (.ishr, 1) := by decide +kernel
theorem dL_isHearthRight_273 : decode cL_isHearthRight 273 = .ok (.iconst 1, 1) := by decide +kernel
theorem dL_isHearthRight_274 : decode cL_isHearthRight 274 = .ok (.iand, 1) := by decide +kernel
theorem dL_isHearthRight_275 : decode cL_isHearthRight 275 = .ok (.ifCond .eq 75, 3) := by decide +kernel
theorem dL_isHearthRight_278 : decode cL_isHearthRight 278 = .ok (.iload_n 3, 1) := by decide +kernel
theorem dL_isHearthRight_279 : decode cL_isHearthRight 279 = .ok (.ifCond .le 20, 3) := by decide +kernel
theorem dL_isHearthRight_282 : decode cL_isHearthRight 282 = .ok (.aload_n 0, 1) := by decide +kernel
theorem dL_isHearthRight_283 : decode cL_isHearthRight 283 = .ok (.iload_n 3, 1) := by decide +kernel
theorem dL_isHearthRight_284 : decode cL_isHearthRight 284 = .ok (.iconst 0, 1) := by decide +kernel
theorem dL_isHearthRight_285 : decode cL_isHearthRight 285 = .ok (.invokevirtual 68, 3) := by decide +kernel
theorem dL_isHearthRight_288 : decode cL_isHearthRight 288 = .ok (.aload_n 0, 1) := by decide +kernel
theorem dL_isHearthRight_289 : decode cL_isHearthRight 289 = .ok (.iload_n 3, 1) := by decide +kernel
theorem dL_isHearthRight_290 : decode cL_isHearthRight 290 = .ok (.iconst 1, 1) := by decide +kernel
theorem dL_isHearthRight_291 : decode cL_isHearthRight 291 = .ok (.isub, 1) := by decide +kernel
theorem dL_isHearthRight_292 : decode cL_isHearthRight 292 = .ok (.iconst 0, 1) := by decide +kernel
theorem dL_isHearthRight_293 : decode cL_isHearthRight 293 = .ok (.invokevirtual 68, 3) := by decide +kernel
theorem dL_isHearthRight_296 : decode cL_isHearthRight 296 = .ok (.if_icmp .gt 54, 3) := by decide +kernel
theorem dL_isHearthRight_299 : decode cL_isHearthRight 299 = .ok (.iload 4, 2) := by decide +kernel
theorem dL_isHearthRight_301 : decode cL_isHearthRight 301 = .ok (.ifCond .lt 7, 3) := by decide +kernel
theorem dL_isHearthRight_304 : decode cL_isHearthRight 304 = .ok (.iconst 1, 1) := by decide +kernel
theorem dL_isHearthRight_305 : decode cL_isHearthRight 305 = .ok (.goto 4, 3) := by decide +kernel
theorem dL_isHearthRight_308 : decode cL_isHearthRight 308 = .ok (.iconst 0, 1) := by decide +kernel
theorem dL_isHearthRight_309 : decode cL_isHearthRight 309 = .ok (.aload_n 0, 1) := by decide +kernel
theorem dL_isHearthRight_310 : decode cL_isHearthRight 310 = .ok (.iload_n 3, 1) := by decide +kernel
theorem dL_isHearthRight_311 : decode cL_isHearthRight 311 = .ok (.iconst 2, 1) := by decide +kernel
theorem dL_isHearthRight_312 : decode cL_isHearthRight 312 = .ok (.invokevirtual 68, 3) := by decide +kernel
theorem dL_isHearthRight_315 : decode cL_isHearthRight 315 = .ok (.ifCond .lt 7, 3) := by decide +kernel
theorem dL_isHearthRight_318 : decode cL_isHearthRight 318 = .ok (.iconst 1, 1) := by decide +kernel
theorem dL_isHearthRight_319 : decode cL_isHearthRight 319 = .ok (.goto 4, 3) := by decide +kernel
theorem dL_isHearthRight_322 : decode cL_isHearthRight 322 = .ok (.iconst 0, 1) := by decide +kernel
theorem dL_isHearthRight_323 : decode cL_isHearthRight 323 = .ok (.if_icmp .ne 27, 3) := by decide +kernel
theorem dL_isHearthRight_326 : decode cL_isHearthRight 326 = .ok (.aload_n 0, 1) := by decide +kernel
theorem dL_isHearthRight_327 : decode cL_isHearthRight 327 = .ok (.iload_n 3, 1) := by decide +kernel
theorem dL_isHearthRight_328 : decode cL_isHearthRight 328 = .ok (.iconst 3, 1) := by decide +kernel
theorem dL_isHearthRight_329 : decode cL_isHearthRight 329 = .ok (.invokevirtual 68, 3) := by decide +kernel
theorem dL_isHearthRight_332 : decode cL_isHearthRight 332 = .ok (.ifCond .le 20, 3) := by decide +kernel
theorem dL_isHearthRight_335 : decode cL_isHearthRight 335 = .ok (.aload_n 0, 1) := by decide +kernel
theorem dL_isHearthRight_336 : decode cL_isHearthRight 336 = .ok (.iload_n 3, 1) := by decide +kernel
theorem dL_isHearthRight_337 : decode cL_isHearthRight 337 = .ok (.iconst 3, 1) := by decide +kernel
theorem dL_isHearthRight_338 : decode cL_isHearthRight 338 = .ok (.invokevirtual 68, 3) := by decide +kernel
theorem dL_isHearthRight_341 : decode cL_isHearthRight 341 = .ok (.aload_n 0, 1) := by decide +kernel
theorem dL_isHearthRight_342 : decode cL_isHearthRight 342 = .ok (.iload_n 3, 1) := by decide +kernel
theorem dL_isHearthRight_343 : decode cL_isHearthRight 343 = .ok (.iconst 2, 1) := by decide +kernel
theorem dL_isHearthRight_344 : decode cL_isHearthRight 344 = .ok (.invokevirtual 68, 3) := by decide +kernel
theorem dL_isHearthRight_347 : decode cL_isHearthRight 347 = .ok (.if_icmp .le 5, 3) := by decide +kernel
theorem dL_isHearthRight_350 : decode cL_isHearthRight 350 = .ok (.iconst 0, 1) := by decide +kernel
theorem dL_isHearthRight_351 : decode cL_isHearthRight 351 = .ok (.ireturn, 1) := by decide +kernel
theorem dL_isHearthRight_352 : decode cL_isHearthRight 352 = .ok (.iinc 3 1, 3) := by decide +kernel
theorem dL_isHearthRight_355 : decode cL_isHearthRight 355 = .ok (.goto (-138), 3) := by decide +kernel
theorem dL_isHearthRight_358 : decode cL_isHearthRight 358 = .ok (.iload_n 2, 1) := by decide +kernel
theorem dL_isHearthRight_359 : decode cL_isHearthRight 359 = .ok (.aload_n 0, 1) := by decide +kernel
theorem dL_isHearthRight_360 : decode cL_isHearthRight 360 = .ok (.iconst 5, 1) := by decide +kernel
theorem dL_isHearthRight_361 : decode cL_isHearthRight 361 = .ok (.invokevirtual 8, 3) := by decide +kernel
theorem dL_isHearthRight_364 : decode cL_isHearthRight 364 = .ok (.if_icmp .ne 46, 3) := by decide +kernel
theorem dL_isHearthRight_367 : decode cL_isHearthRight 367 = .ok (.aload_n 0, 1) := by decide +kernel
theorem dL_isHearthRight_368 : decode cL_isHearthRight 368 = .ok (.bipush 6, 2) := by decide +kernel
theorem dL_isHearthRight_370 : decode cL_isHearthRight 370 = .ok (.invokevirtual 8, 3) := by decide +kernel
theorem dL_isHearthRight_373 : decode cL_isHearthRight 373 = .ok (.bipush 12, 2) := by decide +kernel
theorem dL_isHearthRight_375 : decode cL_isHearthRight 375 = .ok (.iload_n 1, 1) := by decide +kernel
theorem dL_isHearthRight_376 : decode cL_isHearthRight 376 = .ok (.invokestatic 62, 3) := by decide +kernel
theorem dL_isHearthRight_379 : decode cL_isHearthRight 379 = .ok (.isub, 1) := by decide +kernel
theorem dL_isHearthRight_380 : decode cL_isHearthRight 380 = .ok (.if_icmp .ne 30, 3) := by decide +kernel
theorem dL_isHearthRight_383 : decode cL_isHearthRight 383 = .ok (.aload_n 0, 1) := by decide +kernel
theorem dL_isHearthRight_384 : decode cL_isHearthRight 384 = .ok (.iconst 0, 1) := by decide +kernel
theorem dL_isHearthRight_385 : decode cL_isHearthRight 385 = .ok (.iconst 0, 1) := by decide +kernel
theorem dL_isHearthRight_386 : decode cL_isHearthRight 386 = .ok (.invokevirtual 68, 3) := by decide +kernel
theorem dL_isHearthRight_389 : decode cL_isHearthRight 389 = .ok (.aload_n 0, 1) := by decide +kernel
theorem dL_isHearthRight_390 : decode cL_isHearthRight 390 = .ok (.iconst 3, 1) := by decide +kernel
theorem dL_isHearthRight_391 : decode cL_isHearthRight 391 = .ok (.invokevirtual 8, 3) := by decide +kernel
theorem dL_isHearthRight_394 : decode cL_isHearthRight 394 = .ok (.if_icmp .ne 16, 3) := by decide +kernel
theorem dL_isHearthRight_397 : decode cL_isHearthRight 397 = .ok (.aload_n 0, 1) := by decide +kernel
theorem dL_isHearthRight_398 : decode cL_isHearthRight 398 = .ok (.iload_n 2, 1) := by decide +kernel
theorem dL_isHearthRight_399 : decode cL_isHearthRight 399 = .ok (.invokevirtual 35, 3) := by decide +kernel
theorem dL_isHearthRight_402 : decode cL_isHearthRight 402 = .ok (.iconst (-1), 1) := by decide +kernel
theorem dL_isHearthRight_403 : decode cL_isHearthRight 403 = .ok (.if_icmp .ne 7, 3) := by decide +kernel
theorem dL_isHearthRight_406 : decode cL_isHearthRight 406 = .ok (.iconst 1, 1) := by decide +kernel
theorem dL_isHearthRight_407 : decode cL_isHearthRight 407 = .ok (.goto 4, 3) := by decide +kernel
theorem dL_isHearthRight_410 : decode cL_isHearthRight 410 = .ok (.iconst 0, 1) := by decide +kernel
theorem dL_isHearthRight_411 : decode cL_isHearthRight 411 = .ok (.ireturn, 1) := by decide +kernel
theorem dL_comesTrue_0 : decode cL_comesTrue 0 = .ok (.aload_n 0, 1) := by decide +kernel
theorem dL_comesTrue_1 : decode cL_comesTrue 1 = .ok (.iload_n 1, 1) := by decide +kernel
theorem dL_comesTrue_2 : decode cL_comesTrue 2 = .ok (.invokevirtual 71, 3) := by decide +kernel
theorem dL_comesTrue_5 : decode cL_comesTrue 5 = .ok (.istore_n 2, 1) := by decide +kernel
theorem dL_comesTrue_6 : decode cL_comesTrue 6 = .ok (.aload_n 0, 1) := by decide +kernel
theorem dL_comesTrue_7 : decode cL_comesTrue 7 = .ok (.iload_n 1, 1) := by decide +kernel
theorem dL_comesTrue_8 : decode cL_comesTrue 8 = .ok (.invokevirtual 74, 3) := by decide +kernel
theorem dL_comesTrue_11 : decode cL_comesTrue 11 = .ok (.istore_n 3, 1) := by decide +kernel
theorem dL_comesTrue_12 : decode cL_comesTrue 12 = .ok (.aload_n 0, 1) := by decide +kernel
theorem dL_comesTrue_13 : decode cL_comesTrue 13 = .ok (.iload_n 1, 1) := by decide +kernel
theorem dL_comesTrue_14 : decode cL_comesTrue 14 = .ok (.iconst 1, 1) := by decide +kernel
theorem dL_comesTrue_15 : decode cL_comesTrue 15 = .ok (.isub, 1) := by decide +kernel
theorem dL_comesTrue_16 : decode cL_comesTrue 16 = .ok (.invokevirtual 74, 3) := by decide +kernel
theorem dL_comesTrue_19 : decode cL_comesTrue 19 = .ok (.istore 4, 2) := by decide +kernel
theorem dL_comesTrue_21 : decode cL_comesTrue 21 = .ok (.iconst 0, 1) := by decide +kernel
theorem dL_comesTrue_22 : decode cL_comesTrue 22 = .ok (.istore 5, 2) := by decide +kernel
theorem dL_comesTrue_24 : decode cL_comesTrue 24 = .ok (.iconst 0, 1) := by decide +kernel
theorem dL_comesTrue_25 : decode cL_comesTrue 25 = .ok (.istore 6, 2) := by decide +kernel
theorem dL_comesTrue_27 : decode cL_comesTrue 27 = .ok (.iconst 0, 1) := by decide +kernel
theorem dL_comesTrue_28 : decode cL_comesTrue 28 = .ok (.istore 7, 2) := by decide +kernel
theorem dL_comesTrue_30 : decode cL_comesTrue 30 = .ok (.iload 7, 2) := by decide +kernel
theorem dL_comesTrue_32 : decode cL_comesTrue 32 = .ok (.aload_n 0, 1) := by decide +kernel
theorem dL_comesTrue_33 : decode cL_comesTrue 33 = .ok (.iconst 2, 1) := by decide +kernel
theorem dL_comesTrue_34 : decode cL_comesTrue 34 = .ok (.invokevirtual 8, 3) := by decide +kernel
theorem dL_comesTrue_37 : decode cL_comesTrue 37 = .ok (.if_icmp .ge 125, 3) := by decide +kernel
theorem dL_comesTrue_40 : decode cL_comesTrue 40 = .ok (.aload_n 0, 1) := by decide +kernel
theorem dL_comesTrue_41 : decode cL_comesTrue 41 = .ok (.iload 7, 2) := by decide +kernel
theorem dL_comesTrue_43 : decode cL_comesTrue 43 = .ok (.invokevirtual 77, 3) := by decide +kernel
theorem dL_comesTrue_46 : decode cL_comesTrue 46 = .ok (.istore 8, 2) := by decide +kernel
theorem dL_comesTrue_48 : decode cL_comesTrue 48 = .ok (.iload 5, 2) := by decide +kernel
theorem dL_comesTrue_50 : decode cL_comesTrue 50 = .ok (.iload 8, 2) := by decide +kernel
theorem dL_comesTrue_52 : decode cL_comesTrue 52 = .ok (.ifCond .le 16, 3) := by decide +kernel
theorem dL_comesTrue_55 : decode cL_comesTrue 55 = .ok (.iload 8, 2) := by decide +kernel
theorem dL_comesTrue_57 : decode cL_comesTrue 57 = .ok (.iload_n 1, 1) := by decide +kernel
theorem dL_comesTrue_58 : decode cL_comesTrue 58 = .ok (.if_icmp .gt 10, 3) := by decide +kernel
theorem dL_comesTrue_61 : decode cL_comesTrue 61 = .ok (.iconst 1, 1) := by decide +kernel
theorem dL_comesTrue_62 : decode cL_comesTrue 62 = .ok (.iload 7, 2) := by decide +kernel
theorem dL_comesTrue_64 : decode cL_comesTrue 64 = .ok (.ishl, 1) := by decide +kernel
theorem dL_comesTrue_65 : decode cL_comesTrue 65 = .ok (.goto 4, 3) := by decide +kernel
theorem dL_comesTrue_68 : decode cL_comesTrue 68 = .ok (.iconst 0, 1) := by decide +kernel
theorem dL_comesTrue_69 : decode cL_comesTrue 69 = .ok (.ior, 1) := by decide +kernel
theorem dL_comesTrue_70 : decode cL_comesTrue 70 = .ok (.istore 5, 2) := by decide +kernel
theorem dL_comesTrue_72 : decode cL_comesTrue 72 = .ok (.iload 6, 2) := by decide +kernel
theorem dL_comesTrue_74 : decode cL_comesTrue 74 = .ok (.aload_n 0, 1) := by decide +kernel
theorem dL_comesTrue_75 : decode cL_comesTrue 75 = .ok (.iload 7, 2) := by decide +kernel
theorem dL_comesTrue_77 : decode cL_comesTrue 77 = .ok (.iconst 4, 1) := by decide +kernel
theorem dL_comesTrue_78 : decode cL_comesTrue 78 = .ok (.invokevirtual 59, 3) := by decide +kernel
theorem dL_comesTrue_81 : decode cL_comesTrue 81 = .ok (.ifCond .le 10, 3) := by decide +kernel
theorem dL_comesTrue_84 : decode cL_comesTrue 84 = .ok (.iconst 1, 1) := by decide +kernel
theorem dL_comesTrue_85 : decode cL_comesTrue 85 = .ok (.iload 7, 2) := by decide +kernel
theorem dL_comesTrue_87 : decode cL_comesTrue 87 = .ok (.ishl, 1) := by decide +kernel
theorem dL_comesTrue_88 : decode cL_comesTrue 88 = .ok (.goto 4, 3) := by decide +kernel
theorem dL_comesTrue_91 : decode cL_comesTrue 91 = .ok (.iconst 0, 1) := by decide +kernel
theorem dL_comesTrue_92 : decode cL_comesTrue 92 = .ok (.ior, 1) := by decide +kernel
theorem dL_comesTrue_93 : decode cL_comesTrue 93 = .ok (.istore 6, 2) := by decide +kernel
theorem dL_comesTrue_95 : decode cL_comesTrue 95 = .ok (.aload_n 0, 1) := by decide +kernel
theorem dL_comesTrue_96 : decode cL_comesTrue 96 = .ok (.iload 7, 2) := by decide +kernel
theorem dL_comesTrue_98 : decode cL_comesTrue 98 = .ok (.invokevirtual 80, 3) := by decide +kernel
theorem dL_comesTrue_101 : decode cL_comesTrue 101 = .ok (.istore 9, 2) := by decide +kernel
theorem dL_comesTrue_103 : decode cL_comesTrue 103 = .ok (.iload 9, 2) := by decide +kernel
theorem dL_comesTrue_105 : decode cL_comesTrue 105 = .ok (.bipush 16, 2) := by decide +kernel
theorem dL_comesTrue_107 : decode cL_comesTrue 107 = .ok (.if_icmp .gt 47, 3) := by decide +kernel
theorem dL_comesTrue_110 : decode cL_comesTrue 110 = .ok (.iload 9, 2) := by decide +kernel
theorem dL_comesTrue_112 : decode cL_comesTrue 112 = .ok (.ifCond .ne 7, 3) := by decide +kernel
theorem dL_comesTrue_115 : decode cL_comesTrue 115 = .ok (.iconst 1, 1) := by decide +kernel
theorem dL_comesTrue_116 : decode cL_comesTrue 116 = .ok (.goto 4, 3) := by decide +kernel
theorem dL_comesTrue_119 : decode cL_comesTrue 119 = .ok (.iconst 0, 1) := by decide +kernel
theorem dL_comesTrue_120 : decode cL_comesTrue 120 = .ok (.aload_n 0, 1) := by decide +kernel
theorem dL_comesTrue_121 : decode cL_comesTrue 121 = .ok (.iload 7, 2) := by decide +kernel
theorem dL_comesTrue_123 : decode cL_comesTrue 123 = .ok (.invokevirtual 65, 3) := by decide +kernel
theorem dL_comesTrue_126 : decode cL_comesTrue 126 = .ok (.ifCond .ne 7, 3) := by decide +kernel
theorem dL_comesTrue_129 : decode cL_comesTrue 129 = .ok (.iconst 1, 1) := by decide +kernel
theorem dL_comesTrue_130 : decode cL_comesTrue 130 = .ok (.goto 4, 3) := by decide +kernel
theorem dL_comesTrue_133 : decode cL_comesTrue 133 = .ok (.iconst 0, 1) := by decide +kernel
theorem dL_comesTrue_134 : decode cL_comesTrue 134 = .ok (.if_icmp .ne 20, 3) := by decide +kernel
theorem dL_comesTrue_137 : decode cL_comesTrue 137 = .ok (.aload_n 0, 1) := by decide +kernel
theorem dL_comesTrue_138 : decode cL_comesTrue 138 = .ok (.iconst 3, 1) := by decide +kernel
theorem dL_comesTrue_139 : decode cL_comesTrue 139 = .ok (.invokevirtual 8, 3) := by decide +kernel
theorem dL_comesTrue_142 : decode cL_comesTrue 142 = .ok (.bipush 25, 2) := by decide +kernel
theorem dL_comesTrue_144 : decode cL_comesTrue 144 = .ok (.iload 9, 2) := by decide +kernel
theorem dL_comesTrue_146 : decode cL_comesTrue 146 = .ok (.imul, 1) := by decide +kernel
theorem dL_comesTrue_147 : decode cL_comesTrue 147 = .ok (.iadd, 1) := by decide +kernel
theorem dL_comesTrue_148 : decode cL_comesTrue 148 = .ok (.sipush 400, 3) := by decide +kernel
theorem dL_comesTrue_151 : decode cL_comesTrue 151 = .ok (.if_icmp .le 5, 3) := by decide +kernel
theorem dL_comesTrue_154 : decode cL_comesTrue 154 = .ok (.iconst 0, 1) := by decide +kernel
theorem dL_comesTrue_155 : decode cL_comesTrue 155 = .ok (.ireturn, 1) := by decide +kernel
theorem dL_comesTrue_156 : decode cL_comesTrue 156 = .ok (.iinc 7 1, 3) := by decide +kernel
theorem dL_comesTrue_159 : decode cL_comesTrue 159 = .ok (.goto (-129), 3) := by decide +kernel
theorem dL_comesTrue_162 : decode cL_comesTrue 162 = .ok (.iload 4, 2) := by decide +kernel
theorem dL_comesTrue_164 : decode cL_comesTrue 164 = .ok (.iload_n 3, 1) := by decide +kernel
theorem dL_comesTrue_165 : decode cL_comesTrue 165 = .ok (.iconst (-1), 1) := by decide +kernel
theorem dL_comesTrue_166 : decode cL_comesTrue 166 = .ok (.ixor, 1) := by decide +kernel
theorem dL_comesTrue_167 : decode cL_comesTrue 167 = .ok (.iand, 1) := by decide +kernel
theorem dL_comesTrue_168 : decode cL_comesTrue 168 = .ok (.ifCond .ne 41, 3) := by decide +kernel
theorem dL_comesTrue_171 : decode cL_comesTrue 171 = .ok (.iload_n 3, 1) := by decide +kernel
theorem dL_comesTrue_172 : decode cL_comesTrue 172 = .ok (.iload 6, 2) := by decide +kernel
theorem dL_comesTrue_174 : decode cL_comesTrue 174 = .ok (.iand, 1) := by decide +kernel
theorem dL_comesTrue_175 : decode cL_comesTrue 175 = .ok (.ifCond .ne 34, 3) := by decide +kernel
theorem dL_comesTrue_178 : decode cL_comesTrue 178 = .ok (.iload_n 3, 1) := by decide +kernel
theorem dL_comesTrue_179 : decode cL_comesTrue 179 = .ok (.iload 5, 2) := by decide +kernel
theorem dL_comesTrue_181 : decode cL_comesTrue 181 = .ok (.iand, 1) := by decide +kernel
theorem dL_comesTrue_182 : decode cL_comesTrue 182 = .ok (.ifCond .ne 27, 3) := by decide +kernel
theorem dL_comesTrue_185 : decode cL_comesTrue 185 = .ok (.aload_n 0, 1) := by decide +kernel
theorem dL_comesTrue_186 : decode cL_comesTrue 186 = .ok (.iconst 0, 1) := by decide +kernel
theorem dL_comesTrue_187 : decode cL_comesTrue 187 = .ok (.invokevirtual 71, 3) := by decide +kernel
theorem dL_comesTrue_190 : decode cL_comesTrue 190 = .ok (.aload_n 0, 1) := by decide +kernel
theorem dL_comesTrue_191 : decode cL_comesTrue 191 = .ok (.iconst 3, 1) := by decide +kernel
theorem dL_comesTrue_192 : decode cL_comesTrue 192 = .ok (.invokevirtual 8, 3) := by decide +kernel
theorem dL_comesTrue_195 : decode cL_comesTrue 195 = .ok (.if_icmp .ne 14, 3) := by decide +kernel
theorem dL_comesTrue_198 : decode cL_comesTrue 198 = .ok (.aload_n 0, 1) := by decide +kernel
theorem dL_comesTrue_199 : decode cL_comesTrue 199 = .ok (.iload_n 1, 1) := by decide +kernel
theorem dL_comesTrue_200 : decode cL_comesTrue 200 = .ok (.iconst 1, 1) := by decide +kernel
theorem dL_comesTrue_201 : decode cL_comesTrue 201 = .ok (.isub, 1) := by decide +kernel
theorem dL_comesTrue_202 : decode cL_comesTrue 202 = .ok (.invokevirtual 71, 3) := by decide +kernel
theorem dL_comesTrue_205 : decode cL_comesTrue 205 = .ok (.iload_n 2, 1) := by decide +kernel
theorem dL_comesTrue_206 : decode cL_comesTrue 206 = .ok (.if_icmp .ge 5, 3) := by decide +kernel
theorem dL_comesTrue_209 : decode cL_comesTrue 209 = .ok (.iconst 0, 1) := by decide +kernel
theorem dL_comesTrue_210 : decode cL_comesTrue 210 = .ok (.ireturn, 1) := by decide +kernel
theorem dL_comesTrue_211 : decode cL_comesTrue 211 = .ok (.aload_n 0, 1) := by decide +kernel
theorem dL_comesTrue_212 : decode cL_comesTrue 212 = .ok (.iload_n 1, 1) := by decide +kernel
theorem dL_comesTrue_213 : decode cL_comesTrue 213 = .ok (.invokevirtual 53, 3) := by decide +kernel
theorem dL_comesTrue_216 : decode cL_comesTrue 216 = .ok (.pop, 1) := by decide +kernel
theorem dL_comesTrue_217 : decode cL_comesTrue 217 = .ok (.iconst 0, 1) := by decide +kernel
theorem dL_comesTrue_218 : decode cL_comesTrue 218 = .ok (.istore 7, 2) := by decide +kernel
theorem dL_comesTrue_220 : decode cL_comesTrue 220 = .ok (.iload 7, 2) := by decide +kernel
theorem dL_comesTrue_222 : decode cL_comesTrue 222 = .ok (.aload_n 0, 1) := by decide +kernel
theorem dL_comesTrue_223 : decode cL_comesTrue 223 = .ok (.iconst 2, 1) := by decide +kernel
theorem dL_comesTrue_224 : decode cL_comesTrue 224 = .ok (.invokevirtual 8, 3) := by decide +kernel
theorem dL_comesTrue_227 : decode cL_comesTrue 227 = .ok (.if_icmp .ge 103, 3) := by decide +kernel
theorem dL_comesTrue_230 : decode cL_comesTrue 230 = .ok (.iload_n 3, 1) := by decide +kernel
theorem dL_comesTrue_231 : decode cL_comesTrue 231 = .ok (.iload 7, 2) := by decide +kernel
theorem dL_comesTrue_233 : decode cL_comesTrue 233 = .ok (.ishr, 1) := by decide +kernel
theorem dL_comesTrue_234 : decode cL_comesTrue 234 = .ok (.iconst 1, 1) := by decide +kernel
theorem dL_comesTrue_235 : decode cL_comesTrue 235 = .ok (.iand, 1) := by decide +kernel
theorem dL_comesTrue_236 : decode cL_comesTrue 236 = .ok (.iconst 1, 1) := by decide +kernel
theorem dL_comesTrue_237 : decode cL_comesTrue 237 = .ok (.if_icmp .ne 7, 3) := by decide +kernel
theorem dL_comesTrue_240 : decode cL_comesTrue 240 = .ok (.iconst 1, 1) := by decide +kernel
theorem dL_comesTrue_241 : decode cL_comesTrue 241 = .ok (.goto 4, 3) := by decide +kernel
theorem dL_comesTrue_244 : decode cL_comesTrue 244 = .ok (.iconst 0, 1) := by decide +kernel
theorem dL_comesTrue_245 : decode cL_comesTrue 245 = .ok (.istore 8, 2) := by decide +kernel
theorem dL_comesTrue_247 : decode cL_comesTrue 247 = .ok (.iload 5, 2) := by decide +kernel
theorem dL_comesTrue_249 : decode cL_comesTrue 249 = .ok (.iload 7, 2) := by decide +kernel
theorem dL_comesTrue_251 : decode cL_comesTrue 251 = .ok (.ishr, 1) := by decide +kernel
theorem dL_comesTrue_252 : decode cL_comesTrue 252 = .ok (.iconst 1, 1) := by decide +kernel
theorem dL_comesTrue_253 : decode cL_comesTrue 253 = .ok (.iand, 1) := by decide +kernel
theorem dL_comesTrue_254 : decode cL_comesTrue 254 = .ok (.iconst 1, 1) := by decide +kernel
theorem dL_comesTrue_255 : decode cL_comesTrue 255 = .ok (.if_icmp .ne 7, 3) := by decide +kernel
theorem dL_comesTrue_258 : decode cL_comesTrue 258 = .ok (.iconst 1, 1) := by decide +kernel
theorem dL_comesTrue_259 : decode cL_comesTrue 259 = .ok (.goto 4, 3) := by decide +kernel
theorem dL_comesTrue_262 : decode cL_comesTrue 262 = .ok (.iconst 0, 1) := by decide +kernel
theorem dL_comesTrue_263 : decode cL_comesTrue 263 = .ok (.istore 9, 2) := by decide +kernel
theorem dL_comesTrue_265 : decode cL_comesTrue 265 = .ok (.aload_n 0, 1) := by decide +kernel
theorem dL_comesTrue_266 : decode cL_comesTrue 266 = .ok (.iload 7, 2) := by decide +kernel
theorem dL_comesTrue_268 : decode cL_comesTrue 268 = .ok (.iconst 4, 1) := by decide +kernel
theorem dL_comesTrue_269 : decode cL_comesTrue 269 = .ok (.invokevirtual 59, 3) := by decide +kernel
theorem dL_comesTrue_272 : decode cL_comesTrue 272 = .ok (.istore 10, 2) := by decide +kernel
theorem dL_comesTrue_274 : decode cL_comesTrue 274 = .ok (.iload 6, 2) := by decide +kernel
theorem dL_comesTrue_276 : decode cL_comesTrue 276 = .ok (.iload 7, 2) := by decide +kernel
theorem dL_comesTrue_278 : decode cL_comesTrue 278 = .ok (.ishr, 1) := by decide +kernel
theorem dL_comesTrue_279 : decode cL_comesTrue 279 = .ok (.iconst 1, 1) := by decide +kernel
theorem dL_comesTrue_280 : decode cL_comesTrue 280 = .ok (.iand, 1) := by decide +kernel
theorem dL_comesTrue_281 : decode cL_comesTrue 281 = .ok (.ifCond .ne 43, 3) := by decide +kernel
theorem dL_comesTrue_284 : decode cL_comesTrue 284 = .ok (.iload 8, 2) := by decide +kernel
theorem dL_comesTrue_286 : decode cL_comesTrue 286 = .ok (.iload 10, 2) := by decide +kernel
theorem dL_comesTrue_288 : decode cL_comesTrue 288 = .ok (.iconst 3, 1) := by decide +kernel
theorem dL_comesTrue_289 : decode cL_comesTrue 289 = .ok (.if_icmp .ne 7, 3) := by decide +kernel
theorem dL_comesTrue_292 : decode cL_comesTrue 292 = .ok (.iconst 1, 1) := by decide +kernel
theorem dL_comesTrue_293 : decode cL_comesTrue 293 = .ok (.goto 4, 3) := by decide +kernel
theorem dL_comesTrue_296 : decode cL_comesTrue 296 = .ok (.iconst 0, 1) := by decide +kernel
theorem dL_comesTrue_297 : decode cL_comesTrue 297 = .ok (.if_icmp .ne 25, 3) := by decide +kernel
theorem dL_comesTrue_300 : decode cL_comesTrue 300 = .ok (.iload 9, 2) := by decide +kernel
theorem dL_comesTrue_302 : decode cL_comesTrue 302 = .ok (.iload 10, 2) := by decide +kernel
theorem dL_comesTrue_304 : decode cL_comesTrue 304 = .ok (.iconst 1, 1) := by decide +kernel
theorem dL_comesTrue_305 : decode cL_comesTrue 305 = .ok (.if_icmp .eq 9, 3) := by decide +kernel
theorem dL_comesTrue_308 : decode cL_comesTrue 308 = .ok (.iload 10, 2) := by decide +kernel
theorem dL_comesTrue_310 : decode cL_comesTrue 310 = .ok (.iconst 2, 1) := by decide +kernel
theorem dL_comesTrue_311 : decode cL_comesTrue 311 = .ok (.if_icmp .ne 7, 3) := by decide +kernel
theorem dL_comesTrue_314 : decode cL_comesTrue 314 = .ok (.iconst 1, 1) := by decide +kernel
theorem dL_comesTrue_315 : decode cL_comesTrue 315 = .ok (.goto 4, 3) := by decide +kernel
theorem dL_comesTrue_318 : decode cL_comesTrue 318 = .ok (.iconst 0, 1) := by decide +kernel
theorem dL_comesTrue_319 : decode cL_comesTrue 319 = .ok (.if_icmp .eq 5, 3) := by decide +kernel
theorem dL_comesTrue_322 : decode cL_comesTrue 322 = .ok (.iconst 0, 1) := by decide +kernel
theorem dL_comesTrue_323 : decode cL_comesTrue 323 = .ok (.ireturn, 1) := by decide +kernel
theorem dL_comesTrue_324 : decode cL_comesTrue 324 = .ok (.iinc 7 1, 3) := by decide +kernel
theorem dL_comesTrue_327 : decode cL_comesTrue 327 = .ok (.goto (-107), 3) := by decide +kernel
theorem dL_comesTrue_330 : decode cL_comesTrue 330 = .ok (.aload_n 0, 1) := by decide +kernel
theorem dL_comesTrue_331 : decode cL_comesTrue 331 = .ok (.iconst 3, 1) := by decide +kernel
theorem dL_comesTrue_332 : decode cL_comesTrue 332 = .ok (.invokevirtual 8, 3) := by decide +kernel
theorem dL_comesTrue_335 : decode cL_comesTrue 335 = .ok (.iload_n 2, 1) := by decide +kernel
theorem dL_comesTrue_336 : decode cL_comesTrue 336 = .ok (.if_icmp .ne 7, 3) := by decide +kernel
theorem dL_comesTrue_339 : decode cL_comesTrue 339 = .ok (.iconst 1, 1) := by decide +kernel
theorem dL_comesTrue_340 : decode cL_comesTrue 340 = .ok (.goto 4, 3) := by decide +kernel
theorem dL_comesTrue_343 : decode cL_comesTrue 343 = .ok (.iconst 0, 1) := by decide +kernel
theorem dL_comesTrue_344 : decode cL_comesTrue 344 = .ok (.ireturn, 1) := by decide +kernel
theorem dL_law_0 : decode cL_law 0 = .ok (.new 9, 3) := by decide +kernel
theorem dL_law_3 : decode cL_law 3 = .ok (.dup, 1) := by decide +kernel
theorem dL_law_4 : decode cL_law 4 = .ok (.invokespecial 83, 3) := by decide +kernel
theorem dL_law_7 : decode cL_law 7 = .ok (.astore_n 1, 1) := by decide +kernel
theorem dL_law_8 : decode cL_law 8 = .ok (.aload_n 0, 1) := by decide +kernel
theorem dL_law_9 : decode cL_law 9 = .ok (.iconst 0, 1) := by decide +kernel
theorem dL_law_10 : decode cL_law 10 = .ok (.invokestatic 84, 3) := by decide +kernel
theorem dL_law_13 : decode cL_law 13 = .ok (.istore_n 2, 1) := by decide +kernel
theorem dL_law_14 : decode cL_law 14 = .ok (.aload_n 1, 1) := by decide +kernel
theorem dL_law_15 : decode cL_law 15 = .ok (.bipush 50, 2) := by decide +kernel
theorem dL_law_17 : decode cL_law 17 = .ok (.iload_n 2, 1) := by decide +kernel
theorem dL_law_18 : decode cL_law 18 = .ok (.bipush 100, 2) := by decide +kernel
theorem dL_law_20 : decode cL_law 20 = .ok (.invokestatic 14, 3) := by decide +kernel
theorem dL_law_23 : decode cL_law 23 = .ok (.iadd, 1) := by decide +kernel
theorem dL_law_24 : decode cL_law 24 = .ok (.sipush 160, 3) := by decide +kernel
theorem dL_law_27 : decode cL_law 27 = .ok (.iload_n 2, 1) := by decide +kernel
theorem dL_law_28 : decode cL_law 28 = .ok (.bipush 7, 2) := by decide +kernel
theorem dL_law_30 : decode cL_law 30 = .ok (.ishr, 1) := by decide +kernel
theorem dL_law_31 : decode cL_law 31 = .ok (.sipush 200, 3) := by decide +kernel
theorem dL_law_34 : decode cL_law 34 = .ok (.invokestatic 14, 3) := by decide +kernel
theorem dL_law_37 : decode cL_law 37 = .ok (.iadd, 1) := by decide +kernel
theorem dL_law_38 : decode cL_law 38 = .ok (.iconst 1, 1) := by decide +kernel
theorem dL_law_39 : decode cL_law 39 = .ok (.iload_n 2, 1) := by decide +kernel
theorem dL_law_40 : decode cL_law 40 = .ok (.bipush 15, 2) := by decide +kernel
theorem dL_law_42 : decode cL_law 42 = .ok (.ishr, 1) := by decide +kernel
theorem dL_law_43 : decode cL_law 43 = .ok (.iconst 5, 1) := by decide +kernel
theorem dL_law_44 : decode cL_law 44 = .ok (.invokestatic 14, 3) := by decide +kernel
theorem dL_law_47 : decode cL_law 47 = .ok (.iadd, 1) := by decide +kernel
theorem dL_law_48 : decode cL_law 48 = .ok (.iload_n 2, 1) := by decide +kernel
theorem dL_law_49 : decode cL_law 49 = .ok (.bipush 18, 2) := by decide +kernel
theorem dL_law_51 : decode cL_law 51 = .ok (.ishr, 1) := by decide +kernel
theorem dL_law_52 : decode cL_law 52 = .ok (.iconst 3, 1) := by decide +kernel
theorem dL_law_53 : decode cL_law 53 = .ok (.invokestatic 14, 3) := by decide +kernel
theorem dL_law_56 : decode cL_law 56 = .ok (.iconst 3, 1) := by decide +kernel
theorem dL_law_57 : decode cL_law 57 = .ok (.iload_n 2, 1) := by decide +kernel
theorem dL_law_58 : decode cL_law 58 = .ok (.bipush 20, 2) := by decide +kernel
theorem dL_law_60 : decode cL_law 60 = .ok (.ishr, 1) := by decide +kernel
theorem dL_law_61 : decode cL_law 61 = .ok (.bipush 20, 2) := by decide +kernel
theorem dL_law_63 : decode cL_law 63 = .ok (.invokestatic 14, 3) := by decide +kernel
theorem dL_law_66 : decode cL_law 66 = .ok (.iadd, 1) := by decide +kernel
theorem dL_law_67 : decode cL_law 67 = .ok (.invokevirtual 20, 3) := by decide +kernel
theorem dL_law_70 : decode cL_law 70 = .ok (.pop, 1) := by decide +kernel
theorem dL_law_71 : decode cL_law 71 = .ok (.aload_n 1, 1) := by decide +kernel
theorem dL_law_72 : decode cL_law 72 = .ok (.invokevirtual 24, 3) := by decide +kernel
theorem dL_law_75 : decode cL_law 75 = .ok (.pop, 1) := by decide +kernel
theorem dL_law_76 : decode cL_law 76 = .ok (.aload_n 1, 1) := by decide +kernel
theorem dL_law_77 : decode cL_law 77 = .ok (.invokevirtual 24, 3) := by decide +kernel
theorem dL_law_80 : decode cL_law 80 = .ok (.pop, 1) := by decide +kernel
theorem dL_law_81 : decode cL_law 81 = .ok (.aload_n 1, 1) := by decide +kernel
theorem dL_law_82 : decode cL_law 82 = .ok (.iload_n 2, 1) := by decide +kernel
theorem dL_law_83 : decode cL_law 83 = .ok (.iconst 4, 1) := by decide +kernel
theorem dL_law_84 : decode cL_law 84 = .ok (.ishr, 1) := by decide +kernel
theorem dL_law_85 : decode cL_law 85 = .ok (.iconst 2, 1) := by decide +kernel
theorem dL_law_86 : decode cL_law 86 = .ok (.invokestatic 14, 3) := by decide +kernel
theorem dL_law_89 : decode cL_law 89 = .ok (.bipush 40, 2) := by decide +kernel
theorem dL_law_91 : decode cL_law 91 = .ok (.invokevirtual 44, 3) := by decide +kernel
theorem dL_law_94 : decode cL_law 94 = .ok (.pop, 1) := by decide +kernel
theorem dL_law_95 : decode cL_law 95 = .ok (.iconst 4, 1) := by decide +kernel
theorem dL_law_96 : decode cL_law 96 = .ok (.istore_n 3, 1) := by decide +kernel
theorem dL_law_97 : decode cL_law 97 = .ok (.iconst 0, 1) := by decide +kernel
theorem dL_law_98 : decode cL_law 98 = .ok (.istore 4, 2) := by decide +kernel
theorem dL_law_100 : decode cL_law 100 = .ok (.iconst 1, 1) := by decide +kernel
theorem dL_law_101 : decode cL_law 101 = .ok (.istore 5, 2) := by decide +kernel
theorem dL_law_103 : decode cL_law 103 = .ok (.iload 5, 2) := by decide +kernel
theorem dL_law_105 : decode cL_law 105 = .ok (.bipush 16, 2) := by decide +kernel
theorem dL_law_107 : decode cL_law 107 = .ok (.if_icmp .ge 175, 3) := by decide +kernel
theorem dL_law_110 : decode cL_law 110 = .ok (.aload_n 0, 1) := by decide +kernel
theorem dL_law_111 : decode cL_law 111 = .ok (.iload 5, 2) := by decide +kernel
theorem dL_law_113 : decode cL_law 113 = .ok (.invokestatic 84, 3) := by decide +kernel
theorem dL_law_116 : decode cL_law 116 = .ok (.istore 6, 2) := by decide +kernel
theorem dL_law_118 : decode cL_law 118 = .ok (.aload_n 1, 1) := by decide +kernel
theorem dL_law_119 : decode cL_law 119 = .ok (.invokevirtual 88, 3) := by decide +kernel
theorem dL_law_122 : decode cL_law 122 = .ok (.lstore 7, 2) := by decide +kernel
theorem dL_law_124 : decode cL_law 124 = .ok (.aload_n 1, 1) := by decide +kernel
theorem dL_law_125 : decode cL_law 125 = .ok (.bipush 8, 2) := by decide +kernel
theorem dL_law_127 : decode cL_law 127 = .ok (.invokevirtual 8, 3) := by decide +kernel
theorem dL_law_130 : decode cL_law 130 = .ok (.ifCond .le 12, 3) := by decide +kernel
theorem dL_law_133 : decode cL_law 133 = .ok (.aload_n 1, 1) := by decide +kernel
theorem dL_law_134 : decode cL_law 134 = .ok (.bipush 7, 2) := by decide +kernel
theorem dL_law_136 : decode cL_law 136 = .ok (.invokevirtual 8, 3) := by decide +kernel
theorem dL_law_139 : decode cL_law 139 = .ok (.goto 4, 3) := by decide +kernel
theorem dL_law_142 : decode cL_law 142 = .ok (.iconst 0, 1) := by decide +kernel
theorem dL_law_143 : decode cL_law 143 = .ok (.istore 9, 2) := by decide +kernel
theorem dL_law_145 : decode cL_law 145 = .ok (.aload_n 1, 1) := by decide +kernel
theorem dL_law_146 : decode cL_law 146 = .ok (.iload 6, 2) := by decide +kernel
theorem dL_law_148 : decode cL_law 148 = .ok (.invokestatic 92, 3) := by decide +kernel
theorem dL_law_151 : decode cL_law 151 = .ok (.istore 10, 2) := by decide +kernel
theorem dL_law_153 : decode cL_law 153 = .ok (.iload 10, 2) := by decide +kernel
theorem dL_law_155 : decode cL_law 155 = .ok (.ifCond .ne 15, 3) := by decide +kernel
theorem dL_law_158 : decode cL_law 158 = .ok (.aload_n 1, 1) := by decide +kernel
theorem dL_law_159 : decode cL_law 159 = .ok (.invokevirtual 88, 3) := by decide +kernel
theorem dL_law_162 : decode cL_law 162 = .ok (.lload 7, 2) := by decide +kernel
theorem dL_law_164 : decode cL_law 164 = .ok (.lcmp, 1) := by decide +kernel
theorem dL_law_165 : decode cL_law 165 = .ok (.ifCond .eq 5, 3) := by decide +kernel
theorem dL_law_168 : decode cL_law 168 = .ok (.iconst 0, 1) := by decide +kernel
theorem dL_law_169 : decode cL_law 169 = .ok (.ireturn, 1) := by decide +kernel
theorem dL_law_170 : decode cL_law 170 = .ok (.iload 10, 2) := by decide +kernel
theorem dL_law_172 : decode cL_law 172 = .ok (.ifCond .eq 11, 3) := by decide +kernel
theorem dL_law_175 : decode cL_law 175 = .ok (.iload_n 3, 1) := by decide +kernel
theorem dL_law_176 : decode cL_law 176 = .ok (.iconst 4, 1) := by decide +kernel
theorem dL_law_177 : decode cL_law 177 = .ok (.if_icmp .ge 6, 3) := by decide +kernel
theorem dL_law_180 : decode cL_law 180 = .ok (.iinc 3 1, 3) := by decide +kernel
theorem dL_law_183 : decode cL_law 183 = .ok (.iload 10, 2) := by decide +kernel
theorem dL_law_185 : decode cL_law 185 = .ok (.ifCond .eq 20, 3) := by decide +kernel
theorem dL_law_188 : decode cL_law 188 = .ok (.iload 6, 2) := by decide +kernel
theorem dL_law_190 : decode cL_law 190 = .ok (.bipush 15, 2) := by decide +kernel
theorem dL_law_192 : decode cL_law 192 = .ok (.iand, 1) := by decide +kernel
theorem dL_law_193 : decode cL_law 193 = .ok (.bipush 12, 2) := by decide +kernel
theorem dL_law_195 : decode cL_law 195 = .ok (.if_icmp .ne 10, 3) := by decide +kernel
theorem dL_law_198 : decode cL_law 198 = .ok (.iload 4, 2) := by decide +kernel
theorem dL_law_200 : decode cL_law 200 = .ok (.iload 9, 2) := by decide +kernel
theorem dL_law_202 : decode cL_law 202 = .ok (.iadd, 1) := by decide +kernel
theorem dL_law_203 : decode cL_law 203 = .ok (.istore 4, 2) := by decide +kernel
theorem dL_law_205 : decode cL_law 205 = .ok (.iload 10, 2) := by decide +kernel
theorem dL_law_207 : decode cL_law 207 = .ok (.ifCond .eq 44, 3) := by decide +kernel
theorem dL_law_210 : decode cL_law 210 = .ok (.iload 6, 2) := by decide +kernel
theorem dL_law_212 : decode cL_law 212 = .ok (.bipush 24, 2) := by decide +kernel
theorem dL_law_214 : decode cL_law 214 = .ok (.ishr, 1) := by decide +kernel
theorem dL_law_215 : decode cL_law 215 = .ok (.iconst 4, 1) := by decide +kernel
theorem dL_law_216 : decode cL_law 216 = .ok (.invokestatic 14, 3) := by decide +kernel
theorem dL_law_219 : decode cL_law 219 = .ok (.ifCond .ne 32, 3) := by decide +kernel
theorem dL_law_222 : decode cL_law 222 = .ok (.aload_n 1, 1) := by decide +kernel
theorem dL_law_223 : decode cL_law 223 = .ok (.invokevirtual 96, 3) := by decide +kernel
theorem dL_law_226 : decode cL_law 226 = .ok (.iload_n 3, 1) := by decide +kernel
theorem dL_law_227 : decode cL_law 227 = .ok (.iconst 1, 1) := by decide +kernel
theorem dL_law_228 : decode cL_law 228 = .ok (.isub, 1) := by decide +kernel
theorem dL_law_229 : decode cL_law 229 = .ok (.if_icmp .eq 5, 3) := by decide +kernel
theorem dL_law_232 : decode cL_law 232 = .ok (.iconst 0, 1) := by decide +kernel
theorem dL_law_233 : decode cL_law 233 = .ok (.ireturn, 1) := by decide +kernel
theorem dL_law_234 : decode cL_law 234 = .ok (.iinc 3 (-1), 3) := by decide +kernel
theorem dL_law_237 : decode cL_law 237 = .ok (.aload_n 1, 1) := by decide +kernel
theorem dL_law_238 : decode cL_law 238 = .ok (.iload 6, 2) := by decide +kernel
theorem dL_law_240 : decode cL_law 240 = .ok (.invokestatic 92, 3) := by decide +kernel
theorem dL_law_243 : decode cL_law 243 = .ok (.ifCond .ne 5, 3) := by decide +kernel
theorem dL_law_246 : decode cL_law 246 = .ok (.iconst 0, 1) := by decide +kernel
theorem dL_law_247 : decode cL_law 247 = .ok (.ireturn, 1) := by decide +kernel
theorem dL_law_248 : decode cL_law 248 = .ok (.iinc 3 1, 3) := by decide +kernel
theorem dL_law_251 : decode cL_law 251 = .ok (.aload_n 1, 1) := by decide +kernel
theorem dL_law_252 : decode cL_law 252 = .ok (.iload 4, 2) := by decide +kernel
theorem dL_law_254 : decode cL_law 254 = .ok (.invokestatic 99, 3) := by decide +kernel
theorem dL_law_257 : decode cL_law 257 = .ok (.ifCond .eq 17, 3) := by decide +kernel
theorem dL_law_260 : decode cL_law 260 = .ok (.iload 5, 2) := by decide +kernel
theorem dL_law_262 : decode cL_law 262 = .ok (.iconst 1, 1) := by decide +kernel
theorem dL_law_263 : decode cL_law 263 = .ok (.iand, 1) := by decide +kernel
theorem dL_law_264 : decode cL_law 264 = .ok (.ifCond .ne 12, 3) := by decide +kernel
theorem dL_law_267 : decode cL_law 267 = .ok (.aload_n 1, 1) := by decide +kernel
theorem dL_law_268 : decode cL_law 268 = .ok (.invokestatic 102, 3) := by decide +kernel
theorem dL_law_271 : decode cL_law 271 = .ok (.ifCond .ne 5, 3) := by decide +kernel
theorem dL_law_274 : decode cL_law 274 = .ok (.iconst 0, 1) := by decide +kernel
theorem dL_law_275 : decode cL_law 275 = .ok (.ireturn, 1) := by decide +kernel
theorem dL_law_276 : decode cL_law 276 = .ok (.iinc 5 1, 3) := by decide +kernel
theorem dL_law_279 : decode cL_law 279 = .ok (.goto (-176), 3) := by decide +kernel
theorem dL_law_282 : decode cL_law 282 = .ok (.aload_n 1, 1) := by decide +kernel
theorem dL_law_283 : decode cL_law 283 = .ok (.iconst 1, 1) := by decide +kernel
theorem dL_law_284 : decode cL_law 284 = .ok (.iload_n 2, 1) := by decide +kernel
theorem dL_law_285 : decode cL_law 285 = .ok (.bipush 9, 2) := by decide +kernel
theorem dL_law_287 : decode cL_law 287 = .ok (.ishr, 1) := by decide +kernel
theorem dL_law_288 : decode cL_law 288 = .ok (.bipush 9, 2) := by decide +kernel
theorem dL_law_290 : decode cL_law 290 = .ok (.invokestatic 14, 3) := by decide +kernel
theorem dL_law_293 : decode cL_law 293 = .ok (.iadd, 1) := by decide +kernel
theorem dL_law_294 : decode cL_law 294 = .ok (.invokestatic 106, 3) := by decide +kernel
theorem dL_law_297 : decode cL_law 297 = .ok (.ifCond .eq 23, 3) := by decide +kernel
theorem dL_law_300 : decode cL_law 300 = .ok (.aload_n 1, 1) := by decide +kernel
theorem dL_law_301 : decode cL_law 301 = .ok (.invokestatic 102, 3) := by decide +kernel
theorem dL_law_304 : decode cL_law 304 = .ok (.ifCond .eq 16, 3) := by decide +kernel
theorem dL_law_307 : decode cL_law 307 = .ok (.aload_n 1, 1) := by decide +kernel
theorem dL_law_308 : decode cL_law 308 = .ok (.iload 4, 2) := by decide +kernel
theorem dL_law_310 : decode cL_law 310 = .ok (.invokestatic 99, 3) := by decide +kernel
theorem dL_law_313 : decode cL_law 313 = .ok (.ifCond .eq 7, 3) := by decide +kernel
theorem dL_law_316 : decode cL_law 316 = .ok (.iconst 1, 1) := by decide +kernel
theorem dL_law_317 : decode cL_law 317 = .ok (.goto 4, 3) := by decide +kernel
theorem dL_law_320 : decode cL_law 320 = .ok (.iconst 0, 1) := by decide +kernel
theorem dL_law_321 : decode cL_law 321 = .ok (.ireturn, 1) := by decide +kernel
abbrev vwCl : List vw_C := [(RX0, TX0, 6), (RX1, TX1, 9), (RX2, TX2, 3), (RX3, TX3, 7), (RX4, TX4, 6), (RX5, TX5, 3), (RX6, TX6, 1), (RX7, TX7, 14), (RX8, TX8, 4)]
