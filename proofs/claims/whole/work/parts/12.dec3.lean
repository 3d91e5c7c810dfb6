/-! Decode rows (printed by wip/gen/dec.py). -/
theorem d_N_branch_114 : decode m_N_branch.2.1 114 = .ok (.getfield 28, 3) := by decide +kernel
theorem d_N_branch_117 : decode m_N_branch.2.1 117 = .ok (.iload_n 1, 1) := by decide +kernel
theorem d_N_branch_118 : decode m_N_branch.2.1 118 = .ok (.iload 5, 2) := by decide +kernel
theorem d_N_branch_120 : decode m_N_branch.2.1 120 = .ok (.iastore, 1) := by decide +kernel
theorem d_N_branch_121 : decode m_N_branch.2.1 121 = .ok (.iload_n 2, 1) := by decide +kernel
theorem d_N_branch_122 : decode m_N_branch.2.1 122 = .ok (.bipush 15, 2) := by decide +kernel
theorem d_N_branch_124 : decode m_N_branch.2.1 124 = .ok (.if_icmp .ne 52, 3) := by decide +kernel
theorem d_N_branch_127 : decode m_N_branch.2.1 127 = .ok (.aload_n 0, 1) := by decide +kernel
theorem d_N_branch_128 : decode m_N_branch.2.1 128 = .ok (.getfield 37, 3) := by decide +kernel
theorem d_N_branch_131 : decode m_N_branch.2.1 131 = .ok (.iload_n 1, 1) := by decide +kernel
theorem d_N_branch_132 : decode m_N_branch.2.1 132 = .ok (.iaload, 1) := by decide +kernel
theorem d_N_branch_133 : decode m_N_branch.2.1 133 = .ok (.bipush 6, 2) := by decide +kernel
theorem d_N_branch_135 : decode m_N_branch.2.1 135 = .ok (.if_icmp .lt 5, 3) := by decide +kernel
theorem d_N_branch_138 : decode m_N_branch.2.1 138 = .ok (.iconst 0, 1) := by decide +kernel
theorem d_N_branch_139 : decode m_N_branch.2.1 139 = .ok (.ireturn, 1) := by decide +kernel
theorem d_N_branch_140 : decode m_N_branch.2.1 140 = .ok (.aload_n 0, 1) := by decide +kernel
theorem d_N_branch_141 : decode m_N_branch.2.1 141 = .ok (.getfield 40, 3) := by decide +kernel
theorem d_N_branch_144 : decode m_N_branch.2.1 144 = .ok (.bipush 6, 2) := by decide +kernel
theorem d_N_branch_146 : decode m_N_branch.2.1 146 = .ok (.iload_n 1, 1) := by decide +kernel
theorem d_N_branch_147 : decode m_N_branch.2.1 147 = .ok (.imul, 1) := by decide +kernel
theorem d_N_branch_148 : decode m_N_branch.2.1 148 = .ok (.aload_n 0, 1) := by decide +kernel
theorem d_N_branch_149 : decode m_N_branch.2.1 149 = .ok (.getfield 37, 3) := by decide +kernel
theorem d_N_branch_152 : decode m_N_branch.2.1 152 = .ok (.iload_n 1, 1) := by decide +kernel
theorem d_N_branch_153 : decode m_N_branch.2.1 153 = .ok (.iaload, 1) := by decide +kernel
theorem d_N_branch_154 : decode m_N_branch.2.1 154 = .ok (.iadd, 1) := by decide +kernel
theorem d_N_branch_155 : decode m_N_branch.2.1 155 = .ok (.aload_n 0, 1) := by decide +kernel
theorem d_N_branch_156 : decode m_N_branch.2.1 156 = .ok (.getfield 28, 3) := by decide +kernel
theorem d_N_branch_159 : decode m_N_branch.2.1 159 = .ok (.iload_n 1, 1) := by decide +kernel
theorem d_N_branch_160 : decode m_N_branch.2.1 160 = .ok (.iaload, 1) := by decide +kernel
theorem d_N_branch_161 : decode m_N_branch.2.1 161 = .ok (.iastore, 1) := by decide +kernel
theorem d_N_branch_162 : decode m_N_branch.2.1 162 = .ok (.aload_n 0, 1) := by decide +kernel
theorem d_N_branch_163 : decode m_N_branch.2.1 163 = .ok (.getfield 37, 3) := by decide +kernel
theorem d_N_branch_166 : decode m_N_branch.2.1 166 = .ok (.iload_n 1, 1) := by decide +kernel
theorem d_N_branch_167 : decode m_N_branch.2.1 167 = .ok (.aload_n 0, 1) := by decide +kernel
theorem d_N_branch_168 : decode m_N_branch.2.1 168 = .ok (.getfield 37, 3) := by decide +kernel
theorem d_N_branch_171 : decode m_N_branch.2.1 171 = .ok (.iload_n 1, 1) := by decide +kernel
theorem d_N_branch_172 : decode m_N_branch.2.1 172 = .ok (.iaload, 1) := by decide +kernel
theorem d_N_branch_173 : decode m_N_branch.2.1 173 = .ok (.iconst 1, 1) := by decide +kernel
theorem d_N_branch_174 : decode m_N_branch.2.1 174 = .ok (.iadd, 1) := by decide +kernel
theorem d_N_branch_175 : decode m_N_branch.2.1 175 = .ok (.iastore, 1) := by decide +kernel
theorem d_N_branch_176 : decode m_N_branch.2.1 176 = .ok (.iload_n 2, 1) := by decide +kernel
theorem d_N_branch_177 : decode m_N_branch.2.1 177 = .ok (.bipush 14, 2) := by decide +kernel
theorem d_N_branch_179 : decode m_N_branch.2.1 179 = .ok (.if_icmp .eq 9, 3) := by decide +kernel
theorem d_N_branch_182 : decode m_N_branch.2.1 182 = .ok (.iload_n 2, 1) := by decide +kernel
theorem d_N_branch_183 : decode m_N_branch.2.1 183 = .ok (.bipush 15, 2) := by decide +kernel
theorem d_N_branch_185 : decode m_N_branch.2.1 185 = .ok (.if_icmp .ne 10, 3) := by decide +kernel
theorem d_N_branch_188 : decode m_N_branch.2.1 188 = .ok (.aload_n 0, 1) := by decide +kernel
theorem d_N_branch_189 : decode m_N_branch.2.1 189 = .ok (.getfield 28, 3) := by decide +kernel
theorem d_N_branch_192 : decode m_N_branch.2.1 192 = .ok (.iload_n 1, 1) := by decide +kernel
theorem d_N_branch_193 : decode m_N_branch.2.1 193 = .ok (.iload_n 3, 1) := by decide +kernel
theorem d_N_branch_194 : decode m_N_branch.2.1 194 = .ok (.iastore, 1) := by decide +kernel
theorem d_N_branch_195 : decode m_N_branch.2.1 195 = .ok (.iload_n 2, 1) := by decide +kernel
theorem d_N_branch_196 : decode m_N_branch.2.1 196 = .ok (.bipush 16, 2) := by decide +kernel
theorem d_N_branch_198 : decode m_N_branch.2.1 198 = .ok (.if_icmp .ne 22, 3) := by decide +kernel
theorem d_N_branch_201 : decode m_N_branch.2.1 201 = .ok (.aload_n 0, 1) := by decide +kernel
theorem d_N_branch_202 : decode m_N_branch.2.1 202 = .ok (.getfield 37, 3) := by decide +kernel
theorem d_N_branch_205 : decode m_N_branch.2.1 205 = .ok (.iload_n 1, 1) := by decide +kernel
theorem d_N_branch_206 : decode m_N_branch.2.1 206 = .ok (.iaload, 1) := by decide +kernel
theorem d_N_branch_207 : decode m_N_branch.2.1 207 = .ok (.ifCond .ne 13, 3) := by decide +kernel
theorem d_N_branch_210 : decode m_N_branch.2.1 210 = .ok (.aload_n 0, 1) := by decide +kernel
theorem d_N_branch_211 : decode m_N_branch.2.1 211 = .ok (.iload_n 1, 1) := by decide +kernel
theorem d_N_branch_212 : decode m_N_branch.2.1 212 = .ok (.bipush 14, 2) := by decide +kernel
theorem d_N_branch_214 : decode m_N_branch.2.1 214 = .ok (.invokevirtual 146, 3) := by decide +kernel
theorem d_N_branch_217 : decode m_N_branch.2.1 217 = .ok (.goto 45, 3) := by decide +kernel
theorem d_N_branch_220 : decode m_N_branch.2.1 220 = .ok (.iload_n 2, 1) := by decide +kernel
theorem d_N_branch_221 : decode m_N_branch.2.1 221 = .ok (.bipush 16, 2) := by decide +kernel
theorem d_N_branch_223 : decode m_N_branch.2.1 223 = .ok (.if_icmp .ne 39, 3) := by decide +kernel
theorem d_N_branch_226 : decode m_N_branch.2.1 226 = .ok (.aload_n 0, 1) := by decide +kernel
theorem d_N_branch_227 : decode m_N_branch.2.1 227 = .ok (.getfield 37, 3) := by decide +kernel
theorem d_N_branch_230 : decode m_N_branch.2.1 230 = .ok (.iload_n 1, 1) := by decide +kernel
theorem d_N_branch_231 : decode m_N_branch.2.1 231 = .ok (.aload_n 0, 1) := by decide +kernel
theorem d_N_branch_232 : decode m_N_branch.2.1 232 = .ok (.getfield 37, 3) := by decide +kernel
theorem d_N_branch_235 : decode m_N_branch.2.1 235 = .ok (.iload_n 1, 1) := by decide +kernel
theorem d_N_branch_236 : decode m_N_branch.2.1 236 = .ok (.iaload, 1) := by decide +kernel
theorem d_N_branch_237 : decode m_N_branch.2.1 237 = .ok (.iconst 1, 1) := by decide +kernel
theorem d_N_branch_238 : decode m_N_branch.2.1 238 = .ok (.isub, 1) := by decide +kernel
theorem d_N_branch_239 : decode m_N_branch.2.1 239 = .ok (.iastore, 1) := by decide +kernel
theorem d_N_branch_240 : decode m_N_branch.2.1 240 = .ok (.aload_n 0, 1) := by decide +kernel
theorem d_N_branch_241 : decode m_N_branch.2.1 241 = .ok (.getfield 28, 3) := by decide +kernel
theorem d_N_branch_244 : decode m_N_branch.2.1 244 = .ok (.iload_n 1, 1) := by decide +kernel
theorem d_N_branch_245 : decode m_N_branch.2.1 245 = .ok (.aload_n 0, 1) := by decide +kernel
theorem d_N_branch_246 : decode m_N_branch.2.1 246 = .ok (.getfield 40, 3) := by decide +kernel
theorem d_N_branch_249 : decode m_N_branch.2.1 249 = .ok (.bipush 6, 2) := by decide +kernel
theorem d_N_branch_251 : decode m_N_branch.2.1 251 = .ok (.iload_n 1, 1) := by decide +kernel
theorem d_N_branch_252 : decode m_N_branch.2.1 252 = .ok (.imul, 1) := by decide +kernel
theorem d_N_branch_253 : decode m_N_branch.2.1 253 = .ok (.aload_n 0, 1) := by decide +kernel
theorem d_N_branch_254 : decode m_N_branch.2.1 254 = .ok (.getfield 37, 3) := by decide +kernel
theorem d_N_branch_257 : decode m_N_branch.2.1 257 = .ok (.iload_n 1, 1) := by decide +kernel
theorem d_N_branch_258 : decode m_N_branch.2.1 258 = .ok (.iaload, 1) := by decide +kernel
theorem d_N_branch_259 : decode m_N_branch.2.1 259 = .ok (.iadd, 1) := by decide +kernel
theorem d_N_branch_260 : decode m_N_branch.2.1 260 = .ok (.iaload, 1) := by decide +kernel
theorem d_N_branch_261 : decode m_N_branch.2.1 261 = .ok (.iastore, 1) := by decide +kernel
theorem d_N_branch_262 : decode m_N_branch.2.1 262 = .ok (.iconst 1, 1) := by decide +kernel
theorem d_N_branch_263 : decode m_N_branch.2.1 263 = .ok (.ireturn, 1) := by decide +kernel
theorem d_N_named_0 : decode m_N_named.2.1 0 = .ok (.aload_n 0, 1) := by decide +kernel
theorem d_N_named_1 : decode m_N_named.2.1 1 = .ok (.iload_n 1, 1) := by decide +kernel
theorem d_N_named_2 : decode m_N_named.2.1 2 = .ok (.iconst 0, 1) := by decide +kernel
theorem d_N_named_3 : decode m_N_named.2.1 3 = .ok (.invokevirtual 66, 3) := by decide +kernel
theorem d_N_named_6 : decode m_N_named.2.1 6 = .ok (.iconst 2, 1) := by decide +kernel
theorem d_N_named_7 : decode m_N_named.2.1 7 = .ok (.if_icmp .ne 31, 3) := by decide +kernel
theorem d_N_named_10 : decode m_N_named.2.1 10 = .ok (.aload_n 0, 1) := by decide +kernel
theorem d_N_named_11 : decode m_N_named.2.1 11 = .ok (.iload_n 1, 1) := by decide +kernel
theorem d_N_named_12 : decode m_N_named.2.1 12 = .ok (.iconst 0, 1) := by decide +kernel
theorem d_N_named_13 : decode m_N_named.2.1 13 = .ok (.invokevirtual 70, 3) := by decide +kernel
theorem d_N_named_16 : decode m_N_named.2.1 16 = .ok (.iconst 0, 1) := by decide +kernel
theorem d_N_named_17 : decode m_N_named.2.1 17 = .ok (.aload_n 0, 1) := by decide +kernel
theorem d_N_named_18 : decode m_N_named.2.1 18 = .ok (.getfield 131, 3) := by decide +kernel
theorem d_N_named_21 : decode m_N_named.2.1 21 = .ok (.iconst 1, 1) := by decide +kernel
theorem d_N_named_22 : decode m_N_named.2.1 22 = .ok (.isub, 1) := by decide +kernel
theorem d_N_named_23 : decode m_N_named.2.1 23 = .ok (.invokestatic 81, 3) := by decide +kernel
theorem d_N_named_26 : decode m_N_named.2.1 26 = .ok (.ifCond .eq 12, 3) := by decide +kernel
theorem d_N_named_29 : decode m_N_named.2.1 29 = .ok (.aload_n 0, 1) := by decide +kernel
theorem d_N_named_30 : decode m_N_named.2.1 30 = .ok (.iload_n 1, 1) := by decide +kernel
theorem d_N_named_31 : decode m_N_named.2.1 31 = .ok (.iconst 0, 1) := by decide +kernel
theorem d_N_named_32 : decode m_N_named.2.1 32 = .ok (.invokevirtual 70, 3) := by decide +kernel
theorem d_N_named_35 : decode m_N_named.2.1 35 = .ok (.goto 4, 3) := by decide +kernel
theorem d_N_named_38 : decode m_N_named.2.1 38 = .ok (.iconst (-1), 1) := by decide +kernel
theorem d_N_named_39 : decode m_N_named.2.1 39 = .ok (.ireturn, 1) := by decide +kernel
theorem d_N_mail_0 : decode m_N_mail.2.1 0 = .ok (.aload_n 0, 1) := by decide +kernel
theorem d_N_mail_1 : decode m_N_mail.2.1 1 = .ok (.getfield 31, 3) := by decide +kernel
theorem d_N_mail_4 : decode m_N_mail.2.1 4 = .ok (.iload_n 1, 1) := by decide +kernel
theorem d_N_mail_5 : decode m_N_mail.2.1 5 = .ok (.iaload, 1) := by decide +kernel
theorem d_N_mail_6 : decode m_N_mail.2.1 6 = .ok (.aload_n 0, 1) := by decide +kernel
theorem d_N_mail_7 : decode m_N_mail.2.1 7 = .ok (.getfield 34, 3) := by decide +kernel
theorem d_N_mail_10 : decode m_N_mail.2.1 10 = .ok (.iload_n 1, 1) := by decide +kernel
theorem d_N_mail_11 : decode m_N_mail.2.1 11 = .ok (.iaload, 1) := by decide +kernel
theorem d_N_mail_12 : decode m_N_mail.2.1 12 = .ok (.if_icmp .ge 7, 3) := by decide +kernel
theorem d_N_mail_15 : decode m_N_mail.2.1 15 = .ok (.iconst 1, 1) := by decide +kernel
theorem d_N_mail_16 : decode m_N_mail.2.1 16 = .ok (.goto 4, 3) := by decide +kernel
theorem d_N_mail_19 : decode m_N_mail.2.1 19 = .ok (.iconst 0, 1) := by decide +kernel
theorem d_N_mail_20 : decode m_N_mail.2.1 20 = .ok (.istore 5, 2) := by decide +kernel
theorem d_N_mail_22 : decode m_N_mail.2.1 22 = .ok (.bipush 21, 2) := by decide +kernel
theorem d_N_mail_24 : decode m_N_mail.2.1 24 = .ok (.iload_n 1, 1) := by decide +kernel
theorem d_N_mail_25 : decode m_N_mail.2.1 25 = .ok (.imul, 1) := by decide +kernel
theorem d_N_mail_26 : decode m_N_mail.2.1 26 = .ok (.bipush 9, 2) := by decide +kernel
theorem d_N_mail_28 : decode m_N_mail.2.1 28 = .ok (.iadd, 1) := by decide +kernel
theorem d_N_mail_29 : decode m_N_mail.2.1 29 = .ok (.aload_n 0, 1) := by decide +kernel
theorem d_N_mail_30 : decode m_N_mail.2.1 30 = .ok (.getfield 31, 3) := by decide +kernel
theorem d_N_mail_33 : decode m_N_mail.2.1 33 = .ok (.iload_n 1, 1) := by decide +kernel
theorem d_N_mail_34 : decode m_N_mail.2.1 34 = .ok (.iaload, 1) := by decide +kernel
theorem d_N_mail_35 : decode m_N_mail.2.1 35 = .ok (.iadd, 1) := by decide +kernel
theorem d_N_mail_36 : decode m_N_mail.2.1 36 = .ok (.istore 6, 2) := by decide +kernel
theorem d_N_mail_38 : decode m_N_mail.2.1 38 = .ok (.iload_n 2, 1) := by decide +kernel
theorem d_N_mail_39 : decode m_N_mail.2.1 39 = .ok (.bipush 17, 2) := by decide +kernel
theorem d_N_mail_41 : decode m_N_mail.2.1 41 = .ok (.if_icmp .ne 38, 3) := by decide +kernel
theorem d_N_mail_44 : decode m_N_mail.2.1 44 = .ok (.aload_n 0, 1) := by decide +kernel
theorem d_N_mail_45 : decode m_N_mail.2.1 45 = .ok (.bipush 21, 2) := by decide +kernel
theorem d_N_mail_47 : decode m_N_mail.2.1 47 = .ok (.iload_n 1, 1) := by decide +kernel
theorem d_N_mail_48 : decode m_N_mail.2.1 48 = .ok (.imul, 1) := by decide +kernel
theorem d_N_mail_49 : decode m_N_mail.2.1 49 = .ok (.iload_n 3, 1) := by decide +kernel
theorem d_N_mail_50 : decode m_N_mail.2.1 50 = .ok (.iadd, 1) := by decide +kernel
theorem d_N_mail_51 : decode m_N_mail.2.1 51 = .ok (.invokevirtual 149, 3) := by decide +kernel
theorem d_N_mail_54 : decode m_N_mail.2.1 54 = .ok (.istore 7, 2) := by decide +kernel
theorem d_N_mail_56 : decode m_N_mail.2.1 56 = .ok (.iload 7, 2) := by decide +kernel
theorem d_N_mail_58 : decode m_N_mail.2.1 58 = .ok (.ifCond .ge 5, 3) := by decide +kernel
theorem d_N_mail_61 : decode m_N_mail.2.1 61 = .ok (.iconst 0, 1) := by decide +kernel
theorem d_N_mail_62 : decode m_N_mail.2.1 62 = .ok (.ireturn, 1) := by decide +kernel
theorem d_N_mail_63 : decode m_N_mail.2.1 63 = .ok (.aload_n 0, 1) := by decide +kernel
theorem d_N_mail_64 : decode m_N_mail.2.1 64 = .ok (.iload 7, 2) := by decide +kernel
theorem d_N_mail_66 : decode m_N_mail.2.1 66 = .ok (.bipush 21, 2) := by decide +kernel
theorem d_N_mail_68 : decode m_N_mail.2.1 68 = .ok (.iload_n 1, 1) := by decide +kernel
theorem d_N_mail_69 : decode m_N_mail.2.1 69 = .ok (.imul, 1) := by decide +kernel
theorem d_N_mail_70 : decode m_N_mail.2.1 70 = .ok (.iload 4, 2) := by decide +kernel
theorem d_N_mail_72 : decode m_N_mail.2.1 72 = .ok (.iadd, 1) := by decide +kernel
theorem d_N_mail_73 : decode m_N_mail.2.1 73 = .ok (.invokevirtual 122, 3) := by decide +kernel
theorem d_N_mail_76 : decode m_N_mail.2.1 76 = .ok (.goto 187, 3) := by decide +kernel
theorem d_N_mail_79 : decode m_N_mail.2.1 79 = .ok (.iload_n 2, 1) := by decide +kernel
theorem d_N_mail_80 : decode m_N_mail.2.1 80 = .ok (.bipush 18, 2) := by decide +kernel
theorem d_N_mail_82 : decode m_N_mail.2.1 82 = .ok (.if_icmp .ne 34, 3) := by decide +kernel
theorem d_N_mail_85 : decode m_N_mail.2.1 85 = .ok (.iload 5, 2) := by decide +kernel
theorem d_N_mail_87 : decode m_N_mail.2.1 87 = .ok (.ifCond .eq 18, 3) := by decide +kernel
theorem d_N_mail_90 : decode m_N_mail.2.1 90 = .ok (.aload_n 0, 1) := by decide +kernel
theorem d_N_mail_91 : decode m_N_mail.2.1 91 = .ok (.iload 6, 2) := by decide +kernel
theorem d_N_mail_93 : decode m_N_mail.2.1 93 = .ok (.bipush 21, 2) := by decide +kernel
theorem d_N_mail_95 : decode m_N_mail.2.1 95 = .ok (.iload_n 1, 1) := by decide +kernel
theorem d_N_mail_96 : decode m_N_mail.2.1 96 = .ok (.imul, 1) := by decide +kernel
theorem d_N_mail_97 : decode m_N_mail.2.1 97 = .ok (.iload_n 3, 1) := by decide +kernel
theorem d_N_mail_98 : decode m_N_mail.2.1 98 = .ok (.iadd, 1) := by decide +kernel
theorem d_N_mail_99 : decode m_N_mail.2.1 99 = .ok (.invokevirtual 107, 3) := by decide +kernel
theorem d_N_mail_102 : decode m_N_mail.2.1 102 = .ok (.goto 161, 3) := by decide +kernel
theorem d_N_mail_105 : decode m_N_mail.2.1 105 = .ok (.aload_n 0, 1) := by decide +kernel
theorem d_N_mail_106 : decode m_N_mail.2.1 106 = .ok (.getfield 28, 3) := by decide +kernel
theorem d_N_mail_109 : decode m_N_mail.2.1 109 = .ok (.iload_n 1, 1) := by decide +kernel
theorem d_N_mail_110 : decode m_N_mail.2.1 110 = .ok (.iload 4, 2) := by decide +kernel
theorem d_N_mail_112 : decode m_N_mail.2.1 112 = .ok (.iastore, 1) := by decide +kernel
theorem d_N_mail_113 : decode m_N_mail.2.1 113 = .ok (.goto 150, 3) := by decide +kernel
theorem d_N_mail_116 : decode m_N_mail.2.1 116 = .ok (.iload_n 2, 1) := by decide +kernel
theorem d_N_mail_117 : decode m_N_mail.2.1 117 = .ok (.bipush 19, 2) := by decide +kernel
theorem d_N_mail_119 : decode m_N_mail.2.1 119 = .ok (.if_icmp .ne 85, 3) := by decide +kernel
theorem d_N_mail_122 : decode m_N_mail.2.1 122 = .ok (.iload 5, 2) := by decide +kernel
theorem d_N_mail_124 : decode m_N_mail.2.1 124 = .ok (.ifCond .ne 5, 3) := by decide +kernel
theorem d_N_mail_127 : decode m_N_mail.2.1 127 = .ok (.iconst 0, 1) := by decide +kernel
theorem d_N_mail_128 : decode m_N_mail.2.1 128 = .ok (.ireturn, 1) := by decide +kernel
theorem d_N_mail_129 : decode m_N_mail.2.1 129 = .ok (.aload_n 0, 1) := by decide +kernel
theorem d_N_mail_130 : decode m_N_mail.2.1 130 = .ok (.getfield 34, 3) := by decide +kernel
theorem d_N_mail_133 : decode m_N_mail.2.1 133 = .ok (.iload_n 1, 1) := by decide +kernel
theorem d_N_mail_134 : decode m_N_mail.2.1 134 = .ok (.aload_n 0, 1) := by decide +kernel
theorem d_N_mail_135 : decode m_N_mail.2.1 135 = .ok (.getfield 34, 3) := by decide +kernel
theorem d_N_mail_138 : decode m_N_mail.2.1 138 = .ok (.iload_n 1, 1) := by decide +kernel
theorem d_N_mail_139 : decode m_N_mail.2.1 139 = .ok (.iaload, 1) := by decide +kernel
theorem d_N_mail_140 : decode m_N_mail.2.1 140 = .ok (.iconst 1, 1) := by decide +kernel
theorem d_N_mail_141 : decode m_N_mail.2.1 141 = .ok (.isub, 1) := by decide +kernel
theorem d_N_mail_142 : decode m_N_mail.2.1 142 = .ok (.iastore, 1) := by decide +kernel
theorem d_N_mail_143 : decode m_N_mail.2.1 143 = .ok (.aload_n 0, 1) := by decide +kernel
theorem d_N_mail_144 : decode m_N_mail.2.1 144 = .ok (.getfield 31, 3) := by decide +kernel
theorem d_N_mail_147 : decode m_N_mail.2.1 147 = .ok (.iload_n 1, 1) := by decide +kernel
theorem d_N_mail_148 : decode m_N_mail.2.1 148 = .ok (.iaload, 1) := by decide +kernel
theorem d_N_mail_149 : decode m_N_mail.2.1 149 = .ok (.istore 7, 2) := by decide +kernel
theorem d_N_mail_151 : decode m_N_mail.2.1 151 = .ok (.iload 7, 2) := by decide +kernel
theorem d_N_mail_153 : decode m_N_mail.2.1 153 = .ok (.aload_n 0, 1) := by decide +kernel
theorem d_N_mail_154 : decode m_N_mail.2.1 154 = .ok (.getfield 34, 3) := by decide +kernel
theorem d_N_mail_157 : decode m_N_mail.2.1 157 = .ok (.iload_n 1, 1) := by decide +kernel
theorem d_N_mail_158 : decode m_N_mail.2.1 158 = .ok (.iaload, 1) := by decide +kernel
theorem d_N_mail_159 : decode m_N_mail.2.1 159 = .ok (.if_icmp .ge 35, 3) := by decide +kernel
theorem d_N_mail_162 : decode m_N_mail.2.1 162 = .ok (.aload_n 0, 1) := by decide +kernel
theorem d_N_mail_163 : decode m_N_mail.2.1 163 = .ok (.bipush 21, 2) := by decide +kernel
theorem d_N_mail_165 : decode m_N_mail.2.1 165 = .ok (.iload_n 1, 1) := by decide +kernel
theorem d_N_mail_166 : decode m_N_mail.2.1 166 = .ok (.imul, 1) := by decide +kernel
theorem d_N_mail_167 : decode m_N_mail.2.1 167 = .ok (.bipush 9, 2) := by decide +kernel
theorem d_N_mail_169 : decode m_N_mail.2.1 169 = .ok (.iadd, 1) := by decide +kernel
theorem d_N_mail_170 : decode m_N_mail.2.1 170 = .ok (.iload 7, 2) := by decide +kernel
theorem d_N_mail_172 : decode m_N_mail.2.1 172 = .ok (.iadd, 1) := by decide +kernel
theorem d_N_mail_173 : decode m_N_mail.2.1 173 = .ok (.iconst 1, 1) := by decide +kernel
theorem d_N_mail_174 : decode m_N_mail.2.1 174 = .ok (.iadd, 1) := by decide +kernel
theorem d_N_mail_175 : decode m_N_mail.2.1 175 = .ok (.bipush 21, 2) := by decide +kernel
theorem d_N_mail_177 : decode m_N_mail.2.1 177 = .ok (.iload_n 1, 1) := by decide +kernel
theorem d_N_mail_178 : decode m_N_mail.2.1 178 = .ok (.imul, 1) := by decide +kernel
theorem d_N_mail_179 : decode m_N_mail.2.1 179 = .ok (.bipush 9, 2) := by decide +kernel
theorem d_N_mail_181 : decode m_N_mail.2.1 181 = .ok (.iadd, 1) := by decide +kernel
theorem d_N_mail_182 : decode m_N_mail.2.1 182 = .ok (.iload 7, 2) := by decide +kernel
theorem d_N_mail_184 : decode m_N_mail.2.1 184 = .ok (.iadd, 1) := by decide +kernel
theorem d_N_mail_185 : decode m_N_mail.2.1 185 = .ok (.invokevirtual 107, 3) := by decide +kernel
theorem d_N_mail_188 : decode m_N_mail.2.1 188 = .ok (.iinc 7 1, 3) := by decide +kernel
theorem d_N_mail_191 : decode m_N_mail.2.1 191 = .ok (.goto (-40), 3) := by decide +kernel
theorem d_N_mail_194 : decode m_N_mail.2.1 194 = .ok (.aload_n 0, 1) := by decide +kernel
theorem d_N_mail_195 : decode m_N_mail.2.1 195 = .ok (.getfield 31, 3) := by decide +kernel
theorem d_N_mail_198 : decode m_N_mail.2.1 198 = .ok (.iload_n 1, 1) := by decide +kernel
theorem d_N_mail_199 : decode m_N_mail.2.1 199 = .ok (.iconst 0, 1) := by decide +kernel
theorem d_N_mail_200 : decode m_N_mail.2.1 200 = .ok (.iastore, 1) := by decide +kernel
theorem d_N_mail_201 : decode m_N_mail.2.1 201 = .ok (.goto 62, 3) := by decide +kernel
theorem d_N_mail_204 : decode m_N_mail.2.1 204 = .ok (.aload_n 0, 1) := by decide +kernel
theorem d_N_mail_205 : decode m_N_mail.2.1 205 = .ok (.getfield 28, 3) := by decide +kernel
theorem d_N_mail_208 : decode m_N_mail.2.1 208 = .ok (.iload_n 1, 1) := by decide +kernel
theorem d_N_mail_209 : decode m_N_mail.2.1 209 = .ok (.iload_n 3, 1) := by decide +kernel
theorem d_N_mail_210 : decode m_N_mail.2.1 210 = .ok (.iastore, 1) := by decide +kernel
theorem d_N_mail_211 : decode m_N_mail.2.1 211 = .ok (.aload_n 0, 1) := by decide +kernel
theorem d_N_mail_212 : decode m_N_mail.2.1 212 = .ok (.getfield 31, 3) := by decide +kernel
theorem d_N_mail_215 : decode m_N_mail.2.1 215 = .ok (.iload_n 1, 1) := by decide +kernel
theorem d_N_mail_216 : decode m_N_mail.2.1 216 = .ok (.iload_n 2, 1) := by decide +kernel
theorem d_N_mail_217 : decode m_N_mail.2.1 217 = .ok (.bipush 20, 2) := by decide +kernel
theorem d_N_mail_219 : decode m_N_mail.2.1 219 = .ok (.if_icmp .ne 14, 3) := by decide +kernel
theorem d_N_mail_222 : decode m_N_mail.2.1 222 = .ok (.aload_n 0, 1) := by decide +kernel
theorem d_N_mail_223 : decode m_N_mail.2.1 223 = .ok (.getfield 31, 3) := by decide +kernel
theorem d_N_mail_226 : decode m_N_mail.2.1 226 = .ok (.iload_n 1, 1) := by decide +kernel
theorem d_N_mail_227 : decode m_N_mail.2.1 227 = .ok (.iaload, 1) := by decide +kernel
theorem d_N_mail_228 : decode m_N_mail.2.1 228 = .ok (.iconst 1, 1) := by decide +kernel
theorem d_N_mail_229 : decode m_N_mail.2.1 229 = .ok (.iadd, 1) := by decide +kernel
theorem d_N_mail_230 : decode m_N_mail.2.1 230 = .ok (.goto 9, 3) := by decide +kernel
theorem d_N_mail_233 : decode m_N_mail.2.1 233 = .ok (.aload_n 0, 1) := by decide +kernel
theorem d_N_mail_234 : decode m_N_mail.2.1 234 = .ok (.getfield 31, 3) := by decide +kernel
theorem d_N_mail_237 : decode m_N_mail.2.1 237 = .ok (.iload_n 1, 1) := by decide +kernel
theorem d_N_mail_238 : decode m_N_mail.2.1 238 = .ok (.iaload, 1) := by decide +kernel
theorem d_N_mail_239 : decode m_N_mail.2.1 239 = .ok (.iastore, 1) := by decide +kernel
theorem d_N_mail_240 : decode m_N_mail.2.1 240 = .ok (.iload_n 2, 1) := by decide +kernel
theorem d_N_mail_241 : decode m_N_mail.2.1 241 = .ok (.bipush 21, 2) := by decide +kernel
theorem d_N_mail_243 : decode m_N_mail.2.1 243 = .ok (.if_icmp .ne 20, 3) := by decide +kernel
theorem d_N_mail_246 : decode m_N_mail.2.1 246 = .ok (.iload 5, 2) := by decide +kernel
theorem d_N_mail_248 : decode m_N_mail.2.1 248 = .ok (.ifCond .ne 15, 3) := by decide +kernel
theorem d_N_mail_251 : decode m_N_mail.2.1 251 = .ok (.aload_n 0, 1) := by decide +kernel
theorem d_N_mail_252 : decode m_N_mail.2.1 252 = .ok (.getfield 25, 3) := by decide +kernel
theorem d_N_mail_255 : decode m_N_mail.2.1 255 = .ok (.iload_n 1, 1) := by decide +kernel
theorem d_N_mail_256 : decode m_N_mail.2.1 256 = .ok (.iconst 2, 1) := by decide +kernel
theorem d_N_mail_257 : decode m_N_mail.2.1 257 = .ok (.iastore, 1) := by decide +kernel
theorem d_N_mail_258 : decode m_N_mail.2.1 258 = .ok (.aload_n 0, 1) := by decide +kernel
theorem d_N_mail_259 : decode m_N_mail.2.1 259 = .ok (.iload_n 1, 1) := by decide +kernel
theorem d_N_mail_260 : decode m_N_mail.2.1 260 = .ok (.invokevirtual 125, 3) := by decide +kernel
theorem d_N_mail_263 : decode m_N_mail.2.1 263 = .ok (.iconst 1, 1) := by decide +kernel
theorem d_N_mail_264 : decode m_N_mail.2.1 264 = .ok (.ireturn, 1) := by decide +kernel
theorem d_N_life_0 : decode m_N_life.2.1 0 = .ok (.bipush 21, 2) := by decide +kernel
theorem d_N_life_2 : decode m_N_life.2.1 2 = .ok (.iload_n 1, 1) := by decide +kernel
theorem d_N_life_3 : decode m_N_life.2.1 3 = .ok (.imul, 1) := by decide +kernel
theorem d_N_life_4 : decode m_N_life.2.1 4 = .ok (.iload_n 3, 1) := by decide +kernel
theorem d_N_life_5 : decode m_N_life.2.1 5 = .ok (.iadd, 1) := by decide +kernel
theorem d_N_life_6 : decode m_N_life.2.1 6 = .ok (.istore 6, 2) := by decide +kernel
theorem d_N_life_8 : decode m_N_life.2.1 8 = .ok (.iload_n 2, 1) := by decide +kernel
theorem d_N_life_9 : decode m_N_life.2.1 9 = .ok (.bipush 22, 2) := by decide +kernel
theorem d_N_life_11 : decode m_N_life.2.1 11 = .ok (.if_icmp .ne 37, 3) := by decide +kernel
theorem d_N_life_14 : decode m_N_life.2.1 14 = .ok (.aload_n 0, 1) := by decide +kernel
theorem d_N_life_15 : decode m_N_life.2.1 15 = .ok (.getfield 131, 3) := by decide +kernel
theorem d_N_life_18 : decode m_N_life.2.1 18 = .ok (.bipush 12, 2) := by decide +kernel
theorem d_N_life_20 : decode m_N_life.2.1 20 = .ok (.if_icmp .lt 5, 3) := by decide +kernel
theorem d_N_life_23 : decode m_N_life.2.1 23 = .ok (.iconst 0, 1) := by decide +kernel
theorem d_N_life_24 : decode m_N_life.2.1 24 = .ok (.ireturn, 1) := by decide +kernel
theorem d_N_life_25 : decode m_N_life.2.1 25 = .ok (.aload_n 0, 1) := by decide +kernel
theorem d_N_life_26 : decode m_N_life.2.1 26 = .ok (.iload 6, 2) := by decide +kernel
theorem d_N_life_28 : decode m_N_life.2.1 28 = .ok (.iconst 2, 1) := by decide +kernel
theorem d_N_life_29 : decode m_N_life.2.1 29 = .ok (.aload_n 0, 1) := by decide +kernel
theorem d_N_life_30 : decode m_N_life.2.1 30 = .ok (.iload 4, 2) := by decide +kernel
theorem d_N_life_32 : decode m_N_life.2.1 32 = .ok (.bipush 21, 2) := by decide +kernel
theorem d_N_life_34 : decode m_N_life.2.1 34 = .ok (.iload_n 1, 1) := by decide +kernel
theorem d_N_life_35 : decode m_N_life.2.1 35 = .ok (.imul, 1) := by decide +kernel
theorem d_N_life_36 : decode m_N_life.2.1 36 = .ok (.iload 5, 2) := by decide +kernel
theorem d_N_life_38 : decode m_N_life.2.1 38 = .ok (.iadd, 1) := by decide +kernel
theorem d_N_life_39 : decode m_N_life.2.1 39 = .ok (.invokevirtual 152, 3) := by decide +kernel
theorem d_N_life_42 : decode m_N_life.2.1 42 = .ok (.invokevirtual 115, 3) := by decide +kernel
theorem d_N_life_45 : decode m_N_life.2.1 45 = .ok (.goto 196, 3) := by decide +kernel
theorem d_N_life_48 : decode m_N_life.2.1 48 = .ok (.iload_n 2, 1) := by decide +kernel
theorem d_N_life_49 : decode m_N_life.2.1 49 = .ok (.bipush 24, 2) := by decide +kernel
theorem d_N_life_51 : decode m_N_life.2.1 51 = .ok (.if_icmp .ne 22, 3) := by decide +kernel
theorem d_N_life_54 : decode m_N_life.2.1 54 = .ok (.aload_n 0, 1) := by decide +kernel
theorem d_N_life_55 : decode m_N_life.2.1 55 = .ok (.getfield 46, 3) := by decide +kernel
theorem d_N_life_58 : decode m_N_life.2.1 58 = .ok (.iload_n 1, 1) := by decide +kernel
theorem d_N_life_59 : decode m_N_life.2.1 59 = .ok (.iload_n 3, 1) := by decide +kernel
theorem d_N_life_60 : decode m_N_life.2.1 60 = .ok (.iconst 1, 1) := by decide +kernel
theorem d_N_life_61 : decode m_N_life.2.1 61 = .ok (.if_icmp .ne 7, 3) := by decide +kernel
theorem d_N_life_64 : decode m_N_life.2.1 64 = .ok (.iconst 1, 1) := by decide +kernel
theorem d_N_life_65 : decode m_N_life.2.1 65 = .ok (.goto 4, 3) := by decide +kernel
theorem d_N_life_68 : decode m_N_life.2.1 68 = .ok (.iconst 0, 1) := by decide +kernel
theorem d_N_life_69 : decode m_N_life.2.1 69 = .ok (.bastore, 1) := by decide +kernel
theorem d_N_life_70 : decode m_N_life.2.1 70 = .ok (.goto 171, 3) := by decide +kernel
theorem d_N_life_73 : decode m_N_life.2.1 73 = .ok (.iload_n 2, 1) := by decide +kernel
theorem d_N_life_74 : decode m_N_life.2.1 74 = .ok (.bipush 25, 2) := by decide +kernel
theorem d_N_life_76 : decode m_N_life.2.1 76 = .ok (.if_icmp .ne 23, 3) := by decide +kernel
theorem d_N_life_79 : decode m_N_life.2.1 79 = .ok (.aload_n 0, 1) := by decide +kernel
theorem d_N_life_80 : decode m_N_life.2.1 80 = .ok (.iload 6, 2) := by decide +kernel
theorem d_N_life_82 : decode m_N_life.2.1 82 = .ok (.sipush 252, 3) := by decide +kernel
theorem d_N_life_85 : decode m_N_life.2.1 85 = .ok (.invokevirtual 107, 3) := by decide +kernel
theorem d_N_life_88 : decode m_N_life.2.1 88 = .ok (.aload_n 0, 1) := by decide +kernel
theorem d_N_life_89 : decode m_N_life.2.1 89 = .ok (.iload_n 1, 1) := by decide +kernel
theorem d_N_life_90 : decode m_N_life.2.1 90 = .ok (.sipush 252, 3) := by decide +kernel
theorem d_N_life_93 : decode m_N_life.2.1 93 = .ok (.invokevirtual 137, 3) := by decide +kernel
theorem d_N_life_96 : decode m_N_life.2.1 96 = .ok (.goto 145, 3) := by decide +kernel
theorem d_N_life_99 : decode m_N_life.2.1 99 = .ok (.aload_n 0, 1) := by decide +kernel
theorem d_N_life_100 : decode m_N_life.2.1 100 = .ok (.iload 6, 2) := by decide +kernel
theorem d_N_life_102 : decode m_N_life.2.1 102 = .ok (.invokevirtual 149, 3) := by decide +kernel
theorem d_N_life_105 : decode m_N_life.2.1 105 = .ok (.istore 7, 2) := by decide +kernel
theorem d_N_life_107 : decode m_N_life.2.1 107 = .ok (.iload 7, 2) := by decide +kernel
theorem d_N_life_109 : decode m_N_life.2.1 109 = .ok (.ifCond .ge 5, 3) := by decide +kernel
theorem d_N_life_112 : decode m_N_life.2.1 112 = .ok (.iconst 0, 1) := by decide +kernel
theorem d_N_life_113 : decode m_N_life.2.1 113 = .ok (.ireturn, 1) := by decide +kernel
theorem d_N_life_114 : decode m_N_life.2.1 114 = .ok (.iload_n 2, 1) := by decide +kernel
theorem d_N_life_115 : decode m_N_life.2.1 115 = .ok (.bipush 26, 2) := by decide +kernel
theorem d_N_life_117 : decode m_N_life.2.1 117 = .ok (.if_icmp .ne 38, 3) := by decide +kernel
theorem d_N_life_120 : decode m_N_life.2.1 120 = .ok (.aload_n 0, 1) := by decide +kernel
theorem d_N_life_121 : decode m_N_life.2.1 121 = .ok (.sipush 252, 3) := by decide +kernel
theorem d_N_life_124 : decode m_N_life.2.1 124 = .ok (.iconst 1, 1) := by decide +kernel
theorem d_N_life_125 : decode m_N_life.2.1 125 = .ok (.bipush 12, 2) := by decide +kernel
theorem d_N_life_127 : decode m_N_life.2.1 127 = .ok (.invokevirtual 115, 3) := by decide +kernel
theorem d_N_life_130 : decode m_N_life.2.1 130 = .ok (.aload_n 0, 1) := by decide +kernel
theorem d_N_life_131 : decode m_N_life.2.1 131 = .ok (.iload 7, 2) := by decide +kernel
theorem d_N_life_133 : decode m_N_life.2.1 133 = .ok (.iload_n 1, 1) := by decide +kernel
theorem d_N_life_134 : decode m_N_life.2.1 134 = .ok (.sipush 252, 3) := by decide +kernel
theorem d_N_life_137 : decode m_N_life.2.1 137 = .ok (.invokevirtual 134, 3) := by decide +kernel
theorem d_N_life_140 : decode m_N_life.2.1 140 = .ok (.ifCond .eq 101, 3) := by decide +kernel
theorem d_N_life_143 : decode m_N_life.2.1 143 = .ok (.aload_n 0, 1) := by decide +kernel
theorem d_N_life_144 : decode m_N_life.2.1 144 = .ok (.iload 7, 2) := by decide +kernel
theorem d_N_life_146 : decode m_N_life.2.1 146 = .ok (.sipush 252, 3) := by decide +kernel
theorem d_N_life_149 : decode m_N_life.2.1 149 = .ok (.invokevirtual 137, 3) := by decide +kernel
theorem d_N_life_152 : decode m_N_life.2.1 152 = .ok (.goto 89, 3) := by decide +kernel
theorem d_N_life_155 : decode m_N_life.2.1 155 = .ok (.aload_n 0, 1) := by decide +kernel
theorem d_N_life_156 : decode m_N_life.2.1 156 = .ok (.getfield 25, 3) := by decide +kernel
theorem d_N_life_159 : decode m_N_life.2.1 159 = .ok (.iload 7, 2) := by decide +kernel
theorem d_N_life_161 : decode m_N_life.2.1 161 = .ok (.iaload, 1) := by decide +kernel
theorem d_N_life_162 : decode m_N_life.2.1 162 = .ok (.iconst 3, 1) := by decide +kernel
theorem d_N_life_163 : decode m_N_life.2.1 163 = .ok (.if_icmp .ne 37, 3) := by decide +kernel
theorem d_N_life_166 : decode m_N_life.2.1 166 = .ok (.aload_n 0, 1) := by decide +kernel
theorem d_N_life_167 : decode m_N_life.2.1 167 = .ok (.sipush 252, 3) := by decide +kernel
theorem d_N_life_170 : decode m_N_life.2.1 170 = .ok (.iconst 1, 1) := by decide +kernel
theorem d_N_life_171 : decode m_N_life.2.1 171 = .ok (.bipush 13, 2) := by decide +kernel
theorem d_N_life_173 : decode m_N_life.2.1 173 = .ok (.invokevirtual 115, 3) := by decide +kernel
theorem d_N_life_176 : decode m_N_life.2.1 176 = .ok (.aload_n 0, 1) := by decide +kernel
theorem d_N_life_177 : decode m_N_life.2.1 177 = .ok (.iload_n 1, 1) := by decide +kernel
theorem d_N_life_178 : decode m_N_life.2.1 178 = .ok (.iload 7, 2) := by decide +kernel
theorem d_N_life_180 : decode m_N_life.2.1 180 = .ok (.sipush 252, 3) := by decide +kernel
theorem d_N_life_183 : decode m_N_life.2.1 183 = .ok (.invokevirtual 134, 3) := by decide +kernel
theorem d_N_life_186 : decode m_N_life.2.1 186 = .ok (.ifCond .eq 55, 3) := by decide +kernel
theorem d_N_life_189 : decode m_N_life.2.1 189 = .ok (.aload_n 0, 1) := by decide +kernel
theorem d_N_life_190 : decode m_N_life.2.1 190 = .ok (.iload_n 1, 1) := by decide +kernel
theorem d_N_life_191 : decode m_N_life.2.1 191 = .ok (.sipush 252, 3) := by decide +kernel
theorem d_N_life_194 : decode m_N_life.2.1 194 = .ok (.invokevirtual 137, 3) := by decide +kernel
theorem d_N_life_197 : decode m_N_life.2.1 197 = .ok (.goto 44, 3) := by decide +kernel
theorem d_N_life_200 : decode m_N_life.2.1 200 = .ok (.iload 7, 2) := by decide +kernel
theorem d_N_life_202 : decode m_N_life.2.1 202 = .ok (.iload_n 1, 1) := by decide +kernel
theorem d_N_life_203 : decode m_N_life.2.1 203 = .ok (.if_icmp .eq 38, 3) := by decide +kernel
theorem d_N_life_206 : decode m_N_life.2.1 206 = .ok (.aload_n 0, 1) := by decide +kernel
theorem d_N_life_207 : decode m_N_life.2.1 207 = .ok (.getfield 43, 3) := by decide +kernel
theorem d_N_life_210 : decode m_N_life.2.1 210 = .ok (.iload_n 1, 1) := by decide +kernel
theorem d_N_life_211 : decode m_N_life.2.1 211 = .ok (.aload_n 0, 1) := by decide +kernel
theorem d_N_life_212 : decode m_N_life.2.1 212 = .ok (.getfield 43, 3) := by decide +kernel
theorem d_N_life_215 : decode m_N_life.2.1 215 = .ok (.iload_n 1, 1) := by decide +kernel
theorem d_N_life_216 : decode m_N_life.2.1 216 = .ok (.iaload, 1) := by decide +kernel
theorem d_N_life_217 : decode m_N_life.2.1 217 = .ok (.iconst 1, 1) := by decide +kernel
theorem d_N_life_218 : decode m_N_life.2.1 218 = .ok (.iload 7, 2) := by decide +kernel
theorem d_N_life_220 : decode m_N_life.2.1 220 = .ok (.ishl, 1) := by decide +kernel
theorem d_N_life_221 : decode m_N_life.2.1 221 = .ok (.ior, 1) := by decide +kernel
theorem d_N_life_222 : decode m_N_life.2.1 222 = .ok (.iastore, 1) := by decide +kernel
theorem d_N_life_223 : decode m_N_life.2.1 223 = .ok (.aload_n 0, 1) := by decide +kernel
theorem d_N_life_224 : decode m_N_life.2.1 224 = .ok (.getfield 43, 3) := by decide +kernel
theorem d_N_life_227 : decode m_N_life.2.1 227 = .ok (.iload 7, 2) := by decide +kernel
theorem d_N_life_229 : decode m_N_life.2.1 229 = .ok (.aload_n 0, 1) := by decide +kernel
theorem d_N_life_230 : decode m_N_life.2.1 230 = .ok (.getfield 43, 3) := by decide +kernel
theorem d_N_life_233 : decode m_N_life.2.1 233 = .ok (.iload 7, 2) := by decide +kernel
theorem d_N_life_235 : decode m_N_life.2.1 235 = .ok (.iaload, 1) := by decide +kernel
theorem d_N_life_236 : decode m_N_life.2.1 236 = .ok (.iconst 1, 1) := by decide +kernel
theorem d_N_life_237 : decode m_N_life.2.1 237 = .ok (.iload_n 1, 1) := by decide +kernel
theorem d_N_life_238 : decode m_N_life.2.1 238 = .ok (.ishl, 1) := by decide +kernel
theorem d_N_life_239 : decode m_N_life.2.1 239 = .ok (.ior, 1) := by decide +kernel
theorem d_N_life_240 : decode m_N_life.2.1 240 = .ok (.iastore, 1) := by decide +kernel
theorem d_N_life_241 : decode m_N_life.2.1 241 = .ok (.iconst 1, 1) := by decide +kernel
theorem d_N_life_242 : decode m_N_life.2.1 242 = .ok (.ireturn, 1) := by decide +kernel
theorem d_N_step_0 : decode m_N_step.2.1 0 = .ok (.aload_n 0, 1) := by decide +kernel
theorem d_N_step_1 : decode m_N_step.2.1 1 = .ok (.getfield 50, 3) := by decide +kernel
theorem d_N_step_4 : decode m_N_step.2.1 4 = .ok (.iload_n 1, 1) := by decide +kernel
theorem d_N_step_5 : decode m_N_step.2.1 5 = .ok (.aload_n 0, 1) := by decide +kernel
theorem d_N_step_6 : decode m_N_step.2.1 6 = .ok (.getfield 50, 3) := by decide +kernel
theorem d_N_step_9 : decode m_N_step.2.1 9 = .ok (.iload_n 1, 1) := by decide +kernel
theorem d_N_step_10 : decode m_N_step.2.1 10 = .ok (.iaload, 1) := by decide +kernel
theorem d_N_step_11 : decode m_N_step.2.1 11 = .ok (.iconst 1, 1) := by decide +kernel
theorem d_N_step_12 : decode m_N_step.2.1 12 = .ok (.iadd, 1) := by decide +kernel
theorem d_N_step_13 : decode m_N_step.2.1 13 = .ok (.iastore, 1) := by decide +kernel
theorem d_N_step_14 : decode m_N_step.2.1 14 = .ok (.aload_n 0, 1) := by decide +kernel
theorem d_N_step_15 : decode m_N_step.2.1 15 = .ok (.getfield 28, 3) := by decide +kernel
theorem d_N_step_18 : decode m_N_step.2.1 18 = .ok (.iload_n 1, 1) := by decide +kernel
theorem d_N_step_19 : decode m_N_step.2.1 19 = .ok (.iaload, 1) := by decide +kernel
theorem d_N_step_20 : decode m_N_step.2.1 20 = .ok (.istore_n 2, 1) := by decide +kernel
theorem d_N_step_21 : decode m_N_step.2.1 21 = .ok (.iload_n 2, 1) := by decide +kernel
theorem d_N_step_22 : decode m_N_step.2.1 22 = .ok (.aload_n 0, 1) := by decide +kernel
theorem d_N_step_23 : decode m_N_step.2.1 23 = .ok (.getfield 85, 3) := by decide +kernel
theorem d_N_step_26 : decode m_N_step.2.1 26 = .ok (.if_icmp .ge 7, 3) := by decide +kernel
theorem d_N_step_29 : decode m_N_step.2.1 29 = .ok (.iconst 1, 1) := by decide +kernel
theorem d_N_step_30 : decode m_N_step.2.1 30 = .ok (.goto 4, 3) := by decide +kernel
theorem d_N_step_33 : decode m_N_step.2.1 33 = .ok (.iconst 0, 1) := by decide +kernel
theorem d_N_step_34 : decode m_N_step.2.1 34 = .ok (.istore_n 3, 1) := by decide +kernel
theorem d_N_step_35 : decode m_N_step.2.1 35 = .ok (.iload_n 3, 1) := by decide +kernel
theorem d_N_step_36 : decode m_N_step.2.1 36 = .ok (.ifCond .eq 153, 3) := by decide +kernel
theorem d_N_step_39 : decode m_N_step.2.1 39 = .ok (.aload_n 0, 1) := by decide +kernel
theorem d_N_step_40 : decode m_N_step.2.1 40 = .ok (.getfield 28, 3) := by decide +kernel
theorem d_N_step_43 : decode m_N_step.2.1 43 = .ok (.iload_n 1, 1) := by decide +kernel
theorem d_N_step_44 : decode m_N_step.2.1 44 = .ok (.iload_n 2, 1) := by decide +kernel
theorem d_N_step_45 : decode m_N_step.2.1 45 = .ok (.iconst 1, 1) := by decide +kernel
theorem d_N_step_46 : decode m_N_step.2.1 46 = .ok (.iadd, 1) := by decide +kernel
theorem d_N_step_47 : decode m_N_step.2.1 47 = .ok (.iastore, 1) := by decide +kernel
theorem d_N_step_48 : decode m_N_step.2.1 48 = .ok (.aload_n 0, 1) := by decide +kernel
theorem d_N_step_49 : decode m_N_step.2.1 49 = .ok (.getfield 7, 3) := by decide +kernel
theorem d_N_step_52 : decode m_N_step.2.1 52 = .ok (.iload_n 2, 1) := by decide +kernel
theorem d_N_step_53 : decode m_N_step.2.1 53 = .ok (.iaload, 1) := by decide +kernel
theorem d_N_step_54 : decode m_N_step.2.1 54 = .ok (.istore 4, 2) := by decide +kernel
theorem d_N_step_56 : decode m_N_step.2.1 56 = .ok (.iload 4, 2) := by decide +kernel
theorem d_N_step_58 : decode m_N_step.2.1 58 = .ok (.bipush 11, 2) := by decide +kernel
theorem d_N_step_60 : decode m_N_step.2.1 60 = .ok (.if_icmp .ge 39, 3) := by decide +kernel
theorem d_N_step_63 : decode m_N_step.2.1 63 = .ok (.aload_n 0, 1) := by decide +kernel
theorem d_N_step_64 : decode m_N_step.2.1 64 = .ok (.bipush 21, 2) := by decide +kernel
theorem d_N_step_66 : decode m_N_step.2.1 66 = .ok (.iload_n 1, 1) := by decide +kernel
theorem d_N_step_67 : decode m_N_step.2.1 67 = .ok (.imul, 1) := by decide +kernel
theorem d_N_step_68 : decode m_N_step.2.1 68 = .ok (.aload_n 0, 1) := by decide +kernel
theorem d_N_step_69 : decode m_N_step.2.1 69 = .ok (.getfield 13, 3) := by decide +kernel
theorem d_N_step_72 : decode m_N_step.2.1 72 = .ok (.iload_n 2, 1) := by decide +kernel
theorem d_N_step_73 : decode m_N_step.2.1 73 = .ok (.iaload, 1) := by decide +kernel
theorem d_N_step_74 : decode m_N_step.2.1 74 = .ok (.iadd, 1) := by decide +kernel
theorem d_N_step_75 : decode m_N_step.2.1 75 = .ok (.iload 4, 2) := by decide +kernel
theorem d_N_step_77 : decode m_N_step.2.1 77 = .ok (.bipush 21, 2) := by decide +kernel
theorem d_N_step_79 : decode m_N_step.2.1 79 = .ok (.iload_n 1, 1) := by decide +kernel
theorem d_N_step_80 : decode m_N_step.2.1 80 = .ok (.imul, 1) := by decide +kernel
theorem d_N_step_81 : decode m_N_step.2.1 81 = .ok (.aload_n 0, 1) := by decide +kernel
theorem d_N_step_82 : decode m_N_step.2.1 82 = .ok (.getfield 16, 3) := by decide +kernel
theorem d_N_step_85 : decode m_N_step.2.1 85 = .ok (.iload_n 2, 1) := by decide +kernel
theorem d_N_step_86 : decode m_N_step.2.1 86 = .ok (.iaload, 1) := by decide +kernel
theorem d_N_step_87 : decode m_N_step.2.1 87 = .ok (.aload_n 0, 1) := by decide +kernel
theorem d_N_step_88 : decode m_N_step.2.1 88 = .ok (.getfield 19, 3) := by decide +kernel
theorem d_N_step_91 : decode m_N_step.2.1 91 = .ok (.iload_n 2, 1) := by decide +kernel
theorem d_N_step_92 : decode m_N_step.2.1 92 = .ok (.iaload, 1) := by decide +kernel
theorem d_N_step_93 : decode m_N_step.2.1 93 = .ok (.invokevirtual 155, 3) := by decide +kernel
theorem d_N_step_96 : decode m_N_step.2.1 96 = .ok (.goto 92, 3) := by decide +kernel
theorem d_N_step_99 : decode m_N_step.2.1 99 = .ok (.iload 4, 2) := by decide +kernel
theorem d_N_step_101 : decode m_N_step.2.1 101 = .ok (.bipush 17, 2) := by decide +kernel
theorem d_N_step_103 : decode m_N_step.2.1 103 = .ok (.if_icmp .ge 31, 3) := by decide +kernel
theorem d_N_step_106 : decode m_N_step.2.1 106 = .ok (.aload_n 0, 1) := by decide +kernel
theorem d_N_step_107 : decode m_N_step.2.1 107 = .ok (.iload_n 1, 1) := by decide +kernel
theorem d_N_step_108 : decode m_N_step.2.1 108 = .ok (.iload 4, 2) := by decide +kernel
theorem d_N_step_110 : decode m_N_step.2.1 110 = .ok (.aload_n 0, 1) := by decide +kernel
theorem d_N_step_111 : decode m_N_step.2.1 111 = .ok (.getfield 13, 3) := by decide +kernel
theorem d_N_step_114 : decode m_N_step.2.1 114 = .ok (.iload_n 2, 1) := by decide +kernel
theorem d_N_step_115 : decode m_N_step.2.1 115 = .ok (.iaload, 1) := by decide +kernel
theorem d_N_step_116 : decode m_N_step.2.1 116 = .ok (.aload_n 0, 1) := by decide +kernel
theorem d_N_step_117 : decode m_N_step.2.1 117 = .ok (.getfield 16, 3) := by decide +kernel
theorem d_N_step_120 : decode m_N_step.2.1 120 = .ok (.iload_n 2, 1) := by decide +kernel
theorem d_N_step_121 : decode m_N_step.2.1 121 = .ok (.iaload, 1) := by decide +kernel
theorem d_N_step_122 : decode m_N_step.2.1 122 = .ok (.aload_n 0, 1) := by decide +kernel
theorem d_N_step_123 : decode m_N_step.2.1 123 = .ok (.getfield 19, 3) := by decide +kernel
theorem d_N_step_126 : decode m_N_step.2.1 126 = .ok (.iload_n 2, 1) := by decide +kernel
theorem d_N_step_127 : decode m_N_step.2.1 127 = .ok (.iaload, 1) := by decide +kernel
theorem d_N_step_128 : decode m_N_step.2.1 128 = .ok (.invokevirtual 159, 3) := by decide +kernel
theorem d_N_step_131 : decode m_N_step.2.1 131 = .ok (.goto 57, 3) := by decide +kernel
theorem d_N_step_134 : decode m_N_step.2.1 134 = .ok (.iload 4, 2) := by decide +kernel
theorem d_N_step_136 : decode m_N_step.2.1 136 = .ok (.bipush 22, 2) := by decide +kernel
theorem d_N_step_138 : decode m_N_step.2.1 138 = .ok (.if_icmp .ge 25, 3) := by decide +kernel
theorem d_N_step_141 : decode m_N_step.2.1 141 = .ok (.aload_n 0, 1) := by decide +kernel
theorem d_N_step_142 : decode m_N_step.2.1 142 = .ok (.iload_n 1, 1) := by decide +kernel
theorem d_N_step_143 : decode m_N_step.2.1 143 = .ok (.iload 4, 2) := by decide +kernel
theorem d_N_step_145 : decode m_N_step.2.1 145 = .ok (.aload_n 0, 1) := by decide +kernel
theorem d_N_step_146 : decode m_N_step.2.1 146 = .ok (.getfield 13, 3) := by decide +kernel
theorem d_N_step_149 : decode m_N_step.2.1 149 = .ok (.iload_n 2, 1) := by decide +kernel
theorem d_N_step_150 : decode m_N_step.2.1 150 = .ok (.iaload, 1) := by decide +kernel
theorem d_N_step_151 : decode m_N_step.2.1 151 = .ok (.aload_n 0, 1) := by decide +kernel
theorem d_N_step_152 : decode m_N_step.2.1 152 = .ok (.getfield 16, 3) := by decide +kernel
theorem d_N_step_155 : decode m_N_step.2.1 155 = .ok (.iload_n 2, 1) := by decide +kernel
theorem d_N_step_156 : decode m_N_step.2.1 156 = .ok (.iaload, 1) := by decide +kernel
theorem d_N_step_157 : decode m_N_step.2.1 157 = .ok (.invokevirtual 162, 3) := by decide +kernel
theorem d_N_step_160 : decode m_N_step.2.1 160 = .ok (.goto 28, 3) := by decide +kernel
theorem d_N_step_163 : decode m_N_step.2.1 163 = .ok (.aload_n 0, 1) := by decide +kernel
theorem d_N_step_164 : decode m_N_step.2.1 164 = .ok (.iload_n 1, 1) := by decide +kernel
theorem d_N_step_165 : decode m_N_step.2.1 165 = .ok (.iload 4, 2) := by decide +kernel
theorem d_N_step_167 : decode m_N_step.2.1 167 = .ok (.aload_n 0, 1) := by decide +kernel
theorem d_N_step_168 : decode m_N_step.2.1 168 = .ok (.getfield 13, 3) := by decide +kernel
theorem d_N_step_171 : decode m_N_step.2.1 171 = .ok (.iload_n 2, 1) := by decide +kernel
theorem d_N_step_172 : decode m_N_step.2.1 172 = .ok (.iaload, 1) := by decide +kernel
theorem d_N_step_173 : decode m_N_step.2.1 173 = .ok (.aload_n 0, 1) := by decide +kernel
theorem d_N_step_174 : decode m_N_step.2.1 174 = .ok (.getfield 16, 3) := by decide +kernel
theorem d_N_step_177 : decode m_N_step.2.1 177 = .ok (.iload_n 2, 1) := by decide +kernel
theorem d_N_step_178 : decode m_N_step.2.1 178 = .ok (.iaload, 1) := by decide +kernel
theorem d_N_step_179 : decode m_N_step.2.1 179 = .ok (.aload_n 0, 1) := by decide +kernel
theorem d_N_step_180 : decode m_N_step.2.1 180 = .ok (.getfield 19, 3) := by decide +kernel
theorem d_N_step_183 : decode m_N_step.2.1 183 = .ok (.iload_n 2, 1) := by decide +kernel
theorem d_N_step_184 : decode m_N_step.2.1 184 = .ok (.iaload, 1) := by decide +kernel
theorem d_N_step_185 : decode m_N_step.2.1 185 = .ok (.invokevirtual 166, 3) := by decide +kernel
theorem d_N_step_188 : decode m_N_step.2.1 188 = .ok (.istore_n 3, 1) := by decide +kernel
theorem d_N_step_189 : decode m_N_step.2.1 189 = .ok (.iload_n 3, 1) := by decide +kernel
theorem d_N_step_190 : decode m_N_step.2.1 190 = .ok (.ifCond .ne 10, 3) := by decide +kernel
theorem d_N_step_193 : decode m_N_step.2.1 193 = .ok (.aload_n 0, 1) := by decide +kernel
theorem d_N_step_194 : decode m_N_step.2.1 194 = .ok (.iload_n 1, 1) := by decide +kernel
theorem d_N_step_195 : decode m_N_step.2.1 195 = .ok (.bipush 13, 2) := by decide +kernel
theorem d_N_step_197 : decode m_N_step.2.1 197 = .ok (.invokevirtual 146, 3) := by decide +kernel
theorem d_N_step_200 : decode m_N_step.2.1 200 = .ok (.return_, 1) := by decide +kernel
theorem d_N_begin_0 : decode m_N_begin.2.1 0 = .ok (.iload_n 1, 1) := by decide +kernel
theorem d_N_begin_1 : decode m_N_begin.2.1 1 = .ok (.iconst 0, 1) := by decide +kernel
theorem d_N_begin_2 : decode m_N_begin.2.1 2 = .ok (.bipush 47, 2) := by decide +kernel
theorem d_N_begin_4 : decode m_N_begin.2.1 4 = .ok (.invokestatic 81, 3) := by decide +kernel
theorem d_N_begin_7 : decode m_N_begin.2.1 7 = .ok (.ifCond .eq 12, 3) := by decide +kernel
theorem d_N_begin_10 : decode m_N_begin.2.1 10 = .ok (.aload_n 0, 1) := by decide +kernel
theorem d_N_begin_11 : decode m_N_begin.2.1 11 = .ok (.getfield 131, 3) := by decide +kernel
theorem d_N_begin_14 : decode m_N_begin.2.1 14 = .ok (.bipush 12, 2) := by decide +kernel
theorem d_N_begin_16 : decode m_N_begin.2.1 16 = .ok (.if_icmp .lt 5, 3) := by decide +kernel
theorem d_N_begin_19 : decode m_N_begin.2.1 19 = .ok (.iconst (-1), 1) := by decide +kernel
theorem d_N_begin_20 : decode m_N_begin.2.1 20 = .ok (.ireturn, 1) := by decide +kernel
theorem d_N_begin_21 : decode m_N_begin.2.1 21 = .ok (.aload_n 0, 1) := by decide +kernel
theorem d_N_begin_22 : decode m_N_begin.2.1 22 = .ok (.sipush 252, 3) := by decide +kernel
theorem d_N_begin_25 : decode m_N_begin.2.1 25 = .ok (.iconst 0, 1) := by decide +kernel
theorem d_N_begin_26 : decode m_N_begin.2.1 26 = .ok (.iload_n 2, 1) := by decide +kernel
theorem d_N_begin_27 : decode m_N_begin.2.1 27 = .ok (.invokevirtual 115, 3) := by decide +kernel
theorem d_N_begin_30 : decode m_N_begin.2.1 30 = .ok (.aload_n 0, 1) := by decide +kernel
theorem d_N_begin_31 : decode m_N_begin.2.1 31 = .ok (.iload_n 1, 1) := by decide +kernel
theorem d_N_begin_32 : decode m_N_begin.2.1 32 = .ok (.sipush 252, 3) := by decide +kernel
theorem d_N_begin_35 : decode m_N_begin.2.1 35 = .ok (.invokevirtual 152, 3) := by decide +kernel
theorem d_N_begin_38 : decode m_N_begin.2.1 38 = .ok (.ireturn, 1) := by decide +kernel
theorem d_N_tell_0 : decode m_N_tell.2.1 0 = .ok (.iload_n 1, 1) := by decide +kernel
theorem d_N_tell_1 : decode m_N_tell.2.1 1 = .ok (.iconst 0, 1) := by decide +kernel
theorem d_N_tell_2 : decode m_N_tell.2.1 2 = .ok (.aload_n 0, 1) := by decide +kernel
theorem d_N_tell_3 : decode m_N_tell.2.1 3 = .ok (.getfield 131, 3) := by decide +kernel
theorem d_N_tell_6 : decode m_N_tell.2.1 6 = .ok (.iconst 1, 1) := by decide +kernel
theorem d_N_tell_7 : decode m_N_tell.2.1 7 = .ok (.isub, 1) := by decide +kernel
theorem d_N_tell_8 : decode m_N_tell.2.1 8 = .ok (.invokestatic 81, 3) := by decide +kernel
theorem d_N_tell_11 : decode m_N_tell.2.1 11 = .ok (.ifCond .eq 13, 3) := by decide +kernel
theorem d_N_tell_14 : decode m_N_tell.2.1 14 = .ok (.aload_n 0, 1) := by decide +kernel
theorem d_N_tell_15 : decode m_N_tell.2.1 15 = .ok (.getfield 25, 3) := by decide +kernel
theorem d_N_tell_18 : decode m_N_tell.2.1 18 = .ok (.iload_n 1, 1) := by decide +kernel
theorem d_N_tell_19 : decode m_N_tell.2.1 19 = .ok (.iaload, 1) := by decide +kernel
theorem d_N_tell_20 : decode m_N_tell.2.1 20 = .ok (.iconst 3, 1) := by decide +kernel
theorem d_N_tell_21 : decode m_N_tell.2.1 21 = .ok (.if_icmp .ne 5, 3) := by decide +kernel
theorem d_N_tell_24 : decode m_N_tell.2.1 24 = .ok (.iconst 0, 1) := by decide +kernel
theorem d_N_tell_25 : decode m_N_tell.2.1 25 = .ok (.ireturn, 1) := by decide +kernel
theorem d_N_tell_26 : decode m_N_tell.2.1 26 = .ok (.aload_n 0, 1) := by decide +kernel
theorem d_N_tell_27 : decode m_N_tell.2.1 27 = .ok (.sipush 252, 3) := by decide +kernel
theorem d_N_tell_30 : decode m_N_tell.2.1 30 = .ok (.iconst 0, 1) := by decide +kernel
theorem d_N_tell_31 : decode m_N_tell.2.1 31 = .ok (.iload_n 2, 1) := by decide +kernel
theorem d_N_tell_32 : decode m_N_tell.2.1 32 = .ok (.invokevirtual 115, 3) := by decide +kernel
theorem d_N_tell_35 : decode m_N_tell.2.1 35 = .ok (.aload_n 0, 1) := by decide +kernel
theorem d_N_tell_36 : decode m_N_tell.2.1 36 = .ok (.iload_n 1, 1) := by decide +kernel
theorem d_N_tell_37 : decode m_N_tell.2.1 37 = .ok (.sipush 252, 3) := by decide +kernel
theorem d_N_tell_40 : decode m_N_tell.2.1 40 = .ok (.invokevirtual 122, 3) := by decide +kernel
theorem d_N_tell_43 : decode m_N_tell.2.1 43 = .ok (.iconst 1, 1) := by decide +kernel
theorem d_N_tell_44 : decode m_N_tell.2.1 44 = .ok (.ireturn, 1) := by decide +kernel
theorem d_N_run_0 : decode m_N_run.2.1 0 = .ok (.iload_n 1, 1) := by decide +kernel
theorem d_N_run_1 : decode m_N_run.2.1 1 = .ok (.iconst 1, 1) := by decide +kernel
theorem d_N_run_2 : decode m_N_run.2.1 2 = .ok (.bipush 15, 2) := by decide +kernel
theorem d_N_run_4 : decode m_N_run.2.1 4 = .ok (.invokestatic 81, 3) := by decide +kernel
theorem d_N_run_7 : decode m_N_run.2.1 7 = .ok (.ifCond .ne 5, 3) := by decide +kernel
theorem d_N_run_10 : decode m_N_run.2.1 10 = .ok (.iconst (-1), 1) := by decide +kernel
theorem d_N_run_11 : decode m_N_run.2.1 11 = .ok (.ireturn, 1) := by decide +kernel
theorem d_N_run_12 : decode m_N_run.2.1 12 = .ok (.iconst 0, 1) := by decide +kernel
theorem d_N_run_13 : decode m_N_run.2.1 13 = .ok (.istore_n 2, 1) := by decide +kernel
theorem d_N_run_14 : decode m_N_run.2.1 14 = .ok (.iload_n 2, 1) := by decide +kernel
theorem d_N_run_15 : decode m_N_run.2.1 15 = .ok (.iload_n 1, 1) := by decide +kernel
theorem d_N_run_16 : decode m_N_run.2.1 16 = .ok (.if_icmp .ge 99, 3) := by decide +kernel
theorem d_N_run_19 : decode m_N_run.2.1 19 = .ok (.aload_n 0, 1) := by decide +kernel
theorem d_N_run_20 : decode m_N_run.2.1 20 = .ok (.getfield 101, 3) := by decide +kernel
theorem d_N_run_23 : decode m_N_run.2.1 23 = .ok (.ifCond .le 92, 3) := by decide +kernel
theorem d_N_run_26 : decode m_N_run.2.1 26 = .ok (.aload_n 0, 1) := by decide +kernel
theorem d_N_run_27 : decode m_N_run.2.1 27 = .ok (.getfield 53, 3) := by decide +kernel
theorem d_N_run_30 : decode m_N_run.2.1 30 = .ok (.iconst 0, 1) := by decide +kernel
theorem d_N_run_31 : decode m_N_run.2.1 31 = .ok (.iaload, 1) := by decide +kernel
theorem d_N_run_32 : decode m_N_run.2.1 32 = .ok (.istore_n 3, 1) := by decide +kernel
theorem d_N_run_33 : decode m_N_run.2.1 33 = .ok (.aload_n 0, 1) := by decide +kernel
theorem d_N_run_34 : decode m_N_run.2.1 34 = .ok (.aload_n 0, 1) := by decide +kernel
theorem d_N_run_35 : decode m_N_run.2.1 35 = .ok (.getfield 104, 3) := by decide +kernel
theorem d_N_run_38 : decode m_N_run.2.1 38 = .ok (.iconst 1, 1) := by decide +kernel
theorem d_N_run_39 : decode m_N_run.2.1 39 = .ok (.iadd, 1) := by decide +kernel
theorem d_N_run_40 : decode m_N_run.2.1 40 = .ok (.putfield 104, 3) := by decide +kernel
theorem d_N_run_43 : decode m_N_run.2.1 43 = .ok (.aload_n 0, 1) := by decide +kernel
theorem d_N_run_44 : decode m_N_run.2.1 44 = .ok (.iload_n 3, 1) := by decide +kernel
theorem d_N_run_45 : decode m_N_run.2.1 45 = .ok (.invokevirtual 169, 3) := by decide +kernel
theorem d_N_run_48 : decode m_N_run.2.1 48 = .ok (.iload_n 2, 1) := by decide +kernel
theorem d_N_run_49 : decode m_N_run.2.1 49 = .ok (.iconst 1, 1) := by decide +kernel
theorem d_N_run_50 : decode m_N_run.2.1 50 = .ok (.iadd, 1) := by decide +kernel
theorem d_N_run_51 : decode m_N_run.2.1 51 = .ok (.istore_n 2, 1) := by decide +kernel
theorem d_N_run_52 : decode m_N_run.2.1 52 = .ok (.aload_n 0, 1) := by decide +kernel
theorem d_N_run_53 : decode m_N_run.2.1 53 = .ok (.getfield 101, 3) := by decide +kernel
theorem d_N_run_56 : decode m_N_run.2.1 56 = .ok (.ifCond .le 27, 3) := by decide +kernel
theorem d_N_run_59 : decode m_N_run.2.1 59 = .ok (.aload_n 0, 1) := by decide +kernel
theorem d_N_run_60 : decode m_N_run.2.1 60 = .ok (.getfield 53, 3) := by decide +kernel
theorem d_N_run_63 : decode m_N_run.2.1 63 = .ok (.iconst 0, 1) := by decide +kernel
theorem d_N_run_64 : decode m_N_run.2.1 64 = .ok (.iaload, 1) := by decide +kernel
theorem d_N_run_65 : decode m_N_run.2.1 65 = .ok (.iload_n 3, 1) := by decide +kernel
theorem d_N_run_66 : decode m_N_run.2.1 66 = .ok (.if_icmp .ne 17, 3) := by decide +kernel
theorem d_N_run_69 : decode m_N_run.2.1 69 = .ok (.aload_n 0, 1) := by decide +kernel
theorem d_N_run_70 : decode m_N_run.2.1 70 = .ok (.getfield 25, 3) := by decide +kernel
theorem d_N_run_73 : decode m_N_run.2.1 73 = .ok (.iload_n 3, 1) := by decide +kernel
theorem d_N_run_74 : decode m_N_run.2.1 74 = .ok (.iaload, 1) := by decide +kernel
theorem d_N_run_75 : decode m_N_run.2.1 75 = .ok (.iconst 1, 1) := by decide +kernel
theorem d_N_run_76 : decode m_N_run.2.1 76 = .ok (.if_icmp .ne 7, 3) := by decide +kernel
theorem d_N_run_79 : decode m_N_run.2.1 79 = .ok (.iconst 1, 1) := by decide +kernel
theorem d_N_run_80 : decode m_N_run.2.1 80 = .ok (.goto 4, 3) := by decide +kernel
theorem d_N_run_83 : decode m_N_run.2.1 83 = .ok (.iconst 0, 1) := by decide +kernel
theorem d_N_run_84 : decode m_N_run.2.1 84 = .ok (.istore 4, 2) := by decide +kernel
theorem d_N_run_86 : decode m_N_run.2.1 86 = .ok (.iload 4, 2) := by decide +kernel
theorem d_N_run_88 : decode m_N_run.2.1 88 = .ok (.ifCond .eq 24, 3) := by decide +kernel
theorem d_N_run_91 : decode m_N_run.2.1 91 = .ok (.aload_n 0, 1) := by decide +kernel
theorem d_N_run_92 : decode m_N_run.2.1 92 = .ok (.getfield 104, 3) := by decide +kernel
theorem d_N_run_95 : decode m_N_run.2.1 95 = .ok (.aload_n 0, 1) := by decide +kernel
theorem d_N_run_96 : decode m_N_run.2.1 96 = .ok (.getfield 62, 3) := by decide +kernel
theorem d_N_run_99 : decode m_N_run.2.1 99 = .ok (.if_icmp .lt 13, 3) := by decide +kernel
theorem d_N_run_102 : decode m_N_run.2.1 102 = .ok (.aload_n 0, 1) := by decide +kernel
theorem d_N_run_103 : decode m_N_run.2.1 103 = .ok (.iload_n 3, 1) := by decide +kernel
theorem d_N_run_104 : decode m_N_run.2.1 104 = .ok (.invokevirtual 125, 3) := by decide +kernel
theorem d_N_run_107 : decode m_N_run.2.1 107 = .ok (.aload_n 0, 1) := by decide +kernel
theorem d_N_run_108 : decode m_N_run.2.1 108 = .ok (.iload_n 3, 1) := by decide +kernel
theorem d_N_run_109 : decode m_N_run.2.1 109 = .ok (.invokevirtual 111, 3) := by decide +kernel
theorem d_N_run_112 : decode m_N_run.2.1 112 = .ok (.goto (-98), 3) := by decide +kernel
theorem d_N_run_115 : decode m_N_run.2.1 115 = .ok (.iload_n 2, 1) := by decide +kernel
theorem d_N_run_116 : decode m_N_run.2.1 116 = .ok (.ireturn, 1) := by decide +kernel
theorem d_N_clear_0 : decode m_N_clear.2.1 0 = .ok (.aload_n 0, 1) := by decide +kernel
theorem d_N_clear_1 : decode m_N_clear.2.1 1 = .ok (.getfield 131, 3) := by decide +kernel
theorem d_N_clear_4 : decode m_N_clear.2.1 4 = .ok (.istore_n 2, 1) := by decide +kernel
theorem d_N_clear_5 : decode m_N_clear.2.1 5 = .ok (.aload_n 0, 1) := by decide +kernel
theorem d_N_clear_6 : decode m_N_clear.2.1 6 = .ok (.iconst 0, 1) := by decide +kernel
theorem d_N_clear_7 : decode m_N_clear.2.1 7 = .ok (.putfield 131, 3) := by decide +kernel
theorem d_N_clear_10 : decode m_N_clear.2.1 10 = .ok (.aload_n 0, 1) := by decide +kernel
theorem d_N_clear_11 : decode m_N_clear.2.1 11 = .ok (.iconst 0, 1) := by decide +kernel
theorem d_N_clear_12 : decode m_N_clear.2.1 12 = .ok (.putfield 101, 3) := by decide +kernel
theorem d_N_clear_15 : decode m_N_clear.2.1 15 = .ok (.aload_n 0, 1) := by decide +kernel
theorem d_N_clear_16 : decode m_N_clear.2.1 16 = .ok (.iconst 0, 1) := by decide +kernel
theorem d_N_clear_17 : decode m_N_clear.2.1 17 = .ok (.putfield 104, 3) := by decide +kernel
theorem d_N_clear_20 : decode m_N_clear.2.1 20 = .ok (.aload_n 0, 1) := by decide +kernel
theorem d_N_clear_21 : decode m_N_clear.2.1 21 = .ok (.iload_n 1, 1) := by decide +kernel
theorem d_N_clear_22 : decode m_N_clear.2.1 22 = .ok (.ifCond .eq 7, 3) := by decide +kernel
theorem d_N_clear_25 : decode m_N_clear.2.1 25 = .ok (.iconst 0, 1) := by decide +kernel
theorem d_N_clear_26 : decode m_N_clear.2.1 26 = .ok (.goto 7, 3) := by decide +kernel
theorem d_N_clear_29 : decode m_N_clear.2.1 29 = .ok (.aload_n 0, 1) := by decide +kernel
theorem d_N_clear_30 : decode m_N_clear.2.1 30 = .ok (.getfield 85, 3) := by decide +kernel
theorem d_N_clear_33 : decode m_N_clear.2.1 33 = .ok (.putfield 85, 3) := by decide +kernel
theorem d_N_clear_36 : decode m_N_clear.2.1 36 = .ok (.iload_n 2, 1) := by decide +kernel
theorem d_N_clear_37 : decode m_N_clear.2.1 37 = .ok (.ireturn, 1) := by decide +kernel
theorem d_N_process_0 : decode m_N_process.2.1 0 = .ok (.iload_n 1, 1) := by decide +kernel
theorem d_N_process_1 : decode m_N_process.2.1 1 = .ok (.iconst 0, 1) := by decide +kernel
theorem d_N_process_2 : decode m_N_process.2.1 2 = .ok (.aload_n 0, 1) := by decide +kernel
theorem d_N_process_3 : decode m_N_process.2.1 3 = .ok (.getfield 131, 3) := by decide +kernel
theorem d_N_process_6 : decode m_N_process.2.1 6 = .ok (.iconst 1, 1) := by decide +kernel
theorem d_N_process_7 : decode m_N_process.2.1 7 = .ok (.isub, 1) := by decide +kernel
theorem d_N_process_8 : decode m_N_process.2.1 8 = .ok (.invokestatic 81, 3) := by decide +kernel
theorem d_N_process_11 : decode m_N_process.2.1 11 = .ok (.ifCond .ne 5, 3) := by decide +kernel
theorem d_N_process_14 : decode m_N_process.2.1 14 = .ok (.iconst (-1), 1) := by decide +kernel
theorem d_N_process_15 : decode m_N_process.2.1 15 = .ok (.ireturn, 1) := by decide +kernel
theorem d_N_process_16 : decode m_N_process.2.1 16 = .ok (.iload_n 2, 1) := by decide +kernel
theorem d_N_process_17 : decode m_N_process.2.1 17 = .ok (.iconst 4, 1) := by decide +kernel
theorem d_N_process_18 : decode m_N_process.2.1 18 = .ok (.if_icmp .ge 60, 3) := by decide +kernel
theorem d_N_process_21 : decode m_N_process.2.1 21 = .ok (.iload_n 2, 1) := by decide +kernel
theorem d_N_process_22 : decode m_N_process.2.1 22 = .ok (.ifCond .ne 12, 3) := by decide +kernel
theorem d_N_process_25 : decode m_N_process.2.1 25 = .ok (.aload_n 0, 1) := by decide +kernel
theorem d_N_process_26 : decode m_N_process.2.1 26 = .ok (.getfield 25, 3) := by decide +kernel
theorem d_N_process_29 : decode m_N_process.2.1 29 = .ok (.iload_n 1, 1) := by decide +kernel
theorem d_N_process_30 : decode m_N_process.2.1 30 = .ok (.iaload, 1) := by decide +kernel
theorem d_N_process_31 : decode m_N_process.2.1 31 = .ok (.goto 46, 3) := by decide +kernel
theorem d_N_process_34 : decode m_N_process.2.1 34 = .ok (.iload_n 2, 1) := by decide +kernel
theorem d_N_process_35 : decode m_N_process.2.1 35 = .ok (.iconst 1, 1) := by decide +kernel
theorem d_N_process_36 : decode m_N_process.2.1 36 = .ok (.if_icmp .ne 12, 3) := by decide +kernel
theorem d_N_process_39 : decode m_N_process.2.1 39 = .ok (.aload_n 0, 1) := by decide +kernel
theorem d_N_process_40 : decode m_N_process.2.1 40 = .ok (.getfield 28, 3) := by decide +kernel
theorem d_N_process_43 : decode m_N_process.2.1 43 = .ok (.iload_n 1, 1) := by decide +kernel
theorem d_N_process_44 : decode m_N_process.2.1 44 = .ok (.iaload, 1) := by decide +kernel
theorem d_N_process_45 : decode m_N_process.2.1 45 = .ok (.goto 32, 3) := by decide +kernel
theorem d_N_process_48 : decode m_N_process.2.1 48 = .ok (.iload_n 2, 1) := by decide +kernel
