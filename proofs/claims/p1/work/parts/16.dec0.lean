/-! the law's instructions -/
theorem dl_0 : decode code 0 = .ok (.new 7, 3) := by decide +kernel
theorem dl_3 : decode code 3 = .ok (.dup, 1) := by decide +kernel
theorem dl_4 : decode code 4 = .ok (.invokespecial 9, 3) := by decide +kernel
theorem dl_7 : decode code 7 = .ok (.astore_n 1, 1) := by decide +kernel
theorem dl_8 : decode code 8 = .ok (.new 10, 3) := by decide +kernel
theorem dl_11 : decode code 11 = .ok (.dup, 1) := by decide +kernel
theorem dl_12 : decode code 12 = .ok (.invokespecial 12, 3) := by decide +kernel
theorem dl_15 : decode code 15 = .ok (.astore_n 2, 1) := by decide +kernel
theorem dl_16 : decode code 16 = .ok (.iconst 0, 1) := by decide +kernel
theorem dl_17 : decode code 17 = .ok (.istore_n 3, 1) := by decide +kernel
theorem dl_18 : decode code 18 = .ok (.iload_n 3, 1) := by decide +kernel
theorem dl_19 : decode code 19 = .ok (.aload_n 0, 1) := by decide +kernel
theorem dl_20 : decode code 20 = .ok (.arraylength, 1) := by decide +kernel
theorem dl_21 : decode code 21 = .ok (.bipush 6, 2) := by decide +kernel
theorem dl_23 : decode code 23 = .ok (.isub, 1) := by decide +kernel
theorem dl_24 : decode code 24 = .ok (.if_icmp .gt 701, 3) := by decide +kernel
theorem dl_27 : decode code 27 = .ok (.aload_n 0, 1) := by decide +kernel
theorem dl_28 : decode code 28 = .ok (.iload_n 3, 1) := by decide +kernel
theorem dl_29 : decode code 29 = .ok (.iaload, 1) := by decide +kernel
theorem dl_30 : decode code 30 = .ok (.bipush 31, 2) := by decide +kernel
theorem dl_32 : decode code 32 = .ok (.iand, 1) := by decide +kernel
theorem dl_33 : decode code 33 = .ok (.tableswitch 686 0 18 #[91, 124, 187, 210, 223, 246, 295, 308, 367, 400, 433, 466, 499, 522, 555, 568, 591, 624, 663], 91) := by decide +kernel
theorem dl_124 : decode code 124 = .ok (.aload_n 1, 1) := by decide +kernel
theorem dl_125 : decode code 125 = .ok (.aload_n 0, 1) := by decide +kernel
theorem dl_126 : decode code 126 = .ok (.iload_n 3, 1) := by decide +kernel
theorem dl_127 : decode code 127 = .ok (.iconst 1, 1) := by decide +kernel
theorem dl_128 : decode code 128 = .ok (.iadd, 1) := by decide +kernel
theorem dl_129 : decode code 129 = .ok (.iaload, 1) := by decide +kernel
theorem dl_130 : decode code 130 = .ok (.aload_n 0, 1) := by decide +kernel
theorem dl_131 : decode code 131 = .ok (.iload_n 3, 1) := by decide +kernel
theorem dl_132 : decode code 132 = .ok (.iconst 2, 1) := by decide +kernel
theorem dl_133 : decode code 133 = .ok (.iadd, 1) := by decide +kernel
theorem dl_134 : decode code 134 = .ok (.iaload, 1) := by decide +kernel
theorem dl_135 : decode code 135 = .ok (.invokevirtual 13, 3) := by decide +kernel
theorem dl_138 : decode code 138 = .ok (.aload_n 2, 1) := by decide +kernel
theorem dl_139 : decode code 139 = .ok (.aload_n 0, 1) := by decide +kernel
theorem dl_140 : decode code 140 = .ok (.iload_n 3, 1) := by decide +kernel
theorem dl_141 : decode code 141 = .ok (.iconst 1, 1) := by decide +kernel
theorem dl_142 : decode code 142 = .ok (.iadd, 1) := by decide +kernel
theorem dl_143 : decode code 143 = .ok (.iaload, 1) := by decide +kernel
theorem dl_144 : decode code 144 = .ok (.aload_n 0, 1) := by decide +kernel
theorem dl_145 : decode code 145 = .ok (.iload_n 3, 1) := by decide +kernel
theorem dl_146 : decode code 146 = .ok (.iconst 2, 1) := by decide +kernel
theorem dl_147 : decode code 147 = .ok (.iadd, 1) := by decide +kernel
theorem dl_148 : decode code 148 = .ok (.iaload, 1) := by decide +kernel
theorem dl_149 : decode code 149 = .ok (.invokevirtual 17, 3) := by decide +kernel
theorem dl_152 : decode code 152 = .ok (.if_icmp .eq 567, 3) := by decide +kernel
theorem dl_155 : decode code 155 = .ok (.iconst 0, 1) := by decide +kernel
theorem dl_156 : decode code 156 = .ok (.ireturn, 1) := by decide +kernel
theorem dl_157 : decode code 157 = .ok (.aload_n 1, 1) := by decide +kernel
theorem dl_158 : decode code 158 = .ok (.aload_n 0, 1) := by decide +kernel
theorem dl_159 : decode code 159 = .ok (.iload_n 3, 1) := by decide +kernel
theorem dl_160 : decode code 160 = .ok (.iconst 1, 1) := by decide +kernel
theorem dl_161 : decode code 161 = .ok (.iadd, 1) := by decide +kernel
theorem dl_162 : decode code 162 = .ok (.iaload, 1) := by decide +kernel
theorem dl_163 : decode code 163 = .ok (.aload_n 0, 1) := by decide +kernel
theorem dl_164 : decode code 164 = .ok (.iload_n 3, 1) := by decide +kernel
theorem dl_165 : decode code 165 = .ok (.iconst 2, 1) := by decide +kernel
theorem dl_166 : decode code 166 = .ok (.iadd, 1) := by decide +kernel
theorem dl_167 : decode code 167 = .ok (.iaload, 1) := by decide +kernel
theorem dl_168 : decode code 168 = .ok (.aload_n 0, 1) := by decide +kernel
theorem dl_169 : decode code 169 = .ok (.iload_n 3, 1) := by decide +kernel
theorem dl_170 : decode code 170 = .ok (.iconst 3, 1) := by decide +kernel
theorem dl_171 : decode code 171 = .ok (.iadd, 1) := by decide +kernel
theorem dl_172 : decode code 172 = .ok (.iaload, 1) := by decide +kernel
theorem dl_173 : decode code 173 = .ok (.aload_n 0, 1) := by decide +kernel
theorem dl_174 : decode code 174 = .ok (.iload_n 3, 1) := by decide +kernel
theorem dl_175 : decode code 175 = .ok (.iconst 4, 1) := by decide +kernel
theorem dl_176 : decode code 176 = .ok (.iadd, 1) := by decide +kernel
theorem dl_177 : decode code 177 = .ok (.iaload, 1) := by decide +kernel
theorem dl_178 : decode code 178 = .ok (.aload_n 0, 1) := by decide +kernel
theorem dl_179 : decode code 179 = .ok (.iload_n 3, 1) := by decide +kernel
theorem dl_180 : decode code 180 = .ok (.iconst 5, 1) := by decide +kernel
theorem dl_181 : decode code 181 = .ok (.iadd, 1) := by decide +kernel
theorem dl_182 : decode code 182 = .ok (.iaload, 1) := by decide +kernel
theorem dl_183 : decode code 183 = .ok (.invokevirtual 18, 3) := by decide +kernel
theorem dl_186 : decode code 186 = .ok (.aload_n 2, 1) := by decide +kernel
theorem dl_187 : decode code 187 = .ok (.aload_n 0, 1) := by decide +kernel
theorem dl_188 : decode code 188 = .ok (.iload_n 3, 1) := by decide +kernel
theorem dl_189 : decode code 189 = .ok (.iconst 1, 1) := by decide +kernel
theorem dl_190 : decode code 190 = .ok (.iadd, 1) := by decide +kernel
theorem dl_191 : decode code 191 = .ok (.iaload, 1) := by decide +kernel
theorem dl_192 : decode code 192 = .ok (.aload_n 0, 1) := by decide +kernel
theorem dl_193 : decode code 193 = .ok (.iload_n 3, 1) := by decide +kernel
theorem dl_194 : decode code 194 = .ok (.iconst 2, 1) := by decide +kernel
theorem dl_195 : decode code 195 = .ok (.iadd, 1) := by decide +kernel
theorem dl_196 : decode code 196 = .ok (.iaload, 1) := by decide +kernel
theorem dl_197 : decode code 197 = .ok (.aload_n 0, 1) := by decide +kernel
theorem dl_198 : decode code 198 = .ok (.iload_n 3, 1) := by decide +kernel
theorem dl_199 : decode code 199 = .ok (.iconst 3, 1) := by decide +kernel
theorem dl_200 : decode code 200 = .ok (.iadd, 1) := by decide +kernel
theorem dl_201 : decode code 201 = .ok (.iaload, 1) := by decide +kernel
theorem dl_202 : decode code 202 = .ok (.aload_n 0, 1) := by decide +kernel
theorem dl_203 : decode code 203 = .ok (.iload_n 3, 1) := by decide +kernel
theorem dl_204 : decode code 204 = .ok (.iconst 4, 1) := by decide +kernel
theorem dl_205 : decode code 205 = .ok (.iadd, 1) := by decide +kernel
theorem dl_206 : decode code 206 = .ok (.iaload, 1) := by decide +kernel
theorem dl_207 : decode code 207 = .ok (.aload_n 0, 1) := by decide +kernel
theorem dl_208 : decode code 208 = .ok (.iload_n 3, 1) := by decide +kernel
theorem dl_209 : decode code 209 = .ok (.iconst 5, 1) := by decide +kernel
theorem dl_210 : decode code 210 = .ok (.iadd, 1) := by decide +kernel
theorem dl_211 : decode code 211 = .ok (.iaload, 1) := by decide +kernel
theorem dl_212 : decode code 212 = .ok (.invokevirtual 22, 3) := by decide +kernel
theorem dl_215 : decode code 215 = .ok (.if_icmp .eq 504, 3) := by decide +kernel
theorem dl_218 : decode code 218 = .ok (.iconst 0, 1) := by decide +kernel
theorem dl_219 : decode code 219 = .ok (.ireturn, 1) := by decide +kernel
theorem dl_220 : decode code 220 = .ok (.aload_n 1, 1) := by decide +kernel
theorem dl_221 : decode code 221 = .ok (.aload_n 0, 1) := by decide +kernel
theorem dl_222 : decode code 222 = .ok (.iload_n 3, 1) := by decide +kernel
theorem dl_223 : decode code 223 = .ok (.iconst 1, 1) := by decide +kernel
theorem dl_224 : decode code 224 = .ok (.iadd, 1) := by decide +kernel
theorem dl_225 : decode code 225 = .ok (.iaload, 1) := by decide +kernel
theorem dl_226 : decode code 226 = .ok (.invokevirtual 23, 3) := by decide +kernel
theorem dl_229 : decode code 229 = .ok (.aload_n 2, 1) := by decide +kernel
theorem dl_230 : decode code 230 = .ok (.aload_n 0, 1) := by decide +kernel
theorem dl_231 : decode code 231 = .ok (.iload_n 3, 1) := by decide +kernel
theorem dl_232 : decode code 232 = .ok (.iconst 1, 1) := by decide +kernel
theorem dl_233 : decode code 233 = .ok (.iadd, 1) := by decide +kernel
theorem dl_234 : decode code 234 = .ok (.iaload, 1) := by decide +kernel
theorem dl_235 : decode code 235 = .ok (.invokevirtual 27, 3) := by decide +kernel
theorem dl_238 : decode code 238 = .ok (.if_icmp .eq 481, 3) := by decide +kernel
theorem dl_241 : decode code 241 = .ok (.iconst 0, 1) := by decide +kernel
theorem dl_242 : decode code 242 = .ok (.ireturn, 1) := by decide +kernel
theorem dl_243 : decode code 243 = .ok (.aload_n 1, 1) := by decide +kernel
theorem dl_244 : decode code 244 = .ok (.invokevirtual 28, 3) := by decide +kernel
theorem dl_247 : decode code 247 = .ok (.aload_n 2, 1) := by decide +kernel
theorem dl_248 : decode code 248 = .ok (.invokevirtual 32, 3) := by decide +kernel
theorem dl_251 : decode code 251 = .ok (.if_icmp .eq 468, 3) := by decide +kernel
theorem dl_254 : decode code 254 = .ok (.iconst 0, 1) := by decide +kernel
theorem dl_255 : decode code 255 = .ok (.ireturn, 1) := by decide +kernel
theorem dl_256 : decode code 256 = .ok (.aload_n 1, 1) := by decide +kernel
theorem dl_257 : decode code 257 = .ok (.aload_n 0, 1) := by decide +kernel
theorem dl_258 : decode code 258 = .ok (.iload_n 3, 1) := by decide +kernel
theorem dl_259 : decode code 259 = .ok (.iconst 1, 1) := by decide +kernel
theorem dl_260 : decode code 260 = .ok (.iadd, 1) := by decide +kernel
theorem dl_261 : decode code 261 = .ok (.iaload, 1) := by decide +kernel
theorem dl_262 : decode code 262 = .ok (.invokevirtual 33, 3) := by decide +kernel
theorem dl_265 : decode code 265 = .ok (.aload_n 2, 1) := by decide +kernel
theorem dl_266 : decode code 266 = .ok (.aload_n 0, 1) := by decide +kernel
theorem dl_267 : decode code 267 = .ok (.iload_n 3, 1) := by decide +kernel
theorem dl_268 : decode code 268 = .ok (.iconst 1, 1) := by decide +kernel
theorem dl_269 : decode code 269 = .ok (.iadd, 1) := by decide +kernel
theorem dl_270 : decode code 270 = .ok (.iaload, 1) := by decide +kernel
theorem dl_271 : decode code 271 = .ok (.invokevirtual 37, 3) := by decide +kernel
theorem dl_274 : decode code 274 = .ok (.if_icmp .eq 445, 3) := by decide +kernel
theorem dl_277 : decode code 277 = .ok (.iconst 0, 1) := by decide +kernel
theorem dl_278 : decode code 278 = .ok (.ireturn, 1) := by decide +kernel
theorem dl_279 : decode code 279 = .ok (.aload_n 1, 1) := by decide +kernel
theorem dl_280 : decode code 280 = .ok (.aload_n 0, 1) := by decide +kernel
theorem dl_281 : decode code 281 = .ok (.iload_n 3, 1) := by decide +kernel
theorem dl_282 : decode code 282 = .ok (.iconst 1, 1) := by decide +kernel
theorem dl_283 : decode code 283 = .ok (.iadd, 1) := by decide +kernel
theorem dl_284 : decode code 284 = .ok (.iaload, 1) := by decide +kernel
theorem dl_285 : decode code 285 = .ok (.aload_n 0, 1) := by decide +kernel
theorem dl_286 : decode code 286 = .ok (.iload_n 3, 1) := by decide +kernel
theorem dl_287 : decode code 287 = .ok (.iconst 2, 1) := by decide +kernel
theorem dl_288 : decode code 288 = .ok (.iadd, 1) := by decide +kernel
theorem dl_289 : decode code 289 = .ok (.iaload, 1) := by decide +kernel
theorem dl_290 : decode code 290 = .ok (.ifCond .eq 7, 3) := by decide +kernel
theorem dl_293 : decode code 293 = .ok (.iconst 1, 1) := by decide +kernel
theorem dl_294 : decode code 294 = .ok (.goto 4, 3) := by decide +kernel
