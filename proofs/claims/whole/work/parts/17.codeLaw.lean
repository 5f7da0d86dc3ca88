/-! what stands at each place of the methods: Law -/
theorem i_Law_law_0 : mj_Nw y_Law_law 0 7 := ⟨by decide, 7, by decide +kernel, mm_14, mm_15, mm_1⟩
theorem i_Law_law_3 : decode y_Law_law.2.1 3 = .ok (.dup, 1) := by decide +kernel
theorem i_Law_law_4 : mj_Ci y_Law_law 4 y_GW_init 0 := ⟨mt_GW_init, rfl, rfl, 9, by decide +kernel, mm_17, .inl mm_16⟩
theorem i_Law_law_7 : mj_St y_Law_law 7 1 1 2 := .inr (.inr ⟨rfl, .inr ⟨rfl, 1, rfl, by decide +kernel⟩⟩)
theorem i_Law_law_8 : mj_Nw y_Law_law 8 8 := ⟨by decide, 10, by decide +kernel, mm_726, mm_727, mm_8⟩
theorem i_Law_law_11 : decode y_Law_law.2.1 11 = .ok (.dup, 1) := by decide +kernel
theorem i_Law_law_12 : mj_Ci y_Law_law 12 y_Model_init 0 := ⟨mt_Model_init, rfl, rfl, 12, by decide +kernel, mm_729, .inl mm_728⟩
theorem i_Law_law_15 : mj_St y_Law_law 15 1 2 2 := .inr (.inr ⟨rfl, .inr ⟨rfl, 2, rfl, by decide +kernel⟩⟩)
theorem i_Law_law_16 : mj_Kc y_Law_law 16 1 (.int 0) := .inl ⟨0, by decide +kernel, rfl, by decide +kernel⟩
theorem i_Law_law_17 : mj_St y_Law_law 17 1 3 0 := .inl ⟨rfl, .inr ⟨rfl, 3, rfl, by decide +kernel⟩⟩
theorem i_Law_law_18 : mj_Ld y_Law_law 18 1 3 0 := .inl ⟨rfl, .inr ⟨rfl, 3, rfl, by decide +kernel⟩⟩
theorem i_Law_law_19 : mj_Ld y_Law_law 19 1 0 2 := .inr (.inr ⟨rfl, .inr ⟨rfl, 0, rfl, by decide +kernel⟩⟩)
theorem i_Law_law_20 : decode y_Law_law.2.1 20 = .ok (.arraylength, 1) := by decide +kernel
theorem i_Law_law_21 : mj_Kc y_Law_law 21 1 (.int 4) := .inl ⟨4, by decide +kernel, rfl, by decide +kernel⟩
theorem i_Law_law_22 : mj_B2 y_Law_law 22 (fun (a b : Int32) => a - b) := .inr (.inl ⟨by decide +kernel, rfl⟩)
theorem i_Law_law_23 : mj_Ic y_Law_law 23 991 (fun (a b : Int32) => b < a) := ⟨968, by decide, .inr (.inr (.inr (.inr (.inl ⟨by decide +kernel, rfl⟩))))⟩
theorem i_Law_law_26 : mj_Ld y_Law_law 26 1 0 2 := .inr (.inr ⟨rfl, .inr ⟨rfl, 0, rfl, by decide +kernel⟩⟩)
theorem i_Law_law_27 : mj_Ld y_Law_law 27 1 3 0 := .inl ⟨rfl, .inr ⟨rfl, 3, rfl, by decide +kernel⟩⟩
theorem i_Law_law_28 : decode y_Law_law.2.1 28 = .ok (.iaload, 1) := by decide +kernel
theorem i_Law_law_29 : mj_Kc y_Law_law 29 2 (.int 31) := .inr (.inl ⟨31, by decide +kernel, rfl, by decide +kernel⟩)
theorem i_Law_law_31 : mj_B2 y_Law_law 31 (fun (a b : Int32) => a &&& b) := .inr (.inr (.inr (.inl ⟨by decide +kernel, rfl⟩)))
theorem i_Law_law_32_d : decode y_Law_law.2.1 32 = .ok (.tableswitch 953 0 30 #[140, 173, 216, 239, 272, 305, 348, 381, 414, 447, 460, 493, 526, 539, 572, 595, 618, 641, 664, 687, 700, 713, 726, 739, 772, 815, 828, 851, 884, 917, 930], 140) := by decide +kernel
theorem i_Law_law_32_o {k : Int32} (h : k.toInt < 0 ∨ 30 < k.toInt) : mj_Sw y_Law_law 32 k 985 := ⟨_, _, _, _, _, i_Law_law_32_d, .inl ⟨h, by decide⟩⟩
theorem i_Law_law_32_0 : mj_Sw y_Law_law 32 0 172 := ⟨_, _, _, _, _, i_Law_law_32_d, .inr ⟨by decide, by decide, 140, by decide, by decide⟩⟩
theorem i_Law_law_32_1 : mj_Sw y_Law_law 32 1 205 := ⟨_, _, _, _, _, i_Law_law_32_d, .inr ⟨by decide, by decide, 173, by decide, by decide⟩⟩
theorem i_Law_law_32_2 : mj_Sw y_Law_law 32 2 248 := ⟨_, _, _, _, _, i_Law_law_32_d, .inr ⟨by decide, by decide, 216, by decide, by decide⟩⟩
theorem i_Law_law_32_3 : mj_Sw y_Law_law 32 3 271 := ⟨_, _, _, _, _, i_Law_law_32_d, .inr ⟨by decide, by decide, 239, by decide, by decide⟩⟩
theorem i_Law_law_32_4 : mj_Sw y_Law_law 32 4 304 := ⟨_, _, _, _, _, i_Law_law_32_d, .inr ⟨by decide, by decide, 272, by decide, by decide⟩⟩
theorem i_Law_law_32_5 : mj_Sw y_Law_law 32 5 337 := ⟨_, _, _, _, _, i_Law_law_32_d, .inr ⟨by decide, by decide, 305, by decide, by decide⟩⟩
theorem i_Law_law_32_6 : mj_Sw y_Law_law 32 6 380 := ⟨_, _, _, _, _, i_Law_law_32_d, .inr ⟨by decide, by decide, 348, by decide, by decide⟩⟩
theorem i_Law_law_32_7 : mj_Sw y_Law_law 32 7 413 := ⟨_, _, _, _, _, i_Law_law_32_d, .inr ⟨by decide, by decide, 381, by decide, by decide⟩⟩
theorem i_Law_law_32_8 : mj_Sw y_Law_law 32 8 446 := ⟨_, _, _, _, _, i_Law_law_32_d, .inr ⟨by decide, by decide, 414, by decide, by decide⟩⟩
theorem i_Law_law_32_9 : mj_Sw y_Law_law 32 9 479 := ⟨_, _, _, _, _, i_Law_law_32_d, .inr ⟨by decide, by decide, 447, by decide, by decide⟩⟩
theorem i_Law_law_32_10 : mj_Sw y_Law_law 32 10 492 := ⟨_, _, _, _, _, i_Law_law_32_d, .inr ⟨by decide, by decide, 460, by decide, by decide⟩⟩
theorem i_Law_law_32_11 : mj_Sw y_Law_law 32 11 525 := ⟨_, _, _, _, _, i_Law_law_32_d, .inr ⟨by decide, by decide, 493, by decide, by decide⟩⟩
theorem i_Law_law_32_12 : mj_Sw y_Law_law 32 12 558 := ⟨_, _, _, _, _, i_Law_law_32_d, .inr ⟨by decide, by decide, 526, by decide, by decide⟩⟩
theorem i_Law_law_32_13 : mj_Sw y_Law_law 32 13 571 := ⟨_, _, _, _, _, i_Law_law_32_d, .inr ⟨by decide, by decide, 539, by decide, by decide⟩⟩
theorem i_Law_law_32_14 : mj_Sw y_Law_law 32 14 604 := ⟨_, _, _, _, _, i_Law_law_32_d, .inr ⟨by decide, by decide, 572, by decide, by decide⟩⟩
theorem i_Law_law_32_15 : mj_Sw y_Law_law 32 15 627 := ⟨_, _, _, _, _, i_Law_law_32_d, .inr ⟨by decide, by decide, 595, by decide, by decide⟩⟩
theorem i_Law_law_32_16 : mj_Sw y_Law_law 32 16 650 := ⟨_, _, _, _, _, i_Law_law_32_d, .inr ⟨by decide, by decide, 618, by decide, by decide⟩⟩
theorem i_Law_law_32_17 : mj_Sw y_Law_law 32 17 673 := ⟨_, _, _, _, _, i_Law_law_32_d, .inr ⟨by decide, by decide, 641, by decide, by decide⟩⟩
theorem i_Law_law_32_18 : mj_Sw y_Law_law 32 18 696 := ⟨_, _, _, _, _, i_Law_law_32_d, .inr ⟨by decide, by decide, 664, by decide, by decide⟩⟩
theorem i_Law_law_32_19 : mj_Sw y_Law_law 32 19 719 := ⟨_, _, _, _, _, i_Law_law_32_d, .inr ⟨by decide, by decide, 687, by decide, by decide⟩⟩
theorem i_Law_law_32_20 : mj_Sw y_Law_law 32 20 732 := ⟨_, _, _, _, _, i_Law_law_32_d, .inr ⟨by decide, by decide, 700, by decide, by decide⟩⟩
theorem i_Law_law_32_21 : mj_Sw y_Law_law 32 21 745 := ⟨_, _, _, _, _, i_Law_law_32_d, .inr ⟨by decide, by decide, 713, by decide, by decide⟩⟩
theorem i_Law_law_32_22 : mj_Sw y_Law_law 32 22 758 := ⟨_, _, _, _, _, i_Law_law_32_d, .inr ⟨by decide, by decide, 726, by decide, by decide⟩⟩
theorem i_Law_law_32_23 : mj_Sw y_Law_law 32 23 771 := ⟨_, _, _, _, _, i_Law_law_32_d, .inr ⟨by decide, by decide, 739, by decide, by decide⟩⟩
theorem i_Law_law_32_24 : mj_Sw y_Law_law 32 24 804 := ⟨_, _, _, _, _, i_Law_law_32_d, .inr ⟨by decide, by decide, 772, by decide, by decide⟩⟩
theorem i_Law_law_32_25 : mj_Sw y_Law_law 32 25 847 := ⟨_, _, _, _, _, i_Law_law_32_d, .inr ⟨by decide, by decide, 815, by decide, by decide⟩⟩
theorem i_Law_law_32_26 : mj_Sw y_Law_law 32 26 860 := ⟨_, _, _, _, _, i_Law_law_32_d, .inr ⟨by decide, by decide, 828, by decide, by decide⟩⟩
theorem i_Law_law_32_27 : mj_Sw y_Law_law 32 27 883 := ⟨_, _, _, _, _, i_Law_law_32_d, .inr ⟨by decide, by decide, 851, by decide, by decide⟩⟩
theorem i_Law_law_32_28 : mj_Sw y_Law_law 32 28 916 := ⟨_, _, _, _, _, i_Law_law_32_d, .inr ⟨by decide, by decide, 884, by decide, by decide⟩⟩
theorem i_Law_law_32_29 : mj_Sw y_Law_law 32 29 949 := ⟨_, _, _, _, _, i_Law_law_32_d, .inr ⟨by decide, by decide, 917, by decide, by decide⟩⟩
theorem i_Law_law_32_30 : mj_Sw y_Law_law 32 30 962 := ⟨_, _, _, _, _, i_Law_law_32_d, .inr ⟨by decide, by decide, 930, by decide, by decide⟩⟩
theorem i_Law_law_172 : mj_Ld y_Law_law 172 1 1 2 := .inr (.inr ⟨rfl, .inr ⟨rfl, 1, rfl, by decide +kernel⟩⟩)
theorem i_Law_law_173 : mj_Ld y_Law_law 173 1 0 2 := .inr (.inr ⟨rfl, .inr ⟨rfl, 0, rfl, by decide +kernel⟩⟩)
theorem i_Law_law_174 : mj_Ld y_Law_law 174 1 3 0 := .inl ⟨rfl, .inr ⟨rfl, 3, rfl, by decide +kernel⟩⟩
theorem i_Law_law_175 : mj_Kc y_Law_law 175 1 (.int 1) := .inl ⟨1, by decide +kernel, rfl, by decide +kernel⟩
theorem i_Law_law_176 : mj_B2 y_Law_law 176 (fun (a b : Int32) => a + b) := .inl ⟨by decide +kernel, rfl⟩
theorem i_Law_law_177 : decode y_Law_law.2.1 177 = .ok (.iaload, 1) := by decide +kernel
theorem i_Law_law_178 : mj_Ld y_Law_law 178 1 0 2 := .inr (.inr ⟨rfl, .inr ⟨rfl, 0, rfl, by decide +kernel⟩⟩)
theorem i_Law_law_179 : mj_Ld y_Law_law 179 1 3 0 := .inl ⟨rfl, .inr ⟨rfl, 3, rfl, by decide +kernel⟩⟩
theorem i_Law_law_180 : mj_Kc y_Law_law 180 1 (.int 2) := .inl ⟨2, by decide +kernel, rfl, by decide +kernel⟩
theorem i_Law_law_181 : mj_B2 y_Law_law 181 (fun (a b : Int32) => a + b) := .inl ⟨by decide +kernel, rfl⟩
theorem i_Law_law_182 : decode y_Law_law.2.1 182 = .ok (.iaload, 1) := by decide +kernel
theorem i_Law_law_183 : mj_Cv y_Law_law 183 y_GW_room 7 2 := ⟨by decide, rfl, mt_GW_room, 13, by decide +kernel, mm_199, mm_200, mm_201⟩
theorem i_Law_law_186 : mj_Ld y_Law_law 186 1 2 2 := .inr (.inr ⟨rfl, .inr ⟨rfl, 2, rfl, by decide +kernel⟩⟩)
theorem i_Law_law_187 : mj_Ld y_Law_law 187 1 0 2 := .inr (.inr ⟨rfl, .inr ⟨rfl, 0, rfl, by decide +kernel⟩⟩)
theorem i_Law_law_188 : mj_Ld y_Law_law 188 1 3 0 := .inl ⟨rfl, .inr ⟨rfl, 3, rfl, by decide +kernel⟩⟩
theorem i_Law_law_189 : mj_Kc y_Law_law 189 1 (.int 1) := .inl ⟨1, by decide +kernel, rfl, by decide +kernel⟩
theorem i_Law_law_190 : mj_B2 y_Law_law 190 (fun (a b : Int32) => a + b) := .inl ⟨by decide +kernel, rfl⟩
theorem i_Law_law_191 : decode y_Law_law.2.1 191 = .ok (.iaload, 1) := by decide +kernel
theorem i_Law_law_192 : mj_Ld y_Law_law 192 1 0 2 := .inr (.inr ⟨rfl, .inr ⟨rfl, 0, rfl, by decide +kernel⟩⟩)
theorem i_Law_law_193 : mj_Ld y_Law_law 193 1 3 0 := .inl ⟨rfl, .inr ⟨rfl, 3, rfl, by decide +kernel⟩⟩
theorem i_Law_law_194 : mj_Kc y_Law_law 194 1 (.int 2) := .inl ⟨2, by decide +kernel, rfl, by decide +kernel⟩
theorem i_Law_law_195 : mj_B2 y_Law_law 195 (fun (a b : Int32) => a + b) := .inl ⟨by decide +kernel, rfl⟩
theorem i_Law_law_196 : decode y_Law_law.2.1 196 = .ok (.iaload, 1) := by decide +kernel
theorem i_Law_law_197 : mj_Cv y_Law_law 197 y_Model_room 8 2 := ⟨by decide, rfl, mt_Model_room, 17, by decide +kernel, mm_814, mm_815, mm_816⟩
theorem i_Law_law_200 : mj_Ic y_Law_law 200 985 (fun (a b : Int32) => a = b) := ⟨785, by decide, .inl ⟨by decide +kernel, rfl⟩⟩
theorem i_Law_law_203 : mj_Kc y_Law_law 203 1 (.int 0) := .inl ⟨0, by decide +kernel, rfl, by decide +kernel⟩
theorem i_Law_law_204 : decode y_Law_law.2.1 204 = .ok (.ireturn, 1) := by decide +kernel
theorem i_Law_law_205 : mj_Ld y_Law_law 205 1 1 2 := .inr (.inr ⟨rfl, .inr ⟨rfl, 1, rfl, by decide +kernel⟩⟩)
theorem i_Law_law_206 : mj_Ld y_Law_law 206 1 0 2 := .inr (.inr ⟨rfl, .inr ⟨rfl, 0, rfl, by decide +kernel⟩⟩)
theorem i_Law_law_207 : mj_Ld y_Law_law 207 1 3 0 := .inl ⟨rfl, .inr ⟨rfl, 3, rfl, by decide +kernel⟩⟩
theorem i_Law_law_208 : mj_Kc y_Law_law 208 1 (.int 1) := .inl ⟨1, by decide +kernel, rfl, by decide +kernel⟩
theorem i_Law_law_209 : mj_B2 y_Law_law 209 (fun (a b : Int32) => a + b) := .inl ⟨by decide +kernel, rfl⟩
theorem i_Law_law_210 : decode y_Law_law.2.1 210 = .ok (.iaload, 1) := by decide +kernel
theorem i_Law_law_211 : mj_Ld y_Law_law 211 1 0 2 := .inr (.inr ⟨rfl, .inr ⟨rfl, 0, rfl, by decide +kernel⟩⟩)
theorem i_Law_law_212 : mj_Ld y_Law_law 212 1 3 0 := .inl ⟨rfl, .inr ⟨rfl, 3, rfl, by decide +kernel⟩⟩
theorem i_Law_law_213 : mj_Kc y_Law_law 213 1 (.int 2) := .inl ⟨2, by decide +kernel, rfl, by decide +kernel⟩
theorem i_Law_law_214 : mj_B2 y_Law_law 214 (fun (a b : Int32) => a + b) := .inl ⟨by decide +kernel, rfl⟩
theorem i_Law_law_215 : decode y_Law_law.2.1 215 = .ok (.iaload, 1) := by decide +kernel
theorem i_Law_law_216 : mj_Ld y_Law_law 216 1 0 2 := .inr (.inr ⟨rfl, .inr ⟨rfl, 0, rfl, by decide +kernel⟩⟩)
theorem i_Law_law_217 : mj_Ld y_Law_law 217 1 3 0 := .inl ⟨rfl, .inr ⟨rfl, 3, rfl, by decide +kernel⟩⟩
theorem i_Law_law_218 : mj_Kc y_Law_law 218 1 (.int 3) := .inl ⟨3, by decide +kernel, rfl, by decide +kernel⟩
theorem i_Law_law_219 : mj_B2 y_Law_law 219 (fun (a b : Int32) => a + b) := .inl ⟨by decide +kernel, rfl⟩
theorem i_Law_law_220 : decode y_Law_law.2.1 220 = .ok (.iaload, 1) := by decide +kernel
theorem i_Law_law_221 : mj_Cv y_Law_law 221 y_GW_wall 7 3 := ⟨by decide, rfl, mt_GW_wall, 18, by decide +kernel, mm_238, mm_239, mm_240⟩
theorem i_Law_law_224 : mj_Ld y_Law_law 224 1 2 2 := .inr (.inr ⟨rfl, .inr ⟨rfl, 2, rfl, by decide +kernel⟩⟩)
theorem i_Law_law_225 : mj_Ld y_Law_law 225 1 0 2 := .inr (.inr ⟨rfl, .inr ⟨rfl, 0, rfl, by decide +kernel⟩⟩)
theorem i_Law_law_226 : mj_Ld y_Law_law 226 1 3 0 := .inl ⟨rfl, .inr ⟨rfl, 3, rfl, by decide +kernel⟩⟩
theorem i_Law_law_227 : mj_Kc y_Law_law 227 1 (.int 1) := .inl ⟨1, by decide +kernel, rfl, by decide +kernel⟩
theorem i_Law_law_228 : mj_B2 y_Law_law 228 (fun (a b : Int32) => a + b) := .inl ⟨by decide +kernel, rfl⟩
theorem i_Law_law_229 : decode y_Law_law.2.1 229 = .ok (.iaload, 1) := by decide +kernel
theorem i_Law_law_230 : mj_Ld y_Law_law 230 1 0 2 := .inr (.inr ⟨rfl, .inr ⟨rfl, 0, rfl, by decide +kernel⟩⟩)
theorem i_Law_law_231 : mj_Ld y_Law_law 231 1 3 0 := .inl ⟨rfl, .inr ⟨rfl, 3, rfl, by decide +kernel⟩⟩
theorem i_Law_law_232 : mj_Kc y_Law_law 232 1 (.int 2) := .inl ⟨2, by decide +kernel, rfl, by decide +kernel⟩
theorem i_Law_law_233 : mj_B2 y_Law_law 233 (fun (a b : Int32) => a + b) := .inl ⟨by decide +kernel, rfl⟩
theorem i_Law_law_234 : decode y_Law_law.2.1 234 = .ok (.iaload, 1) := by decide +kernel
theorem i_Law_law_235 : mj_Ld y_Law_law 235 1 0 2 := .inr (.inr ⟨rfl, .inr ⟨rfl, 0, rfl, by decide +kernel⟩⟩)
theorem i_Law_law_236 : mj_Ld y_Law_law 236 1 3 0 := .inl ⟨rfl, .inr ⟨rfl, 3, rfl, by decide +kernel⟩⟩
theorem i_Law_law_237 : mj_Kc y_Law_law 237 1 (.int 3) := .inl ⟨3, by decide +kernel, rfl, by decide +kernel⟩
theorem i_Law_law_238 : mj_B2 y_Law_law 238 (fun (a b : Int32) => a + b) := .inl ⟨by decide +kernel, rfl⟩
theorem i_Law_law_239 : decode y_Law_law.2.1 239 = .ok (.iaload, 1) := by decide +kernel
theorem i_Law_law_240 : mj_Cv y_Law_law 240 y_Model_wall 8 3 := ⟨by decide, rfl, mt_Model_wall, 22, by decide +kernel, mm_826, mm_827, mm_828⟩
theorem i_Law_law_243 : mj_Ic y_Law_law 243 985 (fun (a b : Int32) => a = b) := ⟨742, by decide, .inl ⟨by decide +kernel, rfl⟩⟩
theorem i_Law_law_246 : mj_Kc y_Law_law 246 1 (.int 0) := .inl ⟨0, by decide +kernel, rfl, by decide +kernel⟩
theorem i_Law_law_247 : decode y_Law_law.2.1 247 = .ok (.ireturn, 1) := by decide +kernel
theorem i_Law_law_248 : mj_Ld y_Law_law 248 1 1 2 := .inr (.inr ⟨rfl, .inr ⟨rfl, 1, rfl, by decide +kernel⟩⟩)
theorem i_Law_law_249 : mj_Ld y_Law_law 249 1 0 2 := .inr (.inr ⟨rfl, .inr ⟨rfl, 0, rfl, by decide +kernel⟩⟩)
theorem i_Law_law_250 : mj_Ld y_Law_law 250 1 3 0 := .inl ⟨rfl, .inr ⟨rfl, 3, rfl, by decide +kernel⟩⟩
theorem i_Law_law_251 : mj_Kc y_Law_law 251 1 (.int 1) := .inl ⟨1, by decide +kernel, rfl, by decide +kernel⟩
theorem i_Law_law_252 : mj_B2 y_Law_law 252 (fun (a b : Int32) => a + b) := .inl ⟨by decide +kernel, rfl⟩
theorem i_Law_law_253 : decode y_Law_law.2.1 253 = .ok (.iaload, 1) := by decide +kernel
theorem i_Law_law_254 : mj_Cv y_Law_law 254 y_GW_isWall 7 1 := ⟨by decide, rfl, mt_GW_isWall, 23, by decide +kernel, mm_319, mm_320, mm_321⟩
theorem i_Law_law_257 : mj_Ld y_Law_law 257 1 2 2 := .inr (.inr ⟨rfl, .inr ⟨rfl, 2, rfl, by decide +kernel⟩⟩)
theorem i_Law_law_258 : mj_Ld y_Law_law 258 1 0 2 := .inr (.inr ⟨rfl, .inr ⟨rfl, 0, rfl, by decide +kernel⟩⟩)
theorem i_Law_law_259 : mj_Ld y_Law_law 259 1 3 0 := .inl ⟨rfl, .inr ⟨rfl, 3, rfl, by decide +kernel⟩⟩
theorem i_Law_law_260 : mj_Kc y_Law_law 260 1 (.int 1) := .inl ⟨1, by decide +kernel, rfl, by decide +kernel⟩
theorem i_Law_law_261 : mj_B2 y_Law_law 261 (fun (a b : Int32) => a + b) := .inl ⟨by decide +kernel, rfl⟩
theorem i_Law_law_262 : decode y_Law_law.2.1 262 = .ok (.iaload, 1) := by decide +kernel
theorem i_Law_law_263 : mj_Cv y_Law_law 263 y_Model_isWall 8 1 := ⟨by decide, rfl, mt_Model_isWall, 27, by decide +kernel, mm_873, mm_874, mm_875⟩
theorem i_Law_law_266 : mj_Ic y_Law_law 266 985 (fun (a b : Int32) => a = b) := ⟨719, by decide, .inl ⟨by decide +kernel, rfl⟩⟩
theorem i_Law_law_269 : mj_Kc y_Law_law 269 1 (.int 0) := .inl ⟨0, by decide +kernel, rfl, by decide +kernel⟩
theorem i_Law_law_270 : decode y_Law_law.2.1 270 = .ok (.ireturn, 1) := by decide +kernel
theorem i_Law_law_271 : mj_Ld y_Law_law 271 1 1 2 := .inr (.inr ⟨rfl, .inr ⟨rfl, 1, rfl, by decide +kernel⟩⟩)
theorem i_Law_law_272 : mj_Ld y_Law_law 272 1 0 2 := .inr (.inr ⟨rfl, .inr ⟨rfl, 0, rfl, by decide +kernel⟩⟩)
theorem i_Law_law_273 : mj_Ld y_Law_law 273 1 3 0 := .inl ⟨rfl, .inr ⟨rfl, 3, rfl, by decide +kernel⟩⟩
theorem i_Law_law_274 : mj_Kc y_Law_law 274 1 (.int 1) := .inl ⟨1, by decide +kernel, rfl, by decide +kernel⟩
theorem i_Law_law_275 : mj_B2 y_Law_law 275 (fun (a b : Int32) => a + b) := .inl ⟨by decide +kernel, rfl⟩
theorem i_Law_law_276 : decode y_Law_law.2.1 276 = .ok (.iaload, 1) := by decide +kernel
theorem i_Law_law_277 : mj_Ld y_Law_law 277 1 0 2 := .inr (.inr ⟨rfl, .inr ⟨rfl, 0, rfl, by decide +kernel⟩⟩)
theorem i_Law_law_278 : mj_Ld y_Law_law 278 1 3 0 := .inl ⟨rfl, .inr ⟨rfl, 3, rfl, by decide +kernel⟩⟩
theorem i_Law_law_279 : mj_Kc y_Law_law 279 1 (.int 2) := .inl ⟨2, by decide +kernel, rfl, by decide +kernel⟩
theorem i_Law_law_280 : mj_B2 y_Law_law 280 (fun (a b : Int32) => a + b) := .inl ⟨by decide +kernel, rfl⟩
theorem i_Law_law_281 : decode y_Law_law.2.1 281 = .ok (.iaload, 1) := by decide +kernel
theorem i_Law_law_282 : mj_Cv y_Law_law 282 y_GW_sight 7 2 := ⟨by decide, rfl, mt_GW_sight, 28, by decide +kernel, mm_327, mm_328, mm_329⟩
theorem i_Law_law_285 : mj_Ld y_Law_law 285 1 2 2 := .inr (.inr ⟨rfl, .inr ⟨rfl, 2, rfl, by decide +kernel⟩⟩)
theorem i_Law_law_286 : mj_Ld y_Law_law 286 1 0 2 := .inr (.inr ⟨rfl, .inr ⟨rfl, 0, rfl, by decide +kernel⟩⟩)
theorem i_Law_law_287 : mj_Ld y_Law_law 287 1 3 0 := .inl ⟨rfl, .inr ⟨rfl, 3, rfl, by decide +kernel⟩⟩
theorem i_Law_law_288 : mj_Kc y_Law_law 288 1 (.int 1) := .inl ⟨1, by decide +kernel, rfl, by decide +kernel⟩
theorem i_Law_law_289 : mj_B2 y_Law_law 289 (fun (a b : Int32) => a + b) := .inl ⟨by decide +kernel, rfl⟩
theorem i_Law_law_290 : decode y_Law_law.2.1 290 = .ok (.iaload, 1) := by decide +kernel
theorem i_Law_law_291 : mj_Ld y_Law_law 291 1 0 2 := .inr (.inr ⟨rfl, .inr ⟨rfl, 0, rfl, by decide +kernel⟩⟩)
theorem i_Law_law_292 : mj_Ld y_Law_law 292 1 3 0 := .inl ⟨rfl, .inr ⟨rfl, 3, rfl, by decide +kernel⟩⟩
theorem i_Law_law_293 : mj_Kc y_Law_law 293 1 (.int 2) := .inl ⟨2, by decide +kernel, rfl, by decide +kernel⟩
theorem i_Law_law_294 : mj_B2 y_Law_law 294 (fun (a b : Int32) => a + b) := .inl ⟨by decide +kernel, rfl⟩
theorem i_Law_law_295 : decode y_Law_law.2.1 295 = .ok (.iaload, 1) := by decide +kernel
theorem i_Law_law_296 : mj_Cv y_Law_law 296 y_Model_sight 8 2 := ⟨by decide, rfl, mt_Model_sight, 31, by decide +kernel, mm_877, mm_878, mm_879⟩
theorem i_Law_law_299 : mj_Ic y_Law_law 299 985 (fun (a b : Int32) => a = b) := ⟨686, by decide, .inl ⟨by decide +kernel, rfl⟩⟩
theorem i_Law_law_302 : mj_Kc y_Law_law 302 1 (.int 0) := .inl ⟨0, by decide +kernel, rfl, by decide +kernel⟩
theorem i_Law_law_303 : decode y_Law_law.2.1 303 = .ok (.ireturn, 1) := by decide +kernel
theorem i_Law_law_304 : mj_Ld y_Law_law 304 1 1 2 := .inr (.inr ⟨rfl, .inr ⟨rfl, 1, rfl, by decide +kernel⟩⟩)
theorem i_Law_law_305 : mj_Ld y_Law_law 305 1 0 2 := .inr (.inr ⟨rfl, .inr ⟨rfl, 0, rfl, by decide +kernel⟩⟩)
theorem i_Law_law_306 : mj_Ld y_Law_law 306 1 3 0 := .inl ⟨rfl, .inr ⟨rfl, 3, rfl, by decide +kernel⟩⟩
theorem i_Law_law_307 : mj_Kc y_Law_law 307 1 (.int 1) := .inl ⟨1, by decide +kernel, rfl, by decide +kernel⟩
theorem i_Law_law_308 : mj_B2 y_Law_law 308 (fun (a b : Int32) => a + b) := .inl ⟨by decide +kernel, rfl⟩
theorem i_Law_law_309 : decode y_Law_law.2.1 309 = .ok (.iaload, 1) := by decide +kernel
theorem i_Law_law_310 : mj_Ld y_Law_law 310 1 0 2 := .inr (.inr ⟨rfl, .inr ⟨rfl, 0, rfl, by decide +kernel⟩⟩)
theorem i_Law_law_311 : mj_Ld y_Law_law 311 1 3 0 := .inl ⟨rfl, .inr ⟨rfl, 3, rfl, by decide +kernel⟩⟩
theorem i_Law_law_312 : mj_Kc y_Law_law 312 1 (.int 2) := .inl ⟨2, by decide +kernel, rfl, by decide +kernel⟩
theorem i_Law_law_313 : mj_B2 y_Law_law 313 (fun (a b : Int32) => a + b) := .inl ⟨by decide +kernel, rfl⟩
theorem i_Law_law_314 : decode y_Law_law.2.1 314 = .ok (.iaload, 1) := by decide +kernel
theorem i_Law_law_315 : mj_Cv y_Law_law 315 y_GW_post 7 2 := ⟨by decide, rfl, mt_GW_post, 32, by decide +kernel, mm_338, mm_339, mm_340⟩
theorem i_Law_law_318 : mj_Ld y_Law_law 318 1 2 2 := .inr (.inr ⟨rfl, .inr ⟨rfl, 2, rfl, by decide +kernel⟩⟩)
theorem i_Law_law_319 : mj_Ld y_Law_law 319 1 0 2 := .inr (.inr ⟨rfl, .inr ⟨rfl, 0, rfl, by decide +kernel⟩⟩)
theorem i_Law_law_320 : mj_Ld y_Law_law 320 1 3 0 := .inl ⟨rfl, .inr ⟨rfl, 3, rfl, by decide +kernel⟩⟩
theorem i_Law_law_321 : mj_Kc y_Law_law 321 1 (.int 1) := .inl ⟨1, by decide +kernel, rfl, by decide +kernel⟩
theorem i_Law_law_322 : mj_B2 y_Law_law 322 (fun (a b : Int32) => a + b) := .inl ⟨by decide +kernel, rfl⟩
theorem i_Law_law_323 : decode y_Law_law.2.1 323 = .ok (.iaload, 1) := by decide +kernel
theorem i_Law_law_324 : mj_Ld y_Law_law 324 1 0 2 := .inr (.inr ⟨rfl, .inr ⟨rfl, 0, rfl, by decide +kernel⟩⟩)
theorem i_Law_law_325 : mj_Ld y_Law_law 325 1 3 0 := .inl ⟨rfl, .inr ⟨rfl, 3, rfl, by decide +kernel⟩⟩
theorem i_Law_law_326 : mj_Kc y_Law_law 326 1 (.int 2) := .inl ⟨2, by decide +kernel, rfl, by decide +kernel⟩
theorem i_Law_law_327 : mj_B2 y_Law_law 327 (fun (a b : Int32) => a + b) := .inl ⟨by decide +kernel, rfl⟩
theorem i_Law_law_328 : decode y_Law_law.2.1 328 = .ok (.iaload, 1) := by decide +kernel
theorem i_Law_law_329 : mj_Cv y_Law_law 329 y_Model_post 8 2 := ⟨by decide, rfl, mt_Model_post, 35, by decide +kernel, mm_892, mm_893, mm_894⟩
theorem i_Law_law_332 : mj_Ic y_Law_law 332 985 (fun (a b : Int32) => a = b) := ⟨653, by decide, .inl ⟨by decide +kernel, rfl⟩⟩
theorem i_Law_law_335 : mj_Kc y_Law_law 335 1 (.int 0) := .inl ⟨0, by decide +kernel, rfl, by decide +kernel⟩
theorem i_Law_law_336 : decode y_Law_law.2.1 336 = .ok (.ireturn, 1) := by decide +kernel
theorem i_Law_law_337 : mj_Ld y_Law_law 337 1 1 2 := .inr (.inr ⟨rfl, .inr ⟨rfl, 1, rfl, by decide +kernel⟩⟩)
theorem i_Law_law_338 : mj_Ld y_Law_law 338 1 0 2 := .inr (.inr ⟨rfl, .inr ⟨rfl, 0, rfl, by decide +kernel⟩⟩)
theorem i_Law_law_339 : mj_Ld y_Law_law 339 1 3 0 := .inl ⟨rfl, .inr ⟨rfl, 3, rfl, by decide +kernel⟩⟩
theorem i_Law_law_340 : mj_Kc y_Law_law 340 1 (.int 1) := .inl ⟨1, by decide +kernel, rfl, by decide +kernel⟩
theorem i_Law_law_341 : mj_B2 y_Law_law 341 (fun (a b : Int32) => a + b) := .inl ⟨by decide +kernel, rfl⟩
theorem i_Law_law_342 : decode y_Law_law.2.1 342 = .ok (.iaload, 1) := by decide +kernel
theorem i_Law_law_343 : mj_Ld y_Law_law 343 1 0 2 := .inr (.inr ⟨rfl, .inr ⟨rfl, 0, rfl, by decide +kernel⟩⟩)
theorem i_Law_law_344 : mj_Ld y_Law_law 344 1 3 0 := .inl ⟨rfl, .inr ⟨rfl, 3, rfl, by decide +kernel⟩⟩
theorem i_Law_law_345 : mj_Kc y_Law_law 345 1 (.int 2) := .inl ⟨2, by decide +kernel, rfl, by decide +kernel⟩
theorem i_Law_law_346 : mj_B2 y_Law_law 346 (fun (a b : Int32) => a + b) := .inl ⟨by decide +kernel, rfl⟩
theorem i_Law_law_347 : decode y_Law_law.2.1 347 = .ok (.iaload, 1) := by decide +kernel
theorem i_Law_law_348 : mj_Ld y_Law_law 348 1 0 2 := .inr (.inr ⟨rfl, .inr ⟨rfl, 0, rfl, by decide +kernel⟩⟩)
theorem i_Law_law_349 : mj_Ld y_Law_law 349 1 3 0 := .inl ⟨rfl, .inr ⟨rfl, 3, rfl, by decide +kernel⟩⟩
theorem i_Law_law_350 : mj_Kc y_Law_law 350 1 (.int 3) := .inl ⟨3, by decide +kernel, rfl, by decide +kernel⟩
theorem i_Law_law_351 : mj_B2 y_Law_law 351 (fun (a b : Int32) => a + b) := .inl ⟨by decide +kernel, rfl⟩
theorem i_Law_law_352 : decode y_Law_law.2.1 352 = .ok (.iaload, 1) := by decide +kernel
theorem i_Law_law_353 : mj_Cv y_Law_law 353 y_GW_aim 7 3 := ⟨by decide, rfl, mt_GW_aim, 36, by decide +kernel, mm_394, mm_395, mm_396⟩
theorem i_Law_law_356 : mj_Ld y_Law_law 356 1 2 2 := .inr (.inr ⟨rfl, .inr ⟨rfl, 2, rfl, by decide +kernel⟩⟩)
theorem i_Law_law_357 : mj_Ld y_Law_law 357 1 0 2 := .inr (.inr ⟨rfl, .inr ⟨rfl, 0, rfl, by decide +kernel⟩⟩)
theorem i_Law_law_358 : mj_Ld y_Law_law 358 1 3 0 := .inl ⟨rfl, .inr ⟨rfl, 3, rfl, by decide +kernel⟩⟩
theorem i_Law_law_359 : mj_Kc y_Law_law 359 1 (.int 1) := .inl ⟨1, by decide +kernel, rfl, by decide +kernel⟩
theorem i_Law_law_360 : mj_B2 y_Law_law 360 (fun (a b : Int32) => a + b) := .inl ⟨by decide +kernel, rfl⟩
theorem i_Law_law_361 : decode y_Law_law.2.1 361 = .ok (.iaload, 1) := by decide +kernel
theorem i_Law_law_362 : mj_Ld y_Law_law 362 1 0 2 := .inr (.inr ⟨rfl, .inr ⟨rfl, 0, rfl, by decide +kernel⟩⟩)
theorem i_Law_law_363 : mj_Ld y_Law_law 363 1 3 0 := .inl ⟨rfl, .inr ⟨rfl, 3, rfl, by decide +kernel⟩⟩
theorem i_Law_law_364 : mj_Kc y_Law_law 364 1 (.int 2) := .inl ⟨2, by decide +kernel, rfl, by decide +kernel⟩
theorem i_Law_law_365 : mj_B2 y_Law_law 365 (fun (a b : Int32) => a + b) := .inl ⟨by decide +kernel, rfl⟩
theorem i_Law_law_366 : decode y_Law_law.2.1 366 = .ok (.iaload, 1) := by decide +kernel
theorem i_Law_law_367 : mj_Ld y_Law_law 367 1 0 2 := .inr (.inr ⟨rfl, .inr ⟨rfl, 0, rfl, by decide +kernel⟩⟩)
theorem i_Law_law_368 : mj_Ld y_Law_law 368 1 3 0 := .inl ⟨rfl, .inr ⟨rfl, 3, rfl, by decide +kernel⟩⟩
theorem i_Law_law_369 : mj_Kc y_Law_law 369 1 (.int 3) := .inl ⟨3, by decide +kernel, rfl, by decide +kernel⟩
theorem i_Law_law_370 : mj_B2 y_Law_law 370 (fun (a b : Int32) => a + b) := .inl ⟨by decide +kernel, rfl⟩
theorem i_Law_law_371 : decode y_Law_law.2.1 371 = .ok (.iaload, 1) := by decide +kernel
theorem i_Law_law_372 : mj_Cv y_Law_law 372 y_Model_aim 8 3 := ⟨by decide, rfl, mt_Model_aim, 39, by decide +kernel, mm_897, mm_898, mm_899⟩
theorem i_Law_law_375 : mj_Ic y_Law_law 375 985 (fun (a b : Int32) => a = b) := ⟨610, by decide, .inl ⟨by decide +kernel, rfl⟩⟩
theorem i_Law_law_378 : mj_Kc y_Law_law 378 1 (.int 0) := .inl ⟨0, by decide +kernel, rfl, by decide +kernel⟩
theorem i_Law_law_379 : decode y_Law_law.2.1 379 = .ok (.ireturn, 1) := by decide +kernel
theorem i_Law_law_380 : mj_Ld y_Law_law 380 1 1 2 := .inr (.inr ⟨rfl, .inr ⟨rfl, 1, rfl, by decide +kernel⟩⟩)
theorem i_Law_law_381 : mj_Ld y_Law_law 381 1 0 2 := .inr (.inr ⟨rfl, .inr ⟨rfl, 0, rfl, by decide +kernel⟩⟩)
theorem i_Law_law_382 : mj_Ld y_Law_law 382 1 3 0 := .inl ⟨rfl, .inr ⟨rfl, 3, rfl, by decide +kernel⟩⟩
theorem i_Law_law_383 : mj_Kc y_Law_law 383 1 (.int 1) := .inl ⟨1, by decide +kernel, rfl, by decide +kernel⟩
theorem i_Law_law_384 : mj_B2 y_Law_law 384 (fun (a b : Int32) => a + b) := .inl ⟨by decide +kernel, rfl⟩
theorem i_Law_law_385 : decode y_Law_law.2.1 385 = .ok (.iaload, 1) := by decide +kernel
theorem i_Law_law_386 : mj_Ld y_Law_law 386 1 0 2 := .inr (.inr ⟨rfl, .inr ⟨rfl, 0, rfl, by decide +kernel⟩⟩)
theorem i_Law_law_387 : mj_Ld y_Law_law 387 1 3 0 := .inl ⟨rfl, .inr ⟨rfl, 3, rfl, by decide +kernel⟩⟩
theorem i_Law_law_388 : mj_Kc y_Law_law 388 1 (.int 2) := .inl ⟨2, by decide +kernel, rfl, by decide +kernel⟩
theorem i_Law_law_389 : mj_B2 y_Law_law 389 (fun (a b : Int32) => a + b) := .inl ⟨by decide +kernel, rfl⟩
theorem i_Law_law_390 : decode y_Law_law.2.1 390 = .ok (.iaload, 1) := by decide +kernel
theorem i_Law_law_391 : mj_Cv y_Law_law 391 y_GW_reach 7 2 := ⟨by decide, rfl, mt_GW_reach, 40, by decide +kernel, mm_415, mm_416, mm_417⟩
theorem i_Law_law_394 : mj_Ld y_Law_law 394 1 2 2 := .inr (.inr ⟨rfl, .inr ⟨rfl, 2, rfl, by decide +kernel⟩⟩)
theorem i_Law_law_395 : mj_Ld y_Law_law 395 1 0 2 := .inr (.inr ⟨rfl, .inr ⟨rfl, 0, rfl, by decide +kernel⟩⟩)
theorem i_Law_law_396 : mj_Ld y_Law_law 396 1 3 0 := .inl ⟨rfl, .inr ⟨rfl, 3, rfl, by decide +kernel⟩⟩
theorem i_Law_law_397 : mj_Kc y_Law_law 397 1 (.int 1) := .inl ⟨1, by decide +kernel, rfl, by decide +kernel⟩
theorem i_Law_law_398 : mj_B2 y_Law_law 398 (fun (a b : Int32) => a + b) := .inl ⟨by decide +kernel, rfl⟩
theorem i_Law_law_399 : decode y_Law_law.2.1 399 = .ok (.iaload, 1) := by decide +kernel
theorem i_Law_law_400 : mj_Ld y_Law_law 400 1 0 2 := .inr (.inr ⟨rfl, .inr ⟨rfl, 0, rfl, by decide +kernel⟩⟩)
theorem i_Law_law_401 : mj_Ld y_Law_law 401 1 3 0 := .inl ⟨rfl, .inr ⟨rfl, 3, rfl, by decide +kernel⟩⟩
theorem i_Law_law_402 : mj_Kc y_Law_law 402 1 (.int 2) := .inl ⟨2, by decide +kernel, rfl, by decide +kernel⟩
theorem i_Law_law_403 : mj_B2 y_Law_law 403 (fun (a b : Int32) => a + b) := .inl ⟨by decide +kernel, rfl⟩
theorem i_Law_law_404 : decode y_Law_law.2.1 404 = .ok (.iaload, 1) := by decide +kernel
theorem i_Law_law_405 : mj_Cv y_Law_law 405 y_Model_reach 8 2 := ⟨by decide, rfl, mt_Model_reach, 43, by decide +kernel, mm_911, mm_912, mm_913⟩
theorem i_Law_law_408 : mj_Ic y_Law_law 408 985 (fun (a b : Int32) => a = b) := ⟨577, by decide, .inl ⟨by decide +kernel, rfl⟩⟩
theorem i_Law_law_411 : mj_Kc y_Law_law 411 1 (.int 0) := .inl ⟨0, by decide +kernel, rfl, by decide +kernel⟩
theorem i_Law_law_412 : decode y_Law_law.2.1 412 = .ok (.ireturn, 1) := by decide +kernel
theorem i_Law_law_413 : mj_Ld y_Law_law 413 1 1 2 := .inr (.inr ⟨rfl, .inr ⟨rfl, 1, rfl, by decide +kernel⟩⟩)
theorem i_Law_law_414 : mj_Ld y_Law_law 414 1 0 2 := .inr (.inr ⟨rfl, .inr ⟨rfl, 0, rfl, by decide +kernel⟩⟩)
theorem i_Law_law_415 : mj_Ld y_Law_law 415 1 3 0 := .inl ⟨rfl, .inr ⟨rfl, 3, rfl, by decide +kernel⟩⟩
theorem i_Law_law_416 : mj_Kc y_Law_law 416 1 (.int 1) := .inl ⟨1, by decide +kernel, rfl, by decide +kernel⟩
theorem i_Law_law_417 : mj_B2 y_Law_law 417 (fun (a b : Int32) => a + b) := .inl ⟨by decide +kernel, rfl⟩
theorem i_Law_law_418 : decode y_Law_law.2.1 418 = .ok (.iaload, 1) := by decide +kernel
theorem i_Law_law_419 : mj_Ld y_Law_law 419 1 0 2 := .inr (.inr ⟨rfl, .inr ⟨rfl, 0, rfl, by decide +kernel⟩⟩)
theorem i_Law_law_420 : mj_Ld y_Law_law 420 1 3 0 := .inl ⟨rfl, .inr ⟨rfl, 3, rfl, by decide +kernel⟩⟩
theorem i_Law_law_421 : mj_Kc y_Law_law 421 1 (.int 2) := .inl ⟨2, by decide +kernel, rfl, by decide +kernel⟩
theorem i_Law_law_422 : mj_B2 y_Law_law 422 (fun (a b : Int32) => a + b) := .inl ⟨by decide +kernel, rfl⟩
theorem i_Law_law_423 : decode y_Law_law.2.1 423 = .ok (.iaload, 1) := by decide +kernel
theorem i_Law_law_424 : mj_Cv y_Law_law 424 y_GW_move 7 2 := ⟨by decide, rfl, mt_GW_move, 44, by decide +kernel, mm_419, mm_420, mm_421⟩
theorem i_Law_law_427 : mj_Ld y_Law_law 427 1 2 2 := .inr (.inr ⟨rfl, .inr ⟨rfl, 2, rfl, by decide +kernel⟩⟩)
theorem i_Law_law_428 : mj_Ld y_Law_law 428 1 0 2 := .inr (.inr ⟨rfl, .inr ⟨rfl, 0, rfl, by decide +kernel⟩⟩)
theorem i_Law_law_429 : mj_Ld y_Law_law 429 1 3 0 := .inl ⟨rfl, .inr ⟨rfl, 3, rfl, by decide +kernel⟩⟩
theorem i_Law_law_430 : mj_Kc y_Law_law 430 1 (.int 1) := .inl ⟨1, by decide +kernel, rfl, by decide +kernel⟩
theorem i_Law_law_431 : mj_B2 y_Law_law 431 (fun (a b : Int32) => a + b) := .inl ⟨by decide +kernel, rfl⟩
theorem i_Law_law_432 : decode y_Law_law.2.1 432 = .ok (.iaload, 1) := by decide +kernel
theorem i_Law_law_433 : mj_Ld y_Law_law 433 1 0 2 := .inr (.inr ⟨rfl, .inr ⟨rfl, 0, rfl, by decide +kernel⟩⟩)
theorem i_Law_law_434 : mj_Ld y_Law_law 434 1 3 0 := .inl ⟨rfl, .inr ⟨rfl, 3, rfl, by decide +kernel⟩⟩
theorem i_Law_law_435 : mj_Kc y_Law_law 435 1 (.int 2) := .inl ⟨2, by decide +kernel, rfl, by decide +kernel⟩
theorem i_Law_law_436 : mj_B2 y_Law_law 436 (fun (a b : Int32) => a + b) := .inl ⟨by decide +kernel, rfl⟩
theorem i_Law_law_437 : decode y_Law_law.2.1 437 = .ok (.iaload, 1) := by decide +kernel
theorem i_Law_law_438 : mj_Cv y_Law_law 438 y_Model_move 8 2 := ⟨by decide, rfl, mt_Model_move, 47, by decide +kernel, mm_915, mm_916, mm_917⟩
theorem i_Law_law_441 : mj_Ic y_Law_law 441 985 (fun (a b : Int32) => a = b) := ⟨544, by decide, .inl ⟨by decide +kernel, rfl⟩⟩
theorem i_Law_law_444 : mj_Kc y_Law_law 444 1 (.int 0) := .inl ⟨0, by decide +kernel, rfl, by decide +kernel⟩
theorem i_Law_law_445 : decode y_Law_law.2.1 445 = .ok (.ireturn, 1) := by decide +kernel
theorem i_Law_law_446 : mj_Ld y_Law_law 446 1 1 2 := .inr (.inr ⟨rfl, .inr ⟨rfl, 1, rfl, by decide +kernel⟩⟩)
theorem i_Law_law_447 : mj_Ld y_Law_law 447 1 0 2 := .inr (.inr ⟨rfl, .inr ⟨rfl, 0, rfl, by decide +kernel⟩⟩)
theorem i_Law_law_448 : mj_Ld y_Law_law 448 1 3 0 := .inl ⟨rfl, .inr ⟨rfl, 3, rfl, by decide +kernel⟩⟩
theorem i_Law_law_449 : mj_Kc y_Law_law 449 1 (.int 1) := .inl ⟨1, by decide +kernel, rfl, by decide +kernel⟩
theorem i_Law_law_450 : mj_B2 y_Law_law 450 (fun (a b : Int32) => a + b) := .inl ⟨by decide +kernel, rfl⟩
theorem i_Law_law_451 : decode y_Law_law.2.1 451 = .ok (.iaload, 1) := by decide +kernel
theorem i_Law_law_452 : mj_Ld y_Law_law 452 1 0 2 := .inr (.inr ⟨rfl, .inr ⟨rfl, 0, rfl, by decide +kernel⟩⟩)
theorem i_Law_law_453 : mj_Ld y_Law_law 453 1 3 0 := .inl ⟨rfl, .inr ⟨rfl, 3, rfl, by decide +kernel⟩⟩
theorem i_Law_law_454 : mj_Kc y_Law_law 454 1 (.int 2) := .inl ⟨2, by decide +kernel, rfl, by decide +kernel⟩
theorem i_Law_law_455 : mj_B2 y_Law_law 455 (fun (a b : Int32) => a + b) := .inl ⟨by decide +kernel, rfl⟩
theorem i_Law_law_456 : decode y_Law_law.2.1 456 = .ok (.iaload, 1) := by decide +kernel
theorem i_Law_law_457 : mj_Cv y_Law_law 457 y_GW_lamp 7 2 := ⟨by decide, rfl, mt_GW_lamp, 48, by decide +kernel, mm_423, mm_424, mm_425⟩
theorem i_Law_law_460 : mj_Ld y_Law_law 460 1 2 2 := .inr (.inr ⟨rfl, .inr ⟨rfl, 2, rfl, by decide +kernel⟩⟩)
theorem i_Law_law_461 : mj_Ld y_Law_law 461 1 0 2 := .inr (.inr ⟨rfl, .inr ⟨rfl, 0, rfl, by decide +kernel⟩⟩)
theorem i_Law_law_462 : mj_Ld y_Law_law 462 1 3 0 := .inl ⟨rfl, .inr ⟨rfl, 3, rfl, by decide +kernel⟩⟩
theorem i_Law_law_463 : mj_Kc y_Law_law 463 1 (.int 1) := .inl ⟨1, by decide +kernel, rfl, by decide +kernel⟩
theorem i_Law_law_464 : mj_B2 y_Law_law 464 (fun (a b : Int32) => a + b) := .inl ⟨by decide +kernel, rfl⟩
theorem i_Law_law_465 : decode y_Law_law.2.1 465 = .ok (.iaload, 1) := by decide +kernel
theorem i_Law_law_466 : mj_Ld y_Law_law 466 1 0 2 := .inr (.inr ⟨rfl, .inr ⟨rfl, 0, rfl, by decide +kernel⟩⟩)
theorem i_Law_law_467 : mj_Ld y_Law_law 467 1 3 0 := .inl ⟨rfl, .inr ⟨rfl, 3, rfl, by decide +kernel⟩⟩
theorem i_Law_law_468 : mj_Kc y_Law_law 468 1 (.int 2) := .inl ⟨2, by decide +kernel, rfl, by decide +kernel⟩
theorem i_Law_law_469 : mj_B2 y_Law_law 469 (fun (a b : Int32) => a + b) := .inl ⟨by decide +kernel, rfl⟩
theorem i_Law_law_470 : decode y_Law_law.2.1 470 = .ok (.iaload, 1) := by decide +kernel
theorem i_Law_law_471 : mj_Cv y_Law_law 471 y_Model_lamp 8 2 := ⟨by decide, rfl, mt_Model_lamp, 51, by decide +kernel, mm_919, mm_920, mm_921⟩
theorem i_Law_law_474 : mj_Ic y_Law_law 474 985 (fun (a b : Int32) => a = b) := ⟨511, by decide, .inl ⟨by decide +kernel, rfl⟩⟩
theorem i_Law_law_477 : mj_Kc y_Law_law 477 1 (.int 0) := .inl ⟨0, by decide +kernel, rfl, by decide +kernel⟩
theorem i_Law_law_478 : decode y_Law_law.2.1 478 = .ok (.ireturn, 1) := by decide +kernel
theorem i_Law_law_479 : mj_Ld y_Law_law 479 1 1 2 := .inr (.inr ⟨rfl, .inr ⟨rfl, 1, rfl, by decide +kernel⟩⟩)
theorem i_Law_law_480 : mj_Cv y_Law_law 480 y_GW_drop 7 0 := ⟨by decide, rfl, mt_GW_drop, 52, by decide +kernel, mm_427, mm_428, mm_429⟩
theorem i_Law_law_483 : mj_Ld y_Law_law 483 1 2 2 := .inr (.inr ⟨rfl, .inr ⟨rfl, 2, rfl, by decide +kernel⟩⟩)
theorem i_Law_law_484 : mj_Cv y_Law_law 484 y_Model_drop 8 0 := ⟨by decide, rfl, mt_Model_drop, 56, by decide +kernel, mm_923, mm_924, mm_925⟩
theorem i_Law_law_487 : mj_Ic y_Law_law 487 985 (fun (a b : Int32) => a = b) := ⟨498, by decide, .inl ⟨by decide +kernel, rfl⟩⟩
theorem i_Law_law_490 : mj_Kc y_Law_law 490 1 (.int 0) := .inl ⟨0, by decide +kernel, rfl, by decide +kernel⟩
theorem i_Law_law_491 : decode y_Law_law.2.1 491 = .ok (.ireturn, 1) := by decide +kernel
theorem i_Law_law_492 : mj_Ld y_Law_law 492 1 1 2 := .inr (.inr ⟨rfl, .inr ⟨rfl, 1, rfl, by decide +kernel⟩⟩)
theorem i_Law_law_493 : mj_Ld y_Law_law 493 1 0 2 := .inr (.inr ⟨rfl, .inr ⟨rfl, 0, rfl, by decide +kernel⟩⟩)
theorem i_Law_law_494 : mj_Ld y_Law_law 494 1 3 0 := .inl ⟨rfl, .inr ⟨rfl, 3, rfl, by decide +kernel⟩⟩
theorem i_Law_law_495 : mj_Kc y_Law_law 495 1 (.int 1) := .inl ⟨1, by decide +kernel, rfl, by decide +kernel⟩
theorem i_Law_law_496 : mj_B2 y_Law_law 496 (fun (a b : Int32) => a + b) := .inl ⟨by decide +kernel, rfl⟩
theorem i_Law_law_497 : decode y_Law_law.2.1 497 = .ok (.iaload, 1) := by decide +kernel
theorem i_Law_law_498 : mj_Ld y_Law_law 498 1 0 2 := .inr (.inr ⟨rfl, .inr ⟨rfl, 0, rfl, by decide +kernel⟩⟩)
theorem i_Law_law_499 : mj_Ld y_Law_law 499 1 3 0 := .inl ⟨rfl, .inr ⟨rfl, 3, rfl, by decide +kernel⟩⟩
theorem i_Law_law_500 : mj_Kc y_Law_law 500 1 (.int 2) := .inl ⟨2, by decide +kernel, rfl, by decide +kernel⟩
theorem i_Law_law_501 : mj_B2 y_Law_law 501 (fun (a b : Int32) => a + b) := .inl ⟨by decide +kernel, rfl⟩
theorem i_Law_law_502 : decode y_Law_law.2.1 502 = .ok (.iaload, 1) := by decide +kernel
theorem i_Law_law_503 : mj_Cv y_Law_law 503 y_GW_about 7 2 := ⟨by decide, rfl, mt_GW_about, 57, by decide +kernel, mm_436, mm_437, mm_438⟩
theorem i_Law_law_506 : mj_Ld y_Law_law 506 1 2 2 := .inr (.inr ⟨rfl, .inr ⟨rfl, 2, rfl, by decide +kernel⟩⟩)
theorem i_Law_law_507 : mj_Ld y_Law_law 507 1 0 2 := .inr (.inr ⟨rfl, .inr ⟨rfl, 0, rfl, by decide +kernel⟩⟩)
theorem i_Law_law_508 : mj_Ld y_Law_law 508 1 3 0 := .inl ⟨rfl, .inr ⟨rfl, 3, rfl, by decide +kernel⟩⟩
theorem i_Law_law_509 : mj_Kc y_Law_law 509 1 (.int 1) := .inl ⟨1, by decide +kernel, rfl, by decide +kernel⟩
theorem i_Law_law_510 : mj_B2 y_Law_law 510 (fun (a b : Int32) => a + b) := .inl ⟨by decide +kernel, rfl⟩
theorem i_Law_law_511 : decode y_Law_law.2.1 511 = .ok (.iaload, 1) := by decide +kernel
theorem i_Law_law_512 : mj_Ld y_Law_law 512 1 0 2 := .inr (.inr ⟨rfl, .inr ⟨rfl, 0, rfl, by decide +kernel⟩⟩)
theorem i_Law_law_513 : mj_Ld y_Law_law 513 1 3 0 := .inl ⟨rfl, .inr ⟨rfl, 3, rfl, by decide +kernel⟩⟩
theorem i_Law_law_514 : mj_Kc y_Law_law 514 1 (.int 2) := .inl ⟨2, by decide +kernel, rfl, by decide +kernel⟩
theorem i_Law_law_515 : mj_B2 y_Law_law 515 (fun (a b : Int32) => a + b) := .inl ⟨by decide +kernel, rfl⟩
theorem i_Law_law_516 : decode y_Law_law.2.1 516 = .ok (.iaload, 1) := by decide +kernel
theorem i_Law_law_517 : mj_Cv y_Law_law 517 y_Model_about 8 2 := ⟨by decide, rfl, mt_Model_about, 60, by decide +kernel, mm_927, mm_928, mm_929⟩
theorem i_Law_law_520 : mj_Ic y_Law_law 520 985 (fun (a b : Int32) => a = b) := ⟨465, by decide, .inl ⟨by decide +kernel, rfl⟩⟩
theorem i_Law_law_523 : mj_Kc y_Law_law 523 1 (.int 0) := .inl ⟨0, by decide +kernel, rfl, by decide +kernel⟩
theorem i_Law_law_524 : decode y_Law_law.2.1 524 = .ok (.ireturn, 1) := by decide +kernel
theorem i_Law_law_525 : mj_Ld y_Law_law 525 1 1 2 := .inr (.inr ⟨rfl, .inr ⟨rfl, 1, rfl, by decide +kernel⟩⟩)
theorem i_Law_law_526 : mj_Ld y_Law_law 526 1 0 2 := .inr (.inr ⟨rfl, .inr ⟨rfl, 0, rfl, by decide +kernel⟩⟩)
theorem i_Law_law_527 : mj_Ld y_Law_law 527 1 3 0 := .inl ⟨rfl, .inr ⟨rfl, 3, rfl, by decide +kernel⟩⟩
theorem i_Law_law_528 : mj_Kc y_Law_law 528 1 (.int 1) := .inl ⟨1, by decide +kernel, rfl, by decide +kernel⟩
theorem i_Law_law_529 : mj_B2 y_Law_law 529 (fun (a b : Int32) => a + b) := .inl ⟨by decide +kernel, rfl⟩
theorem i_Law_law_530 : decode y_Law_law.2.1 530 = .ok (.iaload, 1) := by decide +kernel
theorem i_Law_law_531 : mj_Ld y_Law_law 531 1 0 2 := .inr (.inr ⟨rfl, .inr ⟨rfl, 0, rfl, by decide +kernel⟩⟩)
theorem i_Law_law_532 : mj_Ld y_Law_law 532 1 3 0 := .inl ⟨rfl, .inr ⟨rfl, 3, rfl, by decide +kernel⟩⟩
theorem i_Law_law_533 : mj_Kc y_Law_law 533 1 (.int 2) := .inl ⟨2, by decide +kernel, rfl, by decide +kernel⟩
theorem i_Law_law_534 : mj_B2 y_Law_law 534 (fun (a b : Int32) => a + b) := .inl ⟨by decide +kernel, rfl⟩
theorem i_Law_law_535 : decode y_Law_law.2.1 535 = .ok (.iaload, 1) := by decide +kernel
theorem i_Law_law_536 : mj_Cv y_Law_law 536 y_GW_isOf 7 2 := ⟨by decide, rfl, mt_GW_isOf, 61, by decide +kernel, mm_440, mm_441, mm_442⟩
theorem i_Law_law_539 : mj_Ld y_Law_law 539 1 2 2 := .inr (.inr ⟨rfl, .inr ⟨rfl, 2, rfl, by decide +kernel⟩⟩)
theorem i_Law_law_540 : mj_Ld y_Law_law 540 1 0 2 := .inr (.inr ⟨rfl, .inr ⟨rfl, 0, rfl, by decide +kernel⟩⟩)
theorem i_Law_law_541 : mj_Ld y_Law_law 541 1 3 0 := .inl ⟨rfl, .inr ⟨rfl, 3, rfl, by decide +kernel⟩⟩
theorem i_Law_law_542 : mj_Kc y_Law_law 542 1 (.int 1) := .inl ⟨1, by decide +kernel, rfl, by decide +kernel⟩
theorem i_Law_law_543 : mj_B2 y_Law_law 543 (fun (a b : Int32) => a + b) := .inl ⟨by decide +kernel, rfl⟩
theorem i_Law_law_544 : decode y_Law_law.2.1 544 = .ok (.iaload, 1) := by decide +kernel
theorem i_Law_law_545 : mj_Ld y_Law_law 545 1 0 2 := .inr (.inr ⟨rfl, .inr ⟨rfl, 0, rfl, by decide +kernel⟩⟩)
theorem i_Law_law_546 : mj_Ld y_Law_law 546 1 3 0 := .inl ⟨rfl, .inr ⟨rfl, 3, rfl, by decide +kernel⟩⟩
theorem i_Law_law_547 : mj_Kc y_Law_law 547 1 (.int 2) := .inl ⟨2, by decide +kernel, rfl, by decide +kernel⟩
theorem i_Law_law_548 : mj_B2 y_Law_law 548 (fun (a b : Int32) => a + b) := .inl ⟨by decide +kernel, rfl⟩
theorem i_Law_law_549 : decode y_Law_law.2.1 549 = .ok (.iaload, 1) := by decide +kernel
theorem i_Law_law_550 : mj_Cv y_Law_law 550 y_Model_isOf 8 2 := ⟨by decide, rfl, mt_Model_isOf, 64, by decide +kernel, mm_935, mm_936, mm_937⟩
theorem i_Law_law_553 : mj_Ic y_Law_law 553 985 (fun (a b : Int32) => a = b) := ⟨432, by decide, .inl ⟨by decide +kernel, rfl⟩⟩
theorem i_Law_law_556 : mj_Kc y_Law_law 556 1 (.int 0) := .inl ⟨0, by decide +kernel, rfl, by decide +kernel⟩
theorem i_Law_law_557 : decode y_Law_law.2.1 557 = .ok (.ireturn, 1) := by decide +kernel
theorem i_Law_law_558 : mj_Ld y_Law_law 558 1 1 2 := .inr (.inr ⟨rfl, .inr ⟨rfl, 1, rfl, by decide +kernel⟩⟩)
theorem i_Law_law_559 : mj_Cv y_Law_law 559 y_GW_undo 7 0 := ⟨by decide, rfl, mt_GW_undo, 65, by decide +kernel, mm_444, mm_445, mm_446⟩
theorem i_Law_law_562 : mj_Ld y_Law_law 562 1 2 2 := .inr (.inr ⟨rfl, .inr ⟨rfl, 2, rfl, by decide +kernel⟩⟩)
theorem i_Law_law_563 : mj_Cv y_Law_law 563 y_Model_undo 8 0 := ⟨by decide, rfl, mt_Model_undo, 68, by decide +kernel, mm_809, mm_810, mm_811⟩
theorem i_Law_law_566 : mj_Ic y_Law_law 566 985 (fun (a b : Int32) => a = b) := ⟨419, by decide, .inl ⟨by decide +kernel, rfl⟩⟩
theorem i_Law_law_569 : mj_Kc y_Law_law 569 1 (.int 0) := .inl ⟨0, by decide +kernel, rfl, by decide +kernel⟩
theorem i_Law_law_570 : decode y_Law_law.2.1 570 = .ok (.ireturn, 1) := by decide +kernel
theorem i_Law_law_571 : mj_Ld y_Law_law 571 1 1 2 := .inr (.inr ⟨rfl, .inr ⟨rfl, 1, rfl, by decide +kernel⟩⟩)
theorem i_Law_law_572 : mj_Ld y_Law_law 572 1 0 2 := .inr (.inr ⟨rfl, .inr ⟨rfl, 0, rfl, by decide +kernel⟩⟩)
theorem i_Law_law_573 : mj_Ld y_Law_law 573 1 3 0 := .inl ⟨rfl, .inr ⟨rfl, 3, rfl, by decide +kernel⟩⟩
theorem i_Law_law_574 : mj_Kc y_Law_law 574 1 (.int 1) := .inl ⟨1, by decide +kernel, rfl, by decide +kernel⟩
theorem i_Law_law_575 : mj_B2 y_Law_law 575 (fun (a b : Int32) => a + b) := .inl ⟨by decide +kernel, rfl⟩
theorem i_Law_law_576 : decode y_Law_law.2.1 576 = .ok (.iaload, 1) := by decide +kernel
theorem i_Law_law_577 : mj_Ld y_Law_law 577 1 0 2 := .inr (.inr ⟨rfl, .inr ⟨rfl, 0, rfl, by decide +kernel⟩⟩)
theorem i_Law_law_578 : mj_Ld y_Law_law 578 1 3 0 := .inl ⟨rfl, .inr ⟨rfl, 3, rfl, by decide +kernel⟩⟩
theorem i_Law_law_579 : mj_Kc y_Law_law 579 1 (.int 2) := .inl ⟨2, by decide +kernel, rfl, by decide +kernel⟩
theorem i_Law_law_580 : mj_B2 y_Law_law 580 (fun (a b : Int32) => a + b) := .inl ⟨by decide +kernel, rfl⟩
theorem i_Law_law_581 : decode y_Law_law.2.1 581 = .ok (.iaload, 1) := by decide +kernel
theorem i_Law_law_582 : mj_Cv y_Law_law 582 y_GW_sees 7 2 := ⟨by decide, rfl, mt_GW_sees, 69, by decide +kernel, mm_456, mm_457, mm_458⟩
theorem i_Law_law_585 : mj_Ld y_Law_law 585 1 2 2 := .inr (.inr ⟨rfl, .inr ⟨rfl, 2, rfl, by decide +kernel⟩⟩)
theorem i_Law_law_586 : mj_Ld y_Law_law 586 1 0 2 := .inr (.inr ⟨rfl, .inr ⟨rfl, 0, rfl, by decide +kernel⟩⟩)
theorem i_Law_law_587 : mj_Ld y_Law_law 587 1 3 0 := .inl ⟨rfl, .inr ⟨rfl, 3, rfl, by decide +kernel⟩⟩
theorem i_Law_law_588 : mj_Kc y_Law_law 588 1 (.int 1) := .inl ⟨1, by decide +kernel, rfl, by decide +kernel⟩
theorem i_Law_law_589 : mj_B2 y_Law_law 589 (fun (a b : Int32) => a + b) := .inl ⟨by decide +kernel, rfl⟩
theorem i_Law_law_590 : decode y_Law_law.2.1 590 = .ok (.iaload, 1) := by decide +kernel
theorem i_Law_law_591 : mj_Ld y_Law_law 591 1 0 2 := .inr (.inr ⟨rfl, .inr ⟨rfl, 0, rfl, by decide +kernel⟩⟩)
theorem i_Law_law_592 : mj_Ld y_Law_law 592 1 3 0 := .inl ⟨rfl, .inr ⟨rfl, 3, rfl, by decide +kernel⟩⟩
theorem i_Law_law_593 : mj_Kc y_Law_law 593 1 (.int 2) := .inl ⟨2, by decide +kernel, rfl, by decide +kernel⟩
theorem i_Law_law_594 : mj_B2 y_Law_law 594 (fun (a b : Int32) => a + b) := .inl ⟨by decide +kernel, rfl⟩
theorem i_Law_law_595 : decode y_Law_law.2.1 595 = .ok (.iaload, 1) := by decide +kernel
theorem i_Law_law_596 : mj_Cv y_Law_law 596 y_Model_sees 8 2 := ⟨by decide, rfl, mt_Model_sees, 72, by decide +kernel, mm_939, mm_940, mm_941⟩
theorem i_Law_law_599 : mj_Ic y_Law_law 599 985 (fun (a b : Int32) => a = b) := ⟨386, by decide, .inl ⟨by decide +kernel, rfl⟩⟩
theorem i_Law_law_602 : mj_Kc y_Law_law 602 1 (.int 0) := .inl ⟨0, by decide +kernel, rfl, by decide +kernel⟩
theorem i_Law_law_603 : decode y_Law_law.2.1 603 = .ok (.ireturn, 1) := by decide +kernel
theorem i_Law_law_604 : mj_Ld y_Law_law 604 1 1 2 := .inr (.inr ⟨rfl, .inr ⟨rfl, 1, rfl, by decide +kernel⟩⟩)
theorem i_Law_law_605 : mj_Ld y_Law_law 605 1 0 2 := .inr (.inr ⟨rfl, .inr ⟨rfl, 0, rfl, by decide +kernel⟩⟩)
theorem i_Law_law_606 : mj_Ld y_Law_law 606 1 3 0 := .inl ⟨rfl, .inr ⟨rfl, 3, rfl, by decide +kernel⟩⟩
theorem i_Law_law_607 : mj_Kc y_Law_law 607 1 (.int 1) := .inl ⟨1, by decide +kernel, rfl, by decide +kernel⟩
theorem i_Law_law_608 : mj_B2 y_Law_law 608 (fun (a b : Int32) => a + b) := .inl ⟨by decide +kernel, rfl⟩
theorem i_Law_law_609 : decode y_Law_law.2.1 609 = .ok (.iaload, 1) := by decide +kernel
theorem i_Law_law_610 : mj_Cv y_Law_law 610 y_GW_region 7 1 := ⟨by decide, rfl, mt_GW_region, 73, by decide +kernel, mm_495, mm_496, mm_497⟩
theorem i_Law_law_613 : mj_Ld y_Law_law 613 1 2 2 := .inr (.inr ⟨rfl, .inr ⟨rfl, 2, rfl, by decide +kernel⟩⟩)
theorem i_Law_law_614 : mj_Ld y_Law_law 614 1 0 2 := .inr (.inr ⟨rfl, .inr ⟨rfl, 0, rfl, by decide +kernel⟩⟩)
theorem i_Law_law_615 : mj_Ld y_Law_law 615 1 3 0 := .inl ⟨rfl, .inr ⟨rfl, 3, rfl, by decide +kernel⟩⟩
theorem i_Law_law_616 : mj_Kc y_Law_law 616 1 (.int 1) := .inl ⟨1, by decide +kernel, rfl, by decide +kernel⟩
theorem i_Law_law_617 : mj_B2 y_Law_law 617 (fun (a b : Int32) => a + b) := .inl ⟨by decide +kernel, rfl⟩
theorem i_Law_law_618 : decode y_Law_law.2.1 618 = .ok (.iaload, 1) := by decide +kernel
theorem i_Law_law_619 : mj_Cv y_Law_law 619 y_Model_region 8 1 := ⟨by decide, rfl, mt_Model_region, 76, by decide +kernel, mm_955, mm_956, mm_957⟩
theorem i_Law_law_622 : mj_Ic y_Law_law 622 985 (fun (a b : Int32) => a = b) := ⟨363, by decide, .inl ⟨by decide +kernel, rfl⟩⟩
theorem i_Law_law_625 : mj_Kc y_Law_law 625 1 (.int 0) := .inl ⟨0, by decide +kernel, rfl, by decide +kernel⟩
theorem i_Law_law_626 : decode y_Law_law.2.1 626 = .ok (.ireturn, 1) := by decide +kernel
theorem i_Law_law_627 : mj_Ld y_Law_law 627 1 1 2 := .inr (.inr ⟨rfl, .inr ⟨rfl, 1, rfl, by decide +kernel⟩⟩)
theorem i_Law_law_628 : mj_Ld y_Law_law 628 1 0 2 := .inr (.inr ⟨rfl, .inr ⟨rfl, 0, rfl, by decide +kernel⟩⟩)
theorem i_Law_law_629 : mj_Ld y_Law_law 629 1 3 0 := .inl ⟨rfl, .inr ⟨rfl, 3, rfl, by decide +kernel⟩⟩
theorem i_Law_law_630 : mj_Kc y_Law_law 630 1 (.int 1) := .inl ⟨1, by decide +kernel, rfl, by decide +kernel⟩
theorem i_Law_law_631 : mj_B2 y_Law_law 631 (fun (a b : Int32) => a + b) := .inl ⟨by decide +kernel, rfl⟩
theorem i_Law_law_632 : decode y_Law_law.2.1 632 = .ok (.iaload, 1) := by decide +kernel
theorem i_Law_law_633 : mj_Cv y_Law_law 633 y_GW_watchers 7 1 := ⟨by decide, rfl, mt_GW_watchers, 77, by decide +kernel, mm_505, mm_506, mm_507⟩
theorem i_Law_law_636 : mj_Ld y_Law_law 636 1 2 2 := .inr (.inr ⟨rfl, .inr ⟨rfl, 2, rfl, by decide +kernel⟩⟩)
theorem i_Law_law_637 : mj_Ld y_Law_law 637 1 0 2 := .inr (.inr ⟨rfl, .inr ⟨rfl, 0, rfl, by decide +kernel⟩⟩)
theorem i_Law_law_638 : mj_Ld y_Law_law 638 1 3 0 := .inl ⟨rfl, .inr ⟨rfl, 3, rfl, by decide +kernel⟩⟩
theorem i_Law_law_639 : mj_Kc y_Law_law 639 1 (.int 1) := .inl ⟨1, by decide +kernel, rfl, by decide +kernel⟩
theorem i_Law_law_640 : mj_B2 y_Law_law 640 (fun (a b : Int32) => a + b) := .inl ⟨by decide +kernel, rfl⟩
theorem i_Law_law_641 : decode y_Law_law.2.1 641 = .ok (.iaload, 1) := by decide +kernel
theorem i_Law_law_642 : mj_Cv y_Law_law 642 y_Model_watchers 8 1 := ⟨by decide, rfl, mt_Model_watchers, 80, by decide +kernel, mm_967, mm_968, mm_969⟩
theorem i_Law_law_645 : mj_Ic y_Law_law 645 985 (fun (a b : Int32) => a = b) := ⟨340, by decide, .inl ⟨by decide +kernel, rfl⟩⟩
theorem i_Law_law_648 : mj_Kc y_Law_law 648 1 (.int 0) := .inl ⟨0, by decide +kernel, rfl, by decide +kernel⟩
theorem i_Law_law_649 : decode y_Law_law.2.1 649 = .ok (.ireturn, 1) := by decide +kernel
theorem i_Law_law_650 : mj_Ld y_Law_law 650 1 1 2 := .inr (.inr ⟨rfl, .inr ⟨rfl, 1, rfl, by decide +kernel⟩⟩)
theorem i_Law_law_651 : mj_Ld y_Law_law 651 1 0 2 := .inr (.inr ⟨rfl, .inr ⟨rfl, 0, rfl, by decide +kernel⟩⟩)
theorem i_Law_law_652 : mj_Ld y_Law_law 652 1 3 0 := .inl ⟨rfl, .inr ⟨rfl, 3, rfl, by decide +kernel⟩⟩
theorem i_Law_law_653 : mj_Kc y_Law_law 653 1 (.int 1) := .inl ⟨1, by decide +kernel, rfl, by decide +kernel⟩
theorem i_Law_law_654 : mj_B2 y_Law_law 654 (fun (a b : Int32) => a + b) := .inl ⟨by decide +kernel, rfl⟩
theorem i_Law_law_655 : decode y_Law_law.2.1 655 = .ok (.iaload, 1) := by decide +kernel
theorem i_Law_law_656 : mj_Cv y_Law_law 656 y_GW_blind 7 1 := ⟨by decide, rfl, mt_GW_blind, 81, by decide +kernel, mm_509, mm_510, mm_511⟩
theorem i_Law_law_659 : mj_Ld y_Law_law 659 1 2 2 := .inr (.inr ⟨rfl, .inr ⟨rfl, 2, rfl, by decide +kernel⟩⟩)
theorem i_Law_law_660 : mj_Ld y_Law_law 660 1 0 2 := .inr (.inr ⟨rfl, .inr ⟨rfl, 0, rfl, by decide +kernel⟩⟩)
theorem i_Law_law_661 : mj_Ld y_Law_law 661 1 3 0 := .inl ⟨rfl, .inr ⟨rfl, 3, rfl, by decide +kernel⟩⟩
theorem i_Law_law_662 : mj_Kc y_Law_law 662 1 (.int 1) := .inl ⟨1, by decide +kernel, rfl, by decide +kernel⟩
theorem i_Law_law_663 : mj_B2 y_Law_law 663 (fun (a b : Int32) => a + b) := .inl ⟨by decide +kernel, rfl⟩
theorem i_Law_law_664 : decode y_Law_law.2.1 664 = .ok (.iaload, 1) := by decide +kernel
theorem i_Law_law_665 : mj_Cv y_Law_law 665 y_Model_blind 8 1 := ⟨by decide, rfl, mt_Model_blind, 84, by decide +kernel, mm_971, mm_972, mm_973⟩
theorem i_Law_law_668 : mj_Ic y_Law_law 668 985 (fun (a b : Int32) => a = b) := ⟨317, by decide, .inl ⟨by decide +kernel, rfl⟩⟩
theorem i_Law_law_671 : mj_Kc y_Law_law 671 1 (.int 0) := .inl ⟨0, by decide +kernel, rfl, by decide +kernel⟩
theorem i_Law_law_672 : decode y_Law_law.2.1 672 = .ok (.ireturn, 1) := by decide +kernel
theorem i_Law_law_673 : mj_Ld y_Law_law 673 1 1 2 := .inr (.inr ⟨rfl, .inr ⟨rfl, 1, rfl, by decide +kernel⟩⟩)
theorem i_Law_law_674 : mj_Ld y_Law_law 674 1 0 2 := .inr (.inr ⟨rfl, .inr ⟨rfl, 0, rfl, by decide +kernel⟩⟩)
theorem i_Law_law_675 : mj_Ld y_Law_law 675 1 3 0 := .inl ⟨rfl, .inr ⟨rfl, 3, rfl, by decide +kernel⟩⟩
theorem i_Law_law_676 : mj_Kc y_Law_law 676 1 (.int 1) := .inl ⟨1, by decide +kernel, rfl, by decide +kernel⟩
theorem i_Law_law_677 : mj_B2 y_Law_law 677 (fun (a b : Int32) => a + b) := .inl ⟨by decide +kernel, rfl⟩
theorem i_Law_law_678 : decode y_Law_law.2.1 678 = .ok (.iaload, 1) := by decide +kernel
theorem i_Law_law_679 : mj_Cv y_Law_law 679 y_GW_seen 7 1 := ⟨by decide, rfl, mt_GW_seen, 85, by decide +kernel, mm_526, mm_527, mm_528⟩
theorem i_Law_law_682 : mj_Ld y_Law_law 682 1 2 2 := .inr (.inr ⟨rfl, .inr ⟨rfl, 2, rfl, by decide +kernel⟩⟩)
theorem i_Law_law_683 : mj_Ld y_Law_law 683 1 0 2 := .inr (.inr ⟨rfl, .inr ⟨rfl, 0, rfl, by decide +kernel⟩⟩)
theorem i_Law_law_684 : mj_Ld y_Law_law 684 1 3 0 := .inl ⟨rfl, .inr ⟨rfl, 3, rfl, by decide +kernel⟩⟩
theorem i_Law_law_685 : mj_Kc y_Law_law 685 1 (.int 1) := .inl ⟨1, by decide +kernel, rfl, by decide +kernel⟩
theorem i_Law_law_686 : mj_B2 y_Law_law 686 (fun (a b : Int32) => a + b) := .inl ⟨by decide +kernel, rfl⟩
theorem i_Law_law_687 : decode y_Law_law.2.1 687 = .ok (.iaload, 1) := by decide +kernel
theorem i_Law_law_688 : mj_Cv y_Law_law 688 y_Model_seen 8 1 := ⟨by decide, rfl, mt_Model_seen, 88, by decide +kernel, mm_979, mm_960, mm_961⟩
theorem i_Law_law_691 : mj_Ic y_Law_law 691 985 (fun (a b : Int32) => a = b) := ⟨294, by decide, .inl ⟨by decide +kernel, rfl⟩⟩
theorem i_Law_law_694 : mj_Kc y_Law_law 694 1 (.int 0) := .inl ⟨0, by decide +kernel, rfl, by decide +kernel⟩
theorem i_Law_law_695 : decode y_Law_law.2.1 695 = .ok (.ireturn, 1) := by decide +kernel
theorem i_Law_law_696 : mj_Ld y_Law_law 696 1 1 2 := .inr (.inr ⟨rfl, .inr ⟨rfl, 1, rfl, by decide +kernel⟩⟩)
theorem i_Law_law_697 : mj_Ld y_Law_law 697 1 0 2 := .inr (.inr ⟨rfl, .inr ⟨rfl, 0, rfl, by decide +kernel⟩⟩)
theorem i_Law_law_698 : mj_Ld y_Law_law 698 1 3 0 := .inl ⟨rfl, .inr ⟨rfl, 3, rfl, by decide +kernel⟩⟩
theorem i_Law_law_699 : mj_Kc y_Law_law 699 1 (.int 1) := .inl ⟨1, by decide +kernel, rfl, by decide +kernel⟩
theorem i_Law_law_700 : mj_B2 y_Law_law 700 (fun (a b : Int32) => a + b) := .inl ⟨by decide +kernel, rfl⟩
theorem i_Law_law_701 : decode y_Law_law.2.1 701 = .ok (.iaload, 1) := by decide +kernel
theorem i_Law_law_702 : mj_Cv y_Law_law 702 y_GW_spare 7 1 := ⟨by decide, rfl, mt_GW_spare, 89, by decide +kernel, mm_530, mm_531, mm_532⟩
theorem i_Law_law_705 : mj_Ld y_Law_law 705 1 2 2 := .inr (.inr ⟨rfl, .inr ⟨rfl, 2, rfl, by decide +kernel⟩⟩)
theorem i_Law_law_706 : mj_Ld y_Law_law 706 1 0 2 := .inr (.inr ⟨rfl, .inr ⟨rfl, 0, rfl, by decide +kernel⟩⟩)
theorem i_Law_law_707 : mj_Ld y_Law_law 707 1 3 0 := .inl ⟨rfl, .inr ⟨rfl, 3, rfl, by decide +kernel⟩⟩
theorem i_Law_law_708 : mj_Kc y_Law_law 708 1 (.int 1) := .inl ⟨1, by decide +kernel, rfl, by decide +kernel⟩
theorem i_Law_law_709 : mj_B2 y_Law_law 709 (fun (a b : Int32) => a + b) := .inl ⟨by decide +kernel, rfl⟩
theorem i_Law_law_710 : decode y_Law_law.2.1 710 = .ok (.iaload, 1) := by decide +kernel
theorem i_Law_law_711 : mj_Cv y_Law_law 711 y_Model_spare 8 1 := ⟨by decide, rfl, mt_Model_spare, 92, by decide +kernel, mm_980, mm_981, mm_982⟩
theorem i_Law_law_714 : mj_Ic y_Law_law 714 985 (fun (a b : Int32) => a = b) := ⟨271, by decide, .inl ⟨by decide +kernel, rfl⟩⟩
theorem i_Law_law_717 : mj_Kc y_Law_law 717 1 (.int 0) := .inl ⟨0, by decide +kernel, rfl, by decide +kernel⟩
theorem i_Law_law_718 : decode y_Law_law.2.1 718 = .ok (.ireturn, 1) := by decide +kernel
theorem i_Law_law_719 : mj_Ld y_Law_law 719 1 1 2 := .inr (.inr ⟨rfl, .inr ⟨rfl, 1, rfl, by decide +kernel⟩⟩)
theorem i_Law_law_720 : mj_Cv y_Law_law 720 y_GW_fewest 7 0 := ⟨by decide, rfl, mt_GW_fewest, 93, by decide +kernel, mm_539, mm_540, mm_541⟩
theorem i_Law_law_723 : mj_Ld y_Law_law 723 1 2 2 := .inr (.inr ⟨rfl, .inr ⟨rfl, 2, rfl, by decide +kernel⟩⟩)
theorem i_Law_law_724 : mj_Cv y_Law_law 724 y_Model_fewest 8 0 := ⟨by decide, rfl, mt_Model_fewest, 96, by decide +kernel, mm_984, mm_985, mm_986⟩
theorem i_Law_law_727 : mj_Ic y_Law_law 727 985 (fun (a b : Int32) => a = b) := ⟨258, by decide, .inl ⟨by decide +kernel, rfl⟩⟩
theorem i_Law_law_730 : mj_Kc y_Law_law 730 1 (.int 0) := .inl ⟨0, by decide +kernel, rfl, by decide +kernel⟩
theorem i_Law_law_731 : decode y_Law_law.2.1 731 = .ok (.ireturn, 1) := by decide +kernel
theorem i_Law_law_732 : mj_Ld y_Law_law 732 1 1 2 := .inr (.inr ⟨rfl, .inr ⟨rfl, 1, rfl, by decide +kernel⟩⟩)
theorem i_Law_law_733 : mj_Cv y_Law_law 733 y_GW_choose 7 0 := ⟨by decide, rfl, mt_GW_choose, 97, by decide +kernel, mm_574, mm_575, mm_576⟩
theorem i_Law_law_736 : mj_Ld y_Law_law 736 1 2 2 := .inr (.inr ⟨rfl, .inr ⟨rfl, 2, rfl, by decide +kernel⟩⟩)
theorem i_Law_law_737 : mj_Cv y_Law_law 737 y_Model_choose 8 0 := ⟨by decide, rfl, mt_Model_choose, 100, by decide +kernel, mm_998, mm_999, mm_1000⟩
theorem i_Law_law_740 : mj_Ic y_Law_law 740 985 (fun (a b : Int32) => a = b) := ⟨245, by decide, .inl ⟨by decide +kernel, rfl⟩⟩
theorem i_Law_law_743 : mj_Kc y_Law_law 743 1 (.int 0) := .inl ⟨0, by decide +kernel, rfl, by decide +kernel⟩
theorem i_Law_law_744 : decode y_Law_law.2.1 744 = .ok (.ireturn, 1) := by decide +kernel
theorem i_Law_law_745 : mj_Ld y_Law_law 745 1 1 2 := .inr (.inr ⟨rfl, .inr ⟨rfl, 1, rfl, by decide +kernel⟩⟩)
theorem i_Law_law_746 : mj_Cv y_Law_law 746 y_GW_many 7 0 := ⟨by decide, rfl, mt_GW_many, 101, by decide +kernel, mm_578, mm_579, mm_580⟩
theorem i_Law_law_749 : mj_Ld y_Law_law 749 1 2 2 := .inr (.inr ⟨rfl, .inr ⟨rfl, 2, rfl, by decide +kernel⟩⟩)
theorem i_Law_law_750 : mj_Cv y_Law_law 750 y_Model_many 8 0 := ⟨by decide, rfl, mt_Model_many, 104, by decide +kernel, mm_1002, mm_1003, mm_1004⟩
theorem i_Law_law_753 : mj_Ic y_Law_law 753 985 (fun (a b : Int32) => a = b) := ⟨232, by decide, .inl ⟨by decide +kernel, rfl⟩⟩
theorem i_Law_law_756 : mj_Kc y_Law_law 756 1 (.int 0) := .inl ⟨0, by decide +kernel, rfl, by decide +kernel⟩
theorem i_Law_law_757 : decode y_Law_law.2.1 757 = .ok (.ireturn, 1) := by decide +kernel
theorem i_Law_law_758 : mj_Ld y_Law_law 758 1 1 2 := .inr (.inr ⟨rfl, .inr ⟨rfl, 1, rfl, by decide +kernel⟩⟩)
theorem i_Law_law_759 : mj_Cv y_Law_law 759 y_GW_only 7 0 := ⟨by decide, rfl, mt_GW_only, 105, by decide +kernel, mm_582, mm_583, mm_584⟩
theorem i_Law_law_762 : mj_Ld y_Law_law 762 1 2 2 := .inr (.inr ⟨rfl, .inr ⟨rfl, 2, rfl, by decide +kernel⟩⟩)
theorem i_Law_law_763 : mj_Cv y_Law_law 763 y_Model_only 8 0 := ⟨by decide, rfl, mt_Model_only, 108, by decide +kernel, mm_1006, mm_1007, mm_1008⟩
theorem i_Law_law_766 : mj_Ic y_Law_law 766 985 (fun (a b : Int32) => a = b) := ⟨219, by decide, .inl ⟨by decide +kernel, rfl⟩⟩
theorem i_Law_law_769 : mj_Kc y_Law_law 769 1 (.int 0) := .inl ⟨0, by decide +kernel, rfl, by decide +kernel⟩
theorem i_Law_law_770 : decode y_Law_law.2.1 770 = .ok (.ireturn, 1) := by decide +kernel
theorem i_Law_law_771 : mj_Ld y_Law_law 771 1 1 2 := .inr (.inr ⟨rfl, .inr ⟨rfl, 1, rfl, by decide +kernel⟩⟩)
theorem i_Law_law_772 : mj_Ld y_Law_law 772 1 0 2 := .inr (.inr ⟨rfl, .inr ⟨rfl, 0, rfl, by decide +kernel⟩⟩)
theorem i_Law_law_773 : mj_Ld y_Law_law 773 1 3 0 := .inl ⟨rfl, .inr ⟨rfl, 3, rfl, by decide +kernel⟩⟩
theorem i_Law_law_774 : mj_Kc y_Law_law 774 1 (.int 1) := .inl ⟨1, by decide +kernel, rfl, by decide +kernel⟩
theorem i_Law_law_775 : mj_B2 y_Law_law 775 (fun (a b : Int32) => a + b) := .inl ⟨by decide +kernel, rfl⟩
theorem i_Law_law_776 : decode y_Law_law.2.1 776 = .ok (.iaload, 1) := by decide +kernel
theorem i_Law_law_777 : mj_Ld y_Law_law 777 1 0 2 := .inr (.inr ⟨rfl, .inr ⟨rfl, 0, rfl, by decide +kernel⟩⟩)
theorem i_Law_law_778 : mj_Ld y_Law_law 778 1 3 0 := .inl ⟨rfl, .inr ⟨rfl, 3, rfl, by decide +kernel⟩⟩
theorem i_Law_law_779 : mj_Kc y_Law_law 779 1 (.int 2) := .inl ⟨2, by decide +kernel, rfl, by decide +kernel⟩
theorem i_Law_law_780 : mj_B2 y_Law_law 780 (fun (a b : Int32) => a + b) := .inl ⟨by decide +kernel, rfl⟩
theorem i_Law_law_781 : decode y_Law_law.2.1 781 = .ok (.iaload, 1) := by decide +kernel
theorem i_Law_law_782 : mj_Cv y_Law_law 782 y_GW_sneak 7 2 := ⟨by decide, rfl, mt_GW_sneak, 109, by decide +kernel, mm_587, mm_588, mm_589⟩
theorem i_Law_law_785 : mj_Ld y_Law_law 785 1 2 2 := .inr (.inr ⟨rfl, .inr ⟨rfl, 2, rfl, by decide +kernel⟩⟩)
theorem i_Law_law_786 : mj_Ld y_Law_law 786 1 0 2 := .inr (.inr ⟨rfl, .inr ⟨rfl, 0, rfl, by decide +kernel⟩⟩)
theorem i_Law_law_787 : mj_Ld y_Law_law 787 1 3 0 := .inl ⟨rfl, .inr ⟨rfl, 3, rfl, by decide +kernel⟩⟩
theorem i_Law_law_788 : mj_Kc y_Law_law 788 1 (.int 1) := .inl ⟨1, by decide +kernel, rfl, by decide +kernel⟩
theorem i_Law_law_789 : mj_B2 y_Law_law 789 (fun (a b : Int32) => a + b) := .inl ⟨by decide +kernel, rfl⟩
theorem i_Law_law_790 : decode y_Law_law.2.1 790 = .ok (.iaload, 1) := by decide +kernel
theorem i_Law_law_791 : mj_Ld y_Law_law 791 1 0 2 := .inr (.inr ⟨rfl, .inr ⟨rfl, 0, rfl, by decide +kernel⟩⟩)
theorem i_Law_law_792 : mj_Ld y_Law_law 792 1 3 0 := .inl ⟨rfl, .inr ⟨rfl, 3, rfl, by decide +kernel⟩⟩
theorem i_Law_law_793 : mj_Kc y_Law_law 793 1 (.int 2) := .inl ⟨2, by decide +kernel, rfl, by decide +kernel⟩
theorem i_Law_law_794 : mj_B2 y_Law_law 794 (fun (a b : Int32) => a + b) := .inl ⟨by decide +kernel, rfl⟩
theorem i_Law_law_795 : decode y_Law_law.2.1 795 = .ok (.iaload, 1) := by decide +kernel
theorem i_Law_law_796 : mj_Cv y_Law_law 796 y_Model_sneak 8 2 := ⟨by decide, rfl, mt_Model_sneak, 112, by decide +kernel, mm_1010, mm_1011, mm_1012⟩
theorem i_Law_law_799 : mj_Ic y_Law_law 799 985 (fun (a b : Int32) => a = b) := ⟨186, by decide, .inl ⟨by decide +kernel, rfl⟩⟩
theorem i_Law_law_802 : mj_Kc y_Law_law 802 1 (.int 0) := .inl ⟨0, by decide +kernel, rfl, by decide +kernel⟩
theorem i_Law_law_803 : decode y_Law_law.2.1 803 = .ok (.ireturn, 1) := by decide +kernel
theorem i_Law_law_804 : mj_Ld y_Law_law 804 1 1 2 := .inr (.inr ⟨rfl, .inr ⟨rfl, 1, rfl, by decide +kernel⟩⟩)
theorem i_Law_law_805 : mj_Ld y_Law_law 805 1 0 2 := .inr (.inr ⟨rfl, .inr ⟨rfl, 0, rfl, by decide +kernel⟩⟩)
theorem i_Law_law_806 : mj_Ld y_Law_law 806 1 3 0 := .inl ⟨rfl, .inr ⟨rfl, 3, rfl, by decide +kernel⟩⟩
theorem i_Law_law_807 : mj_Kc y_Law_law 807 1 (.int 1) := .inl ⟨1, by decide +kernel, rfl, by decide +kernel⟩
theorem i_Law_law_808 : mj_B2 y_Law_law 808 (fun (a b : Int32) => a + b) := .inl ⟨by decide +kernel, rfl⟩
theorem i_Law_law_809 : decode y_Law_law.2.1 809 = .ok (.iaload, 1) := by decide +kernel
theorem i_Law_law_810 : mj_Ld y_Law_law 810 1 0 2 := .inr (.inr ⟨rfl, .inr ⟨rfl, 0, rfl, by decide +kernel⟩⟩)
theorem i_Law_law_811 : mj_Ld y_Law_law 811 1 3 0 := .inl ⟨rfl, .inr ⟨rfl, 3, rfl, by decide +kernel⟩⟩
theorem i_Law_law_812 : mj_Kc y_Law_law 812 1 (.int 2) := .inl ⟨2, by decide +kernel, rfl, by decide +kernel⟩
theorem i_Law_law_813 : mj_B2 y_Law_law 813 (fun (a b : Int32) => a + b) := .inl ⟨by decide +kernel, rfl⟩
theorem i_Law_law_814 : decode y_Law_law.2.1 814 = .ok (.iaload, 1) := by decide +kernel
theorem i_Law_law_815 : mj_Ld y_Law_law 815 1 0 2 := .inr (.inr ⟨rfl, .inr ⟨rfl, 0, rfl, by decide +kernel⟩⟩)
theorem i_Law_law_816 : mj_Ld y_Law_law 816 1 3 0 := .inl ⟨rfl, .inr ⟨rfl, 3, rfl, by decide +kernel⟩⟩
theorem i_Law_law_817 : mj_Kc y_Law_law 817 1 (.int 3) := .inl ⟨3, by decide +kernel, rfl, by decide +kernel⟩
theorem i_Law_law_818 : mj_B2 y_Law_law 818 (fun (a b : Int32) => a + b) := .inl ⟨by decide +kernel, rfl⟩
theorem i_Law_law_819 : decode y_Law_law.2.1 819 = .ok (.iaload, 1) := by decide +kernel
theorem i_Law_law_820 : mj_Cv y_Law_law 820 y_GW_way 7 3 := ⟨by decide, rfl, mt_GW_way, 113, by decide +kernel, mm_614, mm_615, mm_616⟩
theorem i_Law_law_823 : mj_Ld y_Law_law 823 1 2 2 := .inr (.inr ⟨rfl, .inr ⟨rfl, 2, rfl, by decide +kernel⟩⟩)
theorem i_Law_law_824 : mj_Ld y_Law_law 824 1 0 2 := .inr (.inr ⟨rfl, .inr ⟨rfl, 0, rfl, by decide +kernel⟩⟩)
theorem i_Law_law_825 : mj_Ld y_Law_law 825 1 3 0 := .inl ⟨rfl, .inr ⟨rfl, 3, rfl, by decide +kernel⟩⟩
theorem i_Law_law_826 : mj_Kc y_Law_law 826 1 (.int 1) := .inl ⟨1, by decide +kernel, rfl, by decide +kernel⟩
theorem i_Law_law_827 : mj_B2 y_Law_law 827 (fun (a b : Int32) => a + b) := .inl ⟨by decide +kernel, rfl⟩
theorem i_Law_law_828 : decode y_Law_law.2.1 828 = .ok (.iaload, 1) := by decide +kernel
theorem i_Law_law_829 : mj_Ld y_Law_law 829 1 0 2 := .inr (.inr ⟨rfl, .inr ⟨rfl, 0, rfl, by decide +kernel⟩⟩)
theorem i_Law_law_830 : mj_Ld y_Law_law 830 1 3 0 := .inl ⟨rfl, .inr ⟨rfl, 3, rfl, by decide +kernel⟩⟩
theorem i_Law_law_831 : mj_Kc y_Law_law 831 1 (.int 2) := .inl ⟨2, by decide +kernel, rfl, by decide +kernel⟩
theorem i_Law_law_832 : mj_B2 y_Law_law 832 (fun (a b : Int32) => a + b) := .inl ⟨by decide +kernel, rfl⟩
theorem i_Law_law_833 : decode y_Law_law.2.1 833 = .ok (.iaload, 1) := by decide +kernel
theorem i_Law_law_834 : mj_Ld y_Law_law 834 1 0 2 := .inr (.inr ⟨rfl, .inr ⟨rfl, 0, rfl, by decide +kernel⟩⟩)
theorem i_Law_law_835 : mj_Ld y_Law_law 835 1 3 0 := .inl ⟨rfl, .inr ⟨rfl, 3, rfl, by decide +kernel⟩⟩
theorem i_Law_law_836 : mj_Kc y_Law_law 836 1 (.int 3) := .inl ⟨3, by decide +kernel, rfl, by decide +kernel⟩
theorem i_Law_law_837 : mj_B2 y_Law_law 837 (fun (a b : Int32) => a + b) := .inl ⟨by decide +kernel, rfl⟩
theorem i_Law_law_838 : decode y_Law_law.2.1 838 = .ok (.iaload, 1) := by decide +kernel
theorem i_Law_law_839 : mj_Cv y_Law_law 839 y_Model_way 8 3 := ⟨by decide, rfl, mt_Model_way, 116, by decide +kernel, mm_1026, mm_1027, mm_1028⟩
theorem i_Law_law_842 : mj_Ic y_Law_law 842 985 (fun (a b : Int32) => a = b) := ⟨143, by decide, .inl ⟨by decide +kernel, rfl⟩⟩
theorem i_Law_law_845 : mj_Kc y_Law_law 845 1 (.int 0) := .inl ⟨0, by decide +kernel, rfl, by decide +kernel⟩
theorem i_Law_law_846 : decode y_Law_law.2.1 846 = .ok (.ireturn, 1) := by decide +kernel
theorem i_Law_law_847 : mj_Ld y_Law_law 847 1 1 2 := .inr (.inr ⟨rfl, .inr ⟨rfl, 1, rfl, by decide +kernel⟩⟩)
theorem i_Law_law_848 : mj_Cv y_Law_law 848 y_GW_hides 7 0 := ⟨by decide, rfl, mt_GW_hides, 117, by decide +kernel, mm_627, mm_628, mm_629⟩
theorem i_Law_law_851 : mj_Ld y_Law_law 851 1 2 2 := .inr (.inr ⟨rfl, .inr ⟨rfl, 2, rfl, by decide +kernel⟩⟩)
theorem i_Law_law_852 : mj_Cv y_Law_law 852 y_Model_hides 8 0 := ⟨by decide, rfl, mt_Model_hides, 120, by decide +kernel, mm_1030, mm_1031, mm_1032⟩
theorem i_Law_law_855 : mj_Ic y_Law_law 855 985 (fun (a b : Int32) => a = b) := ⟨130, by decide, .inl ⟨by decide +kernel, rfl⟩⟩
theorem i_Law_law_858 : mj_Kc y_Law_law 858 1 (.int 0) := .inl ⟨0, by decide +kernel, rfl, by decide +kernel⟩
theorem i_Law_law_859 : decode y_Law_law.2.1 859 = .ok (.ireturn, 1) := by decide +kernel
theorem i_Law_law_860 : mj_Ld y_Law_law 860 1 1 2 := .inr (.inr ⟨rfl, .inr ⟨rfl, 1, rfl, by decide +kernel⟩⟩)
theorem i_Law_law_861 : mj_Ld y_Law_law 861 1 0 2 := .inr (.inr ⟨rfl, .inr ⟨rfl, 0, rfl, by decide +kernel⟩⟩)
theorem i_Law_law_862 : mj_Ld y_Law_law 862 1 3 0 := .inl ⟨rfl, .inr ⟨rfl, 3, rfl, by decide +kernel⟩⟩
theorem i_Law_law_863 : mj_Kc y_Law_law 863 1 (.int 1) := .inl ⟨1, by decide +kernel, rfl, by decide +kernel⟩
theorem i_Law_law_864 : mj_B2 y_Law_law 864 (fun (a b : Int32) => a + b) := .inl ⟨by decide +kernel, rfl⟩
theorem i_Law_law_865 : decode y_Law_law.2.1 865 = .ok (.iaload, 1) := by decide +kernel
theorem i_Law_law_866 : mj_Cv y_Law_law 866 y_GW_tree 7 1 := ⟨by decide, rfl, mt_GW_tree, 121, by decide +kernel, mm_635, mm_636, mm_637⟩
theorem i_Law_law_869 : mj_Ld y_Law_law 869 1 2 2 := .inr (.inr ⟨rfl, .inr ⟨rfl, 2, rfl, by decide +kernel⟩⟩)
theorem i_Law_law_870 : mj_Ld y_Law_law 870 1 0 2 := .inr (.inr ⟨rfl, .inr ⟨rfl, 0, rfl, by decide +kernel⟩⟩)
theorem i_Law_law_871 : mj_Ld y_Law_law 871 1 3 0 := .inl ⟨rfl, .inr ⟨rfl, 3, rfl, by decide +kernel⟩⟩
theorem i_Law_law_872 : mj_Kc y_Law_law 872 1 (.int 1) := .inl ⟨1, by decide +kernel, rfl, by decide +kernel⟩
theorem i_Law_law_873 : mj_B2 y_Law_law 873 (fun (a b : Int32) => a + b) := .inl ⟨by decide +kernel, rfl⟩
theorem i_Law_law_874 : decode y_Law_law.2.1 874 = .ok (.iaload, 1) := by decide +kernel
theorem i_Law_law_875 : mj_Cv y_Law_law 875 y_Model_tree 8 1 := ⟨by decide, rfl, mt_Model_tree, 124, by decide +kernel, mm_1034, mm_1035, mm_1036⟩
theorem i_Law_law_878 : mj_Ic y_Law_law 878 985 (fun (a b : Int32) => a = b) := ⟨107, by decide, .inl ⟨by decide +kernel, rfl⟩⟩
theorem i_Law_law_881 : mj_Kc y_Law_law 881 1 (.int 0) := .inl ⟨0, by decide +kernel, rfl, by decide +kernel⟩
theorem i_Law_law_882 : decode y_Law_law.2.1 882 = .ok (.ireturn, 1) := by decide +kernel
theorem i_Law_law_883 : mj_Ld y_Law_law 883 1 1 2 := .inr (.inr ⟨rfl, .inr ⟨rfl, 1, rfl, by decide +kernel⟩⟩)
theorem i_Law_law_884 : mj_Ld y_Law_law 884 1 0 2 := .inr (.inr ⟨rfl, .inr ⟨rfl, 0, rfl, by decide +kernel⟩⟩)
theorem i_Law_law_885 : mj_Ld y_Law_law 885 1 3 0 := .inl ⟨rfl, .inr ⟨rfl, 3, rfl, by decide +kernel⟩⟩
theorem i_Law_law_886 : mj_Kc y_Law_law 886 1 (.int 1) := .inl ⟨1, by decide +kernel, rfl, by decide +kernel⟩
theorem i_Law_law_887 : mj_B2 y_Law_law 887 (fun (a b : Int32) => a + b) := .inl ⟨by decide +kernel, rfl⟩
theorem i_Law_law_888 : decode y_Law_law.2.1 888 = .ok (.iaload, 1) := by decide +kernel
theorem i_Law_law_889 : mj_Ld y_Law_law 889 1 0 2 := .inr (.inr ⟨rfl, .inr ⟨rfl, 0, rfl, by decide +kernel⟩⟩)
theorem i_Law_law_890 : mj_Ld y_Law_law 890 1 3 0 := .inl ⟨rfl, .inr ⟨rfl, 3, rfl, by decide +kernel⟩⟩
theorem i_Law_law_891 : mj_Kc y_Law_law 891 1 (.int 2) := .inl ⟨2, by decide +kernel, rfl, by decide +kernel⟩
theorem i_Law_law_892 : mj_B2 y_Law_law 892 (fun (a b : Int32) => a + b) := .inl ⟨by decide +kernel, rfl⟩
theorem i_Law_law_893 : decode y_Law_law.2.1 893 = .ok (.iaload, 1) := by decide +kernel
theorem i_Law_law_894 : mj_Cv y_Law_law 894 y_GW_row 7 2 := ⟨by decide, rfl, mt_GW_row, 125, by decide +kernel, mm_655, mm_656, mm_657⟩
theorem i_Law_law_897 : mj_Ld y_Law_law 897 1 2 2 := .inr (.inr ⟨rfl, .inr ⟨rfl, 2, rfl, by decide +kernel⟩⟩)
theorem i_Law_law_898 : mj_Ld y_Law_law 898 1 0 2 := .inr (.inr ⟨rfl, .inr ⟨rfl, 0, rfl, by decide +kernel⟩⟩)
theorem i_Law_law_899 : mj_Ld y_Law_law 899 1 3 0 := .inl ⟨rfl, .inr ⟨rfl, 3, rfl, by decide +kernel⟩⟩
theorem i_Law_law_900 : mj_Kc y_Law_law 900 1 (.int 1) := .inl ⟨1, by decide +kernel, rfl, by decide +kernel⟩
theorem i_Law_law_901 : mj_B2 y_Law_law 901 (fun (a b : Int32) => a + b) := .inl ⟨by decide +kernel, rfl⟩
theorem i_Law_law_902 : decode y_Law_law.2.1 902 = .ok (.iaload, 1) := by decide +kernel
theorem i_Law_law_903 : mj_Ld y_Law_law 903 1 0 2 := .inr (.inr ⟨rfl, .inr ⟨rfl, 0, rfl, by decide +kernel⟩⟩)
theorem i_Law_law_904 : mj_Ld y_Law_law 904 1 3 0 := .inl ⟨rfl, .inr ⟨rfl, 3, rfl, by decide +kernel⟩⟩
theorem i_Law_law_905 : mj_Kc y_Law_law 905 1 (.int 2) := .inl ⟨2, by decide +kernel, rfl, by decide +kernel⟩
theorem i_Law_law_906 : mj_B2 y_Law_law 906 (fun (a b : Int32) => a + b) := .inl ⟨by decide +kernel, rfl⟩
theorem i_Law_law_907 : decode y_Law_law.2.1 907 = .ok (.iaload, 1) := by decide +kernel
theorem i_Law_law_908 : mj_Cv y_Law_law 908 y_Model_row 8 2 := ⟨by decide, rfl, mt_Model_row, 128, by decide +kernel, mm_1042, mm_1043, mm_1044⟩
theorem i_Law_law_911 : mj_Ic y_Law_law 911 985 (fun (a b : Int32) => a = b) := ⟨74, by decide, .inl ⟨by decide +kernel, rfl⟩⟩
theorem i_Law_law_914 : mj_Kc y_Law_law 914 1 (.int 0) := .inl ⟨0, by decide +kernel, rfl, by decide +kernel⟩
theorem i_Law_law_915 : decode y_Law_law.2.1 915 = .ok (.ireturn, 1) := by decide +kernel
theorem i_Law_law_916 : mj_Ld y_Law_law 916 1 1 2 := .inr (.inr ⟨rfl, .inr ⟨rfl, 1, rfl, by decide +kernel⟩⟩)
theorem i_Law_law_917 : mj_Ld y_Law_law 917 1 0 2 := .inr (.inr ⟨rfl, .inr ⟨rfl, 0, rfl, by decide +kernel⟩⟩)
theorem i_Law_law_918 : mj_Ld y_Law_law 918 1 3 0 := .inl ⟨rfl, .inr ⟨rfl, 3, rfl, by decide +kernel⟩⟩
theorem i_Law_law_919 : mj_Kc y_Law_law 919 1 (.int 1) := .inl ⟨1, by decide +kernel, rfl, by decide +kernel⟩
theorem i_Law_law_920 : mj_B2 y_Law_law 920 (fun (a b : Int32) => a + b) := .inl ⟨by decide +kernel, rfl⟩
theorem i_Law_law_921 : decode y_Law_law.2.1 921 = .ok (.iaload, 1) := by decide +kernel
theorem i_Law_law_922 : mj_Ld y_Law_law 922 1 0 2 := .inr (.inr ⟨rfl, .inr ⟨rfl, 0, rfl, by decide +kernel⟩⟩)
theorem i_Law_law_923 : mj_Ld y_Law_law 923 1 3 0 := .inl ⟨rfl, .inr ⟨rfl, 3, rfl, by decide +kernel⟩⟩
theorem i_Law_law_924 : mj_Kc y_Law_law 924 1 (.int 2) := .inl ⟨2, by decide +kernel, rfl, by decide +kernel⟩
theorem i_Law_law_925 : mj_B2 y_Law_law 925 (fun (a b : Int32) => a + b) := .inl ⟨by decide +kernel, rfl⟩
theorem i_Law_law_926 : decode y_Law_law.2.1 926 = .ok (.iaload, 1) := by decide +kernel
theorem i_Law_law_927 : mj_Cv y_Law_law 927 y_GW_forge 7 2 := ⟨by decide, rfl, mt_GW_forge, 129, by decide +kernel, mm_690, mm_691, mm_692⟩
theorem i_Law_law_930 : mj_Ld y_Law_law 930 1 2 2 := .inr (.inr ⟨rfl, .inr ⟨rfl, 2, rfl, by decide +kernel⟩⟩)
theorem i_Law_law_931 : mj_Ld y_Law_law 931 1 0 2 := .inr (.inr ⟨rfl, .inr ⟨rfl, 0, rfl, by decide +kernel⟩⟩)
theorem i_Law_law_932 : mj_Ld y_Law_law 932 1 3 0 := .inl ⟨rfl, .inr ⟨rfl, 3, rfl, by decide +kernel⟩⟩
theorem i_Law_law_933 : mj_Kc y_Law_law 933 1 (.int 1) := .inl ⟨1, by decide +kernel, rfl, by decide +kernel⟩
theorem i_Law_law_934 : mj_B2 y_Law_law 934 (fun (a b : Int32) => a + b) := .inl ⟨by decide +kernel, rfl⟩
theorem i_Law_law_935 : decode y_Law_law.2.1 935 = .ok (.iaload, 1) := by decide +kernel
theorem i_Law_law_936 : mj_Ld y_Law_law 936 1 0 2 := .inr (.inr ⟨rfl, .inr ⟨rfl, 0, rfl, by decide +kernel⟩⟩)
theorem i_Law_law_937 : mj_Ld y_Law_law 937 1 3 0 := .inl ⟨rfl, .inr ⟨rfl, 3, rfl, by decide +kernel⟩⟩
theorem i_Law_law_938 : mj_Kc y_Law_law 938 1 (.int 2) := .inl ⟨2, by decide +kernel, rfl, by decide +kernel⟩
theorem i_Law_law_939 : mj_B2 y_Law_law 939 (fun (a b : Int32) => a + b) := .inl ⟨by decide +kernel, rfl⟩
theorem i_Law_law_940 : decode y_Law_law.2.1 940 = .ok (.iaload, 1) := by decide +kernel
theorem i_Law_law_941 : mj_Cv y_Law_law 941 y_Model_forge 8 2 := ⟨by decide, rfl, mt_Model_forge, 132, by decide +kernel, mm_1050, mm_1051, mm_1052⟩
theorem i_Law_law_944 : mj_Ic y_Law_law 944 985 (fun (a b : Int32) => a = b) := ⟨41, by decide, .inl ⟨by decide +kernel, rfl⟩⟩
theorem i_Law_law_947 : mj_Kc y_Law_law 947 1 (.int 0) := .inl ⟨0, by decide +kernel, rfl, by decide +kernel⟩
theorem i_Law_law_948 : decode y_Law_law.2.1 948 = .ok (.ireturn, 1) := by decide +kernel
theorem i_Law_law_949 : mj_Ld y_Law_law 949 1 1 2 := .inr (.inr ⟨rfl, .inr ⟨rfl, 1, rfl, by decide +kernel⟩⟩)
theorem i_Law_law_950 : mj_Cv y_Law_law 950 y_GW_check 7 0 := ⟨by decide, rfl, mt_GW_check, 133, by decide +kernel, mm_699, mm_700, mm_701⟩
theorem i_Law_law_953 : mj_Ld y_Law_law 953 1 2 2 := .inr (.inr ⟨rfl, .inr ⟨rfl, 2, rfl, by decide +kernel⟩⟩)
theorem i_Law_law_954 : mj_Cv y_Law_law 954 y_Model_check 8 0 := ⟨by decide, rfl, mt_Model_check, 136, by decide +kernel, mm_1054, mm_1055, mm_1056⟩
theorem i_Law_law_957 : mj_Ic y_Law_law 957 985 (fun (a b : Int32) => a = b) := ⟨28, by decide, .inl ⟨by decide +kernel, rfl⟩⟩
theorem i_Law_law_960 : mj_Kc y_Law_law 960 1 (.int 0) := .inl ⟨0, by decide +kernel, rfl, by decide +kernel⟩
theorem i_Law_law_961 : decode y_Law_law.2.1 961 = .ok (.ireturn, 1) := by decide +kernel
theorem i_Law_law_962 : mj_Ld y_Law_law 962 1 1 2 := .inr (.inr ⟨rfl, .inr ⟨rfl, 1, rfl, by decide +kernel⟩⟩)
theorem i_Law_law_963 : mj_Ld y_Law_law 963 1 0 2 := .inr (.inr ⟨rfl, .inr ⟨rfl, 0, rfl, by decide +kernel⟩⟩)
theorem i_Law_law_964 : mj_Ld y_Law_law 964 1 3 0 := .inl ⟨rfl, .inr ⟨rfl, 3, rfl, by decide +kernel⟩⟩
theorem i_Law_law_965 : mj_Kc y_Law_law 965 1 (.int 1) := .inl ⟨1, by decide +kernel, rfl, by decide +kernel⟩
theorem i_Law_law_966 : mj_B2 y_Law_law 966 (fun (a b : Int32) => a + b) := .inl ⟨by decide +kernel, rfl⟩
theorem i_Law_law_967 : decode y_Law_law.2.1 967 = .ok (.iaload, 1) := by decide +kernel
theorem i_Law_law_968 : mj_Cv y_Law_law 968 y_GW_count 7 1 := ⟨by decide, rfl, mt_GW_count, 137, by decide +kernel, mm_712, mm_713, mm_714⟩
theorem i_Law_law_971 : mj_Ld y_Law_law 971 1 2 2 := .inr (.inr ⟨rfl, .inr ⟨rfl, 2, rfl, by decide +kernel⟩⟩)
theorem i_Law_law_972 : mj_Ld y_Law_law 972 1 0 2 := .inr (.inr ⟨rfl, .inr ⟨rfl, 0, rfl, by decide +kernel⟩⟩)
theorem i_Law_law_973 : mj_Ld y_Law_law 973 1 3 0 := .inl ⟨rfl, .inr ⟨rfl, 3, rfl, by decide +kernel⟩⟩
theorem i_Law_law_974 : mj_Kc y_Law_law 974 1 (.int 1) := .inl ⟨1, by decide +kernel, rfl, by decide +kernel⟩
theorem i_Law_law_975 : mj_B2 y_Law_law 975 (fun (a b : Int32) => a + b) := .inl ⟨by decide +kernel, rfl⟩
theorem i_Law_law_976 : decode y_Law_law.2.1 976 = .ok (.iaload, 1) := by decide +kernel
theorem i_Law_law_977 : mj_Cv y_Law_law 977 y_Model_count 8 1 := ⟨by decide, rfl, mt_Model_count, 140, by decide +kernel, mm_1066, mm_1067, mm_1068⟩
theorem i_Law_law_980 : mj_Ic y_Law_law 980 985 (fun (a b : Int32) => a = b) := ⟨5, by decide, .inl ⟨by decide +kernel, rfl⟩⟩
theorem i_Law_law_983 : mj_Kc y_Law_law 983 1 (.int 0) := .inl ⟨0, by decide +kernel, rfl, by decide +kernel⟩
theorem i_Law_law_984 : decode y_Law_law.2.1 984 = .ok (.ireturn, 1) := by decide +kernel
theorem i_Law_law_985 : mj_In y_Law_law 985 3 4 := ⟨4, by decide +kernel, by decide +kernel⟩
theorem i_Law_law_988 : mj_Go y_Law_law 988 18 := ⟨(-970), by decide, by decide +kernel⟩
theorem i_Law_law_991 : mj_Kc y_Law_law 991 1 (.int 1) := .inl ⟨1, by decide +kernel, rfl, by decide +kernel⟩
theorem i_Law_law_992 : decode y_Law_law.2.1 992 = .ok (.ireturn, 1) := by decide +kernel
