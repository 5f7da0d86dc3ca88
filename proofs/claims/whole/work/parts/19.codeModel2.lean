/-! what stands at each place of the methods: Model -/
theorem i_Model_cuts_43 : mj_B2 y_Model_cuts 43 (fun (a b : Int32) => a * b) := .inr (.inr (.inl ⟨by decide +kernel, rfl⟩))
theorem i_Model_cuts_44 : mj_Kc y_Model_cuts 44 1 (.int 1) := .inl ⟨1, by decide +kernel, rfl, by decide +kernel⟩
theorem i_Model_cuts_45 : mj_B2 y_Model_cuts 45 (fun (a b : Int32) => a + b) := .inl ⟨by decide +kernel, rfl⟩
theorem i_Model_cuts_46 : mj_St y_Model_cuts 46 2 7 0 := .inl ⟨rfl, .inl ⟨rfl, by decide +kernel⟩⟩
theorem i_Model_cuts_48 : mj_Kc y_Model_cuts 48 1 (.int 2) := .inl ⟨2, by decide +kernel, rfl, by decide +kernel⟩
theorem i_Model_cuts_49 : mj_Ld y_Model_cuts 49 1 3 0 := .inl ⟨rfl, .inr ⟨rfl, 3, rfl, by decide +kernel⟩⟩
theorem i_Model_cuts_50 : mj_Ld y_Model_cuts 50 1 0 2 := .inr (.inr ⟨rfl, .inr ⟨rfl, 0, rfl, by decide +kernel⟩⟩)
theorem i_Model_cuts_51 : mj_Gf y_Model_cuts 51 8 0 := ⟨by decide, by decide, 7, by decide +kernel, .inl mm_732⟩
theorem i_Model_cuts_54 : mj_D2 y_Model_cuts 54 (fun (a b : Int32) => a - a / b * b) := .inr ⟨by decide +kernel, rfl⟩
theorem i_Model_cuts_55 : mj_B2 y_Model_cuts 55 (fun (a b : Int32) => a * b) := .inr (.inr (.inl ⟨by decide +kernel, rfl⟩))
theorem i_Model_cuts_56 : mj_St y_Model_cuts 56 2 8 0 := .inl ⟨rfl, .inl ⟨rfl, by decide +kernel⟩⟩
theorem i_Model_cuts_58 : mj_Kc y_Model_cuts 58 1 (.int 2) := .inl ⟨2, by decide +kernel, rfl, by decide +kernel⟩
theorem i_Model_cuts_59 : mj_Ld y_Model_cuts 59 1 3 0 := .inl ⟨rfl, .inr ⟨rfl, 3, rfl, by decide +kernel⟩⟩
theorem i_Model_cuts_60 : mj_Ld y_Model_cuts 60 1 0 2 := .inr (.inr ⟨rfl, .inr ⟨rfl, 0, rfl, by decide +kernel⟩⟩)
theorem i_Model_cuts_61 : mj_Gf y_Model_cuts 61 8 0 := ⟨by decide, by decide, 7, by decide +kernel, .inl mm_732⟩
theorem i_Model_cuts_64 : mj_D2 y_Model_cuts 64 (fun (a b : Int32) => a / b) := .inl ⟨by decide +kernel, rfl⟩
theorem i_Model_cuts_65 : mj_B2 y_Model_cuts 65 (fun (a b : Int32) => a * b) := .inr (.inr (.inl ⟨by decide +kernel, rfl⟩))
theorem i_Model_cuts_66 : mj_St y_Model_cuts 66 2 9 0 := .inl ⟨rfl, .inl ⟨rfl, by decide +kernel⟩⟩
theorem i_Model_cuts_68 : mj_Ld y_Model_cuts 68 2 4 0 := .inl ⟨rfl, .inl ⟨rfl, by decide +kernel⟩⟩
theorem i_Model_cuts_70 : mj_Ld y_Model_cuts 70 2 6 0 := .inl ⟨rfl, .inl ⟨rfl, by decide +kernel⟩⟩
theorem i_Model_cuts_72 : mj_Ic y_Model_cuts 72 80 (fun (a b : Int32) => b ≤ a) := ⟨8, by decide, .inr (.inr (.inr (.inl ⟨by decide +kernel, rfl⟩)))⟩
theorem i_Model_cuts_75 : mj_Ld y_Model_cuts 75 2 4 0 := .inl ⟨rfl, .inl ⟨rfl, by decide +kernel⟩⟩
theorem i_Model_cuts_77 : mj_Go y_Model_cuts 77 82 := ⟨5, by decide, by decide +kernel⟩
theorem i_Model_cuts_80 : mj_Ld y_Model_cuts 80 2 6 0 := .inl ⟨rfl, .inl ⟨rfl, by decide +kernel⟩⟩
theorem i_Model_cuts_82 : mj_St y_Model_cuts 82 2 10 0 := .inl ⟨rfl, .inl ⟨rfl, by decide +kernel⟩⟩
theorem i_Model_cuts_84 : mj_Ld y_Model_cuts 84 2 5 0 := .inl ⟨rfl, .inl ⟨rfl, by decide +kernel⟩⟩
theorem i_Model_cuts_86 : mj_Ld y_Model_cuts 86 2 7 0 := .inl ⟨rfl, .inl ⟨rfl, by decide +kernel⟩⟩
theorem i_Model_cuts_88 : mj_Ic y_Model_cuts 88 96 (fun (a b : Int32) => b ≤ a) := ⟨8, by decide, .inr (.inr (.inr (.inl ⟨by decide +kernel, rfl⟩)))⟩
theorem i_Model_cuts_91 : mj_Ld y_Model_cuts 91 2 5 0 := .inl ⟨rfl, .inl ⟨rfl, by decide +kernel⟩⟩
theorem i_Model_cuts_93 : mj_Go y_Model_cuts 93 98 := ⟨5, by decide, by decide +kernel⟩
theorem i_Model_cuts_96 : mj_Ld y_Model_cuts 96 2 7 0 := .inl ⟨rfl, .inl ⟨rfl, by decide +kernel⟩⟩
theorem i_Model_cuts_98 : mj_St y_Model_cuts 98 2 11 0 := .inl ⟨rfl, .inl ⟨rfl, by decide +kernel⟩⟩
theorem i_Model_cuts_100 : mj_Ld y_Model_cuts 100 2 4 0 := .inl ⟨rfl, .inl ⟨rfl, by decide +kernel⟩⟩
theorem i_Model_cuts_102 : mj_Ld y_Model_cuts 102 2 6 0 := .inl ⟨rfl, .inl ⟨rfl, by decide +kernel⟩⟩
theorem i_Model_cuts_104 : mj_B2 y_Model_cuts 104 (fun (a b : Int32) => a + b) := .inl ⟨by decide +kernel, rfl⟩
theorem i_Model_cuts_105 : mj_Ld y_Model_cuts 105 2 10 0 := .inl ⟨rfl, .inl ⟨rfl, by decide +kernel⟩⟩
theorem i_Model_cuts_107 : mj_B2 y_Model_cuts 107 (fun (a b : Int32) => a - b) := .inr (.inl ⟨by decide +kernel, rfl⟩)
theorem i_Model_cuts_108 : mj_St y_Model_cuts 108 2 12 0 := .inl ⟨rfl, .inl ⟨rfl, by decide +kernel⟩⟩
theorem i_Model_cuts_110 : mj_Ld y_Model_cuts 110 2 5 0 := .inl ⟨rfl, .inl ⟨rfl, by decide +kernel⟩⟩
theorem i_Model_cuts_112 : mj_Ld y_Model_cuts 112 2 7 0 := .inl ⟨rfl, .inl ⟨rfl, by decide +kernel⟩⟩
theorem i_Model_cuts_114 : mj_B2 y_Model_cuts 114 (fun (a b : Int32) => a + b) := .inl ⟨by decide +kernel, rfl⟩
theorem i_Model_cuts_115 : mj_Ld y_Model_cuts 115 2 11 0 := .inl ⟨rfl, .inl ⟨rfl, by decide +kernel⟩⟩
theorem i_Model_cuts_117 : mj_B2 y_Model_cuts 117 (fun (a b : Int32) => a - b) := .inr (.inl ⟨by decide +kernel, rfl⟩)
theorem i_Model_cuts_118 : mj_St y_Model_cuts 118 2 13 0 := .inl ⟨rfl, .inl ⟨rfl, by decide +kernel⟩⟩
theorem i_Model_cuts_120 : mj_Ld y_Model_cuts 120 2 12 0 := .inl ⟨rfl, .inl ⟨rfl, by decide +kernel⟩⟩
theorem i_Model_cuts_122 : mj_Ld y_Model_cuts 122 2 8 0 := .inl ⟨rfl, .inl ⟨rfl, by decide +kernel⟩⟩
theorem i_Model_cuts_124 : mj_Ic y_Model_cuts 124 152 (fun (a b : Int32) => a ≤ b) := ⟨28, by decide, .inr (.inr (.inr (.inr (.inr (⟨by decide +kernel, rfl⟩)))))⟩
theorem i_Model_cuts_127 : mj_Ld y_Model_cuts 127 2 10 0 := .inl ⟨rfl, .inl ⟨rfl, by decide +kernel⟩⟩
theorem i_Model_cuts_129 : mj_Ld y_Model_cuts 129 2 8 0 := .inl ⟨rfl, .inl ⟨rfl, by decide +kernel⟩⟩
theorem i_Model_cuts_131 : mj_Kc y_Model_cuts 131 1 (.int 2) := .inl ⟨2, by decide +kernel, rfl, by decide +kernel⟩
theorem i_Model_cuts_132 : mj_B2 y_Model_cuts 132 (fun (a b : Int32) => a + b) := .inl ⟨by decide +kernel, rfl⟩
theorem i_Model_cuts_133 : mj_Ic y_Model_cuts 133 152 (fun (a b : Int32) => b ≤ a) := ⟨19, by decide, .inr (.inr (.inr (.inl ⟨by decide +kernel, rfl⟩)))⟩
theorem i_Model_cuts_136 : mj_Ld y_Model_cuts 136 2 13 0 := .inl ⟨rfl, .inl ⟨rfl, by decide +kernel⟩⟩
theorem i_Model_cuts_138 : mj_Ld y_Model_cuts 138 2 9 0 := .inl ⟨rfl, .inl ⟨rfl, by decide +kernel⟩⟩
theorem i_Model_cuts_140 : mj_Ic y_Model_cuts 140 152 (fun (a b : Int32) => a ≤ b) := ⟨12, by decide, .inr (.inr (.inr (.inr (.inr (⟨by decide +kernel, rfl⟩)))))⟩
theorem i_Model_cuts_143 : mj_Ld y_Model_cuts 143 2 11 0 := .inl ⟨rfl, .inl ⟨rfl, by decide +kernel⟩⟩
theorem i_Model_cuts_145 : mj_Ld y_Model_cuts 145 2 9 0 := .inl ⟨rfl, .inl ⟨rfl, by decide +kernel⟩⟩
theorem i_Model_cuts_147 : mj_Kc y_Model_cuts 147 1 (.int 2) := .inl ⟨2, by decide +kernel, rfl, by decide +kernel⟩
theorem i_Model_cuts_148 : mj_B2 y_Model_cuts 148 (fun (a b : Int32) => a + b) := .inl ⟨by decide +kernel, rfl⟩
theorem i_Model_cuts_149 : mj_Ic y_Model_cuts 149 154 (fun (a b : Int32) => a < b) := ⟨5, by decide, .inr (.inr (.inl ⟨by decide +kernel, rfl⟩))⟩
theorem i_Model_cuts_152 : mj_Kc y_Model_cuts 152 1 (.int 0) := .inl ⟨0, by decide +kernel, rfl, by decide +kernel⟩
theorem i_Model_cuts_153 : decode y_Model_cuts.2.1 153 = .ok (.ireturn, 1) := by decide +kernel
theorem i_Model_cuts_154 : mj_Kc y_Model_cuts 154 1 (.int 1) := .inl ⟨1, by decide +kernel, rfl, by decide +kernel⟩
theorem i_Model_cuts_155 : mj_St y_Model_cuts 155 2 14 0 := .inl ⟨rfl, .inl ⟨rfl, by decide +kernel⟩⟩
theorem i_Model_cuts_157 : mj_Kc y_Model_cuts 157 1 (.int (-1)) := .inl ⟨(-1), by decide +kernel, rfl, by decide +kernel⟩
theorem i_Model_cuts_158 : mj_St y_Model_cuts 158 2 15 0 := .inl ⟨rfl, .inl ⟨rfl, by decide +kernel⟩⟩
theorem i_Model_cuts_160 : mj_Kc y_Model_cuts 160 1 (.int 0) := .inl ⟨0, by decide +kernel, rfl, by decide +kernel⟩
theorem i_Model_cuts_161 : mj_St y_Model_cuts 161 2 16 0 := .inl ⟨rfl, .inl ⟨rfl, by decide +kernel⟩⟩
theorem i_Model_cuts_163 : mj_Ld y_Model_cuts 163 2 16 0 := .inl ⟨rfl, .inl ⟨rfl, by decide +kernel⟩⟩
theorem i_Model_cuts_165 : mj_Kc y_Model_cuts 165 1 (.int 4) := .inl ⟨4, by decide +kernel, rfl, by decide +kernel⟩
theorem i_Model_cuts_166 : mj_Ic y_Model_cuts 166 238 (fun (a b : Int32) => b ≤ a) := ⟨72, by decide, .inr (.inr (.inr (.inl ⟨by decide +kernel, rfl⟩)))⟩
theorem i_Model_cuts_169 : mj_Ld y_Model_cuts 169 2 4 0 := .inl ⟨rfl, .inl ⟨rfl, by decide +kernel⟩⟩
theorem i_Model_cuts_171 : mj_Ld y_Model_cuts 171 2 5 0 := .inl ⟨rfl, .inl ⟨rfl, by decide +kernel⟩⟩
theorem i_Model_cuts_173 : mj_Ld y_Model_cuts 173 2 6 0 := .inl ⟨rfl, .inl ⟨rfl, by decide +kernel⟩⟩
theorem i_Model_cuts_175 : mj_Ld y_Model_cuts 175 2 7 0 := .inl ⟨rfl, .inl ⟨rfl, by decide +kernel⟩⟩
theorem i_Model_cuts_177 : mj_Ld y_Model_cuts 177 2 8 0 := .inl ⟨rfl, .inl ⟨rfl, by decide +kernel⟩⟩
theorem i_Model_cuts_179 : mj_Kc y_Model_cuts 179 1 (.int 2) := .inl ⟨2, by decide +kernel, rfl, by decide +kernel⟩
theorem i_Model_cuts_180 : mj_Ld y_Model_cuts 180 2 16 0 := .inl ⟨rfl, .inl ⟨rfl, by decide +kernel⟩⟩
theorem i_Model_cuts_182 : mj_Kc y_Model_cuts 182 1 (.int 2) := .inl ⟨2, by decide +kernel, rfl, by decide +kernel⟩
theorem i_Model_cuts_183 : mj_D2 y_Model_cuts 183 (fun (a b : Int32) => a - a / b * b) := .inr ⟨by decide +kernel, rfl⟩
theorem i_Model_cuts_184 : mj_B2 y_Model_cuts 184 (fun (a b : Int32) => a * b) := .inr (.inr (.inl ⟨by decide +kernel, rfl⟩))
theorem i_Model_cuts_185 : mj_B2 y_Model_cuts 185 (fun (a b : Int32) => a + b) := .inl ⟨by decide +kernel, rfl⟩
theorem i_Model_cuts_186 : mj_Ld y_Model_cuts 186 2 9 0 := .inl ⟨rfl, .inl ⟨rfl, by decide +kernel⟩⟩
theorem i_Model_cuts_188 : mj_Kc y_Model_cuts 188 1 (.int 2) := .inl ⟨2, by decide +kernel, rfl, by decide +kernel⟩
theorem i_Model_cuts_189 : mj_Ld y_Model_cuts 189 2 16 0 := .inl ⟨rfl, .inl ⟨rfl, by decide +kernel⟩⟩
theorem i_Model_cuts_191 : mj_Kc y_Model_cuts 191 1 (.int 2) := .inl ⟨2, by decide +kernel, rfl, by decide +kernel⟩
theorem i_Model_cuts_192 : mj_D2 y_Model_cuts 192 (fun (a b : Int32) => a / b) := .inl ⟨by decide +kernel, rfl⟩
theorem i_Model_cuts_193 : mj_B2 y_Model_cuts 193 (fun (a b : Int32) => a * b) := .inr (.inr (.inl ⟨by decide +kernel, rfl⟩))
theorem i_Model_cuts_194 : mj_B2 y_Model_cuts 194 (fun (a b : Int32) => a + b) := .inl ⟨by decide +kernel, rfl⟩
theorem i_Model_cuts_195 : mj_Cs y_Model_cuts 195 y_Model_side 6 := ⟨mt_Model_side, 115, by decide +kernel, mm_890, .inl mm_889⟩
theorem i_Model_cuts_198 : mj_St y_Model_cuts 198 2 17 0 := .inl ⟨rfl, .inl ⟨rfl, by decide +kernel⟩⟩
theorem i_Model_cuts_200 : mj_Ld y_Model_cuts 200 2 17 0 := .inl ⟨rfl, .inl ⟨rfl, by decide +kernel⟩⟩
theorem i_Model_cuts_202 : mj_Ld y_Model_cuts 202 2 14 0 := .inl ⟨rfl, .inl ⟨rfl, by decide +kernel⟩⟩
theorem i_Model_cuts_204 : mj_Ic y_Model_cuts 204 212 (fun (a b : Int32) => b ≤ a) := ⟨8, by decide, .inr (.inr (.inr (.inl ⟨by decide +kernel, rfl⟩)))⟩
theorem i_Model_cuts_207 : mj_Ld y_Model_cuts 207 2 17 0 := .inl ⟨rfl, .inl ⟨rfl, by decide +kernel⟩⟩
theorem i_Model_cuts_209 : mj_Go y_Model_cuts 209 214 := ⟨5, by decide, by decide +kernel⟩
theorem i_Model_cuts_212 : mj_Ld y_Model_cuts 212 2 14 0 := .inl ⟨rfl, .inl ⟨rfl, by decide +kernel⟩⟩
theorem i_Model_cuts_214 : mj_St y_Model_cuts 214 2 14 0 := .inl ⟨rfl, .inl ⟨rfl, by decide +kernel⟩⟩
theorem i_Model_cuts_216 : mj_Ld y_Model_cuts 216 2 17 0 := .inl ⟨rfl, .inl ⟨rfl, by decide +kernel⟩⟩
theorem i_Model_cuts_218 : mj_Ld y_Model_cuts 218 2 15 0 := .inl ⟨rfl, .inl ⟨rfl, by decide +kernel⟩⟩
theorem i_Model_cuts_220 : mj_Ic y_Model_cuts 220 228 (fun (a b : Int32) => a ≤ b) := ⟨8, by decide, .inr (.inr (.inr (.inr (.inr (⟨by decide +kernel, rfl⟩)))))⟩
theorem i_Model_cuts_223 : mj_Ld y_Model_cuts 223 2 17 0 := .inl ⟨rfl, .inl ⟨rfl, by decide +kernel⟩⟩
theorem i_Model_cuts_225 : mj_Go y_Model_cuts 225 230 := ⟨5, by decide, by decide +kernel⟩
theorem i_Model_cuts_228 : mj_Ld y_Model_cuts 228 2 15 0 := .inl ⟨rfl, .inl ⟨rfl, by decide +kernel⟩⟩
theorem i_Model_cuts_230 : mj_St y_Model_cuts 230 2 15 0 := .inl ⟨rfl, .inl ⟨rfl, by decide +kernel⟩⟩
theorem i_Model_cuts_232 : mj_In y_Model_cuts 232 16 1 := ⟨1, by decide +kernel, by decide +kernel⟩
theorem i_Model_cuts_235 : mj_Go y_Model_cuts 235 163 := ⟨(-72), by decide, by decide +kernel⟩
theorem i_Model_cuts_238 : mj_Ld y_Model_cuts 238 2 14 0 := .inl ⟨rfl, .inl ⟨rfl, by decide +kernel⟩⟩
theorem i_Model_cuts_240 : mj_If y_Model_cuts 240 252 (fun (a : Int32) => 0 ≤ a) := ⟨12, by decide, .inr (.inr (.inr (.inl ⟨by decide +kernel, rfl⟩)))⟩
theorem i_Model_cuts_243 : mj_Ld y_Model_cuts 243 2 15 0 := .inl ⟨rfl, .inl ⟨rfl, by decide +kernel⟩⟩
theorem i_Model_cuts_245 : mj_If y_Model_cuts 245 252 (fun (a : Int32) => a ≤ 0) := ⟨7, by decide, .inr (.inr (.inr (.inr (.inr (⟨by decide +kernel, rfl⟩)))))⟩
theorem i_Model_cuts_248 : mj_Kc y_Model_cuts 248 1 (.int 1) := .inl ⟨1, by decide +kernel, rfl, by decide +kernel⟩
theorem i_Model_cuts_249 : mj_Go y_Model_cuts 249 253 := ⟨4, by decide, by decide +kernel⟩
theorem i_Model_cuts_252 : mj_Kc y_Model_cuts 252 1 (.int 0) := .inl ⟨0, by decide +kernel, rfl, by decide +kernel⟩
theorem i_Model_cuts_253 : decode y_Model_cuts.2.1 253 = .ok (.ireturn, 1) := by decide +kernel
theorem i_Model_side_0 : mj_Ld y_Model_side 0 1 2 0 := .inl ⟨rfl, .inr ⟨rfl, 2, rfl, by decide +kernel⟩⟩
theorem i_Model_side_1 : mj_Ld y_Model_side 1 1 0 0 := .inl ⟨rfl, .inr ⟨rfl, 0, rfl, by decide +kernel⟩⟩
theorem i_Model_side_2 : mj_B2 y_Model_side 2 (fun (a b : Int32) => a - b) := .inr (.inl ⟨by decide +kernel, rfl⟩)
theorem i_Model_side_3 : mj_Ld y_Model_side 3 2 5 0 := .inl ⟨rfl, .inl ⟨rfl, by decide +kernel⟩⟩
theorem i_Model_side_5 : mj_Ld y_Model_side 5 1 1 0 := .inl ⟨rfl, .inr ⟨rfl, 1, rfl, by decide +kernel⟩⟩
theorem i_Model_side_6 : mj_B2 y_Model_side 6 (fun (a b : Int32) => a - b) := .inr (.inl ⟨by decide +kernel, rfl⟩)
theorem i_Model_side_7 : mj_B2 y_Model_side 7 (fun (a b : Int32) => a * b) := .inr (.inr (.inl ⟨by decide +kernel, rfl⟩))
theorem i_Model_side_8 : mj_Ld y_Model_side 8 1 3 0 := .inl ⟨rfl, .inr ⟨rfl, 3, rfl, by decide +kernel⟩⟩
theorem i_Model_side_9 : mj_Ld y_Model_side 9 1 1 0 := .inl ⟨rfl, .inr ⟨rfl, 1, rfl, by decide +kernel⟩⟩
theorem i_Model_side_10 : mj_B2 y_Model_side 10 (fun (a b : Int32) => a - b) := .inr (.inl ⟨by decide +kernel, rfl⟩)
theorem i_Model_side_11 : mj_Ld y_Model_side 11 2 4 0 := .inl ⟨rfl, .inl ⟨rfl, by decide +kernel⟩⟩
theorem i_Model_side_13 : mj_Ld y_Model_side 13 1 0 0 := .inl ⟨rfl, .inr ⟨rfl, 0, rfl, by decide +kernel⟩⟩
theorem i_Model_side_14 : mj_B2 y_Model_side 14 (fun (a b : Int32) => a - b) := .inr (.inl ⟨by decide +kernel, rfl⟩)
theorem i_Model_side_15 : mj_B2 y_Model_side 15 (fun (a b : Int32) => a * b) := .inr (.inr (.inl ⟨by decide +kernel, rfl⟩))
theorem i_Model_side_16 : mj_B2 y_Model_side 16 (fun (a b : Int32) => a - b) := .inr (.inl ⟨by decide +kernel, rfl⟩)
theorem i_Model_side_17 : mj_St y_Model_side 17 2 6 0 := .inl ⟨rfl, .inl ⟨rfl, by decide +kernel⟩⟩
theorem i_Model_side_19 : mj_Ld y_Model_side 19 2 6 0 := .inl ⟨rfl, .inl ⟨rfl, by decide +kernel⟩⟩
theorem i_Model_side_21 : mj_If y_Model_side 21 28 (fun (a : Int32) => 0 ≤ a) := ⟨7, by decide, .inr (.inr (.inr (.inl ⟨by decide +kernel, rfl⟩)))⟩
theorem i_Model_side_24 : mj_Kc y_Model_side 24 1 (.int (-1)) := .inl ⟨(-1), by decide +kernel, rfl, by decide +kernel⟩
theorem i_Model_side_25 : mj_Go y_Model_side 25 38 := ⟨13, by decide, by decide +kernel⟩
theorem i_Model_side_28 : mj_Ld y_Model_side 28 2 6 0 := .inl ⟨rfl, .inl ⟨rfl, by decide +kernel⟩⟩
theorem i_Model_side_30 : mj_If y_Model_side 30 37 (fun (a : Int32) => a ≤ 0) := ⟨7, by decide, .inr (.inr (.inr (.inr (.inr (⟨by decide +kernel, rfl⟩)))))⟩
theorem i_Model_side_33 : mj_Kc y_Model_side 33 1 (.int 1) := .inl ⟨1, by decide +kernel, rfl, by decide +kernel⟩
theorem i_Model_side_34 : mj_Go y_Model_side 34 38 := ⟨4, by decide, by decide +kernel⟩
theorem i_Model_side_37 : mj_Kc y_Model_side 37 1 (.int 0) := .inl ⟨0, by decide +kernel, rfl, by decide +kernel⟩
theorem i_Model_side_38 : decode y_Model_side.2.1 38 = .ok (.ireturn, 1) := by decide +kernel
theorem i_Model_post_0 : mj_Ld y_Model_post 0 1 0 2 := .inr (.inr ⟨rfl, .inr ⟨rfl, 0, rfl, by decide +kernel⟩⟩)
theorem i_Model_post_1 : mj_Ld y_Model_post 1 1 1 0 := .inl ⟨rfl, .inr ⟨rfl, 1, rfl, by decide +kernel⟩⟩
theorem i_Model_post_2 : mj_Cv y_Model_post 2 y_Model_isCell 8 1 := ⟨by decide, rfl, mt_Model_isCell, 96, by decide +kernel, mm_830, mm_832, mp_19⟩
theorem i_Model_post_5 : mj_If y_Model_post 5 17 (fun (a : Int32) => a = 0) := ⟨12, by decide, .inl ⟨by decide +kernel, rfl⟩⟩
theorem i_Model_post_8 : mj_Ld y_Model_post 8 1 2 0 := .inl ⟨rfl, .inr ⟨rfl, 2, rfl, by decide +kernel⟩⟩
theorem i_Model_post_9 : mj_Kc y_Model_post 9 1 (.int 0) := .inl ⟨0, by decide +kernel, rfl, by decide +kernel⟩
theorem i_Model_post_10 : mj_Kc y_Model_post 10 1 (.int 4) := .inl ⟨4, by decide +kernel, rfl, by decide +kernel⟩
theorem i_Model_post_11 : mj_Cs y_Model_post 11 y_Model_isIn 3 := ⟨mt_Model_isIn, 70, by decide +kernel, mm_819, .inl mm_818⟩
theorem i_Model_post_14 : mj_If y_Model_post 14 20 (fun (a : Int32) => ¬ a = 0) := ⟨6, by decide, .inr (.inl ⟨by decide +kernel, rfl⟩)⟩
theorem i_Model_post_17 : mj_Kc y_Model_post 17 2 (.int (-2000000001)) := .inr (.inr (.inr (.inl ⟨81, (-2000000001), by decide +kernel, rfl, rfl, mm_821⟩)))
theorem i_Model_post_19 : decode y_Model_post.2.1 19 = .ok (.ireturn, 1) := by decide +kernel
theorem i_Model_post_20 : mj_Ld y_Model_post 20 1 0 2 := .inr (.inr ⟨rfl, .inr ⟨rfl, 0, rfl, by decide +kernel⟩⟩)
theorem i_Model_post_21 : mj_Ld y_Model_post 21 1 1 0 := .inl ⟨rfl, .inr ⟨rfl, 1, rfl, by decide +kernel⟩⟩
theorem i_Model_post_22 : mj_Ld y_Model_post 22 1 2 0 := .inl ⟨rfl, .inr ⟨rfl, 2, rfl, by decide +kernel⟩⟩
theorem i_Model_post_23 : mj_Cv y_Model_post 23 y_Model_mayStand 8 2 := ⟨by decide, rfl, mt_Model_mayStand, 92, by decide +kernel, mm_850, mm_852, mp_24⟩
theorem i_Model_post_26 : mj_If y_Model_post 26 32 (fun (a : Int32) => ¬ a = 0) := ⟨6, by decide, .inr (.inl ⟨by decide +kernel, rfl⟩)⟩
theorem i_Model_post_29 : mj_Kc y_Model_post 29 2 (.int (-2000000002)) := .inr (.inr (.inr (.inl ⟨80, (-2000000002), by decide +kernel, rfl, rfl, mm_813⟩)))
theorem i_Model_post_31 : decode y_Model_post.2.1 31 = .ok (.ireturn, 1) := by decide +kernel
theorem i_Model_post_32 : mj_Ld y_Model_post 32 1 0 2 := .inr (.inr ⟨rfl, .inr ⟨rfl, 0, rfl, by decide +kernel⟩⟩)
theorem i_Model_post_33 : mj_Cv y_Model_post 33 y_Model_posts 8 0 := ⟨by decide, rfl, mt_Model_posts, 74, by decide +kernel, mm_846, mm_848, mp_23⟩
theorem i_Model_post_36 : mj_Kc y_Model_post 36 2 (.int 14) := .inr (.inl ⟨14, by decide +kernel, rfl, by decide +kernel⟩)
theorem i_Model_post_38 : mj_Ic y_Model_post 38 44 (fun (a b : Int32) => ¬ a = b) := ⟨6, by decide, .inr (.inl ⟨by decide +kernel, rfl⟩)⟩
theorem i_Model_post_41 : mj_Kc y_Model_post 41 2 (.int (-2000000003)) := .inr (.inr (.inr (.inl ⟨125, (-2000000003), by decide +kernel, rfl, rfl, mm_896⟩)))
theorem i_Model_post_43 : decode y_Model_post.2.1 43 = .ok (.ireturn, 1) := by decide +kernel
theorem i_Model_post_44 : mj_Ld y_Model_post 44 1 0 2 := .inr (.inr ⟨rfl, .inr ⟨rfl, 0, rfl, by decide +kernel⟩⟩)
theorem i_Model_post_45 : mj_Cv y_Model_post 45 y_Model_keep 8 0 := ⟨by decide, rfl, mt_Model_keep, 112, by decide +kernel, mm_869, mm_871, mp_28⟩
theorem i_Model_post_48 : mj_Ld y_Model_post 48 1 0 2 := .inr (.inr ⟨rfl, .inr ⟨rfl, 0, rfl, by decide +kernel⟩⟩)
theorem i_Model_post_49 : mj_Cv y_Model_post 49 y_Model_posts 8 0 := ⟨by decide, rfl, mt_Model_posts, 74, by decide +kernel, mm_846, mm_848, mp_23⟩
theorem i_Model_post_52 : mj_St y_Model_post 52 1 3 0 := .inl ⟨rfl, .inr ⟨rfl, 3, rfl, by decide +kernel⟩⟩
theorem i_Model_post_53 : mj_Ld y_Model_post 53 1 0 2 := .inr (.inr ⟨rfl, .inr ⟨rfl, 0, rfl, by decide +kernel⟩⟩)
theorem i_Model_post_54 : mj_Gf y_Model_post 54 8 2 := ⟨by decide, by decide, 16, by decide +kernel, .inl mm_734⟩
theorem i_Model_post_57 : mj_Kc y_Model_post 57 2 (.int 100) := .inr (.inl ⟨100, by decide +kernel, rfl, by decide +kernel⟩)
theorem i_Model_post_59 : decode y_Model_post.2.1 59 = .ok (.dup2, 1) := by decide +kernel
theorem i_Model_post_60 : decode y_Model_post.2.1 60 = .ok (.iaload, 1) := by decide +kernel
theorem i_Model_post_61 : mj_Kc y_Model_post 61 1 (.int 1) := .inl ⟨1, by decide +kernel, rfl, by decide +kernel⟩
theorem i_Model_post_62 : mj_B2 y_Model_post 62 (fun (a b : Int32) => a + b) := .inl ⟨by decide +kernel, rfl⟩
theorem i_Model_post_63 : decode y_Model_post.2.1 63 = .ok (.iastore, 1) := by decide +kernel
theorem i_Model_post_64 : mj_Ld y_Model_post 64 1 0 2 := .inr (.inr ⟨rfl, .inr ⟨rfl, 0, rfl, by decide +kernel⟩⟩)
theorem i_Model_post_65 : mj_Gf y_Model_post 65 8 2 := ⟨by decide, by decide, 16, by decide +kernel, .inl mm_734⟩
theorem i_Model_post_68 : mj_Kc y_Model_post 68 2 (.int 101) := .inr (.inl ⟨101, by decide +kernel, rfl, by decide +kernel⟩)
theorem i_Model_post_70 : mj_Ld y_Model_post 70 1 3 0 := .inl ⟨rfl, .inr ⟨rfl, 3, rfl, by decide +kernel⟩⟩
theorem i_Model_post_71 : mj_B2 y_Model_post 71 (fun (a b : Int32) => a + b) := .inl ⟨by decide +kernel, rfl⟩
theorem i_Model_post_72 : mj_Ld y_Model_post 72 1 1 0 := .inl ⟨rfl, .inr ⟨rfl, 1, rfl, by decide +kernel⟩⟩
theorem i_Model_post_73 : decode y_Model_post.2.1 73 = .ok (.iastore, 1) := by decide +kernel
theorem i_Model_post_74 : mj_Ld y_Model_post 74 1 0 2 := .inr (.inr ⟨rfl, .inr ⟨rfl, 0, rfl, by decide +kernel⟩⟩)
theorem i_Model_post_75 : mj_Gf y_Model_post 75 8 2 := ⟨by decide, by decide, 16, by decide +kernel, .inl mm_734⟩
theorem i_Model_post_78 : mj_Kc y_Model_post 78 2 (.int 115) := .inr (.inl ⟨115, by decide +kernel, rfl, by decide +kernel⟩)
theorem i_Model_post_80 : mj_Ld y_Model_post 80 1 3 0 := .inl ⟨rfl, .inr ⟨rfl, 3, rfl, by decide +kernel⟩⟩
theorem i_Model_post_81 : mj_B2 y_Model_post 81 (fun (a b : Int32) => a + b) := .inl ⟨by decide +kernel, rfl⟩
theorem i_Model_post_82 : mj_Ld y_Model_post 82 1 2 0 := .inl ⟨rfl, .inr ⟨rfl, 2, rfl, by decide +kernel⟩⟩
theorem i_Model_post_83 : decode y_Model_post.2.1 83 = .ok (.iastore, 1) := by decide +kernel
theorem i_Model_post_84 : mj_Ld y_Model_post 84 1 0 2 := .inr (.inr ⟨rfl, .inr ⟨rfl, 0, rfl, by decide +kernel⟩⟩)
theorem i_Model_post_85 : mj_Gf y_Model_post 85 8 2 := ⟨by decide, by decide, 16, by decide +kernel, .inl mm_734⟩
theorem i_Model_post_88 : mj_Kc y_Model_post 88 3 (.int 129) := .inr (.inr (.inl ⟨129, by decide +kernel, rfl, by decide +kernel⟩))
theorem i_Model_post_91 : mj_Ld y_Model_post 91 1 3 0 := .inl ⟨rfl, .inr ⟨rfl, 3, rfl, by decide +kernel⟩⟩
theorem i_Model_post_92 : mj_B2 y_Model_post 92 (fun (a b : Int32) => a + b) := .inl ⟨by decide +kernel, rfl⟩
theorem i_Model_post_93 : mj_Kc y_Model_post 93 1 (.int 1) := .inl ⟨1, by decide +kernel, rfl, by decide +kernel⟩
theorem i_Model_post_94 : decode y_Model_post.2.1 94 = .ok (.iastore, 1) := by decide +kernel
theorem i_Model_post_95 : mj_Ld y_Model_post 95 1 0 2 := .inr (.inr ⟨rfl, .inr ⟨rfl, 0, rfl, by decide +kernel⟩⟩)
theorem i_Model_post_96 : mj_Gf y_Model_post 96 8 2 := ⟨by decide, by decide, 16, by decide +kernel, .inl mm_734⟩
theorem i_Model_post_99 : mj_Kc y_Model_post 99 3 (.int 143) := .inr (.inr (.inl ⟨143, by decide +kernel, rfl, by decide +kernel⟩))
theorem i_Model_post_102 : mj_Ld y_Model_post 102 1 3 0 := .inl ⟨rfl, .inr ⟨rfl, 3, rfl, by decide +kernel⟩⟩
theorem i_Model_post_103 : mj_B2 y_Model_post 103 (fun (a b : Int32) => a + b) := .inl ⟨by decide +kernel, rfl⟩
theorem i_Model_post_104 : mj_Kc y_Model_post 104 1 (.int 0) := .inl ⟨0, by decide +kernel, rfl, by decide +kernel⟩
theorem i_Model_post_105 : decode y_Model_post.2.1 105 = .ok (.iastore, 1) := by decide +kernel
theorem i_Model_post_106 : mj_Ld y_Model_post 106 1 0 2 := .inr (.inr ⟨rfl, .inr ⟨rfl, 0, rfl, by decide +kernel⟩⟩)
theorem i_Model_post_107 : mj_Gf y_Model_post 107 8 2 := ⟨by decide, by decide, 16, by decide +kernel, .inl mm_734⟩
theorem i_Model_post_110 : mj_Kc y_Model_post 110 3 (.int 157) := .inr (.inr (.inl ⟨157, by decide +kernel, rfl, by decide +kernel⟩))
theorem i_Model_post_113 : mj_Ld y_Model_post 113 1 3 0 := .inl ⟨rfl, .inr ⟨rfl, 3, rfl, by decide +kernel⟩⟩
theorem i_Model_post_114 : mj_B2 y_Model_post 114 (fun (a b : Int32) => a + b) := .inl ⟨by decide +kernel, rfl⟩
theorem i_Model_post_115 : mj_Kc y_Model_post 115 1 (.int 0) := .inl ⟨0, by decide +kernel, rfl, by decide +kernel⟩
theorem i_Model_post_116 : decode y_Model_post.2.1 116 = .ok (.iastore, 1) := by decide +kernel
theorem i_Model_post_117 : mj_Ld y_Model_post 117 1 0 2 := .inr (.inr ⟨rfl, .inr ⟨rfl, 0, rfl, by decide +kernel⟩⟩)
theorem i_Model_post_118 : mj_Gf y_Model_post 118 8 2 := ⟨by decide, by decide, 16, by decide +kernel, .inl mm_734⟩
theorem i_Model_post_121 : mj_Kc y_Model_post 121 3 (.int 171) := .inr (.inr (.inl ⟨171, by decide +kernel, rfl, by decide +kernel⟩))
theorem i_Model_post_124 : mj_Ld y_Model_post 124 1 3 0 := .inl ⟨rfl, .inr ⟨rfl, 3, rfl, by decide +kernel⟩⟩
theorem i_Model_post_125 : mj_B2 y_Model_post 125 (fun (a b : Int32) => a + b) := .inl ⟨by decide +kernel, rfl⟩
theorem i_Model_post_126 : mj_Kc y_Model_post 126 1 (.int 1) := .inl ⟨1, by decide +kernel, rfl, by decide +kernel⟩
theorem i_Model_post_127 : decode y_Model_post.2.1 127 = .ok (.iastore, 1) := by decide +kernel
theorem i_Model_post_128 : mj_Ld y_Model_post 128 1 0 2 := .inr (.inr ⟨rfl, .inr ⟨rfl, 0, rfl, by decide +kernel⟩⟩)
theorem i_Model_post_129 : mj_Gf y_Model_post 129 8 2 := ⟨by decide, by decide, 16, by decide +kernel, .inl mm_734⟩
theorem i_Model_post_132 : mj_Kc y_Model_post 132 3 (.int 185) := .inr (.inr (.inl ⟨185, by decide +kernel, rfl, by decide +kernel⟩))
theorem i_Model_post_135 : mj_Ld y_Model_post 135 1 3 0 := .inl ⟨rfl, .inr ⟨rfl, 3, rfl, by decide +kernel⟩⟩
theorem i_Model_post_136 : mj_B2 y_Model_post 136 (fun (a b : Int32) => a + b) := .inl ⟨by decide +kernel, rfl⟩
theorem i_Model_post_137 : mj_Kc y_Model_post 137 2 (.int 9) := .inr (.inl ⟨9, by decide +kernel, rfl, by decide +kernel⟩)
theorem i_Model_post_139 : decode y_Model_post.2.1 139 = .ok (.iastore, 1) := by decide +kernel
theorem i_Model_post_140 : mj_Ld y_Model_post 140 1 0 2 := .inr (.inr ⟨rfl, .inr ⟨rfl, 0, rfl, by decide +kernel⟩⟩)
theorem i_Model_post_141 : mj_Gf y_Model_post 141 8 2 := ⟨by decide, by decide, 16, by decide +kernel, .inl mm_734⟩
theorem i_Model_post_144 : mj_Kc y_Model_post 144 3 (.int 199) := .inr (.inr (.inl ⟨199, by decide +kernel, rfl, by decide +kernel⟩))
theorem i_Model_post_147 : mj_Ld y_Model_post 147 1 3 0 := .inl ⟨rfl, .inr ⟨rfl, 3, rfl, by decide +kernel⟩⟩
theorem i_Model_post_148 : mj_B2 y_Model_post 148 (fun (a b : Int32) => a + b) := .inl ⟨by decide +kernel, rfl⟩
theorem i_Model_post_149 : mj_Kc y_Model_post 149 1 (.int 1) := .inl ⟨1, by decide +kernel, rfl, by decide +kernel⟩
theorem i_Model_post_150 : decode y_Model_post.2.1 150 = .ok (.iastore, 1) := by decide +kernel
theorem i_Model_post_151 : mj_Ld y_Model_post 151 1 3 0 := .inl ⟨rfl, .inr ⟨rfl, 3, rfl, by decide +kernel⟩⟩
theorem i_Model_post_152 : decode y_Model_post.2.1 152 = .ok (.ireturn, 1) := by decide +kernel
theorem i_Model_aim_0 : mj_Ld y_Model_aim 0 1 0 2 := .inr (.inr ⟨rfl, .inr ⟨rfl, 0, rfl, by decide +kernel⟩⟩)
theorem i_Model_aim_1 : mj_Ld y_Model_aim 1 1 1 0 := .inl ⟨rfl, .inr ⟨rfl, 1, rfl, by decide +kernel⟩⟩
theorem i_Model_aim_2 : mj_Cv y_Model_aim 2 y_Model_isPost 8 1 := ⟨by decide, rfl, mt_Model_isPost, 126, by decide +kernel, mm_901, mm_903, mp_31⟩
theorem i_Model_aim_5 : mj_If y_Model_aim 5 22 (fun (a : Int32) => a = 0) := ⟨17, by decide, .inl ⟨by decide +kernel, rfl⟩⟩
theorem i_Model_aim_8 : mj_Ld y_Model_aim 8 1 2 0 := .inl ⟨rfl, .inr ⟨rfl, 2, rfl, by decide +kernel⟩⟩
theorem i_Model_aim_9 : mj_Cs y_Model_aim 9 y_Model_isDirection 1 := ⟨mt_Model_isDirection, 129, by decide +kernel, mm_906, .inl mm_905⟩
theorem i_Model_aim_12 : mj_If y_Model_aim 12 22 (fun (a : Int32) => a = 0) := ⟨10, by decide, .inl ⟨by decide +kernel, rfl⟩⟩
theorem i_Model_aim_15 : mj_Ld y_Model_aim 15 1 3 0 := .inl ⟨rfl, .inr ⟨rfl, 3, rfl, by decide +kernel⟩⟩
theorem i_Model_aim_16 : mj_Cs y_Model_aim 16 y_Model_isDirection 1 := ⟨mt_Model_isDirection, 129, by decide +kernel, mm_906, .inl mm_905⟩
theorem i_Model_aim_19 : mj_If y_Model_aim 19 25 (fun (a : Int32) => ¬ a = 0) := ⟨6, by decide, .inr (.inl ⟨by decide +kernel, rfl⟩)⟩
theorem i_Model_aim_22 : mj_Kc y_Model_aim 22 2 (.int (-2000000001)) := .inr (.inr (.inr (.inl ⟨81, (-2000000001), by decide +kernel, rfl, rfl, mm_821⟩)))
theorem i_Model_aim_24 : decode y_Model_aim.2.1 24 = .ok (.ireturn, 1) := by decide +kernel
theorem i_Model_aim_25 : mj_Ld y_Model_aim 25 1 2 0 := .inl ⟨rfl, .inr ⟨rfl, 2, rfl, by decide +kernel⟩⟩
theorem i_Model_aim_26 : mj_Kc y_Model_aim 26 2 (.int 20) := .inr (.inl ⟨20, by decide +kernel, rfl, by decide +kernel⟩)
theorem i_Model_aim_28 : mj_D2 y_Model_aim 28 (fun (a b : Int32) => a / b) := .inl ⟨by decide +kernel, rfl⟩
theorem i_Model_aim_29 : mj_Kc y_Model_aim 29 2 (.int 10) := .inr (.inl ⟨10, by decide +kernel, rfl, by decide +kernel⟩)
theorem i_Model_aim_31 : mj_B2 y_Model_aim 31 (fun (a b : Int32) => a - b) := .inr (.inl ⟨by decide +kernel, rfl⟩)
theorem i_Model_aim_32 : mj_St y_Model_aim 32 2 4 0 := .inl ⟨rfl, .inl ⟨rfl, by decide +kernel⟩⟩
theorem i_Model_aim_34 : mj_Ld y_Model_aim 34 1 2 0 := .inl ⟨rfl, .inr ⟨rfl, 2, rfl, by decide +kernel⟩⟩
theorem i_Model_aim_35 : mj_Kc y_Model_aim 35 2 (.int 20) := .inr (.inl ⟨20, by decide +kernel, rfl, by decide +kernel⟩)
theorem i_Model_aim_37 : mj_D2 y_Model_aim 37 (fun (a b : Int32) => a - a / b * b) := .inr ⟨by decide +kernel, rfl⟩
theorem i_Model_aim_38 : mj_Kc y_Model_aim 38 2 (.int 10) := .inr (.inl ⟨10, by decide +kernel, rfl, by decide +kernel⟩)
theorem i_Model_aim_40 : mj_B2 y_Model_aim 40 (fun (a b : Int32) => a - b) := .inr (.inl ⟨by decide +kernel, rfl⟩)
theorem i_Model_aim_41 : mj_St y_Model_aim 41 2 5 0 := .inl ⟨rfl, .inl ⟨rfl, by decide +kernel⟩⟩
theorem i_Model_aim_43 : mj_Ld y_Model_aim 43 1 3 0 := .inl ⟨rfl, .inr ⟨rfl, 3, rfl, by decide +kernel⟩⟩
theorem i_Model_aim_44 : mj_Kc y_Model_aim 44 2 (.int 20) := .inr (.inl ⟨20, by decide +kernel, rfl, by decide +kernel⟩)
theorem i_Model_aim_46 : mj_D2 y_Model_aim 46 (fun (a b : Int32) => a / b) := .inl ⟨by decide +kernel, rfl⟩
theorem i_Model_aim_47 : mj_Kc y_Model_aim 47 2 (.int 10) := .inr (.inl ⟨10, by decide +kernel, rfl, by decide +kernel⟩)
theorem i_Model_aim_49 : mj_B2 y_Model_aim 49 (fun (a b : Int32) => a - b) := .inr (.inl ⟨by decide +kernel, rfl⟩)
theorem i_Model_aim_50 : mj_St y_Model_aim 50 2 6 0 := .inl ⟨rfl, .inl ⟨rfl, by decide +kernel⟩⟩
theorem i_Model_aim_52 : mj_Ld y_Model_aim 52 1 3 0 := .inl ⟨rfl, .inr ⟨rfl, 3, rfl, by decide +kernel⟩⟩
theorem i_Model_aim_53 : mj_Kc y_Model_aim 53 2 (.int 20) := .inr (.inl ⟨20, by decide +kernel, rfl, by decide +kernel⟩)
theorem i_Model_aim_55 : mj_D2 y_Model_aim 55 (fun (a b : Int32) => a - a / b * b) := .inr ⟨by decide +kernel, rfl⟩
theorem i_Model_aim_56 : mj_Kc y_Model_aim 56 2 (.int 10) := .inr (.inl ⟨10, by decide +kernel, rfl, by decide +kernel⟩)
theorem i_Model_aim_58 : mj_B2 y_Model_aim 58 (fun (a b : Int32) => a - b) := .inr (.inl ⟨by decide +kernel, rfl⟩)
theorem i_Model_aim_59 : mj_St y_Model_aim 59 2 7 0 := .inl ⟨rfl, .inl ⟨rfl, by decide +kernel⟩⟩
theorem i_Model_aim_61 : mj_Ld y_Model_aim 61 2 4 0 := .inl ⟨rfl, .inl ⟨rfl, by decide +kernel⟩⟩
theorem i_Model_aim_63 : mj_Ld y_Model_aim 63 2 7 0 := .inl ⟨rfl, .inl ⟨rfl, by decide +kernel⟩⟩
theorem i_Model_aim_65 : mj_B2 y_Model_aim 65 (fun (a b : Int32) => a * b) := .inr (.inr (.inl ⟨by decide +kernel, rfl⟩))
theorem i_Model_aim_66 : mj_Ld y_Model_aim 66 2 5 0 := .inl ⟨rfl, .inl ⟨rfl, by decide +kernel⟩⟩
theorem i_Model_aim_68 : mj_Ld y_Model_aim 68 2 6 0 := .inl ⟨rfl, .inl ⟨rfl, by decide +kernel⟩⟩
theorem i_Model_aim_70 : mj_B2 y_Model_aim 70 (fun (a b : Int32) => a * b) := .inr (.inr (.inl ⟨by decide +kernel, rfl⟩))
theorem i_Model_aim_71 : mj_B2 y_Model_aim 71 (fun (a b : Int32) => a - b) := .inr (.inl ⟨by decide +kernel, rfl⟩)
theorem i_Model_aim_72 : mj_St y_Model_aim 72 2 8 0 := .inl ⟨rfl, .inl ⟨rfl, by decide +kernel⟩⟩
theorem i_Model_aim_74 : mj_Ld y_Model_aim 74 2 8 0 := .inl ⟨rfl, .inl ⟨rfl, by decide +kernel⟩⟩
theorem i_Model_aim_76 : mj_If y_Model_aim 76 98 (fun (a : Int32) => a < 0) := ⟨22, by decide, .inr (.inr (.inl ⟨by decide +kernel, rfl⟩))⟩
theorem i_Model_aim_79 : mj_Ld y_Model_aim 79 2 8 0 := .inl ⟨rfl, .inl ⟨rfl, by decide +kernel⟩⟩
theorem i_Model_aim_81 : mj_If y_Model_aim 81 101 (fun (a : Int32) => ¬ a = 0) := ⟨20, by decide, .inr (.inl ⟨by decide +kernel, rfl⟩)⟩
theorem i_Model_aim_84 : mj_Ld y_Model_aim 84 2 4 0 := .inl ⟨rfl, .inl ⟨rfl, by decide +kernel⟩⟩
theorem i_Model_aim_86 : mj_Ld y_Model_aim 86 2 6 0 := .inl ⟨rfl, .inl ⟨rfl, by decide +kernel⟩⟩
theorem i_Model_aim_88 : mj_B2 y_Model_aim 88 (fun (a b : Int32) => a * b) := .inr (.inr (.inl ⟨by decide +kernel, rfl⟩))
theorem i_Model_aim_89 : mj_Ld y_Model_aim 89 2 5 0 := .inl ⟨rfl, .inl ⟨rfl, by decide +kernel⟩⟩
theorem i_Model_aim_91 : mj_Ld y_Model_aim 91 2 7 0 := .inl ⟨rfl, .inl ⟨rfl, by decide +kernel⟩⟩
theorem i_Model_aim_93 : mj_B2 y_Model_aim 93 (fun (a b : Int32) => a * b) := .inr (.inr (.inl ⟨by decide +kernel, rfl⟩))
theorem i_Model_aim_94 : mj_B2 y_Model_aim 94 (fun (a b : Int32) => a + b) := .inl ⟨by decide +kernel, rfl⟩
theorem i_Model_aim_95 : mj_If y_Model_aim 95 101 (fun (a : Int32) => 0 < a) := ⟨6, by decide, .inr (.inr (.inr (.inr (.inl ⟨by decide +kernel, rfl⟩))))⟩
theorem i_Model_aim_98 : mj_Kc y_Model_aim 98 2 (.int (-2000000001)) := .inr (.inr (.inr (.inl ⟨81, (-2000000001), by decide +kernel, rfl, rfl, mm_821⟩)))
theorem i_Model_aim_100 : decode y_Model_aim.2.1 100 = .ok (.ireturn, 1) := by decide +kernel
theorem i_Model_aim_101 : mj_Ld y_Model_aim 101 1 0 2 := .inr (.inr ⟨rfl, .inr ⟨rfl, 0, rfl, by decide +kernel⟩⟩)
theorem i_Model_aim_102 : mj_Gf y_Model_aim 102 8 2 := ⟨by decide, by decide, 16, by decide +kernel, .inl mm_734⟩
theorem i_Model_aim_105 : mj_Kc y_Model_aim 105 2 (.int 115) := .inr (.inl ⟨115, by decide +kernel, rfl, by decide +kernel⟩)
theorem i_Model_aim_107 : mj_Ld y_Model_aim 107 1 1 0 := .inl ⟨rfl, .inr ⟨rfl, 1, rfl, by decide +kernel⟩⟩
theorem i_Model_aim_108 : mj_B2 y_Model_aim 108 (fun (a b : Int32) => a + b) := .inl ⟨by decide +kernel, rfl⟩
theorem i_Model_aim_109 : decode y_Model_aim.2.1 109 = .ok (.iaload, 1) := by decide +kernel
theorem i_Model_aim_110 : mj_Cs y_Model_aim 110 y_Model_isWedge 1 := ⟨mt_Model_isWedge, 132, by decide +kernel, mm_909, .inl mm_908⟩
theorem i_Model_aim_113 : mj_If y_Model_aim 113 119 (fun (a : Int32) => ¬ a = 0) := ⟨6, by decide, .inr (.inl ⟨by decide +kernel, rfl⟩)⟩
theorem i_Model_aim_116 : mj_Kc y_Model_aim 116 2 (.int (-2000000002)) := .inr (.inr (.inr (.inl ⟨80, (-2000000002), by decide +kernel, rfl, rfl, mm_813⟩)))
theorem i_Model_aim_118 : decode y_Model_aim.2.1 118 = .ok (.ireturn, 1) := by decide +kernel
theorem i_Model_aim_119 : mj_Ld y_Model_aim 119 1 0 2 := .inr (.inr ⟨rfl, .inr ⟨rfl, 0, rfl, by decide +kernel⟩⟩)
theorem i_Model_aim_120 : mj_Cv y_Model_aim 120 y_Model_keep 8 0 := ⟨by decide, rfl, mt_Model_keep, 112, by decide +kernel, mm_869, mm_871, mp_28⟩
theorem i_Model_aim_123 : mj_Ld y_Model_aim 123 1 0 2 := .inr (.inr ⟨rfl, .inr ⟨rfl, 0, rfl, by decide +kernel⟩⟩)
theorem i_Model_aim_124 : mj_Gf y_Model_aim 124 8 2 := ⟨by decide, by decide, 16, by decide +kernel, .inl mm_734⟩
theorem i_Model_aim_127 : mj_Kc y_Model_aim 127 3 (.int 129) := .inr (.inr (.inl ⟨129, by decide +kernel, rfl, by decide +kernel⟩))
theorem i_Model_aim_130 : mj_Ld y_Model_aim 130 1 1 0 := .inl ⟨rfl, .inr ⟨rfl, 1, rfl, by decide +kernel⟩⟩
theorem i_Model_aim_131 : mj_B2 y_Model_aim 131 (fun (a b : Int32) => a + b) := .inl ⟨by decide +kernel, rfl⟩
theorem i_Model_aim_132 : mj_Ld y_Model_aim 132 2 4 0 := .inl ⟨rfl, .inl ⟨rfl, by decide +kernel⟩⟩
theorem i_Model_aim_134 : decode y_Model_aim.2.1 134 = .ok (.iastore, 1) := by decide +kernel
theorem i_Model_aim_135 : mj_Ld y_Model_aim 135 1 0 2 := .inr (.inr ⟨rfl, .inr ⟨rfl, 0, rfl, by decide +kernel⟩⟩)
theorem i_Model_aim_136 : mj_Gf y_Model_aim 136 8 2 := ⟨by decide, by decide, 16, by decide +kernel, .inl mm_734⟩
theorem i_Model_aim_139 : mj_Kc y_Model_aim 139 3 (.int 143) := .inr (.inr (.inl ⟨143, by decide +kernel, rfl, by decide +kernel⟩))
theorem i_Model_aim_142 : mj_Ld y_Model_aim 142 1 1 0 := .inl ⟨rfl, .inr ⟨rfl, 1, rfl, by decide +kernel⟩⟩
theorem i_Model_aim_143 : mj_B2 y_Model_aim 143 (fun (a b : Int32) => a + b) := .inl ⟨by decide +kernel, rfl⟩
theorem i_Model_aim_144 : mj_Ld y_Model_aim 144 2 5 0 := .inl ⟨rfl, .inl ⟨rfl, by decide +kernel⟩⟩
theorem i_Model_aim_146 : decode y_Model_aim.2.1 146 = .ok (.iastore, 1) := by decide +kernel
theorem i_Model_aim_147 : mj_Ld y_Model_aim 147 1 0 2 := .inr (.inr ⟨rfl, .inr ⟨rfl, 0, rfl, by decide +kernel⟩⟩)
theorem i_Model_aim_148 : mj_Gf y_Model_aim 148 8 2 := ⟨by decide, by decide, 16, by decide +kernel, .inl mm_734⟩
theorem i_Model_aim_151 : mj_Kc y_Model_aim 151 3 (.int 157) := .inr (.inr (.inl ⟨157, by decide +kernel, rfl, by decide +kernel⟩))
theorem i_Model_aim_154 : mj_Ld y_Model_aim 154 1 1 0 := .inl ⟨rfl, .inr ⟨rfl, 1, rfl, by decide +kernel⟩⟩
theorem i_Model_aim_155 : mj_B2 y_Model_aim 155 (fun (a b : Int32) => a + b) := .inl ⟨by decide +kernel, rfl⟩
theorem i_Model_aim_156 : mj_Ld y_Model_aim 156 2 6 0 := .inl ⟨rfl, .inl ⟨rfl, by decide +kernel⟩⟩
theorem i_Model_aim_158 : decode y_Model_aim.2.1 158 = .ok (.iastore, 1) := by decide +kernel
theorem i_Model_aim_159 : mj_Ld y_Model_aim 159 1 0 2 := .inr (.inr ⟨rfl, .inr ⟨rfl, 0, rfl, by decide +kernel⟩⟩)
theorem i_Model_aim_160 : mj_Gf y_Model_aim 160 8 2 := ⟨by decide, by decide, 16, by decide +kernel, .inl mm_734⟩
theorem i_Model_aim_163 : mj_Kc y_Model_aim 163 3 (.int 171) := .inr (.inr (.inl ⟨171, by decide +kernel, rfl, by decide +kernel⟩))
theorem i_Model_aim_166 : mj_Ld y_Model_aim 166 1 1 0 := .inl ⟨rfl, .inr ⟨rfl, 1, rfl, by decide +kernel⟩⟩
theorem i_Model_aim_167 : mj_B2 y_Model_aim 167 (fun (a b : Int32) => a + b) := .inl ⟨by decide +kernel, rfl⟩
theorem i_Model_aim_168 : mj_Ld y_Model_aim 168 2 7 0 := .inl ⟨rfl, .inl ⟨rfl, by decide +kernel⟩⟩
theorem i_Model_aim_170 : decode y_Model_aim.2.1 170 = .ok (.iastore, 1) := by decide +kernel
theorem i_Model_aim_171 : mj_Kc y_Model_aim 171 1 (.int 0) := .inl ⟨0, by decide +kernel, rfl, by decide +kernel⟩
theorem i_Model_aim_172 : decode y_Model_aim.2.1 172 = .ok (.ireturn, 1) := by decide +kernel
theorem i_Model_isPost_0 : mj_Ld y_Model_isPost 0 1 1 0 := .inl ⟨rfl, .inr ⟨rfl, 1, rfl, by decide +kernel⟩⟩
theorem i_Model_isPost_1 : mj_Kc y_Model_isPost 1 1 (.int 0) := .inl ⟨0, by decide +kernel, rfl, by decide +kernel⟩
theorem i_Model_isPost_2 : mj_Ld y_Model_isPost 2 1 0 2 := .inr (.inr ⟨rfl, .inr ⟨rfl, 0, rfl, by decide +kernel⟩⟩)
theorem i_Model_isPost_3 : mj_Cv y_Model_isPost 3 y_Model_posts 8 0 := ⟨by decide, rfl, mt_Model_posts, 74, by decide +kernel, mm_846, mm_848, mp_23⟩
theorem i_Model_isPost_6 : mj_Kc y_Model_isPost 6 1 (.int 1) := .inl ⟨1, by decide +kernel, rfl, by decide +kernel⟩
theorem i_Model_isPost_7 : mj_B2 y_Model_isPost 7 (fun (a b : Int32) => a - b) := .inr (.inl ⟨by decide +kernel, rfl⟩)
theorem i_Model_isPost_8 : mj_Cs y_Model_isPost 8 y_Model_isIn 3 := ⟨mt_Model_isIn, 70, by decide +kernel, mm_819, .inl mm_818⟩
theorem i_Model_isPost_11 : decode y_Model_isPost.2.1 11 = .ok (.ireturn, 1) := by decide +kernel
theorem i_Model_isDirection_0 : mj_Ld y_Model_isDirection 0 1 0 0 := .inl ⟨rfl, .inr ⟨rfl, 0, rfl, by decide +kernel⟩⟩
theorem i_Model_isDirection_1 : mj_If y_Model_isDirection 1 52 (fun (a : Int32) => a < 0) := ⟨51, by decide, .inr (.inr (.inl ⟨by decide +kernel, rfl⟩))⟩
theorem i_Model_isDirection_4 : mj_Ld y_Model_isDirection 4 1 0 0 := .inl ⟨rfl, .inr ⟨rfl, 0, rfl, by decide +kernel⟩⟩
theorem i_Model_isDirection_5 : mj_Kc y_Model_isDirection 5 2 (.int 20) := .inr (.inl ⟨20, by decide +kernel, rfl, by decide +kernel⟩)
theorem i_Model_isDirection_7 : mj_D2 y_Model_isDirection 7 (fun (a b : Int32) => a / b) := .inl ⟨by decide +kernel, rfl⟩
theorem i_Model_isDirection_8 : mj_Kc y_Model_isDirection 8 1 (.int 1) := .inl ⟨1, by decide +kernel, rfl, by decide +kernel⟩
theorem i_Model_isDirection_9 : mj_Kc y_Model_isDirection 9 2 (.int 19) := .inr (.inl ⟨19, by decide +kernel, rfl, by decide +kernel⟩)
theorem i_Model_isDirection_11 : mj_Cs y_Model_isDirection 11 y_Model_isIn 3 := ⟨mt_Model_isIn, 70, by decide +kernel, mm_819, .inl mm_818⟩
theorem i_Model_isDirection_14 : mj_If y_Model_isDirection 14 52 (fun (a : Int32) => a = 0) := ⟨38, by decide, .inl ⟨by decide +kernel, rfl⟩⟩
theorem i_Model_isDirection_17 : mj_Ld y_Model_isDirection 17 1 0 0 := .inl ⟨rfl, .inr ⟨rfl, 0, rfl, by decide +kernel⟩⟩
theorem i_Model_isDirection_18 : mj_Kc y_Model_isDirection 18 2 (.int 20) := .inr (.inl ⟨20, by decide +kernel, rfl, by decide +kernel⟩)
theorem i_Model_isDirection_20 : mj_D2 y_Model_isDirection 20 (fun (a b : Int32) => a - a / b * b) := .inr ⟨by decide +kernel, rfl⟩
theorem i_Model_isDirection_21 : mj_Kc y_Model_isDirection 21 1 (.int 1) := .inl ⟨1, by decide +kernel, rfl, by decide +kernel⟩
theorem i_Model_isDirection_22 : mj_Kc y_Model_isDirection 22 2 (.int 19) := .inr (.inl ⟨19, by decide +kernel, rfl, by decide +kernel⟩)
theorem i_Model_isDirection_24 : mj_Cs y_Model_isDirection 24 y_Model_isIn 3 := ⟨mt_Model_isIn, 70, by decide +kernel, mm_819, .inl mm_818⟩
theorem i_Model_isDirection_27 : mj_If y_Model_isDirection 27 52 (fun (a : Int32) => a = 0) := ⟨25, by decide, .inl ⟨by decide +kernel, rfl⟩⟩
theorem i_Model_isDirection_30 : mj_Ld y_Model_isDirection 30 1 0 0 := .inl ⟨rfl, .inr ⟨rfl, 0, rfl, by decide +kernel⟩⟩
theorem i_Model_isDirection_31 : mj_Kc y_Model_isDirection 31 2 (.int 20) := .inr (.inl ⟨20, by decide +kernel, rfl, by decide +kernel⟩)
theorem i_Model_isDirection_33 : mj_D2 y_Model_isDirection 33 (fun (a b : Int32) => a / b) := .inl ⟨by decide +kernel, rfl⟩
theorem i_Model_isDirection_34 : mj_Kc y_Model_isDirection 34 2 (.int 10) := .inr (.inl ⟨10, by decide +kernel, rfl, by decide +kernel⟩)
theorem i_Model_isDirection_36 : mj_Ic y_Model_isDirection 36 48 (fun (a b : Int32) => ¬ a = b) := ⟨12, by decide, .inr (.inl ⟨by decide +kernel, rfl⟩)⟩
theorem i_Model_isDirection_39 : mj_Ld y_Model_isDirection 39 1 0 0 := .inl ⟨rfl, .inr ⟨rfl, 0, rfl, by decide +kernel⟩⟩
theorem i_Model_isDirection_40 : mj_Kc y_Model_isDirection 40 2 (.int 20) := .inr (.inl ⟨20, by decide +kernel, rfl, by decide +kernel⟩)
theorem i_Model_isDirection_42 : mj_D2 y_Model_isDirection 42 (fun (a b : Int32) => a - a / b * b) := .inr ⟨by decide +kernel, rfl⟩
theorem i_Model_isDirection_43 : mj_Kc y_Model_isDirection 43 2 (.int 10) := .inr (.inl ⟨10, by decide +kernel, rfl, by decide +kernel⟩)
theorem i_Model_isDirection_45 : mj_Ic y_Model_isDirection 45 52 (fun (a b : Int32) => a = b) := ⟨7, by decide, .inl ⟨by decide +kernel, rfl⟩⟩
theorem i_Model_isDirection_48 : mj_Kc y_Model_isDirection 48 1 (.int 1) := .inl ⟨1, by decide +kernel, rfl, by decide +kernel⟩
theorem i_Model_isDirection_49 : mj_Go y_Model_isDirection 49 53 := ⟨4, by decide, by decide +kernel⟩
theorem i_Model_isDirection_52 : mj_Kc y_Model_isDirection 52 1 (.int 0) := .inl ⟨0, by decide +kernel, rfl, by decide +kernel⟩
theorem i_Model_isDirection_53 : decode y_Model_isDirection.2.1 53 = .ok (.ireturn, 1) := by decide +kernel
theorem i_Model_isWedge_0 : mj_Ld y_Model_isWedge 0 1 0 0 := .inl ⟨rfl, .inr ⟨rfl, 0, rfl, by decide +kernel⟩⟩
theorem i_Model_isWedge_1 : mj_Kc y_Model_isWedge 1 1 (.int 1) := .inl ⟨1, by decide +kernel, rfl, by decide +kernel⟩
theorem i_Model_isWedge_2 : mj_Ic y_Model_isWedge 2 10 (fun (a b : Int32) => a = b) := ⟨8, by decide, .inl ⟨by decide +kernel, rfl⟩⟩
theorem i_Model_isWedge_5 : mj_Ld y_Model_isWedge 5 1 0 0 := .inl ⟨rfl, .inr ⟨rfl, 0, rfl, by decide +kernel⟩⟩
theorem i_Model_isWedge_6 : mj_Kc y_Model_isWedge 6 1 (.int 4) := .inl ⟨4, by decide +kernel, rfl, by decide +kernel⟩
theorem i_Model_isWedge_7 : mj_Ic y_Model_isWedge 7 14 (fun (a b : Int32) => ¬ a = b) := ⟨7, by decide, .inr (.inl ⟨by decide +kernel, rfl⟩)⟩
theorem i_Model_isWedge_10 : mj_Kc y_Model_isWedge 10 1 (.int 1) := .inl ⟨1, by decide +kernel, rfl, by decide +kernel⟩
theorem i_Model_isWedge_11 : mj_Go y_Model_isWedge 11 15 := ⟨4, by decide, by decide +kernel⟩
theorem i_Model_isWedge_14 : mj_Kc y_Model_isWedge 14 1 (.int 0) := .inl ⟨0, by decide +kernel, rfl, by decide +kernel⟩
theorem i_Model_isWedge_15 : decode y_Model_isWedge.2.1 15 = .ok (.ireturn, 1) := by decide +kernel
theorem i_Model_reach_0 : mj_Ld y_Model_reach 0 1 0 2 := .inr (.inr ⟨rfl, .inr ⟨rfl, 0, rfl, by decide +kernel⟩⟩)
theorem i_Model_reach_1 : mj_Ld y_Model_reach 1 1 1 0 := .inl ⟨rfl, .inr ⟨rfl, 1, rfl, by decide +kernel⟩⟩
theorem i_Model_reach_2 : mj_Cv y_Model_reach 2 y_Model_isPost 8 1 := ⟨by decide, rfl, mt_Model_isPost, 126, by decide +kernel, mm_901, mm_903, mp_31⟩
theorem i_Model_reach_5 : mj_If y_Model_reach 5 18 (fun (a : Int32) => a = 0) := ⟨13, by decide, .inl ⟨by decide +kernel, rfl⟩⟩
theorem i_Model_reach_8 : mj_Ld y_Model_reach 8 1 2 0 := .inl ⟨rfl, .inr ⟨rfl, 2, rfl, by decide +kernel⟩⟩
theorem i_Model_reach_9 : mj_Kc y_Model_reach 9 1 (.int 1) := .inl ⟨1, by decide +kernel, rfl, by decide +kernel⟩
theorem i_Model_reach_10 : mj_Kc y_Model_reach 10 2 (.int 9) := .inr (.inl ⟨9, by decide +kernel, rfl, by decide +kernel⟩)
theorem i_Model_reach_12 : mj_Cs y_Model_reach 12 y_Model_isIn 3 := ⟨mt_Model_isIn, 70, by decide +kernel, mm_819, .inl mm_818⟩
theorem i_Model_reach_15 : mj_If y_Model_reach 15 21 (fun (a : Int32) => ¬ a = 0) := ⟨6, by decide, .inr (.inl ⟨by decide +kernel, rfl⟩)⟩
theorem i_Model_reach_18 : mj_Kc y_Model_reach 18 2 (.int (-2000000001)) := .inr (.inr (.inr (.inl ⟨81, (-2000000001), by decide +kernel, rfl, rfl, mm_821⟩)))
theorem i_Model_reach_20 : decode y_Model_reach.2.1 20 = .ok (.ireturn, 1) := by decide +kernel
theorem i_Model_reach_21 : mj_Ld y_Model_reach 21 1 0 2 := .inr (.inr ⟨rfl, .inr ⟨rfl, 0, rfl, by decide +kernel⟩⟩)
theorem i_Model_reach_22 : mj_Gf y_Model_reach 22 8 2 := ⟨by decide, by decide, 16, by decide +kernel, .inl mm_734⟩
theorem i_Model_reach_25 : mj_Kc y_Model_reach 25 2 (.int 115) := .inr (.inl ⟨115, by decide +kernel, rfl, by decide +kernel⟩)
theorem i_Model_reach_27 : mj_Ld y_Model_reach 27 1 1 0 := .inl ⟨rfl, .inr ⟨rfl, 1, rfl, by decide +kernel⟩⟩
theorem i_Model_reach_28 : mj_B2 y_Model_reach 28 (fun (a b : Int32) => a + b) := .inl ⟨by decide +kernel, rfl⟩
theorem i_Model_reach_29 : decode y_Model_reach.2.1 29 = .ok (.iaload, 1) := by decide +kernel
theorem i_Model_reach_30 : mj_Kc y_Model_reach 30 1 (.int 4) := .inl ⟨4, by decide +kernel, rfl, by decide +kernel⟩
theorem i_Model_reach_31 : mj_Ic y_Model_reach 31 37 (fun (a b : Int32) => a = b) := ⟨6, by decide, .inl ⟨by decide +kernel, rfl⟩⟩
theorem i_Model_reach_34 : mj_Kc y_Model_reach 34 2 (.int (-2000000002)) := .inr (.inr (.inr (.inl ⟨80, (-2000000002), by decide +kernel, rfl, rfl, mm_813⟩)))
theorem i_Model_reach_36 : decode y_Model_reach.2.1 36 = .ok (.ireturn, 1) := by decide +kernel
theorem i_Model_reach_37 : mj_Ld y_Model_reach 37 1 0 2 := .inr (.inr ⟨rfl, .inr ⟨rfl, 0, rfl, by decide +kernel⟩⟩)
theorem i_Model_reach_38 : mj_Cv y_Model_reach 38 y_Model_keep 8 0 := ⟨by decide, rfl, mt_Model_keep, 112, by decide +kernel, mm_869, mm_871, mp_28⟩
theorem i_Model_reach_41 : mj_Ld y_Model_reach 41 1 0 2 := .inr (.inr ⟨rfl, .inr ⟨rfl, 0, rfl, by decide +kernel⟩⟩)
theorem i_Model_reach_42 : mj_Gf y_Model_reach 42 8 2 := ⟨by decide, by decide, 16, by decide +kernel, .inl mm_734⟩
theorem i_Model_reach_45 : mj_Kc y_Model_reach 45 3 (.int 185) := .inr (.inr (.inl ⟨185, by decide +kernel, rfl, by decide +kernel⟩))
theorem i_Model_reach_48 : mj_Ld y_Model_reach 48 1 1 0 := .inl ⟨rfl, .inr ⟨rfl, 1, rfl, by decide +kernel⟩⟩
theorem i_Model_reach_49 : mj_B2 y_Model_reach 49 (fun (a b : Int32) => a + b) := .inl ⟨by decide +kernel, rfl⟩
theorem i_Model_reach_50 : decode y_Model_reach.2.1 50 = .ok (.iaload, 1) := by decide +kernel
theorem i_Model_reach_51 : mj_St y_Model_reach 51 1 3 0 := .inl ⟨rfl, .inr ⟨rfl, 3, rfl, by decide +kernel⟩⟩
theorem i_Model_reach_52 : mj_Ld y_Model_reach 52 1 0 2 := .inr (.inr ⟨rfl, .inr ⟨rfl, 0, rfl, by decide +kernel⟩⟩)
theorem i_Model_reach_53 : mj_Gf y_Model_reach 53 8 2 := ⟨by decide, by decide, 16, by decide +kernel, .inl mm_734⟩
theorem i_Model_reach_56 : mj_Kc y_Model_reach 56 3 (.int 185) := .inr (.inr (.inl ⟨185, by decide +kernel, rfl, by decide +kernel⟩))
theorem i_Model_reach_59 : mj_Ld y_Model_reach 59 1 1 0 := .inl ⟨rfl, .inr ⟨rfl, 1, rfl, by decide +kernel⟩⟩
theorem i_Model_reach_60 : mj_B2 y_Model_reach 60 (fun (a b : Int32) => a + b) := .inl ⟨by decide +kernel, rfl⟩
theorem i_Model_reach_61 : mj_Ld y_Model_reach 61 1 2 0 := .inl ⟨rfl, .inr ⟨rfl, 2, rfl, by decide +kernel⟩⟩
theorem i_Model_reach_62 : decode y_Model_reach.2.1 62 = .ok (.iastore, 1) := by decide +kernel
theorem i_Model_reach_63 : mj_Ld y_Model_reach 63 1 3 0 := .inl ⟨rfl, .inr ⟨rfl, 3, rfl, by decide +kernel⟩⟩
theorem i_Model_reach_64 : decode y_Model_reach.2.1 64 = .ok (.ireturn, 1) := by decide +kernel
theorem i_Model_move_0 : mj_Ld y_Model_move 0 1 0 2 := .inr (.inr ⟨rfl, .inr ⟨rfl, 0, rfl, by decide +kernel⟩⟩)
theorem i_Model_move_1 : mj_Ld y_Model_move 1 1 1 0 := .inl ⟨rfl, .inr ⟨rfl, 1, rfl, by decide +kernel⟩⟩
theorem i_Model_move_2 : mj_Cv y_Model_move 2 y_Model_isPost 8 1 := ⟨by decide, rfl, mt_Model_isPost, 126, by decide +kernel, mm_901, mm_903, mp_31⟩
theorem i_Model_move_5 : mj_If y_Model_move 5 16 (fun (a : Int32) => a = 0) := ⟨11, by decide, .inl ⟨by decide +kernel, rfl⟩⟩
theorem i_Model_move_8 : mj_Ld y_Model_move 8 1 0 2 := .inr (.inr ⟨rfl, .inr ⟨rfl, 0, rfl, by decide +kernel⟩⟩)
theorem i_Model_move_9 : mj_Ld y_Model_move 9 1 2 0 := .inl ⟨rfl, .inr ⟨rfl, 2, rfl, by decide +kernel⟩⟩
theorem i_Model_move_10 : mj_Cv y_Model_move 10 y_Model_isCell 8 1 := ⟨by decide, rfl, mt_Model_isCell, 96, by decide +kernel, mm_830, mm_832, mp_19⟩
theorem i_Model_move_13 : mj_If y_Model_move 13 19 (fun (a : Int32) => ¬ a = 0) := ⟨6, by decide, .inr (.inl ⟨by decide +kernel, rfl⟩)⟩
theorem i_Model_move_16 : mj_Kc y_Model_move 16 2 (.int (-2000000001)) := .inr (.inr (.inr (.inl ⟨81, (-2000000001), by decide +kernel, rfl, rfl, mm_821⟩)))
theorem i_Model_move_18 : decode y_Model_move.2.1 18 = .ok (.ireturn, 1) := by decide +kernel
theorem i_Model_move_19 : mj_Ld y_Model_move 19 1 0 2 := .inr (.inr ⟨rfl, .inr ⟨rfl, 0, rfl, by decide +kernel⟩⟩)
theorem i_Model_move_20 : mj_Ld y_Model_move 20 1 2 0 := .inl ⟨rfl, .inr ⟨rfl, 2, rfl, by decide +kernel⟩⟩
theorem i_Model_move_21 : mj_Ld y_Model_move 21 1 0 2 := .inr (.inr ⟨rfl, .inr ⟨rfl, 0, rfl, by decide +kernel⟩⟩)
theorem i_Model_move_22 : mj_Gf y_Model_move 22 8 2 := ⟨by decide, by decide, 16, by decide +kernel, .inl mm_734⟩
theorem i_Model_move_25 : mj_Kc y_Model_move 25 2 (.int 115) := .inr (.inl ⟨115, by decide +kernel, rfl, by decide +kernel⟩)
theorem i_Model_move_27 : mj_Ld y_Model_move 27 1 1 0 := .inl ⟨rfl, .inr ⟨rfl, 1, rfl, by decide +kernel⟩⟩
theorem i_Model_move_28 : mj_B2 y_Model_move 28 (fun (a b : Int32) => a + b) := .inl ⟨by decide +kernel, rfl⟩
theorem i_Model_move_29 : decode y_Model_move.2.1 29 = .ok (.iaload, 1) := by decide +kernel
theorem i_Model_move_30 : mj_Cv y_Model_move 30 y_Model_mayStand 8 2 := ⟨by decide, rfl, mt_Model_mayStand, 92, by decide +kernel, mm_850, mm_852, mp_24⟩
theorem i_Model_move_33 : mj_If y_Model_move 33 39 (fun (a : Int32) => ¬ a = 0) := ⟨6, by decide, .inr (.inl ⟨by decide +kernel, rfl⟩)⟩
theorem i_Model_move_36 : mj_Kc y_Model_move 36 2 (.int (-2000000002)) := .inr (.inr (.inr (.inl ⟨80, (-2000000002), by decide +kernel, rfl, rfl, mm_813⟩)))
theorem i_Model_move_38 : decode y_Model_move.2.1 38 = .ok (.ireturn, 1) := by decide +kernel
theorem i_Model_move_39 : mj_Ld y_Model_move 39 1 0 2 := .inr (.inr ⟨rfl, .inr ⟨rfl, 0, rfl, by decide +kernel⟩⟩)
theorem i_Model_move_40 : mj_Cv y_Model_move 40 y_Model_keep 8 0 := ⟨by decide, rfl, mt_Model_keep, 112, by decide +kernel, mm_869, mm_871, mp_28⟩
theorem i_Model_move_43 : mj_Ld y_Model_move 43 1 0 2 := .inr (.inr ⟨rfl, .inr ⟨rfl, 0, rfl, by decide +kernel⟩⟩)
theorem i_Model_move_44 : mj_Gf y_Model_move 44 8 2 := ⟨by decide, by decide, 16, by decide +kernel, .inl mm_734⟩
theorem i_Model_move_47 : mj_Kc y_Model_move 47 2 (.int 101) := .inr (.inl ⟨101, by decide +kernel, rfl, by decide +kernel⟩)
theorem i_Model_move_49 : mj_Ld y_Model_move 49 1 1 0 := .inl ⟨rfl, .inr ⟨rfl, 1, rfl, by decide +kernel⟩⟩
theorem i_Model_move_50 : mj_B2 y_Model_move 50 (fun (a b : Int32) => a + b) := .inl ⟨by decide +kernel, rfl⟩
theorem i_Model_move_51 : decode y_Model_move.2.1 51 = .ok (.iaload, 1) := by decide +kernel
theorem i_Model_move_52 : mj_St y_Model_move 52 1 3 0 := .inl ⟨rfl, .inr ⟨rfl, 3, rfl, by decide +kernel⟩⟩
theorem i_Model_move_53 : mj_Ld y_Model_move 53 1 0 2 := .inr (.inr ⟨rfl, .inr ⟨rfl, 0, rfl, by decide +kernel⟩⟩)
theorem i_Model_move_54 : mj_Gf y_Model_move 54 8 2 := ⟨by decide, by decide, 16, by decide +kernel, .inl mm_734⟩
theorem i_Model_move_57 : mj_Kc y_Model_move 57 2 (.int 101) := .inr (.inl ⟨101, by decide +kernel, rfl, by decide +kernel⟩)
theorem i_Model_move_59 : mj_Ld y_Model_move 59 1 1 0 := .inl ⟨rfl, .inr ⟨rfl, 1, rfl, by decide +kernel⟩⟩
theorem i_Model_move_60 : mj_B2 y_Model_move 60 (fun (a b : Int32) => a + b) := .inl ⟨by decide +kernel, rfl⟩
theorem i_Model_move_61 : mj_Ld y_Model_move 61 1 2 0 := .inl ⟨rfl, .inr ⟨rfl, 2, rfl, by decide +kernel⟩⟩
theorem i_Model_move_62 : decode y_Model_move.2.1 62 = .ok (.iastore, 1) := by decide +kernel
theorem i_Model_move_63 : mj_Ld y_Model_move 63 1 3 0 := .inl ⟨rfl, .inr ⟨rfl, 3, rfl, by decide +kernel⟩⟩
theorem i_Model_move_64 : decode y_Model_move.2.1 64 = .ok (.ireturn, 1) := by decide +kernel
theorem i_Model_lamp_0 : mj_Ld y_Model_lamp 0 1 0 2 := .inr (.inr ⟨rfl, .inr ⟨rfl, 0, rfl, by decide +kernel⟩⟩)
theorem i_Model_lamp_1 : mj_Ld y_Model_lamp 1 1 1 0 := .inl ⟨rfl, .inr ⟨rfl, 1, rfl, by decide +kernel⟩⟩
theorem i_Model_lamp_2 : mj_Cv y_Model_lamp 2 y_Model_isPost 8 1 := ⟨by decide, rfl, mt_Model_isPost, 126, by decide +kernel, mm_901, mm_903, mp_31⟩
theorem i_Model_lamp_5 : mj_If y_Model_lamp 5 17 (fun (a : Int32) => a = 0) := ⟨12, by decide, .inl ⟨by decide +kernel, rfl⟩⟩
theorem i_Model_lamp_8 : mj_Ld y_Model_lamp 8 1 2 0 := .inl ⟨rfl, .inr ⟨rfl, 2, rfl, by decide +kernel⟩⟩
theorem i_Model_lamp_9 : mj_Kc y_Model_lamp 9 1 (.int 0) := .inl ⟨0, by decide +kernel, rfl, by decide +kernel⟩
theorem i_Model_lamp_10 : mj_Kc y_Model_lamp 10 1 (.int 1) := .inl ⟨1, by decide +kernel, rfl, by decide +kernel⟩
theorem i_Model_lamp_11 : mj_Cs y_Model_lamp 11 y_Model_isIn 3 := ⟨mt_Model_isIn, 70, by decide +kernel, mm_819, .inl mm_818⟩
theorem i_Model_lamp_14 : mj_If y_Model_lamp 14 20 (fun (a : Int32) => ¬ a = 0) := ⟨6, by decide, .inr (.inl ⟨by decide +kernel, rfl⟩)⟩
theorem i_Model_lamp_17 : mj_Kc y_Model_lamp 17 2 (.int (-2000000001)) := .inr (.inr (.inr (.inl ⟨81, (-2000000001), by decide +kernel, rfl, rfl, mm_821⟩)))
theorem i_Model_lamp_19 : decode y_Model_lamp.2.1 19 = .ok (.ireturn, 1) := by decide +kernel
theorem i_Model_lamp_20 : mj_Ld y_Model_lamp 20 1 0 2 := .inr (.inr ⟨rfl, .inr ⟨rfl, 0, rfl, by decide +kernel⟩⟩)
theorem i_Model_lamp_21 : mj_Gf y_Model_lamp 21 8 2 := ⟨by decide, by decide, 16, by decide +kernel, .inl mm_734⟩
theorem i_Model_lamp_24 : mj_Kc y_Model_lamp 24 2 (.int 115) := .inr (.inl ⟨115, by decide +kernel, rfl, by decide +kernel⟩)
theorem i_Model_lamp_26 : mj_Ld y_Model_lamp 26 1 1 0 := .inl ⟨rfl, .inr ⟨rfl, 1, rfl, by decide +kernel⟩⟩
theorem i_Model_lamp_27 : mj_B2 y_Model_lamp 27 (fun (a b : Int32) => a + b) := .inl ⟨by decide +kernel, rfl⟩
theorem i_Model_lamp_28 : decode y_Model_lamp.2.1 28 = .ok (.iaload, 1) := by decide +kernel
theorem i_Model_lamp_29 : mj_Kc y_Model_lamp 29 1 (.int 3) := .inl ⟨3, by decide +kernel, rfl, by decide +kernel⟩
theorem i_Model_lamp_30 : mj_Ic y_Model_lamp 30 36 (fun (a b : Int32) => a = b) := ⟨6, by decide, .inl ⟨by decide +kernel, rfl⟩⟩
theorem i_Model_lamp_33 : mj_Kc y_Model_lamp 33 2 (.int (-2000000002)) := .inr (.inr (.inr (.inl ⟨80, (-2000000002), by decide +kernel, rfl, rfl, mm_813⟩)))
theorem i_Model_lamp_35 : decode y_Model_lamp.2.1 35 = .ok (.ireturn, 1) := by decide +kernel
theorem i_Model_lamp_36 : mj_Ld y_Model_lamp 36 1 0 2 := .inr (.inr ⟨rfl, .inr ⟨rfl, 0, rfl, by decide +kernel⟩⟩)
theorem i_Model_lamp_37 : mj_Cv y_Model_lamp 37 y_Model_keep 8 0 := ⟨by decide, rfl, mt_Model_keep, 112, by decide +kernel, mm_869, mm_871, mp_28⟩
theorem i_Model_lamp_40 : mj_Ld y_Model_lamp 40 1 0 2 := .inr (.inr ⟨rfl, .inr ⟨rfl, 0, rfl, by decide +kernel⟩⟩)
theorem i_Model_lamp_41 : mj_Gf y_Model_lamp 41 8 2 := ⟨by decide, by decide, 16, by decide +kernel, .inl mm_734⟩
theorem i_Model_lamp_44 : mj_Kc y_Model_lamp 44 3 (.int 199) := .inr (.inr (.inl ⟨199, by decide +kernel, rfl, by decide +kernel⟩))
theorem i_Model_lamp_47 : mj_Ld y_Model_lamp 47 1 1 0 := .inl ⟨rfl, .inr ⟨rfl, 1, rfl, by decide +kernel⟩⟩
theorem i_Model_lamp_48 : mj_B2 y_Model_lamp 48 (fun (a b : Int32) => a + b) := .inl ⟨by decide +kernel, rfl⟩
theorem i_Model_lamp_49 : decode y_Model_lamp.2.1 49 = .ok (.iaload, 1) := by decide +kernel
theorem i_Model_lamp_50 : mj_St y_Model_lamp 50 1 3 0 := .inl ⟨rfl, .inr ⟨rfl, 3, rfl, by decide +kernel⟩⟩
theorem i_Model_lamp_51 : mj_Ld y_Model_lamp 51 1 0 2 := .inr (.inr ⟨rfl, .inr ⟨rfl, 0, rfl, by decide +kernel⟩⟩)
theorem i_Model_lamp_52 : mj_Gf y_Model_lamp 52 8 2 := ⟨by decide, by decide, 16, by decide +kernel, .inl mm_734⟩
theorem i_Model_lamp_55 : mj_Kc y_Model_lamp 55 3 (.int 199) := .inr (.inr (.inl ⟨199, by decide +kernel, rfl, by decide +kernel⟩))
theorem i_Model_lamp_58 : mj_Ld y_Model_lamp 58 1 1 0 := .inl ⟨rfl, .inr ⟨rfl, 1, rfl, by decide +kernel⟩⟩
theorem i_Model_lamp_59 : mj_B2 y_Model_lamp 59 (fun (a b : Int32) => a + b) := .inl ⟨by decide +kernel, rfl⟩
theorem i_Model_lamp_60 : mj_Ld y_Model_lamp 60 1 2 0 := .inl ⟨rfl, .inr ⟨rfl, 2, rfl, by decide +kernel⟩⟩
theorem i_Model_lamp_61 : decode y_Model_lamp.2.1 61 = .ok (.iastore, 1) := by decide +kernel
theorem i_Model_lamp_62 : mj_Ld y_Model_lamp 62 1 3 0 := .inl ⟨rfl, .inr ⟨rfl, 3, rfl, by decide +kernel⟩⟩
theorem i_Model_lamp_63 : decode y_Model_lamp.2.1 63 = .ok (.ireturn, 1) := by decide +kernel
theorem i_Model_drop_0 : mj_Ld y_Model_drop 0 1 0 2 := .inr (.inr ⟨rfl, .inr ⟨rfl, 0, rfl, by decide +kernel⟩⟩)
theorem i_Model_drop_1 : mj_Cv y_Model_drop 1 y_Model_posts 8 0 := ⟨by decide, rfl, mt_Model_posts, 74, by decide +kernel, mm_846, mm_848, mp_23⟩
theorem i_Model_drop_4 : mj_If y_Model_drop 4 10 (fun (a : Int32) => ¬ a = 0) := ⟨6, by decide, .inr (.inl ⟨by decide +kernel, rfl⟩)⟩
theorem i_Model_drop_7 : mj_Kc y_Model_drop 7 2 (.int (-2000000002)) := .inr (.inr (.inr (.inl ⟨80, (-2000000002), by decide +kernel, rfl, rfl, mm_813⟩)))
theorem i_Model_drop_9 : decode y_Model_drop.2.1 9 = .ok (.ireturn, 1) := by decide +kernel
theorem i_Model_drop_10 : mj_Ld y_Model_drop 10 1 0 2 := .inr (.inr ⟨rfl, .inr ⟨rfl, 0, rfl, by decide +kernel⟩⟩)
theorem i_Model_drop_11 : mj_Cv y_Model_drop 11 y_Model_keep 8 0 := ⟨by decide, rfl, mt_Model_keep, 112, by decide +kernel, mm_869, mm_871, mp_28⟩
theorem i_Model_drop_14 : mj_Ld y_Model_drop 14 1 0 2 := .inr (.inr ⟨rfl, .inr ⟨rfl, 0, rfl, by decide +kernel⟩⟩)
theorem i_Model_drop_15 : mj_Gf y_Model_drop 15 8 2 := ⟨by decide, by decide, 16, by decide +kernel, .inl mm_734⟩
theorem i_Model_drop_18 : mj_Kc y_Model_drop 18 2 (.int 100) := .inr (.inl ⟨100, by decide +kernel, rfl, by decide +kernel⟩)
theorem i_Model_drop_20 : decode y_Model_drop.2.1 20 = .ok (.dup2, 1) := by decide +kernel
theorem i_Model_drop_21 : decode y_Model_drop.2.1 21 = .ok (.iaload, 1) := by decide +kernel
theorem i_Model_drop_22 : mj_Kc y_Model_drop 22 1 (.int 1) := .inl ⟨1, by decide +kernel, rfl, by decide +kernel⟩
theorem i_Model_drop_23 : mj_B2 y_Model_drop 23 (fun (a b : Int32) => a - b) := .inr (.inl ⟨by decide +kernel, rfl⟩)
theorem i_Model_drop_24 : decode y_Model_drop.2.1 24 = .ok (.iastore, 1) := by decide +kernel
theorem i_Model_drop_25 : mj_Ld y_Model_drop 25 1 0 2 := .inr (.inr ⟨rfl, .inr ⟨rfl, 0, rfl, by decide +kernel⟩⟩)
theorem i_Model_drop_26 : mj_Cv y_Model_drop 26 y_Model_posts 8 0 := ⟨by decide, rfl, mt_Model_posts, 74, by decide +kernel, mm_846, mm_848, mp_23⟩
theorem i_Model_drop_29 : decode y_Model_drop.2.1 29 = .ok (.ireturn, 1) := by decide +kernel
theorem i_Model_about_0 : mj_Ld y_Model_about 0 1 0 2 := .inr (.inr ⟨rfl, .inr ⟨rfl, 0, rfl, by decide +kernel⟩⟩)
theorem i_Model_about_1 : mj_Ld y_Model_about 1 1 1 0 := .inl ⟨rfl, .inr ⟨rfl, 1, rfl, by decide +kernel⟩⟩
theorem i_Model_about_2 : mj_Cv y_Model_about 2 y_Model_isPost 8 1 := ⟨by decide, rfl, mt_Model_isPost, 126, by decide +kernel, mm_901, mm_903, mp_31⟩
theorem i_Model_about_5 : mj_If y_Model_about 5 17 (fun (a : Int32) => a = 0) := ⟨12, by decide, .inl ⟨by decide +kernel, rfl⟩⟩
theorem i_Model_about_8 : mj_Ld y_Model_about 8 1 2 0 := .inl ⟨rfl, .inr ⟨rfl, 2, rfl, by decide +kernel⟩⟩
theorem i_Model_about_9 : mj_Kc y_Model_about 9 1 (.int 0) := .inl ⟨0, by decide +kernel, rfl, by decide +kernel⟩
theorem i_Model_about_10 : mj_Kc y_Model_about 10 1 (.int 5) := .inl ⟨5, by decide +kernel, rfl, by decide +kernel⟩
theorem i_Model_about_11 : mj_Cs y_Model_about 11 y_Model_isIn 3 := ⟨mt_Model_isIn, 70, by decide +kernel, mm_819, .inl mm_818⟩
theorem i_Model_about_14 : mj_If y_Model_about 14 20 (fun (a : Int32) => ¬ a = 0) := ⟨6, by decide, .inr (.inl ⟨by decide +kernel, rfl⟩)⟩
theorem i_Model_about_17 : mj_Kc y_Model_about 17 2 (.int (-2000000001)) := .inr (.inr (.inr (.inl ⟨81, (-2000000001), by decide +kernel, rfl, rfl, mm_821⟩)))
theorem i_Model_about_19 : decode y_Model_about.2.1 19 = .ok (.ireturn, 1) := by decide +kernel
theorem i_Model_about_20 : mj_Ld y_Model_about 20 1 0 2 := .inr (.inr ⟨rfl, .inr ⟨rfl, 0, rfl, by decide +kernel⟩⟩)
theorem i_Model_about_21 : mj_Gf y_Model_about 21 8 2 := ⟨by decide, by decide, 16, by decide +kernel, .inl mm_734⟩
theorem i_Model_about_24 : mj_Kc y_Model_about 24 2 (.int 115) := .inr (.inl ⟨115, by decide +kernel, rfl, by decide +kernel⟩)
theorem i_Model_about_26 : mj_Ld y_Model_about 26 1 1 0 := .inl ⟨rfl, .inr ⟨rfl, 1, rfl, by decide +kernel⟩⟩
theorem i_Model_about_27 : mj_B2 y_Model_about 27 (fun (a b : Int32) => a + b) := .inl ⟨by decide +kernel, rfl⟩
theorem i_Model_about_28 : decode y_Model_about.2.1 28 = .ok (.iaload, 1) := by decide +kernel
theorem i_Model_about_29 : mj_St y_Model_about 29 1 3 0 := .inl ⟨rfl, .inr ⟨rfl, 3, rfl, by decide +kernel⟩⟩
theorem i_Model_about_30 : mj_Ld y_Model_about 30 1 2 0 := .inl ⟨rfl, .inr ⟨rfl, 2, rfl, by decide +kernel⟩⟩
theorem i_Model_about_31_d : decode y_Model_about.2.1 31 = .ok (.tableswitch 138 0 4 #[33, 43, 45, 81, 117], 33) := by decide +kernel
theorem i_Model_about_31_o {k : Int32} (h : k.toInt < 0 ∨ 4 < k.toInt) : mj_Sw y_Model_about 31 k 169 := ⟨_, _, _, _, _, i_Model_about_31_d, .inl ⟨h, by decide⟩⟩
theorem i_Model_about_31_0 : mj_Sw y_Model_about 31 0 64 := ⟨_, _, _, _, _, i_Model_about_31_d, .inr ⟨by decide, by decide, 33, by decide, by decide⟩⟩
theorem i_Model_about_31_1 : mj_Sw y_Model_about 31 1 74 := ⟨_, _, _, _, _, i_Model_about_31_d, .inr ⟨by decide, by decide, 43, by decide, by decide⟩⟩
theorem i_Model_about_31_2 : mj_Sw y_Model_about 31 2 76 := ⟨_, _, _, _, _, i_Model_about_31_d, .inr ⟨by decide, by decide, 45, by decide, by decide⟩⟩
theorem i_Model_about_31_3 : mj_Sw y_Model_about 31 3 112 := ⟨_, _, _, _, _, i_Model_about_31_d, .inr ⟨by decide, by decide, 81, by decide, by decide⟩⟩
theorem i_Model_about_31_4 : mj_Sw y_Model_about 31 4 148 := ⟨_, _, _, _, _, i_Model_about_31_d, .inr ⟨by decide, by decide, 117, by decide, by decide⟩⟩
theorem i_Model_about_64 : mj_Ld y_Model_about 64 1 0 2 := .inr (.inr ⟨rfl, .inr ⟨rfl, 0, rfl, by decide +kernel⟩⟩)
theorem i_Model_about_65 : mj_Gf y_Model_about 65 8 2 := ⟨by decide, by decide, 16, by decide +kernel, .inl mm_734⟩
theorem i_Model_about_68 : mj_Kc y_Model_about 68 2 (.int 101) := .inr (.inl ⟨101, by decide +kernel, rfl, by decide +kernel⟩)
theorem i_Model_about_70 : mj_Ld y_Model_about 70 1 1 0 := .inl ⟨rfl, .inr ⟨rfl, 1, rfl, by decide +kernel⟩⟩
theorem i_Model_about_71 : mj_B2 y_Model_about 71 (fun (a b : Int32) => a + b) := .inl ⟨by decide +kernel, rfl⟩
theorem i_Model_about_72 : decode y_Model_about.2.1 72 = .ok (.iaload, 1) := by decide +kernel
theorem i_Model_about_73 : decode y_Model_about.2.1 73 = .ok (.ireturn, 1) := by decide +kernel
theorem i_Model_about_74 : mj_Ld y_Model_about 74 1 3 0 := .inl ⟨rfl, .inr ⟨rfl, 3, rfl, by decide +kernel⟩⟩
theorem i_Model_about_75 : decode y_Model_about.2.1 75 = .ok (.ireturn, 1) := by decide +kernel
theorem i_Model_about_76 : mj_Ld y_Model_about 76 1 3 0 := .inl ⟨rfl, .inr ⟨rfl, 3, rfl, by decide +kernel⟩⟩
theorem i_Model_about_77 : mj_Cs y_Model_about 77 y_Model_isWedge 1 := ⟨mt_Model_isWedge, 132, by decide +kernel, mm_909, .inl mm_908⟩
theorem i_Model_about_80 : mj_If y_Model_about 80 109 (fun (a : Int32) => a = 0) := ⟨29, by decide, .inl ⟨by decide +kernel, rfl⟩⟩
theorem i_Model_about_83 : mj_Ld y_Model_about 83 1 0 2 := .inr (.inr ⟨rfl, .inr ⟨rfl, 0, rfl, by decide +kernel⟩⟩)
theorem i_Model_about_84 : mj_Gf y_Model_about 84 8 2 := ⟨by decide, by decide, 16, by decide +kernel, .inl mm_734⟩
theorem i_Model_about_87 : mj_Kc y_Model_about 87 3 (.int 129) := .inr (.inr (.inl ⟨129, by decide +kernel, rfl, by decide +kernel⟩))
theorem i_Model_about_90 : mj_Ld y_Model_about 90 1 1 0 := .inl ⟨rfl, .inr ⟨rfl, 1, rfl, by decide +kernel⟩⟩
theorem i_Model_about_91 : mj_B2 y_Model_about 91 (fun (a b : Int32) => a + b) := .inl ⟨by decide +kernel, rfl⟩
theorem i_Model_about_92 : decode y_Model_about.2.1 92 = .ok (.iaload, 1) := by decide +kernel
theorem i_Model_about_93 : mj_Ld y_Model_about 93 1 0 2 := .inr (.inr ⟨rfl, .inr ⟨rfl, 0, rfl, by decide +kernel⟩⟩)
theorem i_Model_about_94 : mj_Gf y_Model_about 94 8 2 := ⟨by decide, by decide, 16, by decide +kernel, .inl mm_734⟩
theorem i_Model_about_97 : mj_Kc y_Model_about 97 3 (.int 143) := .inr (.inr (.inl ⟨143, by decide +kernel, rfl, by decide +kernel⟩))
theorem i_Model_about_100 : mj_Ld y_Model_about 100 1 1 0 := .inl ⟨rfl, .inr ⟨rfl, 1, rfl, by decide +kernel⟩⟩
theorem i_Model_about_101 : mj_B2 y_Model_about 101 (fun (a b : Int32) => a + b) := .inl ⟨by decide +kernel, rfl⟩
theorem i_Model_about_102 : decode y_Model_about.2.1 102 = .ok (.iaload, 1) := by decide +kernel
theorem i_Model_about_103 : mj_Cs y_Model_about 103 y_Model_coded 2 := ⟨mt_Model_coded, 135, by decide +kernel, mm_932, .inl mm_931⟩
theorem i_Model_about_106 : mj_Go y_Model_about 106 111 := ⟨5, by decide, by decide +kernel⟩
theorem i_Model_about_109 : mj_Kc y_Model_about 109 2 (.int (-2000000005)) := .inr (.inr (.inr (.inl ⟨139, (-2000000005), by decide +kernel, rfl, rfl, mm_934⟩)))
theorem i_Model_about_111 : decode y_Model_about.2.1 111 = .ok (.ireturn, 1) := by decide +kernel
theorem i_Model_about_112 : mj_Ld y_Model_about 112 1 3 0 := .inl ⟨rfl, .inr ⟨rfl, 3, rfl, by decide +kernel⟩⟩
theorem i_Model_about_113 : mj_Cs y_Model_about 113 y_Model_isWedge 1 := ⟨mt_Model_isWedge, 132, by decide +kernel, mm_909, .inl mm_908⟩
theorem i_Model_about_116 : mj_If y_Model_about 116 145 (fun (a : Int32) => a = 0) := ⟨29, by decide, .inl ⟨by decide +kernel, rfl⟩⟩
theorem i_Model_about_119 : mj_Ld y_Model_about 119 1 0 2 := .inr (.inr ⟨rfl, .inr ⟨rfl, 0, rfl, by decide +kernel⟩⟩)
theorem i_Model_about_120 : mj_Gf y_Model_about 120 8 2 := ⟨by decide, by decide, 16, by decide +kernel, .inl mm_734⟩
theorem i_Model_about_123 : mj_Kc y_Model_about 123 3 (.int 157) := .inr (.inr (.inl ⟨157, by decide +kernel, rfl, by decide +kernel⟩))
theorem i_Model_about_126 : mj_Ld y_Model_about 126 1 1 0 := .inl ⟨rfl, .inr ⟨rfl, 1, rfl, by decide +kernel⟩⟩
theorem i_Model_about_127 : mj_B2 y_Model_about 127 (fun (a b : Int32) => a + b) := .inl ⟨by decide +kernel, rfl⟩
theorem i_Model_about_128 : decode y_Model_about.2.1 128 = .ok (.iaload, 1) := by decide +kernel
theorem i_Model_about_129 : mj_Ld y_Model_about 129 1 0 2 := .inr (.inr ⟨rfl, .inr ⟨rfl, 0, rfl, by decide +kernel⟩⟩)
theorem i_Model_about_130 : mj_Gf y_Model_about 130 8 2 := ⟨by decide, by decide, 16, by decide +kernel, .inl mm_734⟩
theorem i_Model_about_133 : mj_Kc y_Model_about 133 3 (.int 171) := .inr (.inr (.inl ⟨171, by decide +kernel, rfl, by decide +kernel⟩))
theorem i_Model_about_136 : mj_Ld y_Model_about 136 1 1 0 := .inl ⟨rfl, .inr ⟨rfl, 1, rfl, by decide +kernel⟩⟩
theorem i_Model_about_137 : mj_B2 y_Model_about 137 (fun (a b : Int32) => a + b) := .inl ⟨by decide +kernel, rfl⟩
theorem i_Model_about_138 : decode y_Model_about.2.1 138 = .ok (.iaload, 1) := by decide +kernel
theorem i_Model_about_139 : mj_Cs y_Model_about 139 y_Model_coded 2 := ⟨mt_Model_coded, 135, by decide +kernel, mm_932, .inl mm_931⟩
theorem i_Model_about_142 : mj_Go y_Model_about 142 147 := ⟨5, by decide, by decide +kernel⟩
theorem i_Model_about_145 : mj_Kc y_Model_about 145 2 (.int (-2000000005)) := .inr (.inr (.inr (.inl ⟨139, (-2000000005), by decide +kernel, rfl, rfl, mm_934⟩)))
theorem i_Model_about_147 : decode y_Model_about.2.1 147 = .ok (.ireturn, 1) := by decide +kernel
theorem i_Model_about_148 : mj_Ld y_Model_about 148 1 3 0 := .inl ⟨rfl, .inr ⟨rfl, 3, rfl, by decide +kernel⟩⟩
theorem i_Model_about_149 : mj_Kc y_Model_about 149 1 (.int 4) := .inl ⟨4, by decide +kernel, rfl, by decide +kernel⟩
theorem i_Model_about_150 : mj_Ic y_Model_about 150 166 (fun (a b : Int32) => ¬ a = b) := ⟨16, by decide, .inr (.inl ⟨by decide +kernel, rfl⟩)⟩
theorem i_Model_about_153 : mj_Ld y_Model_about 153 1 0 2 := .inr (.inr ⟨rfl, .inr ⟨rfl, 0, rfl, by decide +kernel⟩⟩)
theorem i_Model_about_154 : mj_Gf y_Model_about 154 8 2 := ⟨by decide, by decide, 16, by decide +kernel, .inl mm_734⟩
theorem i_Model_about_157 : mj_Kc y_Model_about 157 3 (.int 185) := .inr (.inr (.inl ⟨185, by decide +kernel, rfl, by decide +kernel⟩))
theorem i_Model_about_160 : mj_Ld y_Model_about 160 1 1 0 := .inl ⟨rfl, .inr ⟨rfl, 1, rfl, by decide +kernel⟩⟩
theorem i_Model_about_161 : mj_B2 y_Model_about 161 (fun (a b : Int32) => a + b) := .inl ⟨by decide +kernel, rfl⟩
theorem i_Model_about_162 : decode y_Model_about.2.1 162 = .ok (.iaload, 1) := by decide +kernel
theorem i_Model_about_163 : mj_Go y_Model_about 163 168 := ⟨5, by decide, by decide +kernel⟩
theorem i_Model_about_166 : mj_Kc y_Model_about 166 2 (.int (-2000000005)) := .inr (.inr (.inr (.inl ⟨139, (-2000000005), by decide +kernel, rfl, rfl, mm_934⟩)))
theorem i_Model_about_168 : decode y_Model_about.2.1 168 = .ok (.ireturn, 1) := by decide +kernel
theorem i_Model_about_169 : mj_Ld y_Model_about 169 1 3 0 := .inl ⟨rfl, .inr ⟨rfl, 3, rfl, by decide +kernel⟩⟩
theorem i_Model_about_170 : mj_Kc y_Model_about 170 1 (.int 3) := .inl ⟨3, by decide +kernel, rfl, by decide +kernel⟩
theorem i_Model_about_171 : mj_Ic y_Model_about 171 187 (fun (a b : Int32) => ¬ a = b) := ⟨16, by decide, .inr (.inl ⟨by decide +kernel, rfl⟩)⟩
theorem i_Model_about_174 : mj_Ld y_Model_about 174 1 0 2 := .inr (.inr ⟨rfl, .inr ⟨rfl, 0, rfl, by decide +kernel⟩⟩)
theorem i_Model_about_175 : mj_Gf y_Model_about 175 8 2 := ⟨by decide, by decide, 16, by decide +kernel, .inl mm_734⟩
theorem i_Model_about_178 : mj_Kc y_Model_about 178 3 (.int 199) := .inr (.inr (.inl ⟨199, by decide +kernel, rfl, by decide +kernel⟩))
theorem i_Model_about_181 : mj_Ld y_Model_about 181 1 1 0 := .inl ⟨rfl, .inr ⟨rfl, 1, rfl, by decide +kernel⟩⟩
theorem i_Model_about_182 : mj_B2 y_Model_about 182 (fun (a b : Int32) => a + b) := .inl ⟨by decide +kernel, rfl⟩
theorem i_Model_about_183 : decode y_Model_about.2.1 183 = .ok (.iaload, 1) := by decide +kernel
theorem i_Model_about_184 : mj_Go y_Model_about 184 189 := ⟨5, by decide, by decide +kernel⟩
theorem i_Model_about_187 : mj_Kc y_Model_about 187 2 (.int (-2000000005)) := .inr (.inr (.inr (.inl ⟨139, (-2000000005), by decide +kernel, rfl, rfl, mm_934⟩)))
theorem i_Model_about_189 : decode y_Model_about.2.1 189 = .ok (.ireturn, 1) := by decide +kernel
theorem i_Model_coded_0 : mj_Kc y_Model_coded 0 2 (.int 20) := .inr (.inl ⟨20, by decide +kernel, rfl, by decide +kernel⟩)
theorem i_Model_coded_2 : mj_Ld y_Model_coded 2 1 0 0 := .inl ⟨rfl, .inr ⟨rfl, 0, rfl, by decide +kernel⟩⟩
theorem i_Model_coded_3 : mj_Kc y_Model_coded 3 2 (.int 10) := .inr (.inl ⟨10, by decide +kernel, rfl, by decide +kernel⟩)
theorem i_Model_coded_5 : mj_B2 y_Model_coded 5 (fun (a b : Int32) => a + b) := .inl ⟨by decide +kernel, rfl⟩
theorem i_Model_coded_6 : mj_B2 y_Model_coded 6 (fun (a b : Int32) => a * b) := .inr (.inr (.inl ⟨by decide +kernel, rfl⟩))
theorem i_Model_coded_7 : mj_Ld y_Model_coded 7 1 1 0 := .inl ⟨rfl, .inr ⟨rfl, 1, rfl, by decide +kernel⟩⟩
theorem i_Model_coded_8 : mj_B2 y_Model_coded 8 (fun (a b : Int32) => a + b) := .inl ⟨by decide +kernel, rfl⟩
theorem i_Model_coded_9 : mj_Kc y_Model_coded 9 2 (.int 10) := .inr (.inl ⟨10, by decide +kernel, rfl, by decide +kernel⟩)
theorem i_Model_coded_11 : mj_B2 y_Model_coded 11 (fun (a b : Int32) => a + b) := .inl ⟨by decide +kernel, rfl⟩
theorem i_Model_coded_12 : decode y_Model_coded.2.1 12 = .ok (.ireturn, 1) := by decide +kernel
theorem i_Model_isOf_0 : mj_Ld y_Model_isOf 0 1 0 2 := .inr (.inr ⟨rfl, .inr ⟨rfl, 0, rfl, by decide +kernel⟩⟩)
theorem i_Model_isOf_1 : mj_Ld y_Model_isOf 1 1 1 0 := .inl ⟨rfl, .inr ⟨rfl, 1, rfl, by decide +kernel⟩⟩
theorem i_Model_isOf_2 : mj_Cv y_Model_isOf 2 y_Model_isPost 8 1 := ⟨by decide, rfl, mt_Model_isPost, 126, by decide +kernel, mm_901, mm_903, mp_31⟩
theorem i_Model_isOf_5 : mj_If y_Model_isOf 5 17 (fun (a : Int32) => a = 0) := ⟨12, by decide, .inl ⟨by decide +kernel, rfl⟩⟩
theorem i_Model_isOf_8 : mj_Ld y_Model_isOf 8 1 2 0 := .inl ⟨rfl, .inr ⟨rfl, 2, rfl, by decide +kernel⟩⟩
theorem i_Model_isOf_9 : mj_Kc y_Model_isOf 9 1 (.int 0) := .inl ⟨0, by decide +kernel, rfl, by decide +kernel⟩
theorem i_Model_isOf_10 : mj_Kc y_Model_isOf 10 1 (.int 4) := .inl ⟨4, by decide +kernel, rfl, by decide +kernel⟩
theorem i_Model_isOf_11 : mj_Cs y_Model_isOf 11 y_Model_isIn 3 := ⟨mt_Model_isIn, 70, by decide +kernel, mm_819, .inl mm_818⟩
theorem i_Model_isOf_14 : mj_If y_Model_isOf 14 20 (fun (a : Int32) => ¬ a = 0) := ⟨6, by decide, .inr (.inl ⟨by decide +kernel, rfl⟩)⟩
theorem i_Model_isOf_17 : mj_Kc y_Model_isOf 17 2 (.int (-2000000001)) := .inr (.inr (.inr (.inl ⟨81, (-2000000001), by decide +kernel, rfl, rfl, mm_821⟩)))
theorem i_Model_isOf_19 : decode y_Model_isOf.2.1 19 = .ok (.ireturn, 1) := by decide +kernel
theorem i_Model_isOf_20 : mj_Ld y_Model_isOf 20 1 0 2 := .inr (.inr ⟨rfl, .inr ⟨rfl, 0, rfl, by decide +kernel⟩⟩)
theorem i_Model_isOf_21 : mj_Gf y_Model_isOf 21 8 2 := ⟨by decide, by decide, 16, by decide +kernel, .inl mm_734⟩
theorem i_Model_isOf_24 : mj_Kc y_Model_isOf 24 2 (.int 115) := .inr (.inl ⟨115, by decide +kernel, rfl, by decide +kernel⟩)
theorem i_Model_isOf_26 : mj_Ld y_Model_isOf 26 1 1 0 := .inl ⟨rfl, .inr ⟨rfl, 1, rfl, by decide +kernel⟩⟩
theorem i_Model_isOf_27 : mj_B2 y_Model_isOf 27 (fun (a b : Int32) => a + b) := .inl ⟨by decide +kernel, rfl⟩
theorem i_Model_isOf_28 : decode y_Model_isOf.2.1 28 = .ok (.iaload, 1) := by decide +kernel
theorem i_Model_isOf_29 : mj_St y_Model_isOf 29 1 3 0 := .inl ⟨rfl, .inr ⟨rfl, 3, rfl, by decide +kernel⟩⟩
theorem i_Model_isOf_30 : mj_Ld y_Model_isOf 30 1 2 0 := .inl ⟨rfl, .inr ⟨rfl, 2, rfl, by decide +kernel⟩⟩
theorem i_Model_isOf_31 : mj_If y_Model_isOf 31 63 (fun (a : Int32) => a = 0) := ⟨32, by decide, .inl ⟨by decide +kernel, rfl⟩⟩
theorem i_Model_isOf_34 : mj_Ld y_Model_isOf 34 1 3 0 := .inl ⟨rfl, .inr ⟨rfl, 3, rfl, by decide +kernel⟩⟩
theorem i_Model_isOf_35 : mj_Ld y_Model_isOf 35 1 2 0 := .inl ⟨rfl, .inr ⟨rfl, 2, rfl, by decide +kernel⟩⟩
theorem i_Model_isOf_36 : mj_Ic y_Model_isOf 36 63 (fun (a b : Int32) => a = b) := ⟨27, by decide, .inl ⟨by decide +kernel, rfl⟩⟩
theorem i_Model_isOf_39 : mj_Ld y_Model_isOf 39 1 2 0 := .inl ⟨rfl, .inr ⟨rfl, 2, rfl, by decide +kernel⟩⟩
theorem i_Model_isOf_40 : mj_Kc y_Model_isOf 40 1 (.int 1) := .inl ⟨1, by decide +kernel, rfl, by decide +kernel⟩
theorem i_Model_isOf_41 : mj_Ic y_Model_isOf 41 51 (fun (a b : Int32) => ¬ a = b) := ⟨10, by decide, .inr (.inl ⟨by decide +kernel, rfl⟩)⟩
theorem i_Model_isOf_44 : mj_Ld y_Model_isOf 44 1 3 0 := .inl ⟨rfl, .inr ⟨rfl, 3, rfl, by decide +kernel⟩⟩
theorem i_Model_isOf_45 : mj_Cs y_Model_isOf 45 y_Model_isWedge 1 := ⟨mt_Model_isWedge, 132, by decide +kernel, mm_909, .inl mm_908⟩
theorem i_Model_isOf_48 : mj_If y_Model_isOf 48 63 (fun (a : Int32) => ¬ a = 0) := ⟨15, by decide, .inr (.inl ⟨by decide +kernel, rfl⟩)⟩
theorem i_Model_isOf_51 : mj_Ld y_Model_isOf 51 1 2 0 := .inl ⟨rfl, .inr ⟨rfl, 2, rfl, by decide +kernel⟩⟩
theorem i_Model_isOf_52 : mj_Kc y_Model_isOf 52 1 (.int 2) := .inl ⟨2, by decide +kernel, rfl, by decide +kernel⟩
