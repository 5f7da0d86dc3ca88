/-! what stands at each place of the methods: GW -/
theorem i_GW_init_0 : mj_Ld y_GW_init 0 1 0 2 := .inr (.inr ⟨rfl, .inr ⟨rfl, 0, rfl, by decide +kernel⟩⟩)
theorem i_GW_init_1 : mj_Oi y_GW_init 1 := ⟨3, by decide +kernel, mm_19⟩
theorem i_GW_init_4 : mj_Nw y_GW_init 4 4 := ⟨by decide, 9, by decide +kernel, mm_22, mm_23, mm_2⟩
theorem i_GW_init_7 : decode y_GW_init.2.1 7 = .ok (.dup, 1) := by decide +kernel
theorem i_GW_init_8 : mj_Ci y_GW_init 8 y_Room_init 0 := ⟨mt_Room_init, rfl, rfl, 11, by decide +kernel, mm_25, .inr ⟨"GalleryWatch", mm_24⟩⟩
theorem i_GW_init_11 : mj_St y_GW_init 11 1 1 2 := .inr (.inr ⟨rfl, .inr ⟨rfl, 1, rfl, by decide +kernel⟩⟩)
theorem i_GW_init_12 : mj_Nw y_GW_init 12 6 := ⟨by decide, 12, by decide +kernel, mm_48, mm_49, mm_3⟩
theorem i_GW_init_15 : decode y_GW_init.2.1 15 = .ok (.dup, 1) := by decide +kernel
theorem i_GW_init_16 : mj_Ld y_GW_init 16 1 1 2 := .inr (.inr ⟨rfl, .inr ⟨rfl, 1, rfl, by decide +kernel⟩⟩)
theorem i_GW_init_17 : mj_Ci y_GW_init 17 y_View_init 1 := ⟨mt_View_init, rfl, rfl, 14, by decide +kernel, mm_51, .inl mm_50⟩
theorem i_GW_init_20 : mj_St y_GW_init 20 1 2 2 := .inr (.inr ⟨rfl, .inr ⟨rfl, 2, rfl, by decide +kernel⟩⟩)
theorem i_GW_init_21 : mj_Ld y_GW_init 21 1 0 2 := .inr (.inr ⟨rfl, .inr ⟨rfl, 0, rfl, by decide +kernel⟩⟩)
theorem i_GW_init_22 : mj_Ld y_GW_init 22 1 1 2 := .inr (.inr ⟨rfl, .inr ⟨rfl, 1, rfl, by decide +kernel⟩⟩)
theorem i_GW_init_23 : mj_Pf y_GW_init 23 7 0 (.object "GalleryWatch$Room") := ⟨by decide, by decide, 17, by decide +kernel, mm_177, by decide +kernel, .inr ⟨rfl, rfl, rfl⟩⟩
theorem i_GW_init_26 : mj_Ld y_GW_init 26 1 0 2 := .inr (.inr ⟨rfl, .inr ⟨rfl, 0, rfl, by decide +kernel⟩⟩)
theorem i_GW_init_27 : mj_Nw y_GW_init 27 4 := ⟨by decide, 9, by decide +kernel, mm_22, mm_23, mm_2⟩
theorem i_GW_init_30 : decode y_GW_init.2.1 30 = .ok (.dup, 1) := by decide +kernel
theorem i_GW_init_31 : mj_Ci y_GW_init 31 y_Room_init 0 := ⟨mt_Room_init, rfl, rfl, 11, by decide +kernel, mm_25, .inr ⟨"GalleryWatch", mm_24⟩⟩
theorem i_GW_init_34 : mj_Pf y_GW_init 34 7 1 (.object "GalleryWatch$Room") := ⟨by decide, by decide, 21, by decide +kernel, mm_178, by decide +kernel, .inr ⟨rfl, rfl, rfl⟩⟩
theorem i_GW_init_37 : mj_Ld y_GW_init 37 1 0 2 := .inr (.inr ⟨rfl, .inr ⟨rfl, 0, rfl, by decide +kernel⟩⟩)
theorem i_GW_init_38 : mj_Nw y_GW_init 38 1 := ⟨by decide, 24, by decide +kernel, mm_67, mm_68, mm_4⟩
theorem i_GW_init_41 : decode y_GW_init.2.1 41 = .ok (.dup, 1) := by decide +kernel
theorem i_GW_init_42 : mj_Ci y_GW_init 42 y_Past_init 0 := ⟨mt_Past_init, rfl, rfl, 26, by decide +kernel, mm_70, .inl mm_69⟩
theorem i_GW_init_45 : mj_Pf y_GW_init 45 7 2 (.object "GalleryWatch$Past") := ⟨by decide, by decide, 27, by decide +kernel, mm_179, by decide +kernel, .inr ⟨rfl, rfl, rfl⟩⟩
theorem i_GW_init_48 : mj_Ld y_GW_init 48 1 0 2 := .inr (.inr ⟨rfl, .inr ⟨rfl, 0, rfl, by decide +kernel⟩⟩)
theorem i_GW_init_49 : mj_Ld y_GW_init 49 1 2 2 := .inr (.inr ⟨rfl, .inr ⟨rfl, 2, rfl, by decide +kernel⟩⟩)
theorem i_GW_init_50 : mj_Pf y_GW_init 50 7 3 (.object "GalleryWatch$View") := ⟨by decide, by decide, 31, by decide +kernel, mm_180, by decide +kernel, .inr ⟨rfl, rfl, rfl⟩⟩
theorem i_GW_init_53 : mj_Ld y_GW_init 53 1 0 2 := .inr (.inr ⟨rfl, .inr ⟨rfl, 0, rfl, by decide +kernel⟩⟩)
theorem i_GW_init_54 : mj_Nw y_GW_init 54 0 := ⟨by decide, 35, by decide +kernel, mm_86, mm_87, mm_5⟩
theorem i_GW_init_57 : decode y_GW_init.2.1 57 = .ok (.dup, 1) := by decide +kernel
theorem i_GW_init_58 : mj_Ld y_GW_init 58 1 2 2 := .inr (.inr ⟨rfl, .inr ⟨rfl, 2, rfl, by decide +kernel⟩⟩)
theorem i_GW_init_59 : mj_Ci y_GW_init 59 y_Choice_init 1 := ⟨mt_Choice_init, rfl, rfl, 37, by decide +kernel, mm_89, .inl mm_88⟩
theorem i_GW_init_62 : mj_Pf y_GW_init 62 7 4 (.object "GalleryWatch$Choice") := ⟨by decide, by decide, 40, by decide +kernel, mm_181, by decide +kernel, .inr ⟨rfl, rfl, rfl⟩⟩
theorem i_GW_init_65 : mj_Ld y_GW_init 65 1 0 2 := .inr (.inr ⟨rfl, .inr ⟨rfl, 0, rfl, by decide +kernel⟩⟩)
theorem i_GW_init_66 : mj_Nw y_GW_init 66 5 := ⟨by decide, 44, by decide +kernel, mm_130, mm_131, mm_6⟩
theorem i_GW_init_69 : decode y_GW_init.2.1 69 = .ok (.dup, 1) := by decide +kernel
theorem i_GW_init_70 : mj_Ld y_GW_init 70 1 2 2 := .inr (.inr ⟨rfl, .inr ⟨rfl, 2, rfl, by decide +kernel⟩⟩)
theorem i_GW_init_71 : mj_Ci y_GW_init 71 y_Shade_init 1 := ⟨mt_Shade_init, rfl, rfl, 46, by decide +kernel, mm_133, .inl mm_132⟩
theorem i_GW_init_74 : mj_Pf y_GW_init 74 7 5 (.object "GalleryWatch$Shade") := ⟨by decide, by decide, 47, by decide +kernel, mm_182, by decide +kernel, .inr ⟨rfl, rfl, rfl⟩⟩
theorem i_GW_init_77 : mj_Ld y_GW_init 77 1 0 2 := .inr (.inr ⟨rfl, .inr ⟨rfl, 0, rfl, by decide +kernel⟩⟩)
theorem i_GW_init_78 : mj_Nw y_GW_init 78 3 := ⟨by decide, 51, by decide +kernel, mm_146, mm_147, mm_7⟩
theorem i_GW_init_81 : decode y_GW_init.2.1 81 = .ok (.dup, 1) := by decide +kernel
theorem i_GW_init_82 : mj_Ld y_GW_init 82 1 2 2 := .inr (.inr ⟨rfl, .inr ⟨rfl, 2, rfl, by decide +kernel⟩⟩)
theorem i_GW_init_83 : mj_Ci y_GW_init 83 y_Proof_init 1 := ⟨mt_Proof_init, rfl, rfl, 53, by decide +kernel, mm_149, .inl mm_148⟩
theorem i_GW_init_86 : mj_Pf y_GW_init 86 7 6 (.object "GalleryWatch$Proof") := ⟨by decide, by decide, 54, by decide +kernel, mm_183, by decide +kernel, .inr ⟨rfl, rfl, rfl⟩⟩
theorem i_GW_init_89 : decode y_GW_init.2.1 89 = .ok (.return_, 1) := by decide +kernel
theorem i_GW_room_0 : mj_Ld y_GW_room 0 1 1 0 := .inl ⟨rfl, .inr ⟨rfl, 1, rfl, by decide +kernel⟩⟩
theorem i_GW_room_1 : mj_Kc y_GW_room 1 1 (.int 1) := .inl ⟨1, by decide +kernel, rfl, by decide +kernel⟩
theorem i_GW_room_2 : mj_Kc y_GW_room 2 2 (.int 10) := .inr (.inl ⟨10, by decide +kernel, rfl, by decide +kernel⟩)
theorem i_GW_room_4 : mj_Cs y_GW_room 4 y_GW_isWithin 3 := ⟨mt_GW_isWithin, 58, by decide +kernel, mm_204, .inl mm_203⟩
theorem i_GW_room_7 : mj_If y_GW_room 7 20 (fun (a : Int32) => a = 0) := ⟨13, by decide, .inl ⟨by decide +kernel, rfl⟩⟩
theorem i_GW_room_10 : mj_Ld y_GW_room 10 1 2 0 := .inl ⟨rfl, .inr ⟨rfl, 2, rfl, by decide +kernel⟩⟩
theorem i_GW_room_11 : mj_Kc y_GW_room 11 1 (.int 1) := .inl ⟨1, by decide +kernel, rfl, by decide +kernel⟩
theorem i_GW_room_12 : mj_Kc y_GW_room 12 2 (.int 10) := .inr (.inl ⟨10, by decide +kernel, rfl, by decide +kernel⟩)
theorem i_GW_room_14 : mj_Cs y_GW_room 14 y_GW_isWithin 3 := ⟨mt_GW_isWithin, 58, by decide +kernel, mm_204, .inl mm_203⟩
theorem i_GW_room_17 : mj_If y_GW_room 17 23 (fun (a : Int32) => ¬ a = 0) := ⟨6, by decide, .inr (.inl ⟨by decide +kernel, rfl⟩)⟩
theorem i_GW_room_20 : mj_Kc y_GW_room 20 2 (.int (-2000000001)) := .inr (.inr (.inr (.inl ⟨62, (-2000000001), by decide +kernel, rfl, rfl, mm_206⟩)))
theorem i_GW_room_22 : decode y_GW_room.2.1 22 = .ok (.ireturn, 1) := by decide +kernel
theorem i_GW_room_23 : mj_Ld y_GW_room 23 1 0 2 := .inr (.inr ⟨rfl, .inr ⟨rfl, 0, rfl, by decide +kernel⟩⟩)
theorem i_GW_room_24 : mj_Gf y_GW_room 24 7 0 := ⟨by decide, by decide, 17, by decide +kernel, .inl mm_177⟩
theorem i_GW_room_27 : mj_Ld y_GW_room 27 1 1 0 := .inl ⟨rfl, .inr ⟨rfl, 1, rfl, by decide +kernel⟩⟩
theorem i_GW_room_28 : mj_Ld y_GW_room 28 1 2 0 := .inl ⟨rfl, .inr ⟨rfl, 2, rfl, by decide +kernel⟩⟩
theorem i_GW_room_29 : mj_Cv y_GW_room 29 y_Room_begin 4 2 := ⟨by decide, rfl, mt_Room_begin, 63, by decide +kernel, mm_207, mm_208, mm_209⟩
theorem i_GW_room_32 : mj_Ld y_GW_room 32 1 0 2 := .inr (.inr ⟨rfl, .inr ⟨rfl, 0, rfl, by decide +kernel⟩⟩)
theorem i_GW_room_33 : mj_Gf y_GW_room 33 7 2 := ⟨by decide, by decide, 27, by decide +kernel, .inl mm_179⟩
theorem i_GW_room_36 : mj_Cv y_GW_room 36 y_Past_forget 1 0 := ⟨by decide, rfl, mt_Past_forget, 67, by decide +kernel, mm_214, mm_215, mm_216⟩
theorem i_GW_room_39 : mj_Ld y_GW_room 39 1 0 2 := .inr (.inr ⟨rfl, .inr ⟨rfl, 0, rfl, by decide +kernel⟩⟩)
theorem i_GW_room_40 : mj_Cv y_GW_room 40 y_GW_outdate 7 0 := ⟨by decide, rfl, mt_GW_outdate, 70, by decide +kernel, mm_218, mm_220, mp_0⟩
theorem i_GW_room_43 : mj_Ld y_GW_room 43 1 0 2 := .inr (.inr ⟨rfl, .inr ⟨rfl, 0, rfl, by decide +kernel⟩⟩)
theorem i_GW_room_44 : mj_Gf y_GW_room 44 7 0 := ⟨by decide, by decide, 17, by decide +kernel, .inl mm_177⟩
theorem i_GW_room_47 : mj_Cv y_GW_room 47 y_Room_cells 4 0 := ⟨by decide, rfl, mt_Room_cells, 73, by decide +kernel, mm_234, mm_235, mm_236⟩
theorem i_GW_room_50 : decode y_GW_room.2.1 50 = .ok (.ireturn, 1) := by decide +kernel
theorem i_GW_isWithin_0 : mj_Ld y_GW_isWithin 0 1 0 0 := .inl ⟨rfl, .inr ⟨rfl, 0, rfl, by decide +kernel⟩⟩
theorem i_GW_isWithin_1 : mj_Ld y_GW_isWithin 1 1 1 0 := .inl ⟨rfl, .inr ⟨rfl, 1, rfl, by decide +kernel⟩⟩
theorem i_GW_isWithin_2 : mj_Ic y_GW_isWithin 2 14 (fun (a b : Int32) => a < b) := ⟨12, by decide, .inr (.inr (.inl ⟨by decide +kernel, rfl⟩))⟩
theorem i_GW_isWithin_5 : mj_Ld y_GW_isWithin 5 1 0 0 := .inl ⟨rfl, .inr ⟨rfl, 0, rfl, by decide +kernel⟩⟩
theorem i_GW_isWithin_6 : mj_Ld y_GW_isWithin 6 1 2 0 := .inl ⟨rfl, .inr ⟨rfl, 2, rfl, by decide +kernel⟩⟩
theorem i_GW_isWithin_7 : mj_Ic y_GW_isWithin 7 14 (fun (a b : Int32) => b < a) := ⟨7, by decide, .inr (.inr (.inr (.inr (.inl ⟨by decide +kernel, rfl⟩))))⟩
theorem i_GW_isWithin_10 : mj_Kc y_GW_isWithin 10 1 (.int 1) := .inl ⟨1, by decide +kernel, rfl, by decide +kernel⟩
theorem i_GW_isWithin_11 : mj_Go y_GW_isWithin 11 15 := ⟨4, by decide, by decide +kernel⟩
theorem i_GW_isWithin_14 : mj_Kc y_GW_isWithin 14 1 (.int 0) := .inl ⟨0, by decide +kernel, rfl, by decide +kernel⟩
theorem i_GW_isWithin_15 : decode y_GW_isWithin.2.1 15 = .ok (.ireturn, 1) := by decide +kernel
theorem i_GW_outdate_0 : mj_Ld y_GW_outdate 0 1 0 2 := .inr (.inr ⟨rfl, .inr ⟨rfl, 0, rfl, by decide +kernel⟩⟩)
theorem i_GW_outdate_1 : mj_Gf y_GW_outdate 1 7 3 := ⟨by decide, by decide, 31, by decide +kernel, .inl mm_180⟩
theorem i_GW_outdate_4 : mj_Cv y_GW_outdate 4 y_View_outdate 6 0 := ⟨by decide, rfl, mt_View_outdate, 256, by decide +kernel, mm_222, mm_223, mm_224⟩
theorem i_GW_outdate_7 : mj_Ld y_GW_outdate 7 1 0 2 := .inr (.inr ⟨rfl, .inr ⟨rfl, 0, rfl, by decide +kernel⟩⟩)
theorem i_GW_outdate_8 : mj_Gf y_GW_outdate 8 7 4 := ⟨by decide, by decide, 40, by decide +kernel, .inl mm_181⟩
theorem i_GW_outdate_11 : mj_Cv y_GW_outdate 11 y_Choice_outdate 0 0 := ⟨by decide, rfl, mt_Choice_outdate, 257, by decide +kernel, mm_226, mm_227, mm_228⟩
theorem i_GW_outdate_14 : mj_Ld y_GW_outdate 14 1 0 2 := .inr (.inr ⟨rfl, .inr ⟨rfl, 0, rfl, by decide +kernel⟩⟩)
theorem i_GW_outdate_15 : mj_Gf y_GW_outdate 15 7 6 := ⟨by decide, by decide, 54, by decide +kernel, .inl mm_183⟩
theorem i_GW_outdate_18 : mj_Cv y_GW_outdate 18 y_Proof_end 3 0 := ⟨by decide, rfl, mt_Proof_end, 258, by decide +kernel, mm_230, mm_231, mm_232⟩
theorem i_GW_outdate_21 : decode y_GW_outdate.2.1 21 = .ok (.return_, 1) := by decide +kernel
theorem i_GW_wall_0 : mj_Ld y_GW_wall 0 1 0 2 := .inr (.inr ⟨rfl, .inr ⟨rfl, 0, rfl, by decide +kernel⟩⟩)
theorem i_GW_wall_1 : mj_Gf y_GW_wall 1 7 0 := ⟨by decide, by decide, 17, by decide +kernel, .inl mm_177⟩
theorem i_GW_wall_4 : mj_Ld y_GW_wall 4 1 1 0 := .inl ⟨rfl, .inr ⟨rfl, 1, rfl, by decide +kernel⟩⟩
theorem i_GW_wall_5 : mj_Cv y_GW_wall 5 y_Room_hasCell 4 1 := ⟨by decide, rfl, mt_Room_hasCell, 77, by decide +kernel, mm_242, mm_243, mm_244⟩
theorem i_GW_wall_8 : mj_If y_GW_wall 8 31 (fun (a : Int32) => a = 0) := ⟨23, by decide, .inl ⟨by decide +kernel, rfl⟩⟩
theorem i_GW_wall_11 : mj_Ld y_GW_wall 11 1 0 2 := .inr (.inr ⟨rfl, .inr ⟨rfl, 0, rfl, by decide +kernel⟩⟩)
theorem i_GW_wall_12 : mj_Gf y_GW_wall 12 7 0 := ⟨by decide, by decide, 17, by decide +kernel, .inl mm_177⟩
theorem i_GW_wall_15 : mj_Ld y_GW_wall 15 1 2 0 := .inl ⟨rfl, .inr ⟨rfl, 2, rfl, by decide +kernel⟩⟩
theorem i_GW_wall_16 : mj_Cv y_GW_wall 16 y_Room_hasCell 4 1 := ⟨by decide, rfl, mt_Room_hasCell, 77, by decide +kernel, mm_242, mm_243, mm_244⟩
theorem i_GW_wall_19 : mj_If y_GW_wall 19 31 (fun (a : Int32) => a = 0) := ⟨12, by decide, .inl ⟨by decide +kernel, rfl⟩⟩
theorem i_GW_wall_22 : mj_Ld y_GW_wall 22 1 3 0 := .inl ⟨rfl, .inr ⟨rfl, 3, rfl, by decide +kernel⟩⟩
theorem i_GW_wall_23 : mj_Kc y_GW_wall 23 1 (.int 0) := .inl ⟨0, by decide +kernel, rfl, by decide +kernel⟩
theorem i_GW_wall_24 : mj_Kc y_GW_wall 24 1 (.int 1) := .inl ⟨1, by decide +kernel, rfl, by decide +kernel⟩
theorem i_GW_wall_25 : mj_Cs y_GW_wall 25 y_GW_isWithin 3 := ⟨mt_GW_isWithin, 58, by decide +kernel, mm_204, .inl mm_203⟩
theorem i_GW_wall_28 : mj_If y_GW_wall 28 34 (fun (a : Int32) => ¬ a = 0) := ⟨6, by decide, .inr (.inl ⟨by decide +kernel, rfl⟩)⟩
theorem i_GW_wall_31 : mj_Kc y_GW_wall 31 2 (.int (-2000000001)) := .inr (.inr (.inr (.inl ⟨62, (-2000000001), by decide +kernel, rfl, rfl, mm_206⟩)))
theorem i_GW_wall_33 : decode y_GW_wall.2.1 33 = .ok (.ireturn, 1) := by decide +kernel
theorem i_GW_wall_34 : mj_Ld y_GW_wall 34 1 0 2 := .inr (.inr ⟨rfl, .inr ⟨rfl, 0, rfl, by decide +kernel⟩⟩)
theorem i_GW_wall_35 : mj_Gf y_GW_wall 35 7 1 := ⟨by decide, by decide, 21, by decide +kernel, .inl mm_178⟩
theorem i_GW_wall_38 : mj_Ld y_GW_wall 38 1 0 2 := .inr (.inr ⟨rfl, .inr ⟨rfl, 0, rfl, by decide +kernel⟩⟩)
theorem i_GW_wall_39 : mj_Gf y_GW_wall 39 7 0 := ⟨by decide, by decide, 17, by decide +kernel, .inl mm_177⟩
theorem i_GW_wall_42 : mj_Cv y_GW_wall 42 y_Room_copyFrom 4 1 := ⟨by decide, rfl, mt_Room_copyFrom, 81, by decide +kernel, mm_246, mm_247, mm_248⟩
theorem i_GW_wall_45 : mj_Ld y_GW_wall 45 1 0 2 := .inr (.inr ⟨rfl, .inr ⟨rfl, 0, rfl, by decide +kernel⟩⟩)
theorem i_GW_wall_46 : mj_Gf y_GW_wall 46 7 1 := ⟨by decide, by decide, 21, by decide +kernel, .inl mm_178⟩
theorem i_GW_wall_49 : mj_Ld y_GW_wall 49 1 1 0 := .inl ⟨rfl, .inr ⟨rfl, 1, rfl, by decide +kernel⟩⟩
theorem i_GW_wall_50 : mj_Ld y_GW_wall 50 1 2 0 := .inl ⟨rfl, .inr ⟨rfl, 2, rfl, by decide +kernel⟩⟩
theorem i_GW_wall_51 : mj_Ld y_GW_wall 51 1 3 0 := .inl ⟨rfl, .inr ⟨rfl, 3, rfl, by decide +kernel⟩⟩
theorem i_GW_wall_52 : mj_Cv y_GW_wall 52 y_Room_build 4 3 := ⟨by decide, rfl, mt_Room_build, 84, by decide +kernel, mm_253, mm_254, mm_255⟩
theorem i_GW_wall_55 : mj_St y_GW_wall 55 2 4 0 := .inl ⟨rfl, .inl ⟨rfl, by decide +kernel⟩⟩
theorem i_GW_wall_57 : mj_Ld y_GW_wall 57 1 0 2 := .inr (.inr ⟨rfl, .inr ⟨rfl, 0, rfl, by decide +kernel⟩⟩)
theorem i_GW_wall_58 : mj_Gf y_GW_wall 58 7 1 := ⟨by decide, by decide, 21, by decide +kernel, .inl mm_178⟩
theorem i_GW_wall_61 : mj_Cv y_GW_wall 61 y_Room_holdsItsPosts 4 0 := ⟨by decide, rfl, mt_Room_holdsItsPosts, 88, by decide +kernel, mm_272, mm_273, mm_274⟩
theorem i_GW_wall_64 : mj_If y_GW_wall 64 70 (fun (a : Int32) => ¬ a = 0) := ⟨6, by decide, .inr (.inl ⟨by decide +kernel, rfl⟩)⟩
theorem i_GW_wall_67 : mj_Kc y_GW_wall 67 2 (.int (-2000000002)) := .inr (.inr (.inr (.inl ⟨92, (-2000000002), by decide +kernel, rfl, rfl, mm_304⟩)))
theorem i_GW_wall_69 : decode y_GW_wall.2.1 69 = .ok (.ireturn, 1) := by decide +kernel
theorem i_GW_wall_70 : mj_Ld y_GW_wall 70 1 0 2 := .inr (.inr ⟨rfl, .inr ⟨rfl, 0, rfl, by decide +kernel⟩⟩)
theorem i_GW_wall_71 : mj_Cv y_GW_wall 71 y_GW_beginChange 7 0 := ⟨by decide, rfl, mt_GW_beginChange, 93, by decide +kernel, mm_305, mm_307, mp_2⟩
theorem i_GW_wall_74 : mj_Ld y_GW_wall 74 1 0 2 := .inr (.inr ⟨rfl, .inr ⟨rfl, 0, rfl, by decide +kernel⟩⟩)
theorem i_GW_wall_75 : mj_Gf y_GW_wall 75 7 0 := ⟨by decide, by decide, 17, by decide +kernel, .inl mm_177⟩
theorem i_GW_wall_78 : mj_Ld y_GW_wall 78 1 0 2 := .inr (.inr ⟨rfl, .inr ⟨rfl, 0, rfl, by decide +kernel⟩⟩)
theorem i_GW_wall_79 : mj_Gf y_GW_wall 79 7 1 := ⟨by decide, by decide, 21, by decide +kernel, .inl mm_178⟩
theorem i_GW_wall_82 : mj_Cv y_GW_wall 82 y_Room_copyFrom 4 1 := ⟨by decide, rfl, mt_Room_copyFrom, 81, by decide +kernel, mm_246, mm_247, mm_248⟩
theorem i_GW_wall_85 : mj_Ld y_GW_wall 85 2 4 0 := .inl ⟨rfl, .inl ⟨rfl, by decide +kernel⟩⟩
theorem i_GW_wall_87 : decode y_GW_wall.2.1 87 = .ok (.ireturn, 1) := by decide +kernel
theorem i_GW_isKindOf_0 : mj_Ld y_GW_isKindOf 0 1 0 0 := .inl ⟨rfl, .inr ⟨rfl, 0, rfl, by decide +kernel⟩⟩
theorem i_GW_isKindOf_1 : mj_Cs y_GW_isKindOf 1 y_GW_isKind 1 := ⟨mt_GW_isKind, 107, by decide +kernel, mm_292, .inl mm_291⟩
theorem i_GW_isKindOf_4 : mj_If y_GW_isKindOf 4 31 (fun (a : Int32) => a = 0) := ⟨27, by decide, .inl ⟨by decide +kernel, rfl⟩⟩
theorem i_GW_isKindOf_7 : mj_Ld y_GW_isKindOf 7 1 1 0 := .inl ⟨rfl, .inr ⟨rfl, 1, rfl, by decide +kernel⟩⟩
theorem i_GW_isKindOf_8 : mj_Cs y_GW_isKindOf 8 y_GW_isKind 1 := ⟨mt_GW_isKind, 107, by decide +kernel, mm_292, .inl mm_291⟩
theorem i_GW_isKindOf_11 : mj_If y_GW_isKindOf 11 31 (fun (a : Int32) => a = 0) := ⟨20, by decide, .inl ⟨by decide +kernel, rfl⟩⟩
theorem i_GW_isKindOf_14 : mj_Gs y_GW_isKindOf 14 := ⟨261, by decide +kernel, mm_294⟩
theorem i_GW_isKindOf_17 : mj_Ld y_GW_isKindOf 17 1 0 0 := .inl ⟨rfl, .inr ⟨rfl, 0, rfl, by decide +kernel⟩⟩
theorem i_GW_isKindOf_18 : decode y_GW_isKindOf.2.1 18 = .ok (.iaload, 1) := by decide +kernel
theorem i_GW_isKindOf_19 : mj_Ld y_GW_isKindOf 19 1 1 0 := .inl ⟨rfl, .inr ⟨rfl, 1, rfl, by decide +kernel⟩⟩
theorem i_GW_isKindOf_20 : mj_B2 y_GW_isKindOf 20 (fun (a b : Int32) => a >>> (b &&& 31)) := .inr (.inr (.inr (.inr (.inr (.inr (.inr (.inl ⟨by decide +kernel, rfl⟩)))))))
theorem i_GW_isKindOf_21 : mj_Kc y_GW_isKindOf 21 1 (.int 1) := .inl ⟨1, by decide +kernel, rfl, by decide +kernel⟩
theorem i_GW_isKindOf_22 : mj_B2 y_GW_isKindOf 22 (fun (a b : Int32) => a &&& b) := .inr (.inr (.inr (.inl ⟨by decide +kernel, rfl⟩)))
theorem i_GW_isKindOf_23 : mj_Kc y_GW_isKindOf 23 1 (.int 1) := .inl ⟨1, by decide +kernel, rfl, by decide +kernel⟩
theorem i_GW_isKindOf_24 : mj_Ic y_GW_isKindOf 24 31 (fun (a b : Int32) => ¬ a = b) := ⟨7, by decide, .inr (.inl ⟨by decide +kernel, rfl⟩)⟩
theorem i_GW_isKindOf_27 : mj_Kc y_GW_isKindOf 27 1 (.int 1) := .inl ⟨1, by decide +kernel, rfl, by decide +kernel⟩
theorem i_GW_isKindOf_28 : mj_Go y_GW_isKindOf 28 32 := ⟨4, by decide, by decide +kernel⟩
theorem i_GW_isKindOf_31 : mj_Kc y_GW_isKindOf 31 1 (.int 0) := .inl ⟨0, by decide +kernel, rfl, by decide +kernel⟩
theorem i_GW_isKindOf_32 : decode y_GW_isKindOf.2.1 32 = .ok (.ireturn, 1) := by decide +kernel
theorem i_GW_isKind_0 : mj_Ld y_GW_isKind 0 1 0 0 := .inl ⟨rfl, .inr ⟨rfl, 0, rfl, by decide +kernel⟩⟩
theorem i_GW_isKind_1 : mj_If y_GW_isKind 1 16 (fun (a : Int32) => a < 0) := ⟨15, by decide, .inr (.inr (.inl ⟨by decide +kernel, rfl⟩))⟩
theorem i_GW_isKind_4 : mj_Ld y_GW_isKind 4 1 0 0 := .inl ⟨rfl, .inr ⟨rfl, 0, rfl, by decide +kernel⟩⟩
theorem i_GW_isKind_5 : mj_Gs y_GW_isKind 5 := ⟨261, by decide +kernel, mm_294⟩
theorem i_GW_isKind_8 : decode y_GW_isKind.2.1 8 = .ok (.arraylength, 1) := by decide +kernel
theorem i_GW_isKind_9 : mj_Ic y_GW_isKind 9 16 (fun (a b : Int32) => b ≤ a) := ⟨7, by decide, .inr (.inr (.inr (.inl ⟨by decide +kernel, rfl⟩)))⟩
theorem i_GW_isKind_12 : mj_Kc y_GW_isKind 12 1 (.int 1) := .inl ⟨1, by decide +kernel, rfl, by decide +kernel⟩
theorem i_GW_isKind_13 : mj_Go y_GW_isKind 13 17 := ⟨4, by decide, by decide +kernel⟩
theorem i_GW_isKind_16 : mj_Kc y_GW_isKind 16 1 (.int 0) := .inl ⟨0, by decide +kernel, rfl, by decide +kernel⟩
theorem i_GW_isKind_17 : decode y_GW_isKind.2.1 17 = .ok (.ireturn, 1) := by decide +kernel
theorem i_GW_beginChange_0 : mj_Ld y_GW_beginChange 0 1 0 2 := .inr (.inr ⟨rfl, .inr ⟨rfl, 0, rfl, by decide +kernel⟩⟩)
theorem i_GW_beginChange_1 : mj_Gf y_GW_beginChange 1 7 2 := ⟨by decide, by decide, 27, by decide +kernel, .inl mm_179⟩
theorem i_GW_beginChange_4 : mj_Ld y_GW_beginChange 4 1 0 2 := .inr (.inr ⟨rfl, .inr ⟨rfl, 0, rfl, by decide +kernel⟩⟩)
theorem i_GW_beginChange_5 : mj_Gf y_GW_beginChange 5 7 0 := ⟨by decide, by decide, 17, by decide +kernel, .inl mm_177⟩
theorem i_GW_beginChange_8 : mj_Cv y_GW_beginChange 8 y_Past_keep 1 1 := ⟨by decide, rfl, mt_Past_keep, 253, by decide +kernel, mm_309, mm_310, mm_311⟩
theorem i_GW_beginChange_11 : mj_Ld y_GW_beginChange 11 1 0 2 := .inr (.inr ⟨rfl, .inr ⟨rfl, 0, rfl, by decide +kernel⟩⟩)
theorem i_GW_beginChange_12 : mj_Cv y_GW_beginChange 12 y_GW_outdate 7 0 := ⟨by decide, rfl, mt_GW_outdate, 70, by decide +kernel, mm_218, mm_220, mp_0⟩
theorem i_GW_beginChange_15 : decode y_GW_beginChange.2.1 15 = .ok (.return_, 1) := by decide +kernel
theorem i_GW_isWall_0 : mj_Ld y_GW_isWall 0 1 0 2 := .inr (.inr ⟨rfl, .inr ⟨rfl, 0, rfl, by decide +kernel⟩⟩)
theorem i_GW_isWall_1 : mj_Gf y_GW_isWall 1 7 0 := ⟨by decide, by decide, 17, by decide +kernel, .inl mm_177⟩
theorem i_GW_isWall_4 : mj_Ld y_GW_isWall 4 1 1 0 := .inl ⟨rfl, .inr ⟨rfl, 1, rfl, by decide +kernel⟩⟩
theorem i_GW_isWall_5 : mj_Cv y_GW_isWall 5 y_Room_hasCell 4 1 := ⟨by decide, rfl, mt_Room_hasCell, 77, by decide +kernel, mm_242, mm_243, mm_244⟩
theorem i_GW_isWall_8 : mj_If y_GW_isWall 8 14 (fun (a : Int32) => ¬ a = 0) := ⟨6, by decide, .inr (.inl ⟨by decide +kernel, rfl⟩)⟩
theorem i_GW_isWall_11 : mj_Kc y_GW_isWall 11 2 (.int (-2000000001)) := .inr (.inr (.inr (.inl ⟨62, (-2000000001), by decide +kernel, rfl, rfl, mm_206⟩)))
theorem i_GW_isWall_13 : decode y_GW_isWall.2.1 13 = .ok (.ireturn, 1) := by decide +kernel
theorem i_GW_isWall_14 : mj_Ld y_GW_isWall 14 1 0 2 := .inr (.inr ⟨rfl, .inr ⟨rfl, 0, rfl, by decide +kernel⟩⟩)
theorem i_GW_isWall_15 : mj_Gf y_GW_isWall 15 7 0 := ⟨by decide, by decide, 17, by decide +kernel, .inl mm_177⟩
theorem i_GW_isWall_18 : mj_Ld y_GW_isWall 18 1 1 0 := .inl ⟨rfl, .inr ⟨rfl, 1, rfl, by decide +kernel⟩⟩
theorem i_GW_isWall_19 : mj_Cv y_GW_isWall 19 y_Room_isOpen 4 1 := ⟨by decide, rfl, mt_Room_isOpen, 96, by decide +kernel, mm_323, mm_285, mm_286⟩
theorem i_GW_isWall_22 : mj_If y_GW_isWall 22 29 (fun (a : Int32) => ¬ a = 0) := ⟨7, by decide, .inr (.inl ⟨by decide +kernel, rfl⟩)⟩
theorem i_GW_isWall_25 : mj_Kc y_GW_isWall 25 1 (.int 1) := .inl ⟨1, by decide +kernel, rfl, by decide +kernel⟩
theorem i_GW_isWall_26 : mj_Go y_GW_isWall 26 30 := ⟨4, by decide, by decide +kernel⟩
theorem i_GW_isWall_29 : mj_Kc y_GW_isWall 29 1 (.int 0) := .inl ⟨0, by decide +kernel, rfl, by decide +kernel⟩
theorem i_GW_isWall_30 : mj_Cs y_GW_isWall 30 y_GW_bit 1 := ⟨mt_GW_bit, 99, by decide +kernel, mm_325, .inl mm_324⟩
theorem i_GW_isWall_33 : decode y_GW_isWall.2.1 33 = .ok (.ireturn, 1) := by decide +kernel
theorem i_GW_bit_0 : mj_Ld y_GW_bit 0 1 0 0 := .inl ⟨rfl, .inr ⟨rfl, 0, rfl, by decide +kernel⟩⟩
theorem i_GW_bit_1 : mj_If y_GW_bit 1 8 (fun (a : Int32) => a = 0) := ⟨7, by decide, .inl ⟨by decide +kernel, rfl⟩⟩
theorem i_GW_bit_4 : mj_Kc y_GW_bit 4 1 (.int 1) := .inl ⟨1, by decide +kernel, rfl, by decide +kernel⟩
theorem i_GW_bit_5 : mj_Go y_GW_bit 5 9 := ⟨4, by decide, by decide +kernel⟩
theorem i_GW_bit_8 : mj_Kc y_GW_bit 8 1 (.int 0) := .inl ⟨0, by decide +kernel, rfl, by decide +kernel⟩
theorem i_GW_bit_9 : decode y_GW_bit.2.1 9 = .ok (.ireturn, 1) := by decide +kernel
theorem i_GW_sight_0 : mj_Ld y_GW_sight 0 1 0 2 := .inr (.inr ⟨rfl, .inr ⟨rfl, 0, rfl, by decide +kernel⟩⟩)
theorem i_GW_sight_1 : mj_Gf y_GW_sight 1 7 0 := ⟨by decide, by decide, 17, by decide +kernel, .inl mm_177⟩
theorem i_GW_sight_4 : mj_Ld y_GW_sight 4 1 1 0 := .inl ⟨rfl, .inr ⟨rfl, 1, rfl, by decide +kernel⟩⟩
theorem i_GW_sight_5 : mj_Cv y_GW_sight 5 y_Room_hasCell 4 1 := ⟨by decide, rfl, mt_Room_hasCell, 77, by decide +kernel, mm_242, mm_243, mm_244⟩
theorem i_GW_sight_8 : mj_If y_GW_sight 8 22 (fun (a : Int32) => a = 0) := ⟨14, by decide, .inl ⟨by decide +kernel, rfl⟩⟩
theorem i_GW_sight_11 : mj_Ld y_GW_sight 11 1 0 2 := .inr (.inr ⟨rfl, .inr ⟨rfl, 0, rfl, by decide +kernel⟩⟩)
theorem i_GW_sight_12 : mj_Gf y_GW_sight 12 7 0 := ⟨by decide, by decide, 17, by decide +kernel, .inl mm_177⟩
theorem i_GW_sight_15 : mj_Ld y_GW_sight 15 1 2 0 := .inl ⟨rfl, .inr ⟨rfl, 2, rfl, by decide +kernel⟩⟩
theorem i_GW_sight_16 : mj_Cv y_GW_sight 16 y_Room_hasCell 4 1 := ⟨by decide, rfl, mt_Room_hasCell, 77, by decide +kernel, mm_242, mm_243, mm_244⟩
theorem i_GW_sight_19 : mj_If y_GW_sight 19 25 (fun (a : Int32) => ¬ a = 0) := ⟨6, by decide, .inr (.inl ⟨by decide +kernel, rfl⟩)⟩
theorem i_GW_sight_22 : mj_Kc y_GW_sight 22 2 (.int (-2000000001)) := .inr (.inr (.inr (.inl ⟨62, (-2000000001), by decide +kernel, rfl, rfl, mm_206⟩)))
theorem i_GW_sight_24 : decode y_GW_sight.2.1 24 = .ok (.ireturn, 1) := by decide +kernel
theorem i_GW_sight_25 : mj_Ld y_GW_sight 25 1 0 2 := .inr (.inr ⟨rfl, .inr ⟨rfl, 0, rfl, by decide +kernel⟩⟩)
theorem i_GW_sight_26 : mj_Gf y_GW_sight 26 7 0 := ⟨by decide, by decide, 17, by decide +kernel, .inl mm_177⟩
theorem i_GW_sight_29 : mj_Ld y_GW_sight 29 1 1 0 := .inl ⟨rfl, .inr ⟨rfl, 1, rfl, by decide +kernel⟩⟩
theorem i_GW_sight_30 : mj_Ld y_GW_sight 30 1 2 0 := .inl ⟨rfl, .inr ⟨rfl, 2, rfl, by decide +kernel⟩⟩
theorem i_GW_sight_31 : mj_Cv y_GW_sight 31 y_Room_inSight 4 2 := ⟨by decide, rfl, mt_Room_inSight, 103, by decide +kernel, mm_331, mm_332, mm_333⟩
theorem i_GW_sight_34 : mj_Cs y_GW_sight 34 y_GW_bit 1 := ⟨mt_GW_bit, 99, by decide +kernel, mm_325, .inl mm_324⟩
theorem i_GW_sight_37 : decode y_GW_sight.2.1 37 = .ok (.ireturn, 1) := by decide +kernel
theorem i_GW_post_0 : mj_Ld y_GW_post 0 1 0 2 := .inr (.inr ⟨rfl, .inr ⟨rfl, 0, rfl, by decide +kernel⟩⟩)
theorem i_GW_post_1 : mj_Gf y_GW_post 1 7 0 := ⟨by decide, by decide, 17, by decide +kernel, .inl mm_177⟩
theorem i_GW_post_4 : mj_Ld y_GW_post 4 1 1 0 := .inl ⟨rfl, .inr ⟨rfl, 1, rfl, by decide +kernel⟩⟩
theorem i_GW_post_5 : mj_Cv y_GW_post 5 y_Room_hasCell 4 1 := ⟨by decide, rfl, mt_Room_hasCell, 77, by decide +kernel, mm_242, mm_243, mm_244⟩
theorem i_GW_post_8 : mj_If y_GW_post 8 18 (fun (a : Int32) => a = 0) := ⟨10, by decide, .inl ⟨by decide +kernel, rfl⟩⟩
theorem i_GW_post_11 : mj_Ld y_GW_post 11 1 2 0 := .inl ⟨rfl, .inr ⟨rfl, 2, rfl, by decide +kernel⟩⟩
theorem i_GW_post_12 : mj_Cs y_GW_post 12 y_GW_isKind 1 := ⟨mt_GW_isKind, 107, by decide +kernel, mm_292, .inl mm_291⟩
theorem i_GW_post_15 : mj_If y_GW_post 15 21 (fun (a : Int32) => ¬ a = 0) := ⟨6, by decide, .inr (.inl ⟨by decide +kernel, rfl⟩)⟩
theorem i_GW_post_18 : mj_Kc y_GW_post 18 2 (.int (-2000000001)) := .inr (.inr (.inr (.inl ⟨62, (-2000000001), by decide +kernel, rfl, rfl, mm_206⟩)))
theorem i_GW_post_20 : decode y_GW_post.2.1 20 = .ok (.ireturn, 1) := by decide +kernel
theorem i_GW_post_21 : mj_Ld y_GW_post 21 1 0 2 := .inr (.inr ⟨rfl, .inr ⟨rfl, 0, rfl, by decide +kernel⟩⟩)
theorem i_GW_post_22 : mj_Gf y_GW_post 22 7 0 := ⟨by decide, by decide, 17, by decide +kernel, .inl mm_177⟩
theorem i_GW_post_25 : mj_Ld y_GW_post 25 1 1 0 := .inl ⟨rfl, .inr ⟨rfl, 1, rfl, by decide +kernel⟩⟩
theorem i_GW_post_26 : mj_Ld y_GW_post 26 1 2 0 := .inl ⟨rfl, .inr ⟨rfl, 2, rfl, by decide +kernel⟩⟩
theorem i_GW_post_27 : mj_Cv y_GW_post 27 y_Room_canStand 4 2 := ⟨by decide, rfl, mt_Room_canStand, 110, by decide +kernel, mm_342, mm_281, mm_282⟩
theorem i_GW_post_30 : mj_If y_GW_post 30 36 (fun (a : Int32) => ¬ a = 0) := ⟨6, by decide, .inr (.inl ⟨by decide +kernel, rfl⟩)⟩
theorem i_GW_post_33 : mj_Kc y_GW_post 33 2 (.int (-2000000002)) := .inr (.inr (.inr (.inl ⟨92, (-2000000002), by decide +kernel, rfl, rfl, mm_304⟩)))
theorem i_GW_post_35 : decode y_GW_post.2.1 35 = .ok (.ireturn, 1) := by decide +kernel
theorem i_GW_post_36 : mj_Ld y_GW_post 36 1 0 2 := .inr (.inr ⟨rfl, .inr ⟨rfl, 0, rfl, by decide +kernel⟩⟩)
theorem i_GW_post_37 : mj_Gf y_GW_post 37 7 0 := ⟨by decide, by decide, 17, by decide +kernel, .inl mm_177⟩
theorem i_GW_post_40 : mj_Cv y_GW_post 40 y_Room_posts 4 0 := ⟨by decide, rfl, mt_Room_posts, 113, by decide +kernel, mm_343, mm_344, mm_345⟩
theorem i_GW_post_43 : mj_St y_GW_post 43 1 3 0 := .inl ⟨rfl, .inr ⟨rfl, 3, rfl, by decide +kernel⟩⟩
theorem i_GW_post_44 : mj_Ld y_GW_post 44 1 3 0 := .inl ⟨rfl, .inr ⟨rfl, 3, rfl, by decide +kernel⟩⟩
theorem i_GW_post_45 : mj_Kc y_GW_post 45 2 (.int 14) := .inr (.inl ⟨14, by decide +kernel, rfl, by decide +kernel⟩)
theorem i_GW_post_47 : mj_Ic y_GW_post 47 53 (fun (a b : Int32) => a < b) := ⟨6, by decide, .inr (.inr (.inl ⟨by decide +kernel, rfl⟩))⟩
theorem i_GW_post_50 : mj_Kc y_GW_post 50 2 (.int (-2000000003)) := .inr (.inr (.inr (.inl ⟨116, (-2000000003), by decide +kernel, rfl, rfl, mm_347⟩)))
theorem i_GW_post_52 : decode y_GW_post.2.1 52 = .ok (.ireturn, 1) := by decide +kernel
theorem i_GW_post_53 : mj_Ld y_GW_post 53 1 0 2 := .inr (.inr ⟨rfl, .inr ⟨rfl, 0, rfl, by decide +kernel⟩⟩)
theorem i_GW_post_54 : mj_Cv y_GW_post 54 y_GW_beginChange 7 0 := ⟨by decide, rfl, mt_GW_beginChange, 93, by decide +kernel, mm_305, mm_307, mp_2⟩
theorem i_GW_post_57 : mj_Ld y_GW_post 57 1 0 2 := .inr (.inr ⟨rfl, .inr ⟨rfl, 0, rfl, by decide +kernel⟩⟩)
theorem i_GW_post_58 : mj_Gf y_GW_post 58 7 0 := ⟨by decide, by decide, 17, by decide +kernel, .inl mm_177⟩
theorem i_GW_post_61 : mj_Ld y_GW_post 61 1 1 0 := .inl ⟨rfl, .inr ⟨rfl, 1, rfl, by decide +kernel⟩⟩
theorem i_GW_post_62 : mj_Ld y_GW_post 62 1 2 0 := .inl ⟨rfl, .inr ⟨rfl, 2, rfl, by decide +kernel⟩⟩
theorem i_GW_post_63 : mj_Cs y_GW_post 63 y_GW_newPost 2 := ⟨mt_GW_newPost, 117, by decide +kernel, mm_349, .inl mm_348⟩
theorem i_GW_post_66 : mj_Cv y_GW_post 66 y_Room_addPost 4 1 := ⟨by decide, rfl, mt_Room_addPost, 121, by decide +kernel, mm_390, mm_391, mm_392⟩
theorem i_GW_post_69 : mj_Ld y_GW_post 69 1 3 0 := .inl ⟨rfl, .inr ⟨rfl, 3, rfl, by decide +kernel⟩⟩
theorem i_GW_post_70 : decode y_GW_post.2.1 70 = .ok (.ireturn, 1) := by decide +kernel
theorem i_GW_newPost_0 : mj_Ld y_GW_newPost 0 1 1 0 := .inl ⟨rfl, .inr ⟨rfl, 1, rfl, by decide +kernel⟩⟩
theorem i_GW_newPost_1 : mj_Kc y_GW_newPost 1 1 (.int 1) := .inl ⟨1, by decide +kernel, rfl, by decide +kernel⟩
theorem i_GW_newPost_2 : mj_Cs y_GW_newPost 2 y_GW_isKindOf 2 := ⟨mt_GW_isKindOf, 138, by decide +kernel, mm_289, .inl mm_351⟩
theorem i_GW_newPost_5 : mj_St y_GW_newPost 5 1 2 0 := .inl ⟨rfl, .inr ⟨rfl, 2, rfl, by decide +kernel⟩⟩
theorem i_GW_newPost_6 : mj_Ld y_GW_newPost 6 1 2 0 := .inl ⟨rfl, .inr ⟨rfl, 2, rfl, by decide +kernel⟩⟩
theorem i_GW_newPost_7 : mj_If y_GW_newPost 7 18 (fun (a : Int32) => a = 0) := ⟨11, by decide, .inl ⟨by decide +kernel, rfl⟩⟩
theorem i_GW_newPost_10 : mj_Kc y_GW_newPost 10 1 (.int 1) := .inl ⟨1, by decide +kernel, rfl, by decide +kernel⟩
theorem i_GW_newPost_11 : mj_Kc y_GW_newPost 11 1 (.int 0) := .inl ⟨0, by decide +kernel, rfl, by decide +kernel⟩
theorem i_GW_newPost_12 : mj_Cs y_GW_newPost 12 y_GW_told 2 := ⟨mt_GW_told, 265, by decide +kernel, mm_353, .inl mm_352⟩
theorem i_GW_newPost_15 : mj_Go y_GW_newPost 15 20 := ⟨5, by decide, by decide +kernel⟩
theorem i_GW_newPost_18 : mj_Kc y_GW_newPost 18 2 (.int (-2000000005)) := .inr (.inr (.inr (.inl ⟨188, (-2000000005), by decide +kernel, rfl, rfl, mm_355⟩)))
theorem i_GW_newPost_20 : mj_St y_GW_newPost 20 1 3 0 := .inl ⟨rfl, .inr ⟨rfl, 3, rfl, by decide +kernel⟩⟩
theorem i_GW_newPost_21 : mj_Ld y_GW_newPost 21 1 2 0 := .inl ⟨rfl, .inr ⟨rfl, 2, rfl, by decide +kernel⟩⟩
theorem i_GW_newPost_22 : mj_If y_GW_newPost 22 33 (fun (a : Int32) => a = 0) := ⟨11, by decide, .inl ⟨by decide +kernel, rfl⟩⟩
theorem i_GW_newPost_25 : mj_Kc y_GW_newPost 25 1 (.int 0) := .inl ⟨0, by decide +kernel, rfl, by decide +kernel⟩
theorem i_GW_newPost_26 : mj_Kc y_GW_newPost 26 1 (.int 1) := .inl ⟨1, by decide +kernel, rfl, by decide +kernel⟩
theorem i_GW_newPost_27 : mj_Cs y_GW_newPost 27 y_GW_told 2 := ⟨mt_GW_told, 265, by decide +kernel, mm_353, .inl mm_352⟩
theorem i_GW_newPost_30 : mj_Go y_GW_newPost 30 35 := ⟨5, by decide, by decide +kernel⟩
theorem i_GW_newPost_33 : mj_Kc y_GW_newPost 33 2 (.int (-2000000005)) := .inr (.inr (.inr (.inl ⟨188, (-2000000005), by decide +kernel, rfl, rfl, mm_355⟩)))
theorem i_GW_newPost_35 : mj_St y_GW_newPost 35 2 4 0 := .inl ⟨rfl, .inl ⟨rfl, by decide +kernel⟩⟩
theorem i_GW_newPost_37 : mj_Nw y_GW_newPost 37 2 := ⟨by decide, 133, by decide +kernel, mm_356, mm_357, mm_12⟩
theorem i_GW_newPost_40 : decode y_GW_newPost.2.1 40 = .ok (.dup, 1) := by decide +kernel
theorem i_GW_newPost_41 : mj_Ld y_GW_newPost 41 1 0 0 := .inl ⟨rfl, .inr ⟨rfl, 0, rfl, by decide +kernel⟩⟩
theorem i_GW_newPost_42 : mj_Ld y_GW_newPost 42 1 1 0 := .inl ⟨rfl, .inr ⟨rfl, 1, rfl, by decide +kernel⟩⟩
theorem i_GW_newPost_43 : mj_Ld y_GW_newPost 43 1 3 0 := .inl ⟨rfl, .inr ⟨rfl, 3, rfl, by decide +kernel⟩⟩
theorem i_GW_newPost_44 : mj_Ld y_GW_newPost 44 2 4 0 := .inl ⟨rfl, .inl ⟨rfl, by decide +kernel⟩⟩
theorem i_GW_newPost_46 : mj_Ld y_GW_newPost 46 1 1 0 := .inl ⟨rfl, .inr ⟨rfl, 1, rfl, by decide +kernel⟩⟩
theorem i_GW_newPost_47 : mj_Kc y_GW_newPost 47 1 (.int 4) := .inl ⟨4, by decide +kernel, rfl, by decide +kernel⟩
theorem i_GW_newPost_48 : mj_Ic y_GW_newPost 48 56 (fun (a b : Int32) => ¬ a = b) := ⟨8, by decide, .inr (.inl ⟨by decide +kernel, rfl⟩)⟩
theorem i_GW_newPost_51 : mj_Kc y_GW_newPost 51 2 (.int 9) := .inr (.inl ⟨9, by decide +kernel, rfl, by decide +kernel⟩)
theorem i_GW_newPost_53 : mj_Go y_GW_newPost 53 58 := ⟨5, by decide, by decide +kernel⟩
theorem i_GW_newPost_56 : mj_Kc y_GW_newPost 56 2 (.int (-2000000005)) := .inr (.inr (.inr (.inl ⟨188, (-2000000005), by decide +kernel, rfl, rfl, mm_355⟩)))
theorem i_GW_newPost_58 : mj_Ld y_GW_newPost 58 1 1 0 := .inl ⟨rfl, .inr ⟨rfl, 1, rfl, by decide +kernel⟩⟩
theorem i_GW_newPost_59 : mj_Kc y_GW_newPost 59 1 (.int 3) := .inl ⟨3, by decide +kernel, rfl, by decide +kernel⟩
theorem i_GW_newPost_60 : mj_Ic y_GW_newPost 60 67 (fun (a b : Int32) => ¬ a = b) := ⟨7, by decide, .inr (.inl ⟨by decide +kernel, rfl⟩)⟩
theorem i_GW_newPost_63 : mj_Kc y_GW_newPost 63 1 (.int 1) := .inl ⟨1, by decide +kernel, rfl, by decide +kernel⟩
theorem i_GW_newPost_64 : mj_Go y_GW_newPost 64 69 := ⟨5, by decide, by decide +kernel⟩
theorem i_GW_newPost_67 : mj_Kc y_GW_newPost 67 2 (.int (-2000000005)) := .inr (.inr (.inr (.inl ⟨188, (-2000000005), by decide +kernel, rfl, rfl, mm_355⟩)))
theorem i_GW_newPost_69 : mj_Ci y_GW_newPost 69 y_Post_init 6 := ⟨mt_Post_init, rfl, rfl, 150, by decide +kernel, mm_359, .inl mm_358⟩
theorem i_GW_newPost_72 : decode y_GW_newPost.2.1 72 = .ok (.areturn, 1) := by decide +kernel
theorem i_GW_told_0 : mj_Kc y_GW_told 0 2 (.int 20) := .inr (.inl ⟨20, by decide +kernel, rfl, by decide +kernel⟩)
theorem i_GW_told_2 : mj_Ld y_GW_told 2 1 0 0 := .inl ⟨rfl, .inr ⟨rfl, 0, rfl, by decide +kernel⟩⟩
theorem i_GW_told_3 : mj_Kc y_GW_told 3 2 (.int 10) := .inr (.inl ⟨10, by decide +kernel, rfl, by decide +kernel⟩)
theorem i_GW_told_5 : mj_B2 y_GW_told 5 (fun (a b : Int32) => a + b) := .inl ⟨by decide +kernel, rfl⟩
theorem i_GW_told_6 : mj_B2 y_GW_told 6 (fun (a b : Int32) => a * b) := .inr (.inr (.inl ⟨by decide +kernel, rfl⟩))
theorem i_GW_told_7 : mj_Ld y_GW_told 7 1 1 0 := .inl ⟨rfl, .inr ⟨rfl, 1, rfl, by decide +kernel⟩⟩
theorem i_GW_told_8 : mj_B2 y_GW_told 8 (fun (a b : Int32) => a + b) := .inl ⟨by decide +kernel, rfl⟩
theorem i_GW_told_9 : mj_Kc y_GW_told 9 2 (.int 10) := .inr (.inl ⟨10, by decide +kernel, rfl, by decide +kernel⟩)
theorem i_GW_told_11 : mj_B2 y_GW_told 11 (fun (a b : Int32) => a + b) := .inl ⟨by decide +kernel, rfl⟩
theorem i_GW_told_12 : decode y_GW_told.2.1 12 = .ok (.ireturn, 1) := by decide +kernel
theorem i_GW_aim_0 : mj_Ld y_GW_aim 0 1 0 2 := .inr (.inr ⟨rfl, .inr ⟨rfl, 0, rfl, by decide +kernel⟩⟩)
theorem i_GW_aim_1 : mj_Gf y_GW_aim 1 7 0 := ⟨by decide, by decide, 17, by decide +kernel, .inl mm_177⟩
theorem i_GW_aim_4 : mj_Ld y_GW_aim 4 1 1 0 := .inl ⟨rfl, .inr ⟨rfl, 1, rfl, by decide +kernel⟩⟩
theorem i_GW_aim_5 : mj_Cv y_GW_aim 5 y_Room_postAt 4 1 := ⟨by decide, rfl, mt_Room_postAt, 125, by decide +kernel, mm_398, mm_277, mm_278⟩
theorem i_GW_aim_8 : mj_St y_GW_aim 8 2 4 2 := .inr (.inr ⟨rfl, .inl ⟨rfl, by decide +kernel⟩⟩)
theorem i_GW_aim_10 : mj_Ld y_GW_aim 10 2 4 2 := .inr (.inr ⟨rfl, .inl ⟨rfl, by decide +kernel⟩⟩)
theorem i_GW_aim_12 : mj_Nu y_GW_aim 12 23 true := ⟨11, by decide, .inl ⟨rfl, by decide +kernel⟩⟩
theorem i_GW_aim_15 : mj_Ld y_GW_aim 15 1 2 0 := .inl ⟨rfl, .inr ⟨rfl, 2, rfl, by decide +kernel⟩⟩
theorem i_GW_aim_16 : mj_Ld y_GW_aim 16 1 3 0 := .inl ⟨rfl, .inr ⟨rfl, 3, rfl, by decide +kernel⟩⟩
theorem i_GW_aim_17 : mj_Cs y_GW_aim 17 y_GW_areDirections 2 := ⟨mt_GW_areDirections, 129, by decide +kernel, mm_400, .inl mm_399⟩
theorem i_GW_aim_20 : mj_If y_GW_aim 20 26 (fun (a : Int32) => ¬ a = 0) := ⟨6, by decide, .inr (.inl ⟨by decide +kernel, rfl⟩)⟩
theorem i_GW_aim_23 : mj_Kc y_GW_aim 23 2 (.int (-2000000001)) := .inr (.inr (.inr (.inl ⟨62, (-2000000001), by decide +kernel, rfl, rfl, mm_206⟩)))
theorem i_GW_aim_25 : decode y_GW_aim.2.1 25 = .ok (.ireturn, 1) := by decide +kernel
theorem i_GW_aim_26 : mj_Ld y_GW_aim 26 2 4 2 := .inr (.inr ⟨rfl, .inl ⟨rfl, by decide +kernel⟩⟩)
theorem i_GW_aim_28 : mj_Gf y_GW_aim 28 2 1 := ⟨by decide, by decide, 132, by decide +kernel, .inr ⟨"GalleryWatch", mm_367⟩⟩
theorem i_GW_aim_31 : mj_Kc y_GW_aim 31 1 (.int 1) := .inl ⟨1, by decide +kernel, rfl, by decide +kernel⟩
theorem i_GW_aim_32 : mj_Cs y_GW_aim 32 y_GW_isKindOf 2 := ⟨mt_GW_isKindOf, 138, by decide +kernel, mm_289, .inl mm_351⟩
theorem i_GW_aim_35 : mj_If y_GW_aim 35 41 (fun (a : Int32) => ¬ a = 0) := ⟨6, by decide, .inr (.inl ⟨by decide +kernel, rfl⟩)⟩
theorem i_GW_aim_38 : mj_Kc y_GW_aim 38 2 (.int (-2000000002)) := .inr (.inr (.inr (.inl ⟨92, (-2000000002), by decide +kernel, rfl, rfl, mm_304⟩)))
theorem i_GW_aim_40 : decode y_GW_aim.2.1 40 = .ok (.ireturn, 1) := by decide +kernel
theorem i_GW_aim_41 : mj_Ld y_GW_aim 41 1 0 2 := .inr (.inr ⟨rfl, .inr ⟨rfl, 0, rfl, by decide +kernel⟩⟩)
theorem i_GW_aim_42 : mj_Cv y_GW_aim 42 y_GW_beginChange 7 0 := ⟨by decide, rfl, mt_GW_beginChange, 93, by decide +kernel, mm_305, mm_307, mp_2⟩
theorem i_GW_aim_45 : mj_Ld y_GW_aim 45 1 0 2 := .inr (.inr ⟨rfl, .inr ⟨rfl, 0, rfl, by decide +kernel⟩⟩)
theorem i_GW_aim_46 : mj_Gf y_GW_aim 46 7 0 := ⟨by decide, by decide, 17, by decide +kernel, .inl mm_177⟩
theorem i_GW_aim_49 : mj_Ld y_GW_aim 49 1 1 0 := .inl ⟨rfl, .inr ⟨rfl, 1, rfl, by decide +kernel⟩⟩
theorem i_GW_aim_50 : mj_Nw y_GW_aim 50 2 := ⟨by decide, 133, by decide +kernel, mm_356, mm_357, mm_12⟩
theorem i_GW_aim_53 : decode y_GW_aim.2.1 53 = .ok (.dup, 1) := by decide +kernel
theorem i_GW_aim_54 : mj_Ld y_GW_aim 54 2 4 2 := .inr (.inr ⟨rfl, .inl ⟨rfl, by decide +kernel⟩⟩)
theorem i_GW_aim_56 : mj_Gf y_GW_aim 56 2 0 := ⟨by decide, by decide, 141, by decide +kernel, .inr ⟨"GalleryWatch", mm_364⟩⟩
theorem i_GW_aim_59 : mj_Ld y_GW_aim 59 2 4 2 := .inr (.inr ⟨rfl, .inl ⟨rfl, by decide +kernel⟩⟩)
theorem i_GW_aim_61 : mj_Gf y_GW_aim 61 2 1 := ⟨by decide, by decide, 132, by decide +kernel, .inr ⟨"GalleryWatch", mm_367⟩⟩
theorem i_GW_aim_64 : mj_Ld y_GW_aim 64 1 2 0 := .inl ⟨rfl, .inr ⟨rfl, 2, rfl, by decide +kernel⟩⟩
theorem i_GW_aim_65 : mj_Ld y_GW_aim 65 1 3 0 := .inl ⟨rfl, .inr ⟨rfl, 3, rfl, by decide +kernel⟩⟩
theorem i_GW_aim_66 : mj_Ld y_GW_aim 66 2 4 2 := .inr (.inr ⟨rfl, .inl ⟨rfl, by decide +kernel⟩⟩)
theorem i_GW_aim_68 : mj_Gf y_GW_aim 68 2 4 := ⟨by decide, by decide, 144, by decide +kernel, .inr ⟨"GalleryWatch", mm_374⟩⟩
theorem i_GW_aim_71 : mj_Ld y_GW_aim 71 2 4 2 := .inr (.inr ⟨rfl, .inl ⟨rfl, by decide +kernel⟩⟩)
theorem i_GW_aim_73 : mj_Gf y_GW_aim 73 2 5 := ⟨by decide, by decide, 147, by decide +kernel, .inr ⟨"GalleryWatch", mm_376⟩⟩
theorem i_GW_aim_76 : mj_Ci y_GW_aim 76 y_Post_init 6 := ⟨mt_Post_init, rfl, rfl, 150, by decide +kernel, mm_359, .inl mm_358⟩
theorem i_GW_aim_79 : mj_Cv y_GW_aim 79 y_Room_setPost 4 2 := ⟨by decide, rfl, mt_Room_setPost, 153, by decide +kernel, mm_411, mm_412, mm_413⟩
theorem i_GW_aim_82 : mj_Kc y_GW_aim 82 1 (.int 0) := .inl ⟨0, by decide +kernel, rfl, by decide +kernel⟩
theorem i_GW_aim_83 : decode y_GW_aim.2.1 83 = .ok (.ireturn, 1) := by decide +kernel
theorem i_GW_areDirections_0 : mj_Ld y_GW_areDirections 0 1 0 0 := .inl ⟨rfl, .inr ⟨rfl, 0, rfl, by decide +kernel⟩⟩
theorem i_GW_areDirections_1 : mj_Cs y_GW_areDirections 1 y_GW_isDirection 1 := ⟨mt_GW_isDirection, 274, by decide +kernel, mm_403, .inl mm_402⟩
theorem i_GW_areDirections_4 : mj_If y_GW_areDirections 4 14 (fun (a : Int32) => a = 0) := ⟨10, by decide, .inl ⟨by decide +kernel, rfl⟩⟩
theorem i_GW_areDirections_7 : mj_Ld y_GW_areDirections 7 1 1 0 := .inl ⟨rfl, .inr ⟨rfl, 1, rfl, by decide +kernel⟩⟩
theorem i_GW_areDirections_8 : mj_Cs y_GW_areDirections 8 y_GW_isDirection 1 := ⟨mt_GW_isDirection, 274, by decide +kernel, mm_403, .inl mm_402⟩
theorem i_GW_areDirections_11 : mj_If y_GW_areDirections 11 16 (fun (a : Int32) => ¬ a = 0) := ⟨5, by decide, .inr (.inl ⟨by decide +kernel, rfl⟩)⟩
theorem i_GW_areDirections_14 : mj_Kc y_GW_areDirections 14 1 (.int 0) := .inl ⟨0, by decide +kernel, rfl, by decide +kernel⟩
theorem i_GW_areDirections_15 : decode y_GW_areDirections.2.1 15 = .ok (.ireturn, 1) := by decide +kernel
theorem i_GW_areDirections_16 : mj_Ld y_GW_areDirections 16 1 0 0 := .inl ⟨rfl, .inr ⟨rfl, 0, rfl, by decide +kernel⟩⟩
theorem i_GW_areDirections_17 : mj_Cs y_GW_areDirections 17 y_GW_acrossOf 1 := ⟨mt_GW_acrossOf, 268, by decide +kernel, mm_406, .inl mm_405⟩
theorem i_GW_areDirections_20 : mj_St y_GW_areDirections 20 1 2 0 := .inl ⟨rfl, .inr ⟨rfl, 2, rfl, by decide +kernel⟩⟩
theorem i_GW_areDirections_21 : mj_Ld y_GW_areDirections 21 1 0 0 := .inl ⟨rfl, .inr ⟨rfl, 0, rfl, by decide +kernel⟩⟩
theorem i_GW_areDirections_22 : mj_Cs y_GW_areDirections 22 y_GW_downOf 1 := ⟨mt_GW_downOf, 271, by decide +kernel, mm_409, .inl mm_408⟩
theorem i_GW_areDirections_25 : mj_St y_GW_areDirections 25 1 3 0 := .inl ⟨rfl, .inr ⟨rfl, 3, rfl, by decide +kernel⟩⟩
theorem i_GW_areDirections_26 : mj_Ld y_GW_areDirections 26 1 1 0 := .inl ⟨rfl, .inr ⟨rfl, 1, rfl, by decide +kernel⟩⟩
theorem i_GW_areDirections_27 : mj_Cs y_GW_areDirections 27 y_GW_acrossOf 1 := ⟨mt_GW_acrossOf, 268, by decide +kernel, mm_406, .inl mm_405⟩
theorem i_GW_areDirections_30 : mj_St y_GW_areDirections 30 2 4 0 := .inl ⟨rfl, .inl ⟨rfl, by decide +kernel⟩⟩
theorem i_GW_areDirections_32 : mj_Ld y_GW_areDirections 32 1 1 0 := .inl ⟨rfl, .inr ⟨rfl, 1, rfl, by decide +kernel⟩⟩
theorem i_GW_areDirections_33 : mj_Cs y_GW_areDirections 33 y_GW_downOf 1 := ⟨mt_GW_downOf, 271, by decide +kernel, mm_409, .inl mm_408⟩
theorem i_GW_areDirections_36 : mj_St y_GW_areDirections 36 2 5 0 := .inl ⟨rfl, .inl ⟨rfl, by decide +kernel⟩⟩
theorem i_GW_areDirections_38 : mj_Ld y_GW_areDirections 38 1 2 0 := .inl ⟨rfl, .inr ⟨rfl, 2, rfl, by decide +kernel⟩⟩
theorem i_GW_areDirections_39 : mj_Ld y_GW_areDirections 39 2 5 0 := .inl ⟨rfl, .inl ⟨rfl, by decide +kernel⟩⟩
theorem i_GW_areDirections_41 : mj_B2 y_GW_areDirections 41 (fun (a b : Int32) => a * b) := .inr (.inr (.inl ⟨by decide +kernel, rfl⟩))
theorem i_GW_areDirections_42 : mj_Ld y_GW_areDirections 42 1 3 0 := .inl ⟨rfl, .inr ⟨rfl, 3, rfl, by decide +kernel⟩⟩
theorem i_GW_areDirections_43 : mj_Ld y_GW_areDirections 43 2 4 0 := .inl ⟨rfl, .inl ⟨rfl, by decide +kernel⟩⟩
theorem i_GW_areDirections_45 : mj_B2 y_GW_areDirections 45 (fun (a b : Int32) => a * b) := .inr (.inr (.inl ⟨by decide +kernel, rfl⟩))
theorem i_GW_areDirections_46 : mj_B2 y_GW_areDirections 46 (fun (a b : Int32) => a - b) := .inr (.inl ⟨by decide +kernel, rfl⟩)
theorem i_GW_areDirections_47 : mj_St y_GW_areDirections 47 2 6 0 := .inl ⟨rfl, .inl ⟨rfl, by decide +kernel⟩⟩
theorem i_GW_areDirections_49 : mj_Ld y_GW_areDirections 49 2 6 0 := .inl ⟨rfl, .inl ⟨rfl, by decide +kernel⟩⟩
theorem i_GW_areDirections_51 : mj_If y_GW_areDirections 51 71 (fun (a : Int32) => 0 < a) := ⟨20, by decide, .inr (.inr (.inr (.inr (.inl ⟨by decide +kernel, rfl⟩))))⟩
theorem i_GW_areDirections_54 : mj_Ld y_GW_areDirections 54 2 6 0 := .inl ⟨rfl, .inl ⟨rfl, by decide +kernel⟩⟩
theorem i_GW_areDirections_56 : mj_If y_GW_areDirections 56 75 (fun (a : Int32) => ¬ a = 0) := ⟨19, by decide, .inr (.inl ⟨by decide +kernel, rfl⟩)⟩
theorem i_GW_areDirections_59 : mj_Ld y_GW_areDirections 59 1 2 0 := .inl ⟨rfl, .inr ⟨rfl, 2, rfl, by decide +kernel⟩⟩
theorem i_GW_areDirections_60 : mj_Ld y_GW_areDirections 60 2 4 0 := .inl ⟨rfl, .inl ⟨rfl, by decide +kernel⟩⟩
theorem i_GW_areDirections_62 : mj_B2 y_GW_areDirections 62 (fun (a b : Int32) => a * b) := .inr (.inr (.inl ⟨by decide +kernel, rfl⟩))
theorem i_GW_areDirections_63 : mj_Ld y_GW_areDirections 63 1 3 0 := .inl ⟨rfl, .inr ⟨rfl, 3, rfl, by decide +kernel⟩⟩
theorem i_GW_areDirections_64 : mj_Ld y_GW_areDirections 64 2 5 0 := .inl ⟨rfl, .inl ⟨rfl, by decide +kernel⟩⟩
theorem i_GW_areDirections_66 : mj_B2 y_GW_areDirections 66 (fun (a b : Int32) => a * b) := .inr (.inr (.inl ⟨by decide +kernel, rfl⟩))
theorem i_GW_areDirections_67 : mj_B2 y_GW_areDirections 67 (fun (a b : Int32) => a + b) := .inl ⟨by decide +kernel, rfl⟩
theorem i_GW_areDirections_68 : mj_If y_GW_areDirections 68 75 (fun (a : Int32) => a ≤ 0) := ⟨7, by decide, .inr (.inr (.inr (.inr (.inr (⟨by decide +kernel, rfl⟩)))))⟩
theorem i_GW_areDirections_71 : mj_Kc y_GW_areDirections 71 1 (.int 1) := .inl ⟨1, by decide +kernel, rfl, by decide +kernel⟩
theorem i_GW_areDirections_72 : mj_Go y_GW_areDirections 72 76 := ⟨4, by decide, by decide +kernel⟩
theorem i_GW_areDirections_75 : mj_Kc y_GW_areDirections 75 1 (.int 0) := .inl ⟨0, by decide +kernel, rfl, by decide +kernel⟩
theorem i_GW_areDirections_76 : decode y_GW_areDirections.2.1 76 = .ok (.ireturn, 1) := by decide +kernel
theorem i_GW_isDirection_0 : mj_Ld y_GW_isDirection 0 1 0 0 := .inl ⟨rfl, .inr ⟨rfl, 0, rfl, by decide +kernel⟩⟩
theorem i_GW_isDirection_1 : mj_Cs y_GW_isDirection 1 y_GW_acrossOf 1 := ⟨mt_GW_acrossOf, 268, by decide +kernel, mm_406, .inl mm_405⟩
theorem i_GW_isDirection_4 : mj_St y_GW_isDirection 4 1 1 0 := .inl ⟨rfl, .inr ⟨rfl, 1, rfl, by decide +kernel⟩⟩
theorem i_GW_isDirection_5 : mj_Ld y_GW_isDirection 5 1 0 0 := .inl ⟨rfl, .inr ⟨rfl, 0, rfl, by decide +kernel⟩⟩
theorem i_GW_isDirection_6 : mj_Cs y_GW_isDirection 6 y_GW_downOf 1 := ⟨mt_GW_downOf, 271, by decide +kernel, mm_409, .inl mm_408⟩
theorem i_GW_isDirection_9 : mj_St y_GW_isDirection 9 1 2 0 := .inl ⟨rfl, .inr ⟨rfl, 2, rfl, by decide +kernel⟩⟩
theorem i_GW_isDirection_10 : mj_Ld y_GW_isDirection 10 1 1 0 := .inl ⟨rfl, .inr ⟨rfl, 1, rfl, by decide +kernel⟩⟩
theorem i_GW_isDirection_11 : mj_Kc y_GW_isDirection 11 2 (.int (-9)) := .inr (.inl ⟨(-9), by decide +kernel, rfl, by decide +kernel⟩)
theorem i_GW_isDirection_13 : mj_Kc y_GW_isDirection 13 2 (.int 9) := .inr (.inl ⟨9, by decide +kernel, rfl, by decide +kernel⟩)
theorem i_GW_isDirection_15 : mj_Cs y_GW_isDirection 15 y_GW_isWithin 3 := ⟨mt_GW_isWithin, 58, by decide +kernel, mm_204, .inl mm_203⟩
theorem i_GW_isDirection_18 : mj_If y_GW_isDirection 18 44 (fun (a : Int32) => a = 0) := ⟨26, by decide, .inl ⟨by decide +kernel, rfl⟩⟩
theorem i_GW_isDirection_21 : mj_Ld y_GW_isDirection 21 1 2 0 := .inl ⟨rfl, .inr ⟨rfl, 2, rfl, by decide +kernel⟩⟩
theorem i_GW_isDirection_22 : mj_Kc y_GW_isDirection 22 2 (.int (-9)) := .inr (.inl ⟨(-9), by decide +kernel, rfl, by decide +kernel⟩)
theorem i_GW_isDirection_24 : mj_Kc y_GW_isDirection 24 2 (.int 9) := .inr (.inl ⟨9, by decide +kernel, rfl, by decide +kernel⟩)
theorem i_GW_isDirection_26 : mj_Cs y_GW_isDirection 26 y_GW_isWithin 3 := ⟨mt_GW_isWithin, 58, by decide +kernel, mm_204, .inl mm_203⟩
theorem i_GW_isDirection_29 : mj_If y_GW_isDirection 29 44 (fun (a : Int32) => a = 0) := ⟨15, by decide, .inl ⟨by decide +kernel, rfl⟩⟩
theorem i_GW_isDirection_32 : mj_Ld y_GW_isDirection 32 1 1 0 := .inl ⟨rfl, .inr ⟨rfl, 1, rfl, by decide +kernel⟩⟩
theorem i_GW_isDirection_33 : mj_If y_GW_isDirection 33 40 (fun (a : Int32) => ¬ a = 0) := ⟨7, by decide, .inr (.inl ⟨by decide +kernel, rfl⟩)⟩
theorem i_GW_isDirection_36 : mj_Ld y_GW_isDirection 36 1 2 0 := .inl ⟨rfl, .inr ⟨rfl, 2, rfl, by decide +kernel⟩⟩
theorem i_GW_isDirection_37 : mj_If y_GW_isDirection 37 44 (fun (a : Int32) => a = 0) := ⟨7, by decide, .inl ⟨by decide +kernel, rfl⟩⟩
theorem i_GW_isDirection_40 : mj_Kc y_GW_isDirection 40 1 (.int 1) := .inl ⟨1, by decide +kernel, rfl, by decide +kernel⟩
theorem i_GW_isDirection_41 : mj_Go y_GW_isDirection 41 45 := ⟨4, by decide, by decide +kernel⟩
theorem i_GW_isDirection_44 : mj_Kc y_GW_isDirection 44 1 (.int 0) := .inl ⟨0, by decide +kernel, rfl, by decide +kernel⟩
theorem i_GW_isDirection_45 : decode y_GW_isDirection.2.1 45 = .ok (.ireturn, 1) := by decide +kernel
theorem i_GW_acrossOf_0 : mj_Ld y_GW_acrossOf 0 1 0 0 := .inl ⟨rfl, .inr ⟨rfl, 0, rfl, by decide +kernel⟩⟩
theorem i_GW_acrossOf_1 : mj_Kc y_GW_acrossOf 1 2 (.int 20) := .inr (.inl ⟨20, by decide +kernel, rfl, by decide +kernel⟩)
theorem i_GW_acrossOf_3 : mj_D2 y_GW_acrossOf 3 (fun (a b : Int32) => a / b) := .inl ⟨by decide +kernel, rfl⟩
theorem i_GW_acrossOf_4 : mj_Kc y_GW_acrossOf 4 2 (.int 10) := .inr (.inl ⟨10, by decide +kernel, rfl, by decide +kernel⟩)
theorem i_GW_acrossOf_6 : mj_B2 y_GW_acrossOf 6 (fun (a b : Int32) => a - b) := .inr (.inl ⟨by decide +kernel, rfl⟩)
theorem i_GW_acrossOf_7 : decode y_GW_acrossOf.2.1 7 = .ok (.ireturn, 1) := by decide +kernel
theorem i_GW_downOf_0 : mj_Ld y_GW_downOf 0 1 0 0 := .inl ⟨rfl, .inr ⟨rfl, 0, rfl, by decide +kernel⟩⟩
theorem i_GW_downOf_1 : mj_Kc y_GW_downOf 1 2 (.int 20) := .inr (.inl ⟨20, by decide +kernel, rfl, by decide +kernel⟩)
theorem i_GW_downOf_3 : mj_D2 y_GW_downOf 3 (fun (a b : Int32) => a - a / b * b) := .inr ⟨by decide +kernel, rfl⟩
theorem i_GW_downOf_4 : mj_Kc y_GW_downOf 4 2 (.int 10) := .inr (.inl ⟨10, by decide +kernel, rfl, by decide +kernel⟩)
theorem i_GW_downOf_6 : mj_B2 y_GW_downOf 6 (fun (a b : Int32) => a - b) := .inr (.inl ⟨by decide +kernel, rfl⟩)
theorem i_GW_downOf_7 : decode y_GW_downOf.2.1 7 = .ok (.ireturn, 1) := by decide +kernel
theorem i_GW_reach_0 : mj_Ld y_GW_reach 0 1 0 2 := .inr (.inr ⟨rfl, .inr ⟨rfl, 0, rfl, by decide +kernel⟩⟩)
theorem i_GW_reach_1 : mj_Gf y_GW_reach 1 7 0 := ⟨by decide, by decide, 17, by decide +kernel, .inl mm_177⟩
theorem i_GW_reach_4 : mj_Ld y_GW_reach 4 1 1 0 := .inl ⟨rfl, .inr ⟨rfl, 1, rfl, by decide +kernel⟩⟩
theorem i_GW_reach_5 : mj_Cv y_GW_reach 5 y_Room_postAt 4 1 := ⟨by decide, rfl, mt_Room_postAt, 125, by decide +kernel, mm_398, mm_277, mm_278⟩
theorem i_GW_reach_8 : mj_St y_GW_reach 8 1 3 2 := .inr (.inr ⟨rfl, .inr ⟨rfl, 3, rfl, by decide +kernel⟩⟩)
theorem i_GW_reach_9 : mj_Ld y_GW_reach 9 1 3 2 := .inr (.inr ⟨rfl, .inr ⟨rfl, 3, rfl, by decide +kernel⟩⟩)
theorem i_GW_reach_10 : mj_Nu y_GW_reach 10 23 true := ⟨13, by decide, .inl ⟨rfl, by decide +kernel⟩⟩
theorem i_GW_reach_13 : mj_Ld y_GW_reach 13 1 2 0 := .inl ⟨rfl, .inr ⟨rfl, 2, rfl, by decide +kernel⟩⟩
theorem i_GW_reach_14 : mj_Kc y_GW_reach 14 1 (.int 1) := .inl ⟨1, by decide +kernel, rfl, by decide +kernel⟩
theorem i_GW_reach_15 : mj_Kc y_GW_reach 15 2 (.int 9) := .inr (.inl ⟨9, by decide +kernel, rfl, by decide +kernel⟩)
theorem i_GW_reach_17 : mj_Cs y_GW_reach 17 y_GW_isWithin 3 := ⟨mt_GW_isWithin, 58, by decide +kernel, mm_204, .inl mm_203⟩
theorem i_GW_reach_20 : mj_If y_GW_reach 20 26 (fun (a : Int32) => ¬ a = 0) := ⟨6, by decide, .inr (.inl ⟨by decide +kernel, rfl⟩)⟩
theorem i_GW_reach_23 : mj_Kc y_GW_reach 23 2 (.int (-2000000001)) := .inr (.inr (.inr (.inl ⟨62, (-2000000001), by decide +kernel, rfl, rfl, mm_206⟩)))
theorem i_GW_reach_25 : decode y_GW_reach.2.1 25 = .ok (.ireturn, 1) := by decide +kernel
theorem i_GW_reach_26 : mj_Ld y_GW_reach 26 1 3 2 := .inr (.inr ⟨rfl, .inr ⟨rfl, 3, rfl, by decide +kernel⟩⟩)
theorem i_GW_reach_27 : mj_Gf y_GW_reach 27 2 1 := ⟨by decide, by decide, 132, by decide +kernel, .inr ⟨"GalleryWatch", mm_367⟩⟩
theorem i_GW_reach_30 : mj_Kc y_GW_reach 30 1 (.int 4) := .inl ⟨4, by decide +kernel, rfl, by decide +kernel⟩
theorem i_GW_reach_31 : mj_Ic y_GW_reach 31 37 (fun (a b : Int32) => a = b) := ⟨6, by decide, .inl ⟨by decide +kernel, rfl⟩⟩
theorem i_GW_reach_34 : mj_Kc y_GW_reach 34 2 (.int (-2000000002)) := .inr (.inr (.inr (.inl ⟨92, (-2000000002), by decide +kernel, rfl, rfl, mm_304⟩)))
theorem i_GW_reach_36 : decode y_GW_reach.2.1 36 = .ok (.ireturn, 1) := by decide +kernel
theorem i_GW_reach_37 : mj_Ld y_GW_reach 37 1 0 2 := .inr (.inr ⟨rfl, .inr ⟨rfl, 0, rfl, by decide +kernel⟩⟩)
theorem i_GW_reach_38 : mj_Cv y_GW_reach 38 y_GW_beginChange 7 0 := ⟨by decide, rfl, mt_GW_beginChange, 93, by decide +kernel, mm_305, mm_307, mp_2⟩
theorem i_GW_reach_41 : mj_Ld y_GW_reach 41 1 0 2 := .inr (.inr ⟨rfl, .inr ⟨rfl, 0, rfl, by decide +kernel⟩⟩)
theorem i_GW_reach_42 : mj_Gf y_GW_reach 42 7 0 := ⟨by decide, by decide, 17, by decide +kernel, .inl mm_177⟩
theorem i_GW_reach_45 : mj_Ld y_GW_reach 45 1 1 0 := .inl ⟨rfl, .inr ⟨rfl, 1, rfl, by decide +kernel⟩⟩
theorem i_GW_reach_46 : mj_Nw y_GW_reach 46 2 := ⟨by decide, 133, by decide +kernel, mm_356, mm_357, mm_12⟩
theorem i_GW_reach_49 : decode y_GW_reach.2.1 49 = .ok (.dup, 1) := by decide +kernel
theorem i_GW_reach_50 : mj_Ld y_GW_reach 50 1 3 2 := .inr (.inr ⟨rfl, .inr ⟨rfl, 3, rfl, by decide +kernel⟩⟩)
theorem i_GW_reach_51 : mj_Gf y_GW_reach 51 2 0 := ⟨by decide, by decide, 141, by decide +kernel, .inr ⟨"GalleryWatch", mm_364⟩⟩
theorem i_GW_reach_54 : mj_Ld y_GW_reach 54 1 3 2 := .inr (.inr ⟨rfl, .inr ⟨rfl, 3, rfl, by decide +kernel⟩⟩)
theorem i_GW_reach_55 : mj_Gf y_GW_reach 55 2 1 := ⟨by decide, by decide, 132, by decide +kernel, .inr ⟨"GalleryWatch", mm_367⟩⟩
theorem i_GW_reach_58 : mj_Ld y_GW_reach 58 1 3 2 := .inr (.inr ⟨rfl, .inr ⟨rfl, 3, rfl, by decide +kernel⟩⟩)
theorem i_GW_reach_59 : mj_Gf y_GW_reach 59 2 2 := ⟨by decide, by decide, 157, by decide +kernel, .inr ⟨"GalleryWatch", mm_370⟩⟩
theorem i_GW_reach_62 : mj_Ld y_GW_reach 62 1 3 2 := .inr (.inr ⟨rfl, .inr ⟨rfl, 3, rfl, by decide +kernel⟩⟩)
theorem i_GW_reach_63 : mj_Gf y_GW_reach 63 2 3 := ⟨by decide, by decide, 160, by decide +kernel, .inr ⟨"GalleryWatch", mm_372⟩⟩
theorem i_GW_reach_66 : mj_Ld y_GW_reach 66 1 2 0 := .inl ⟨rfl, .inr ⟨rfl, 2, rfl, by decide +kernel⟩⟩
theorem i_GW_reach_67 : mj_Ld y_GW_reach 67 1 3 2 := .inr (.inr ⟨rfl, .inr ⟨rfl, 3, rfl, by decide +kernel⟩⟩)
theorem i_GW_reach_68 : mj_Gf y_GW_reach 68 2 5 := ⟨by decide, by decide, 147, by decide +kernel, .inr ⟨"GalleryWatch", mm_376⟩⟩
theorem i_GW_reach_71 : mj_Ci y_GW_reach 71 y_Post_init 6 := ⟨mt_Post_init, rfl, rfl, 150, by decide +kernel, mm_359, .inl mm_358⟩
theorem i_GW_reach_74 : mj_Cv y_GW_reach 74 y_Room_setPost 4 2 := ⟨by decide, rfl, mt_Room_setPost, 153, by decide +kernel, mm_411, mm_412, mm_413⟩
theorem i_GW_reach_77 : mj_Ld y_GW_reach 77 1 3 2 := .inr (.inr ⟨rfl, .inr ⟨rfl, 3, rfl, by decide +kernel⟩⟩)
theorem i_GW_reach_78 : mj_Gf y_GW_reach 78 2 4 := ⟨by decide, by decide, 144, by decide +kernel, .inr ⟨"GalleryWatch", mm_374⟩⟩
theorem i_GW_reach_81 : decode y_GW_reach.2.1 81 = .ok (.ireturn, 1) := by decide +kernel
theorem i_GW_move_0 : mj_Ld y_GW_move 0 1 0 2 := .inr (.inr ⟨rfl, .inr ⟨rfl, 0, rfl, by decide +kernel⟩⟩)
theorem i_GW_move_1 : mj_Gf y_GW_move 1 7 0 := ⟨by decide, by decide, 17, by decide +kernel, .inl mm_177⟩
theorem i_GW_move_4 : mj_Ld y_GW_move 4 1 1 0 := .inl ⟨rfl, .inr ⟨rfl, 1, rfl, by decide +kernel⟩⟩
theorem i_GW_move_5 : mj_Cv y_GW_move 5 y_Room_postAt 4 1 := ⟨by decide, rfl, mt_Room_postAt, 125, by decide +kernel, mm_398, mm_277, mm_278⟩
theorem i_GW_move_8 : mj_St y_GW_move 8 1 3 2 := .inr (.inr ⟨rfl, .inr ⟨rfl, 3, rfl, by decide +kernel⟩⟩)
theorem i_GW_move_9 : mj_Ld y_GW_move 9 1 3 2 := .inr (.inr ⟨rfl, .inr ⟨rfl, 3, rfl, by decide +kernel⟩⟩)
theorem i_GW_move_10 : mj_Nu y_GW_move 10 24 true := ⟨14, by decide, .inl ⟨rfl, by decide +kernel⟩⟩
theorem i_GW_move_13 : mj_Ld y_GW_move 13 1 0 2 := .inr (.inr ⟨rfl, .inr ⟨rfl, 0, rfl, by decide +kernel⟩⟩)
theorem i_GW_move_14 : mj_Gf y_GW_move 14 7 0 := ⟨by decide, by decide, 17, by decide +kernel, .inl mm_177⟩
theorem i_GW_move_17 : mj_Ld y_GW_move 17 1 2 0 := .inl ⟨rfl, .inr ⟨rfl, 2, rfl, by decide +kernel⟩⟩
theorem i_GW_move_18 : mj_Cv y_GW_move 18 y_Room_hasCell 4 1 := ⟨by decide, rfl, mt_Room_hasCell, 77, by decide +kernel, mm_242, mm_243, mm_244⟩
theorem i_GW_move_21 : mj_If y_GW_move 21 27 (fun (a : Int32) => ¬ a = 0) := ⟨6, by decide, .inr (.inl ⟨by decide +kernel, rfl⟩)⟩
theorem i_GW_move_24 : mj_Kc y_GW_move 24 2 (.int (-2000000001)) := .inr (.inr (.inr (.inl ⟨62, (-2000000001), by decide +kernel, rfl, rfl, mm_206⟩)))
theorem i_GW_move_26 : decode y_GW_move.2.1 26 = .ok (.ireturn, 1) := by decide +kernel
theorem i_GW_move_27 : mj_Ld y_GW_move 27 1 0 2 := .inr (.inr ⟨rfl, .inr ⟨rfl, 0, rfl, by decide +kernel⟩⟩)
theorem i_GW_move_28 : mj_Gf y_GW_move 28 7 0 := ⟨by decide, by decide, 17, by decide +kernel, .inl mm_177⟩
theorem i_GW_move_31 : mj_Ld y_GW_move 31 1 2 0 := .inl ⟨rfl, .inr ⟨rfl, 2, rfl, by decide +kernel⟩⟩
theorem i_GW_move_32 : mj_Ld y_GW_move 32 1 3 2 := .inr (.inr ⟨rfl, .inr ⟨rfl, 3, rfl, by decide +kernel⟩⟩)
theorem i_GW_move_33 : mj_Gf y_GW_move 33 2 1 := ⟨by decide, by decide, 132, by decide +kernel, .inr ⟨"GalleryWatch", mm_367⟩⟩
theorem i_GW_move_36 : mj_Cv y_GW_move 36 y_Room_canStand 4 2 := ⟨by decide, rfl, mt_Room_canStand, 110, by decide +kernel, mm_342, mm_281, mm_282⟩
theorem i_GW_move_39 : mj_If y_GW_move 39 45 (fun (a : Int32) => ¬ a = 0) := ⟨6, by decide, .inr (.inl ⟨by decide +kernel, rfl⟩)⟩
theorem i_GW_move_42 : mj_Kc y_GW_move 42 2 (.int (-2000000002)) := .inr (.inr (.inr (.inl ⟨92, (-2000000002), by decide +kernel, rfl, rfl, mm_304⟩)))
theorem i_GW_move_44 : decode y_GW_move.2.1 44 = .ok (.ireturn, 1) := by decide +kernel
theorem i_GW_move_45 : mj_Ld y_GW_move 45 1 0 2 := .inr (.inr ⟨rfl, .inr ⟨rfl, 0, rfl, by decide +kernel⟩⟩)
theorem i_GW_move_46 : mj_Cv y_GW_move 46 y_GW_beginChange 7 0 := ⟨by decide, rfl, mt_GW_beginChange, 93, by decide +kernel, mm_305, mm_307, mp_2⟩
theorem i_GW_move_49 : mj_Ld y_GW_move 49 1 0 2 := .inr (.inr ⟨rfl, .inr ⟨rfl, 0, rfl, by decide +kernel⟩⟩)
theorem i_GW_move_50 : mj_Gf y_GW_move 50 7 0 := ⟨by decide, by decide, 17, by decide +kernel, .inl mm_177⟩
theorem i_GW_move_53 : mj_Ld y_GW_move 53 1 1 0 := .inl ⟨rfl, .inr ⟨rfl, 1, rfl, by decide +kernel⟩⟩
theorem i_GW_move_54 : mj_Nw y_GW_move 54 2 := ⟨by decide, 133, by decide +kernel, mm_356, mm_357, mm_12⟩
theorem i_GW_move_57 : decode y_GW_move.2.1 57 = .ok (.dup, 1) := by decide +kernel
theorem i_GW_move_58 : mj_Ld y_GW_move 58 1 2 0 := .inl ⟨rfl, .inr ⟨rfl, 2, rfl, by decide +kernel⟩⟩
theorem i_GW_move_59 : mj_Ld y_GW_move 59 1 3 2 := .inr (.inr ⟨rfl, .inr ⟨rfl, 3, rfl, by decide +kernel⟩⟩)
theorem i_GW_move_60 : mj_Gf y_GW_move 60 2 1 := ⟨by decide, by decide, 132, by decide +kernel, .inr ⟨"GalleryWatch", mm_367⟩⟩
theorem i_GW_move_63 : mj_Ld y_GW_move 63 1 3 2 := .inr (.inr ⟨rfl, .inr ⟨rfl, 3, rfl, by decide +kernel⟩⟩)
theorem i_GW_move_64 : mj_Gf y_GW_move 64 2 2 := ⟨by decide, by decide, 157, by decide +kernel, .inr ⟨"GalleryWatch", mm_370⟩⟩
theorem i_GW_move_67 : mj_Ld y_GW_move 67 1 3 2 := .inr (.inr ⟨rfl, .inr ⟨rfl, 3, rfl, by decide +kernel⟩⟩)
theorem i_GW_move_68 : mj_Gf y_GW_move 68 2 3 := ⟨by decide, by decide, 160, by decide +kernel, .inr ⟨"GalleryWatch", mm_372⟩⟩
theorem i_GW_move_71 : mj_Ld y_GW_move 71 1 3 2 := .inr (.inr ⟨rfl, .inr ⟨rfl, 3, rfl, by decide +kernel⟩⟩)
theorem i_GW_move_72 : mj_Gf y_GW_move 72 2 4 := ⟨by decide, by decide, 144, by decide +kernel, .inr ⟨"GalleryWatch", mm_374⟩⟩
theorem i_GW_move_75 : mj_Ld y_GW_move 75 1 3 2 := .inr (.inr ⟨rfl, .inr ⟨rfl, 3, rfl, by decide +kernel⟩⟩)
theorem i_GW_move_76 : mj_Gf y_GW_move 76 2 5 := ⟨by decide, by decide, 147, by decide +kernel, .inr ⟨"GalleryWatch", mm_376⟩⟩
theorem i_GW_move_79 : mj_Ci y_GW_move 79 y_Post_init 6 := ⟨mt_Post_init, rfl, rfl, 150, by decide +kernel, mm_359, .inl mm_358⟩
theorem i_GW_move_82 : mj_Cv y_GW_move 82 y_Room_setPost 4 2 := ⟨by decide, rfl, mt_Room_setPost, 153, by decide +kernel, mm_411, mm_412, mm_413⟩
