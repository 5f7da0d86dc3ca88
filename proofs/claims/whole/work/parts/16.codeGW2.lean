/-! what stands at each place of the methods: GW -/
theorem i_GW_move_85 : mj_Ld y_GW_move 85 1 3 2 := .inr (.inr ⟨rfl, .inr ⟨rfl, 3, rfl, by decide +kernel⟩⟩)
theorem i_GW_move_86 : mj_Gf y_GW_move 86 2 0 := ⟨by decide, by decide, 141, by decide +kernel, .inr ⟨"GalleryWatch", mm_364⟩⟩
theorem i_GW_move_89 : decode y_GW_move.2.1 89 = .ok (.ireturn, 1) := by decide +kernel
theorem i_GW_lamp_0 : mj_Ld y_GW_lamp 0 1 0 2 := .inr (.inr ⟨rfl, .inr ⟨rfl, 0, rfl, by decide +kernel⟩⟩)
theorem i_GW_lamp_1 : mj_Gf y_GW_lamp 1 7 0 := ⟨by decide, by decide, 17, by decide +kernel, .inl mm_177⟩
theorem i_GW_lamp_4 : mj_Ld y_GW_lamp 4 1 1 0 := .inl ⟨rfl, .inr ⟨rfl, 1, rfl, by decide +kernel⟩⟩
theorem i_GW_lamp_5 : mj_Cv y_GW_lamp 5 y_Room_postAt 4 1 := ⟨by decide, rfl, mt_Room_postAt, 125, by decide +kernel, mm_398, mm_277, mm_278⟩
theorem i_GW_lamp_8 : mj_St y_GW_lamp 8 1 3 2 := .inr (.inr ⟨rfl, .inr ⟨rfl, 3, rfl, by decide +kernel⟩⟩)
theorem i_GW_lamp_9 : mj_Ld y_GW_lamp 9 1 3 2 := .inr (.inr ⟨rfl, .inr ⟨rfl, 3, rfl, by decide +kernel⟩⟩)
theorem i_GW_lamp_10 : mj_Nu y_GW_lamp 10 22 true := ⟨12, by decide, .inl ⟨rfl, by decide +kernel⟩⟩
theorem i_GW_lamp_13 : mj_Ld y_GW_lamp 13 1 2 0 := .inl ⟨rfl, .inr ⟨rfl, 2, rfl, by decide +kernel⟩⟩
theorem i_GW_lamp_14 : mj_Kc y_GW_lamp 14 1 (.int 0) := .inl ⟨0, by decide +kernel, rfl, by decide +kernel⟩
theorem i_GW_lamp_15 : mj_Kc y_GW_lamp 15 1 (.int 1) := .inl ⟨1, by decide +kernel, rfl, by decide +kernel⟩
theorem i_GW_lamp_16 : mj_Cs y_GW_lamp 16 y_GW_isWithin 3 := ⟨mt_GW_isWithin, 58, by decide +kernel, mm_204, .inl mm_203⟩
theorem i_GW_lamp_19 : mj_If y_GW_lamp 19 25 (fun (a : Int32) => ¬ a = 0) := ⟨6, by decide, .inr (.inl ⟨by decide +kernel, rfl⟩)⟩
theorem i_GW_lamp_22 : mj_Kc y_GW_lamp 22 2 (.int (-2000000001)) := .inr (.inr (.inr (.inl ⟨62, (-2000000001), by decide +kernel, rfl, rfl, mm_206⟩)))
theorem i_GW_lamp_24 : decode y_GW_lamp.2.1 24 = .ok (.ireturn, 1) := by decide +kernel
theorem i_GW_lamp_25 : mj_Ld y_GW_lamp 25 1 3 2 := .inr (.inr ⟨rfl, .inr ⟨rfl, 3, rfl, by decide +kernel⟩⟩)
theorem i_GW_lamp_26 : mj_Gf y_GW_lamp 26 2 1 := ⟨by decide, by decide, 132, by decide +kernel, .inr ⟨"GalleryWatch", mm_367⟩⟩
theorem i_GW_lamp_29 : mj_Kc y_GW_lamp 29 1 (.int 3) := .inl ⟨3, by decide +kernel, rfl, by decide +kernel⟩
theorem i_GW_lamp_30 : mj_Ic y_GW_lamp 30 36 (fun (a b : Int32) => a = b) := ⟨6, by decide, .inl ⟨by decide +kernel, rfl⟩⟩
theorem i_GW_lamp_33 : mj_Kc y_GW_lamp 33 2 (.int (-2000000002)) := .inr (.inr (.inr (.inl ⟨92, (-2000000002), by decide +kernel, rfl, rfl, mm_304⟩)))
theorem i_GW_lamp_35 : decode y_GW_lamp.2.1 35 = .ok (.ireturn, 1) := by decide +kernel
theorem i_GW_lamp_36 : mj_Ld y_GW_lamp 36 1 0 2 := .inr (.inr ⟨rfl, .inr ⟨rfl, 0, rfl, by decide +kernel⟩⟩)
theorem i_GW_lamp_37 : mj_Cv y_GW_lamp 37 y_GW_beginChange 7 0 := ⟨by decide, rfl, mt_GW_beginChange, 93, by decide +kernel, mm_305, mm_307, mp_2⟩
theorem i_GW_lamp_40 : mj_Ld y_GW_lamp 40 1 0 2 := .inr (.inr ⟨rfl, .inr ⟨rfl, 0, rfl, by decide +kernel⟩⟩)
theorem i_GW_lamp_41 : mj_Gf y_GW_lamp 41 7 0 := ⟨by decide, by decide, 17, by decide +kernel, .inl mm_177⟩
theorem i_GW_lamp_44 : mj_Ld y_GW_lamp 44 1 1 0 := .inl ⟨rfl, .inr ⟨rfl, 1, rfl, by decide +kernel⟩⟩
theorem i_GW_lamp_45 : mj_Nw y_GW_lamp 45 2 := ⟨by decide, 133, by decide +kernel, mm_356, mm_357, mm_12⟩
theorem i_GW_lamp_48 : decode y_GW_lamp.2.1 48 = .ok (.dup, 1) := by decide +kernel
theorem i_GW_lamp_49 : mj_Ld y_GW_lamp 49 1 3 2 := .inr (.inr ⟨rfl, .inr ⟨rfl, 3, rfl, by decide +kernel⟩⟩)
theorem i_GW_lamp_50 : mj_Gf y_GW_lamp 50 2 0 := ⟨by decide, by decide, 141, by decide +kernel, .inr ⟨"GalleryWatch", mm_364⟩⟩
theorem i_GW_lamp_53 : mj_Ld y_GW_lamp 53 1 3 2 := .inr (.inr ⟨rfl, .inr ⟨rfl, 3, rfl, by decide +kernel⟩⟩)
theorem i_GW_lamp_54 : mj_Gf y_GW_lamp 54 2 1 := ⟨by decide, by decide, 132, by decide +kernel, .inr ⟨"GalleryWatch", mm_367⟩⟩
theorem i_GW_lamp_57 : mj_Ld y_GW_lamp 57 1 3 2 := .inr (.inr ⟨rfl, .inr ⟨rfl, 3, rfl, by decide +kernel⟩⟩)
theorem i_GW_lamp_58 : mj_Gf y_GW_lamp 58 2 2 := ⟨by decide, by decide, 157, by decide +kernel, .inr ⟨"GalleryWatch", mm_370⟩⟩
theorem i_GW_lamp_61 : mj_Ld y_GW_lamp 61 1 3 2 := .inr (.inr ⟨rfl, .inr ⟨rfl, 3, rfl, by decide +kernel⟩⟩)
theorem i_GW_lamp_62 : mj_Gf y_GW_lamp 62 2 3 := ⟨by decide, by decide, 160, by decide +kernel, .inr ⟨"GalleryWatch", mm_372⟩⟩
theorem i_GW_lamp_65 : mj_Ld y_GW_lamp 65 1 3 2 := .inr (.inr ⟨rfl, .inr ⟨rfl, 3, rfl, by decide +kernel⟩⟩)
theorem i_GW_lamp_66 : mj_Gf y_GW_lamp 66 2 4 := ⟨by decide, by decide, 144, by decide +kernel, .inr ⟨"GalleryWatch", mm_374⟩⟩
theorem i_GW_lamp_69 : mj_Ld y_GW_lamp 69 1 2 0 := .inl ⟨rfl, .inr ⟨rfl, 2, rfl, by decide +kernel⟩⟩
theorem i_GW_lamp_70 : mj_Ci y_GW_lamp 70 y_Post_init 6 := ⟨mt_Post_init, rfl, rfl, 150, by decide +kernel, mm_359, .inl mm_358⟩
theorem i_GW_lamp_73 : mj_Cv y_GW_lamp 73 y_Room_setPost 4 2 := ⟨by decide, rfl, mt_Room_setPost, 153, by decide +kernel, mm_411, mm_412, mm_413⟩
theorem i_GW_lamp_76 : mj_Ld y_GW_lamp 76 1 3 2 := .inr (.inr ⟨rfl, .inr ⟨rfl, 3, rfl, by decide +kernel⟩⟩)
theorem i_GW_lamp_77 : mj_Gf y_GW_lamp 77 2 5 := ⟨by decide, by decide, 147, by decide +kernel, .inr ⟨"GalleryWatch", mm_376⟩⟩
theorem i_GW_lamp_80 : decode y_GW_lamp.2.1 80 = .ok (.ireturn, 1) := by decide +kernel
theorem i_GW_drop_0 : mj_Ld y_GW_drop 0 1 0 2 := .inr (.inr ⟨rfl, .inr ⟨rfl, 0, rfl, by decide +kernel⟩⟩)
theorem i_GW_drop_1 : mj_Gf y_GW_drop 1 7 0 := ⟨by decide, by decide, 17, by decide +kernel, .inl mm_177⟩
theorem i_GW_drop_4 : mj_Cv y_GW_drop 4 y_Room_posts 4 0 := ⟨by decide, rfl, mt_Room_posts, 113, by decide +kernel, mm_343, mm_344, mm_345⟩
theorem i_GW_drop_7 : mj_If y_GW_drop 7 13 (fun (a : Int32) => ¬ a = 0) := ⟨6, by decide, .inr (.inl ⟨by decide +kernel, rfl⟩)⟩
theorem i_GW_drop_10 : mj_Kc y_GW_drop 10 2 (.int (-2000000002)) := .inr (.inr (.inr (.inl ⟨92, (-2000000002), by decide +kernel, rfl, rfl, mm_304⟩)))
theorem i_GW_drop_12 : decode y_GW_drop.2.1 12 = .ok (.ireturn, 1) := by decide +kernel
theorem i_GW_drop_13 : mj_Ld y_GW_drop 13 1 0 2 := .inr (.inr ⟨rfl, .inr ⟨rfl, 0, rfl, by decide +kernel⟩⟩)
theorem i_GW_drop_14 : mj_Cv y_GW_drop 14 y_GW_beginChange 7 0 := ⟨by decide, rfl, mt_GW_beginChange, 93, by decide +kernel, mm_305, mm_307, mp_2⟩
theorem i_GW_drop_17 : mj_Ld y_GW_drop 17 1 0 2 := .inr (.inr ⟨rfl, .inr ⟨rfl, 0, rfl, by decide +kernel⟩⟩)
theorem i_GW_drop_18 : mj_Gf y_GW_drop 18 7 0 := ⟨by decide, by decide, 17, by decide +kernel, .inl mm_177⟩
theorem i_GW_drop_21 : mj_Cv y_GW_drop 21 y_Room_removeLatestPost 4 0 := ⟨by decide, rfl, mt_Room_removeLatestPost, 163, by decide +kernel, mm_431, mm_432, mm_433⟩
theorem i_GW_drop_24 : mj_Ld y_GW_drop 24 1 0 2 := .inr (.inr ⟨rfl, .inr ⟨rfl, 0, rfl, by decide +kernel⟩⟩)
theorem i_GW_drop_25 : mj_Gf y_GW_drop 25 7 0 := ⟨by decide, by decide, 17, by decide +kernel, .inl mm_177⟩
theorem i_GW_drop_28 : mj_Cv y_GW_drop 28 y_Room_posts 4 0 := ⟨by decide, rfl, mt_Room_posts, 113, by decide +kernel, mm_343, mm_344, mm_345⟩
theorem i_GW_drop_31 : decode y_GW_drop.2.1 31 = .ok (.ireturn, 1) := by decide +kernel
theorem i_GW_about_0 : mj_Ld y_GW_about 0 1 0 2 := .inr (.inr ⟨rfl, .inr ⟨rfl, 0, rfl, by decide +kernel⟩⟩)
theorem i_GW_about_1 : mj_Gf y_GW_about 1 7 0 := ⟨by decide, by decide, 17, by decide +kernel, .inl mm_177⟩
theorem i_GW_about_4 : mj_Ld y_GW_about 4 1 1 0 := .inl ⟨rfl, .inr ⟨rfl, 1, rfl, by decide +kernel⟩⟩
theorem i_GW_about_5 : mj_Cv y_GW_about 5 y_Room_postAt 4 1 := ⟨by decide, rfl, mt_Room_postAt, 125, by decide +kernel, mm_398, mm_277, mm_278⟩
theorem i_GW_about_8 : mj_St y_GW_about 8 1 3 2 := .inr (.inr ⟨rfl, .inr ⟨rfl, 3, rfl, by decide +kernel⟩⟩)
theorem i_GW_about_9 : mj_Ld y_GW_about 9 1 3 2 := .inr (.inr ⟨rfl, .inr ⟨rfl, 3, rfl, by decide +kernel⟩⟩)
theorem i_GW_about_10 : mj_Nu y_GW_about 10 16 false := ⟨6, by decide, .inr ⟨rfl, by decide +kernel⟩⟩
theorem i_GW_about_13 : mj_Kc y_GW_about 13 2 (.int (-2000000001)) := .inr (.inr (.inr (.inl ⟨62, (-2000000001), by decide +kernel, rfl, rfl, mm_206⟩)))
theorem i_GW_about_15 : decode y_GW_about.2.1 15 = .ok (.ireturn, 1) := by decide +kernel
theorem i_GW_about_16 : mj_Ld y_GW_about 16 1 2 0 := .inl ⟨rfl, .inr ⟨rfl, 2, rfl, by decide +kernel⟩⟩
theorem i_GW_about_17_d : decode y_GW_about.2.1 17 = .ok (.tableswitch 69 0 5 #[39, 44, 49, 54, 59, 64], 39) := by decide +kernel
theorem i_GW_about_17_o {k : Int32} (h : k.toInt < 0 ∨ 5 < k.toInt) : mj_Sw y_GW_about 17 k 86 := ⟨_, _, _, _, _, i_GW_about_17_d, .inl ⟨h, by decide⟩⟩
theorem i_GW_about_17_0 : mj_Sw y_GW_about 17 0 56 := ⟨_, _, _, _, _, i_GW_about_17_d, .inr ⟨by decide, by decide, 39, by decide, by decide⟩⟩
theorem i_GW_about_17_1 : mj_Sw y_GW_about 17 1 61 := ⟨_, _, _, _, _, i_GW_about_17_d, .inr ⟨by decide, by decide, 44, by decide, by decide⟩⟩
theorem i_GW_about_17_2 : mj_Sw y_GW_about 17 2 66 := ⟨_, _, _, _, _, i_GW_about_17_d, .inr ⟨by decide, by decide, 49, by decide, by decide⟩⟩
theorem i_GW_about_17_3 : mj_Sw y_GW_about 17 3 71 := ⟨_, _, _, _, _, i_GW_about_17_d, .inr ⟨by decide, by decide, 54, by decide, by decide⟩⟩
theorem i_GW_about_17_4 : mj_Sw y_GW_about 17 4 76 := ⟨_, _, _, _, _, i_GW_about_17_d, .inr ⟨by decide, by decide, 59, by decide, by decide⟩⟩
theorem i_GW_about_17_5 : mj_Sw y_GW_about 17 5 81 := ⟨_, _, _, _, _, i_GW_about_17_d, .inr ⟨by decide, by decide, 64, by decide, by decide⟩⟩
theorem i_GW_about_56 : mj_Ld y_GW_about 56 1 3 2 := .inr (.inr ⟨rfl, .inr ⟨rfl, 3, rfl, by decide +kernel⟩⟩)
theorem i_GW_about_57 : mj_Gf y_GW_about 57 2 0 := ⟨by decide, by decide, 141, by decide +kernel, .inr ⟨"GalleryWatch", mm_364⟩⟩
theorem i_GW_about_60 : decode y_GW_about.2.1 60 = .ok (.ireturn, 1) := by decide +kernel
theorem i_GW_about_61 : mj_Ld y_GW_about 61 1 3 2 := .inr (.inr ⟨rfl, .inr ⟨rfl, 3, rfl, by decide +kernel⟩⟩)
theorem i_GW_about_62 : mj_Gf y_GW_about 62 2 1 := ⟨by decide, by decide, 132, by decide +kernel, .inr ⟨"GalleryWatch", mm_367⟩⟩
theorem i_GW_about_65 : decode y_GW_about.2.1 65 = .ok (.ireturn, 1) := by decide +kernel
theorem i_GW_about_66 : mj_Ld y_GW_about 66 1 3 2 := .inr (.inr ⟨rfl, .inr ⟨rfl, 3, rfl, by decide +kernel⟩⟩)
theorem i_GW_about_67 : mj_Gf y_GW_about 67 2 2 := ⟨by decide, by decide, 157, by decide +kernel, .inr ⟨"GalleryWatch", mm_370⟩⟩
theorem i_GW_about_70 : decode y_GW_about.2.1 70 = .ok (.ireturn, 1) := by decide +kernel
theorem i_GW_about_71 : mj_Ld y_GW_about 71 1 3 2 := .inr (.inr ⟨rfl, .inr ⟨rfl, 3, rfl, by decide +kernel⟩⟩)
theorem i_GW_about_72 : mj_Gf y_GW_about 72 2 3 := ⟨by decide, by decide, 160, by decide +kernel, .inr ⟨"GalleryWatch", mm_372⟩⟩
theorem i_GW_about_75 : decode y_GW_about.2.1 75 = .ok (.ireturn, 1) := by decide +kernel
theorem i_GW_about_76 : mj_Ld y_GW_about 76 1 3 2 := .inr (.inr ⟨rfl, .inr ⟨rfl, 3, rfl, by decide +kernel⟩⟩)
theorem i_GW_about_77 : mj_Gf y_GW_about 77 2 4 := ⟨by decide, by decide, 144, by decide +kernel, .inr ⟨"GalleryWatch", mm_374⟩⟩
theorem i_GW_about_80 : decode y_GW_about.2.1 80 = .ok (.ireturn, 1) := by decide +kernel
theorem i_GW_about_81 : mj_Ld y_GW_about 81 1 3 2 := .inr (.inr ⟨rfl, .inr ⟨rfl, 3, rfl, by decide +kernel⟩⟩)
theorem i_GW_about_82 : mj_Gf y_GW_about 82 2 5 := ⟨by decide, by decide, 147, by decide +kernel, .inr ⟨"GalleryWatch", mm_376⟩⟩
theorem i_GW_about_85 : decode y_GW_about.2.1 85 = .ok (.ireturn, 1) := by decide +kernel
theorem i_GW_about_86 : mj_Kc y_GW_about 86 2 (.int (-2000000001)) := .inr (.inr (.inr (.inl ⟨62, (-2000000001), by decide +kernel, rfl, rfl, mm_206⟩)))
theorem i_GW_about_88 : decode y_GW_about.2.1 88 = .ok (.ireturn, 1) := by decide +kernel
theorem i_GW_isOf_0 : mj_Ld y_GW_isOf 0 1 0 2 := .inr (.inr ⟨rfl, .inr ⟨rfl, 0, rfl, by decide +kernel⟩⟩)
theorem i_GW_isOf_1 : mj_Gf y_GW_isOf 1 7 0 := ⟨by decide, by decide, 17, by decide +kernel, .inl mm_177⟩
theorem i_GW_isOf_4 : mj_Ld y_GW_isOf 4 1 1 0 := .inl ⟨rfl, .inr ⟨rfl, 1, rfl, by decide +kernel⟩⟩
theorem i_GW_isOf_5 : mj_Cv y_GW_isOf 5 y_Room_postAt 4 1 := ⟨by decide, rfl, mt_Room_postAt, 125, by decide +kernel, mm_398, mm_277, mm_278⟩
theorem i_GW_isOf_8 : mj_St y_GW_isOf 8 1 3 2 := .inr (.inr ⟨rfl, .inr ⟨rfl, 3, rfl, by decide +kernel⟩⟩)
theorem i_GW_isOf_9 : mj_Ld y_GW_isOf 9 1 3 2 := .inr (.inr ⟨rfl, .inr ⟨rfl, 3, rfl, by decide +kernel⟩⟩)
theorem i_GW_isOf_10 : mj_Nu y_GW_isOf 10 20 true := ⟨10, by decide, .inl ⟨rfl, by decide +kernel⟩⟩
theorem i_GW_isOf_13 : mj_Ld y_GW_isOf 13 1 2 0 := .inl ⟨rfl, .inr ⟨rfl, 2, rfl, by decide +kernel⟩⟩
theorem i_GW_isOf_14 : mj_Cs y_GW_isOf 14 y_GW_isKind 1 := ⟨mt_GW_isKind, 107, by decide +kernel, mm_292, .inl mm_291⟩
theorem i_GW_isOf_17 : mj_If y_GW_isOf 17 23 (fun (a : Int32) => ¬ a = 0) := ⟨6, by decide, .inr (.inl ⟨by decide +kernel, rfl⟩)⟩
theorem i_GW_isOf_20 : mj_Kc y_GW_isOf 20 2 (.int (-2000000001)) := .inr (.inr (.inr (.inl ⟨62, (-2000000001), by decide +kernel, rfl, rfl, mm_206⟩)))
theorem i_GW_isOf_22 : decode y_GW_isOf.2.1 22 = .ok (.ireturn, 1) := by decide +kernel
theorem i_GW_isOf_23 : mj_Ld y_GW_isOf 23 1 3 2 := .inr (.inr ⟨rfl, .inr ⟨rfl, 3, rfl, by decide +kernel⟩⟩)
theorem i_GW_isOf_24 : mj_Gf y_GW_isOf 24 2 1 := ⟨by decide, by decide, 132, by decide +kernel, .inr ⟨"GalleryWatch", mm_367⟩⟩
theorem i_GW_isOf_27 : mj_Ld y_GW_isOf 27 1 2 0 := .inl ⟨rfl, .inr ⟨rfl, 2, rfl, by decide +kernel⟩⟩
theorem i_GW_isOf_28 : mj_Cs y_GW_isOf 28 y_GW_isKindOf 2 := ⟨mt_GW_isKindOf, 138, by decide +kernel, mm_289, .inl mm_351⟩
theorem i_GW_isOf_31 : mj_Cs y_GW_isOf 31 y_GW_bit 1 := ⟨mt_GW_bit, 99, by decide +kernel, mm_325, .inl mm_324⟩
theorem i_GW_isOf_34 : decode y_GW_isOf.2.1 34 = .ok (.ireturn, 1) := by decide +kernel
theorem i_GW_undo_0 : mj_Ld y_GW_undo 0 1 0 2 := .inr (.inr ⟨rfl, .inr ⟨rfl, 0, rfl, by decide +kernel⟩⟩)
theorem i_GW_undo_1 : mj_Gf y_GW_undo 1 7 2 := ⟨by decide, by decide, 27, by decide +kernel, .inl mm_179⟩
theorem i_GW_undo_4 : mj_Cv y_GW_undo 4 y_Past_kept 1 0 := ⟨by decide, rfl, mt_Past_kept, 166, by decide +kernel, mm_448, mm_449, mm_450⟩
theorem i_GW_undo_7 : mj_If y_GW_undo 7 13 (fun (a : Int32) => ¬ a = 0) := ⟨6, by decide, .inr (.inl ⟨by decide +kernel, rfl⟩)⟩
theorem i_GW_undo_10 : mj_Kc y_GW_undo 10 2 (.int (-2000000002)) := .inr (.inr (.inr (.inl ⟨92, (-2000000002), by decide +kernel, rfl, rfl, mm_304⟩)))
theorem i_GW_undo_12 : decode y_GW_undo.2.1 12 = .ok (.ireturn, 1) := by decide +kernel
theorem i_GW_undo_13 : mj_Ld y_GW_undo 13 1 0 2 := .inr (.inr ⟨rfl, .inr ⟨rfl, 0, rfl, by decide +kernel⟩⟩)
theorem i_GW_undo_14 : mj_Gf y_GW_undo 14 7 2 := ⟨by decide, by decide, 27, by decide +kernel, .inl mm_179⟩
theorem i_GW_undo_17 : mj_Ld y_GW_undo 17 1 0 2 := .inr (.inr ⟨rfl, .inr ⟨rfl, 0, rfl, by decide +kernel⟩⟩)
theorem i_GW_undo_18 : mj_Gf y_GW_undo 18 7 0 := ⟨by decide, by decide, 17, by decide +kernel, .inl mm_177⟩
theorem i_GW_undo_21 : mj_Cv y_GW_undo 21 y_Past_takeBack 1 1 := ⟨by decide, rfl, mt_Past_takeBack, 169, by decide +kernel, mm_452, mm_453, mm_454⟩
theorem i_GW_undo_24 : mj_Ld y_GW_undo 24 1 0 2 := .inr (.inr ⟨rfl, .inr ⟨rfl, 0, rfl, by decide +kernel⟩⟩)
theorem i_GW_undo_25 : mj_Cv y_GW_undo 25 y_GW_outdate 7 0 := ⟨by decide, rfl, mt_GW_outdate, 70, by decide +kernel, mm_218, mm_220, mp_0⟩
theorem i_GW_undo_28 : mj_Ld y_GW_undo 28 1 0 2 := .inr (.inr ⟨rfl, .inr ⟨rfl, 0, rfl, by decide +kernel⟩⟩)
theorem i_GW_undo_29 : mj_Gf y_GW_undo 29 7 2 := ⟨by decide, by decide, 27, by decide +kernel, .inl mm_179⟩
theorem i_GW_undo_32 : mj_Cv y_GW_undo 32 y_Past_kept 1 0 := ⟨by decide, rfl, mt_Past_kept, 166, by decide +kernel, mm_448, mm_449, mm_450⟩
theorem i_GW_undo_35 : decode y_GW_undo.2.1 35 = .ok (.ireturn, 1) := by decide +kernel
theorem i_GW_sees_0 : mj_Ld y_GW_sees 0 1 0 2 := .inr (.inr ⟨rfl, .inr ⟨rfl, 0, rfl, by decide +kernel⟩⟩)
theorem i_GW_sees_1 : mj_Gf y_GW_sees 1 7 0 := ⟨by decide, by decide, 17, by decide +kernel, .inl mm_177⟩
theorem i_GW_sees_4 : mj_Ld y_GW_sees 4 1 1 0 := .inl ⟨rfl, .inr ⟨rfl, 1, rfl, by decide +kernel⟩⟩
theorem i_GW_sees_5 : mj_Cv y_GW_sees 5 y_Room_postAt 4 1 := ⟨by decide, rfl, mt_Room_postAt, 125, by decide +kernel, mm_398, mm_277, mm_278⟩
theorem i_GW_sees_8 : mj_Nu y_GW_sees 8 22 true := ⟨14, by decide, .inl ⟨rfl, by decide +kernel⟩⟩
theorem i_GW_sees_11 : mj_Ld y_GW_sees 11 1 0 2 := .inr (.inr ⟨rfl, .inr ⟨rfl, 0, rfl, by decide +kernel⟩⟩)
theorem i_GW_sees_12 : mj_Gf y_GW_sees 12 7 0 := ⟨by decide, by decide, 17, by decide +kernel, .inl mm_177⟩
theorem i_GW_sees_15 : mj_Ld y_GW_sees 15 1 2 0 := .inl ⟨rfl, .inr ⟨rfl, 2, rfl, by decide +kernel⟩⟩
theorem i_GW_sees_16 : mj_Cv y_GW_sees 16 y_Room_hasCell 4 1 := ⟨by decide, rfl, mt_Room_hasCell, 77, by decide +kernel, mm_242, mm_243, mm_244⟩
theorem i_GW_sees_19 : mj_If y_GW_sees 19 25 (fun (a : Int32) => ¬ a = 0) := ⟨6, by decide, .inr (.inl ⟨by decide +kernel, rfl⟩)⟩
theorem i_GW_sees_22 : mj_Kc y_GW_sees 22 2 (.int (-2000000001)) := .inr (.inr (.inr (.inl ⟨62, (-2000000001), by decide +kernel, rfl, rfl, mm_206⟩)))
theorem i_GW_sees_24 : decode y_GW_sees.2.1 24 = .ok (.ireturn, 1) := by decide +kernel
theorem i_GW_sees_25 : mj_Ld y_GW_sees 25 1 0 2 := .inr (.inr ⟨rfl, .inr ⟨rfl, 0, rfl, by decide +kernel⟩⟩)
theorem i_GW_sees_26 : mj_Gf y_GW_sees 26 7 3 := ⟨by decide, by decide, 31, by decide +kernel, .inl mm_180⟩
theorem i_GW_sees_29 : mj_Cv y_GW_sees 29 y_View_refresh 6 0 := ⟨by decide, rfl, mt_View_refresh, 172, by decide +kernel, mm_460, mm_461, mm_462⟩
theorem i_GW_sees_32 : mj_Ld y_GW_sees 32 1 0 2 := .inr (.inr ⟨rfl, .inr ⟨rfl, 0, rfl, by decide +kernel⟩⟩)
theorem i_GW_sees_33 : mj_Gf y_GW_sees 33 7 3 := ⟨by decide, by decide, 31, by decide +kernel, .inl mm_180⟩
theorem i_GW_sees_36 : mj_Ld y_GW_sees 36 1 2 0 := .inl ⟨rfl, .inr ⟨rfl, 2, rfl, by decide +kernel⟩⟩
theorem i_GW_sees_37 : mj_Cv y_GW_sees 37 y_View_watchersOf 6 1 := ⟨by decide, rfl, mt_View_watchersOf, 175, by decide +kernel, mm_490, mm_491, mm_492⟩
theorem i_GW_sees_40 : mj_Ld y_GW_sees 40 1 1 0 := .inl ⟨rfl, .inr ⟨rfl, 1, rfl, by decide +kernel⟩⟩
theorem i_GW_sees_41 : mj_B2 y_GW_sees 41 (fun (a b : Int32) => a >>> (b &&& 31)) := .inr (.inr (.inr (.inr (.inr (.inr (.inr (.inl ⟨by decide +kernel, rfl⟩)))))))
theorem i_GW_sees_42 : mj_Kc y_GW_sees 42 1 (.int 1) := .inl ⟨1, by decide +kernel, rfl, by decide +kernel⟩
theorem i_GW_sees_43 : mj_B2 y_GW_sees 43 (fun (a b : Int32) => a &&& b) := .inr (.inr (.inr (.inl ⟨by decide +kernel, rfl⟩)))
theorem i_GW_sees_44 : decode y_GW_sees.2.1 44 = .ok (.ireturn, 1) := by decide +kernel
theorem i_GW_region_0 : mj_Ld y_GW_region 0 1 0 2 := .inr (.inr ⟨rfl, .inr ⟨rfl, 0, rfl, by decide +kernel⟩⟩)
theorem i_GW_region_1 : mj_Gf y_GW_region 1 7 0 := ⟨by decide, by decide, 17, by decide +kernel, .inl mm_177⟩
theorem i_GW_region_4 : mj_Ld y_GW_region 4 1 1 0 := .inl ⟨rfl, .inr ⟨rfl, 1, rfl, by decide +kernel⟩⟩
theorem i_GW_region_5 : mj_Cv y_GW_region 5 y_Room_postAt 4 1 := ⟨by decide, rfl, mt_Room_postAt, 125, by decide +kernel, mm_398, mm_277, mm_278⟩
theorem i_GW_region_8 : mj_Nu y_GW_region 8 14 false := ⟨6, by decide, .inr ⟨rfl, by decide +kernel⟩⟩
theorem i_GW_region_11 : mj_Kc y_GW_region 11 2 (.int (-2000000001)) := .inr (.inr (.inr (.inl ⟨62, (-2000000001), by decide +kernel, rfl, rfl, mm_206⟩)))
theorem i_GW_region_13 : decode y_GW_region.2.1 13 = .ok (.ireturn, 1) := by decide +kernel
theorem i_GW_region_14 : mj_Ld y_GW_region 14 1 0 2 := .inr (.inr ⟨rfl, .inr ⟨rfl, 0, rfl, by decide +kernel⟩⟩)
theorem i_GW_region_15 : mj_Gf y_GW_region 15 7 3 := ⟨by decide, by decide, 31, by decide +kernel, .inl mm_180⟩
theorem i_GW_region_18 : mj_Cv y_GW_region 18 y_View_refresh 6 0 := ⟨by decide, rfl, mt_View_refresh, 172, by decide +kernel, mm_460, mm_461, mm_462⟩
theorem i_GW_region_21 : mj_Ld y_GW_region 21 1 0 2 := .inr (.inr ⟨rfl, .inr ⟨rfl, 0, rfl, by decide +kernel⟩⟩)
theorem i_GW_region_22 : mj_Gf y_GW_region 22 7 3 := ⟨by decide, by decide, 31, by decide +kernel, .inl mm_180⟩
theorem i_GW_region_25 : mj_Kc y_GW_region 25 1 (.int 1) := .inl ⟨1, by decide +kernel, rfl, by decide +kernel⟩
theorem i_GW_region_26 : mj_Ld y_GW_region 26 1 1 0 := .inl ⟨rfl, .inr ⟨rfl, 1, rfl, by decide +kernel⟩⟩
theorem i_GW_region_27 : mj_B2 y_GW_region 27 (fun (a b : Int32) => a <<< (b &&& 31)) := .inr (.inr (.inr (.inr (.inr (.inr (.inl ⟨by decide +kernel, rfl⟩))))))
theorem i_GW_region_28 : mj_Cv y_GW_region 28 y_View_cellsSeenBy 6 1 := ⟨by decide, rfl, mt_View_cellsSeenBy, 179, by decide +kernel, mm_499, mm_500, mm_501⟩
theorem i_GW_region_31 : decode y_GW_region.2.1 31 = .ok (.ireturn, 1) := by decide +kernel
theorem i_GW_watchers_0 : mj_Ld y_GW_watchers 0 1 0 2 := .inr (.inr ⟨rfl, .inr ⟨rfl, 0, rfl, by decide +kernel⟩⟩)
theorem i_GW_watchers_1 : mj_Gf y_GW_watchers 1 7 0 := ⟨by decide, by decide, 17, by decide +kernel, .inl mm_177⟩
theorem i_GW_watchers_4 : mj_Ld y_GW_watchers 4 1 1 0 := .inl ⟨rfl, .inr ⟨rfl, 1, rfl, by decide +kernel⟩⟩
theorem i_GW_watchers_5 : mj_Cv y_GW_watchers 5 y_Room_hasCell 4 1 := ⟨by decide, rfl, mt_Room_hasCell, 77, by decide +kernel, mm_242, mm_243, mm_244⟩
theorem i_GW_watchers_8 : mj_If y_GW_watchers 8 14 (fun (a : Int32) => ¬ a = 0) := ⟨6, by decide, .inr (.inl ⟨by decide +kernel, rfl⟩)⟩
theorem i_GW_watchers_11 : mj_Kc y_GW_watchers 11 2 (.int (-2000000001)) := .inr (.inr (.inr (.inl ⟨62, (-2000000001), by decide +kernel, rfl, rfl, mm_206⟩)))
theorem i_GW_watchers_13 : decode y_GW_watchers.2.1 13 = .ok (.ireturn, 1) := by decide +kernel
theorem i_GW_watchers_14 : mj_Ld y_GW_watchers 14 1 0 2 := .inr (.inr ⟨rfl, .inr ⟨rfl, 0, rfl, by decide +kernel⟩⟩)
theorem i_GW_watchers_15 : mj_Gf y_GW_watchers 15 7 3 := ⟨by decide, by decide, 31, by decide +kernel, .inl mm_180⟩
theorem i_GW_watchers_18 : mj_Cv y_GW_watchers 18 y_View_refresh 6 0 := ⟨by decide, rfl, mt_View_refresh, 172, by decide +kernel, mm_460, mm_461, mm_462⟩
theorem i_GW_watchers_21 : mj_Ld y_GW_watchers 21 1 0 2 := .inr (.inr ⟨rfl, .inr ⟨rfl, 0, rfl, by decide +kernel⟩⟩)
theorem i_GW_watchers_22 : mj_Gf y_GW_watchers 22 7 3 := ⟨by decide, by decide, 31, by decide +kernel, .inl mm_180⟩
theorem i_GW_watchers_25 : mj_Ld y_GW_watchers 25 1 1 0 := .inl ⟨rfl, .inr ⟨rfl, 1, rfl, by decide +kernel⟩⟩
theorem i_GW_watchers_26 : mj_Cv y_GW_watchers 26 y_View_watchersOf 6 1 := ⟨by decide, rfl, mt_View_watchersOf, 175, by decide +kernel, mm_490, mm_491, mm_492⟩
theorem i_GW_watchers_29 : decode y_GW_watchers.2.1 29 = .ok (.ireturn, 1) := by decide +kernel
theorem i_GW_blind_0 : mj_Ld y_GW_blind 0 1 0 2 := .inr (.inr ⟨rfl, .inr ⟨rfl, 0, rfl, by decide +kernel⟩⟩)
theorem i_GW_blind_1 : mj_Gf y_GW_blind 1 7 0 := ⟨by decide, by decide, 17, by decide +kernel, .inl mm_177⟩
theorem i_GW_blind_4 : mj_Ld y_GW_blind 4 1 1 0 := .inl ⟨rfl, .inr ⟨rfl, 1, rfl, by decide +kernel⟩⟩
theorem i_GW_blind_5 : mj_Cv y_GW_blind 5 y_Room_hasPosts 4 1 := ⟨by decide, rfl, mt_Room_hasPosts, 182, by decide +kernel, mm_513, mm_514, mm_515⟩
theorem i_GW_blind_8 : mj_If y_GW_blind 8 14 (fun (a : Int32) => ¬ a = 0) := ⟨6, by decide, .inr (.inl ⟨by decide +kernel, rfl⟩)⟩
theorem i_GW_blind_11 : mj_Kc y_GW_blind 11 2 (.int (-2000000001)) := .inr (.inr (.inr (.inl ⟨62, (-2000000001), by decide +kernel, rfl, rfl, mm_206⟩)))
theorem i_GW_blind_13 : decode y_GW_blind.2.1 13 = .ok (.ireturn, 1) := by decide +kernel
theorem i_GW_blind_14 : mj_Ld y_GW_blind 14 1 0 2 := .inr (.inr ⟨rfl, .inr ⟨rfl, 0, rfl, by decide +kernel⟩⟩)
theorem i_GW_blind_15 : mj_Gf y_GW_blind 15 7 3 := ⟨by decide, by decide, 31, by decide +kernel, .inl mm_180⟩
theorem i_GW_blind_18 : mj_Cv y_GW_blind 18 y_View_refresh 6 0 := ⟨by decide, rfl, mt_View_refresh, 172, by decide +kernel, mm_460, mm_461, mm_462⟩
theorem i_GW_blind_21 : mj_Ld y_GW_blind 21 1 0 2 := .inr (.inr ⟨rfl, .inr ⟨rfl, 0, rfl, by decide +kernel⟩⟩)
theorem i_GW_blind_22 : mj_Gf y_GW_blind 22 7 3 := ⟨by decide, by decide, 31, by decide +kernel, .inl mm_180⟩
theorem i_GW_blind_25 : mj_Ld y_GW_blind 25 1 1 0 := .inl ⟨rfl, .inr ⟨rfl, 1, rfl, by decide +kernel⟩⟩
theorem i_GW_blind_26 : mj_Cv y_GW_blind 26 y_View_leastUnwatched 6 1 := ⟨by decide, rfl, mt_View_leastUnwatched, 185, by decide +kernel, mm_521, mm_522, mm_523⟩
theorem i_GW_blind_29 : decode y_GW_blind.2.1 29 = .ok (.ireturn, 1) := by decide +kernel
theorem i_GW_seen_0 : mj_Ld y_GW_seen 0 1 0 2 := .inr (.inr ⟨rfl, .inr ⟨rfl, 0, rfl, by decide +kernel⟩⟩)
theorem i_GW_seen_1 : mj_Gf y_GW_seen 1 7 0 := ⟨by decide, by decide, 17, by decide +kernel, .inl mm_177⟩
theorem i_GW_seen_4 : mj_Ld y_GW_seen 4 1 1 0 := .inl ⟨rfl, .inr ⟨rfl, 1, rfl, by decide +kernel⟩⟩
theorem i_GW_seen_5 : mj_Cv y_GW_seen 5 y_Room_hasPosts 4 1 := ⟨by decide, rfl, mt_Room_hasPosts, 182, by decide +kernel, mm_513, mm_514, mm_515⟩
theorem i_GW_seen_8 : mj_If y_GW_seen 8 14 (fun (a : Int32) => ¬ a = 0) := ⟨6, by decide, .inr (.inl ⟨by decide +kernel, rfl⟩)⟩
theorem i_GW_seen_11 : mj_Kc y_GW_seen 11 2 (.int (-2000000001)) := .inr (.inr (.inr (.inl ⟨62, (-2000000001), by decide +kernel, rfl, rfl, mm_206⟩)))
theorem i_GW_seen_13 : decode y_GW_seen.2.1 13 = .ok (.ireturn, 1) := by decide +kernel
theorem i_GW_seen_14 : mj_Ld y_GW_seen 14 1 0 2 := .inr (.inr ⟨rfl, .inr ⟨rfl, 0, rfl, by decide +kernel⟩⟩)
theorem i_GW_seen_15 : mj_Gf y_GW_seen 15 7 3 := ⟨by decide, by decide, 31, by decide +kernel, .inl mm_180⟩
theorem i_GW_seen_18 : mj_Cv y_GW_seen 18 y_View_refresh 6 0 := ⟨by decide, rfl, mt_View_refresh, 172, by decide +kernel, mm_460, mm_461, mm_462⟩
theorem i_GW_seen_21 : mj_Ld y_GW_seen 21 1 0 2 := .inr (.inr ⟨rfl, .inr ⟨rfl, 0, rfl, by decide +kernel⟩⟩)
theorem i_GW_seen_22 : mj_Gf y_GW_seen 22 7 3 := ⟨by decide, by decide, 31, by decide +kernel, .inl mm_180⟩
theorem i_GW_seen_25 : mj_Ld y_GW_seen 25 1 1 0 := .inl ⟨rfl, .inr ⟨rfl, 1, rfl, by decide +kernel⟩⟩
theorem i_GW_seen_26 : mj_Cv y_GW_seen 26 y_View_cellsSeenBy 6 1 := ⟨by decide, rfl, mt_View_cellsSeenBy, 179, by decide +kernel, mm_499, mm_500, mm_501⟩
theorem i_GW_seen_29 : decode y_GW_seen.2.1 29 = .ok (.ireturn, 1) := by decide +kernel
theorem i_GW_spare_0 : mj_Ld y_GW_spare 0 1 0 2 := .inr (.inr ⟨rfl, .inr ⟨rfl, 0, rfl, by decide +kernel⟩⟩)
theorem i_GW_spare_1 : mj_Gf y_GW_spare 1 7 0 := ⟨by decide, by decide, 17, by decide +kernel, .inl mm_177⟩
theorem i_GW_spare_4 : mj_Ld y_GW_spare 4 1 1 0 := .inl ⟨rfl, .inr ⟨rfl, 1, rfl, by decide +kernel⟩⟩
theorem i_GW_spare_5 : mj_Cv y_GW_spare 5 y_Room_hasPosts 4 1 := ⟨by decide, rfl, mt_Room_hasPosts, 182, by decide +kernel, mm_513, mm_514, mm_515⟩
theorem i_GW_spare_8 : mj_If y_GW_spare 8 14 (fun (a : Int32) => ¬ a = 0) := ⟨6, by decide, .inr (.inl ⟨by decide +kernel, rfl⟩)⟩
theorem i_GW_spare_11 : mj_Kc y_GW_spare 11 2 (.int (-2000000001)) := .inr (.inr (.inr (.inl ⟨62, (-2000000001), by decide +kernel, rfl, rfl, mm_206⟩)))
theorem i_GW_spare_13 : decode y_GW_spare.2.1 13 = .ok (.ireturn, 1) := by decide +kernel
theorem i_GW_spare_14 : mj_Ld y_GW_spare 14 1 0 2 := .inr (.inr ⟨rfl, .inr ⟨rfl, 0, rfl, by decide +kernel⟩⟩)
theorem i_GW_spare_15 : mj_Gf y_GW_spare 15 7 3 := ⟨by decide, by decide, 31, by decide +kernel, .inl mm_180⟩
theorem i_GW_spare_18 : mj_Cv y_GW_spare 18 y_View_refresh 6 0 := ⟨by decide, rfl, mt_View_refresh, 172, by decide +kernel, mm_460, mm_461, mm_462⟩
theorem i_GW_spare_21 : mj_Ld y_GW_spare 21 1 0 2 := .inr (.inr ⟨rfl, .inr ⟨rfl, 0, rfl, by decide +kernel⟩⟩)
theorem i_GW_spare_22 : mj_Gf y_GW_spare 22 7 3 := ⟨by decide, by decide, 31, by decide +kernel, .inl mm_180⟩
theorem i_GW_spare_25 : mj_Ld y_GW_spare 25 1 1 0 := .inl ⟨rfl, .inr ⟨rfl, 1, rfl, by decide +kernel⟩⟩
theorem i_GW_spare_26 : mj_Cv y_GW_spare 26 y_View_leastUnwatched 6 1 := ⟨by decide, rfl, mt_View_leastUnwatched, 185, by decide +kernel, mm_521, mm_522, mm_523⟩
theorem i_GW_spare_29 : mj_Kc y_GW_spare 29 2 (.int (-2000000005)) := .inr (.inr (.inr (.inl ⟨188, (-2000000005), by decide +kernel, rfl, rfl, mm_355⟩)))
theorem i_GW_spare_31 : mj_Ic y_GW_spare 31 37 (fun (a b : Int32) => a = b) := ⟨6, by decide, .inl ⟨by decide +kernel, rfl⟩⟩
theorem i_GW_spare_34 : mj_Kc y_GW_spare 34 2 (.int (-2000000002)) := .inr (.inr (.inr (.inl ⟨92, (-2000000002), by decide +kernel, rfl, rfl, mm_304⟩)))
theorem i_GW_spare_36 : decode y_GW_spare.2.1 36 = .ok (.ireturn, 1) := by decide +kernel
theorem i_GW_spare_37 : mj_Ld y_GW_spare 37 1 0 2 := .inr (.inr ⟨rfl, .inr ⟨rfl, 0, rfl, by decide +kernel⟩⟩)
theorem i_GW_spare_38 : mj_Gf y_GW_spare 38 7 3 := ⟨by decide, by decide, 31, by decide +kernel, .inl mm_180⟩
theorem i_GW_spare_41 : mj_Ld y_GW_spare 41 1 1 0 := .inl ⟨rfl, .inr ⟨rfl, 1, rfl, by decide +kernel⟩⟩
theorem i_GW_spare_42 : mj_Cv y_GW_spare 42 y_View_sparedOf 6 1 := ⟨by decide, rfl, mt_View_sparedOf, 189, by decide +kernel, mm_534, mm_535, mm_536⟩
theorem i_GW_spare_45 : decode y_GW_spare.2.1 45 = .ok (.ireturn, 1) := by decide +kernel
theorem i_GW_fewest_0 : mj_Ld y_GW_fewest 0 1 0 2 := .inr (.inr ⟨rfl, .inr ⟨rfl, 0, rfl, by decide +kernel⟩⟩)
theorem i_GW_fewest_1 : mj_Gf y_GW_fewest 1 7 3 := ⟨by decide, by decide, 31, by decide +kernel, .inl mm_180⟩
theorem i_GW_fewest_4 : mj_Cv y_GW_fewest 4 y_View_refresh 6 0 := ⟨by decide, rfl, mt_View_refresh, 172, by decide +kernel, mm_460, mm_461, mm_462⟩
theorem i_GW_fewest_7 : mj_Ld y_GW_fewest 7 1 0 2 := .inr (.inr ⟨rfl, .inr ⟨rfl, 0, rfl, by decide +kernel⟩⟩)
theorem i_GW_fewest_8 : mj_Gf y_GW_fewest 8 7 4 := ⟨by decide, by decide, 40, by decide +kernel, .inl mm_181⟩
theorem i_GW_fewest_11 : mj_Cv y_GW_fewest 11 y_Choice_solve 0 0 := ⟨by decide, rfl, mt_Choice_solve, 192, by decide +kernel, mm_543, mm_544, mm_545⟩
theorem i_GW_fewest_14 : mj_Ld y_GW_fewest 14 1 0 2 := .inr (.inr ⟨rfl, .inr ⟨rfl, 0, rfl, by decide +kernel⟩⟩)
theorem i_GW_fewest_15 : mj_Gf y_GW_fewest 15 7 4 := ⟨by decide, by decide, 40, by decide +kernel, .inl mm_181⟩
theorem i_GW_fewest_18 : mj_Gf y_GW_fewest 18 0 8 := ⟨by decide, by decide, 195, by decide +kernel, .inr ⟨"GalleryWatch", mm_101⟩⟩
theorem i_GW_fewest_21 : decode y_GW_fewest.2.1 21 = .ok (.ireturn, 1) := by decide +kernel
theorem i_GW_choose_0 : mj_Ld y_GW_choose 0 1 0 2 := .inr (.inr ⟨rfl, .inr ⟨rfl, 0, rfl, by decide +kernel⟩⟩)
theorem i_GW_choose_1 : mj_Gf y_GW_choose 1 7 3 := ⟨by decide, by decide, 31, by decide +kernel, .inl mm_180⟩
theorem i_GW_choose_4 : mj_Cv y_GW_choose 4 y_View_refresh 6 0 := ⟨by decide, rfl, mt_View_refresh, 172, by decide +kernel, mm_460, mm_461, mm_462⟩
theorem i_GW_choose_7 : mj_Ld y_GW_choose 7 1 0 2 := .inr (.inr ⟨rfl, .inr ⟨rfl, 0, rfl, by decide +kernel⟩⟩)
theorem i_GW_choose_8 : mj_Gf y_GW_choose 8 7 4 := ⟨by decide, by decide, 40, by decide +kernel, .inl mm_181⟩
theorem i_GW_choose_11 : mj_Cv y_GW_choose 11 y_Choice_solve 0 0 := ⟨by decide, rfl, mt_Choice_solve, 192, by decide +kernel, mm_543, mm_544, mm_545⟩
theorem i_GW_choose_14 : mj_Ld y_GW_choose 14 1 0 2 := .inr (.inr ⟨rfl, .inr ⟨rfl, 0, rfl, by decide +kernel⟩⟩)
theorem i_GW_choose_15 : mj_Gf y_GW_choose 15 7 4 := ⟨by decide, by decide, 40, by decide +kernel, .inl mm_181⟩
theorem i_GW_choose_18 : mj_Gf y_GW_choose 18 0 9 := ⟨by decide, by decide, 198, by decide +kernel, .inr ⟨"GalleryWatch", mm_103⟩⟩
theorem i_GW_choose_21 : decode y_GW_choose.2.1 21 = .ok (.ireturn, 1) := by decide +kernel
theorem i_GW_many_0 : mj_Ld y_GW_many 0 1 0 2 := .inr (.inr ⟨rfl, .inr ⟨rfl, 0, rfl, by decide +kernel⟩⟩)
theorem i_GW_many_1 : mj_Gf y_GW_many 1 7 3 := ⟨by decide, by decide, 31, by decide +kernel, .inl mm_180⟩
theorem i_GW_many_4 : mj_Cv y_GW_many 4 y_View_refresh 6 0 := ⟨by decide, rfl, mt_View_refresh, 172, by decide +kernel, mm_460, mm_461, mm_462⟩
theorem i_GW_many_7 : mj_Ld y_GW_many 7 1 0 2 := .inr (.inr ⟨rfl, .inr ⟨rfl, 0, rfl, by decide +kernel⟩⟩)
theorem i_GW_many_8 : mj_Gf y_GW_many 8 7 4 := ⟨by decide, by decide, 40, by decide +kernel, .inl mm_181⟩
theorem i_GW_many_11 : mj_Cv y_GW_many 11 y_Choice_solve 0 0 := ⟨by decide, rfl, mt_Choice_solve, 192, by decide +kernel, mm_543, mm_544, mm_545⟩
theorem i_GW_many_14 : mj_Ld y_GW_many 14 1 0 2 := .inr (.inr ⟨rfl, .inr ⟨rfl, 0, rfl, by decide +kernel⟩⟩)
theorem i_GW_many_15 : mj_Gf y_GW_many 15 7 4 := ⟨by decide, by decide, 40, by decide +kernel, .inl mm_181⟩
theorem i_GW_many_18 : mj_Gf y_GW_many 18 0 10 := ⟨by decide, by decide, 201, by decide +kernel, .inr ⟨"GalleryWatch", mm_105⟩⟩
theorem i_GW_many_21 : decode y_GW_many.2.1 21 = .ok (.ireturn, 1) := by decide +kernel
theorem i_GW_only_0 : mj_Ld y_GW_only 0 1 0 2 := .inr (.inr ⟨rfl, .inr ⟨rfl, 0, rfl, by decide +kernel⟩⟩)
theorem i_GW_only_1 : mj_Gf y_GW_only 1 7 3 := ⟨by decide, by decide, 31, by decide +kernel, .inl mm_180⟩
theorem i_GW_only_4 : mj_Cv y_GW_only 4 y_View_refresh 6 0 := ⟨by decide, rfl, mt_View_refresh, 172, by decide +kernel, mm_460, mm_461, mm_462⟩
theorem i_GW_only_7 : mj_Ld y_GW_only 7 1 0 2 := .inr (.inr ⟨rfl, .inr ⟨rfl, 0, rfl, by decide +kernel⟩⟩)
theorem i_GW_only_8 : mj_Gf y_GW_only 8 7 0 := ⟨by decide, by decide, 17, by decide +kernel, .inl mm_177⟩
theorem i_GW_only_11 : mj_Cv y_GW_only 11 y_Room_allPosts 4 0 := ⟨by decide, rfl, mt_Room_allPosts, 204, by decide +kernel, mm_586, mm_518, mm_519⟩
theorem i_GW_only_14 : mj_St y_GW_only 14 1 1 0 := .inl ⟨rfl, .inr ⟨rfl, 1, rfl, by decide +kernel⟩⟩
theorem i_GW_only_15 : mj_Ld y_GW_only 15 1 0 2 := .inr (.inr ⟨rfl, .inr ⟨rfl, 0, rfl, by decide +kernel⟩⟩)
theorem i_GW_only_16 : mj_Gf y_GW_only 16 7 3 := ⟨by decide, by decide, 31, by decide +kernel, .inl mm_180⟩
theorem i_GW_only_19 : mj_Ld y_GW_only 19 1 1 0 := .inl ⟨rfl, .inr ⟨rfl, 1, rfl, by decide +kernel⟩⟩
theorem i_GW_only_20 : mj_Cv y_GW_only 20 y_View_leastUnwatched 6 1 := ⟨by decide, rfl, mt_View_leastUnwatched, 185, by decide +kernel, mm_521, mm_522, mm_523⟩
theorem i_GW_only_23 : mj_Kc y_GW_only 23 2 (.int (-2000000005)) := .inr (.inr (.inr (.inl ⟨188, (-2000000005), by decide +kernel, rfl, rfl, mm_355⟩)))
theorem i_GW_only_25 : mj_Ic y_GW_only 25 31 (fun (a b : Int32) => a = b) := ⟨6, by decide, .inl ⟨by decide +kernel, rfl⟩⟩
theorem i_GW_only_28 : mj_Kc y_GW_only 28 2 (.int (-2000000005)) := .inr (.inr (.inr (.inl ⟨188, (-2000000005), by decide +kernel, rfl, rfl, mm_355⟩)))
theorem i_GW_only_30 : decode y_GW_only.2.1 30 = .ok (.ireturn, 1) := by decide +kernel
theorem i_GW_only_31 : mj_Ld y_GW_only 31 1 1 0 := .inl ⟨rfl, .inr ⟨rfl, 1, rfl, by decide +kernel⟩⟩
theorem i_GW_only_32 : mj_Ld y_GW_only 32 1 0 2 := .inr (.inr ⟨rfl, .inr ⟨rfl, 0, rfl, by decide +kernel⟩⟩)
theorem i_GW_only_33 : mj_Gf y_GW_only 33 7 3 := ⟨by decide, by decide, 31, by decide +kernel, .inl mm_180⟩
theorem i_GW_only_36 : mj_Ld y_GW_only 36 1 1 0 := .inl ⟨rfl, .inr ⟨rfl, 1, rfl, by decide +kernel⟩⟩
theorem i_GW_only_37 : mj_Cv y_GW_only 37 y_View_sparedOf 6 1 := ⟨by decide, rfl, mt_View_sparedOf, 189, by decide +kernel, mm_534, mm_535, mm_536⟩
theorem i_GW_only_40 : mj_Kc y_GW_only 40 1 (.int (-1)) := .inl ⟨(-1), by decide +kernel, rfl, by decide +kernel⟩
theorem i_GW_only_41 : mj_B2 y_GW_only 41 (fun (a b : Int32) => a ^^^ b) := .inr (.inr (.inr (.inr (.inr (.inl ⟨by decide +kernel, rfl⟩)))))
theorem i_GW_only_42 : mj_B2 y_GW_only 42 (fun (a b : Int32) => a &&& b) := .inr (.inr (.inr (.inl ⟨by decide +kernel, rfl⟩)))
theorem i_GW_only_43 : decode y_GW_only.2.1 43 = .ok (.ireturn, 1) := by decide +kernel
theorem i_GW_sneak_0 : mj_Ld y_GW_sneak 0 1 0 2 := .inr (.inr ⟨rfl, .inr ⟨rfl, 0, rfl, by decide +kernel⟩⟩)
theorem i_GW_sneak_1 : mj_Gf y_GW_sneak 1 7 0 := ⟨by decide, by decide, 17, by decide +kernel, .inl mm_177⟩
theorem i_GW_sneak_4 : mj_Ld y_GW_sneak 4 1 1 0 := .inl ⟨rfl, .inr ⟨rfl, 1, rfl, by decide +kernel⟩⟩
theorem i_GW_sneak_5 : mj_Cv y_GW_sneak 5 y_Room_hasCell 4 1 := ⟨by decide, rfl, mt_Room_hasCell, 77, by decide +kernel, mm_242, mm_243, mm_244⟩
theorem i_GW_sneak_8 : mj_If y_GW_sneak 8 22 (fun (a : Int32) => a = 0) := ⟨14, by decide, .inl ⟨by decide +kernel, rfl⟩⟩
theorem i_GW_sneak_11 : mj_Ld y_GW_sneak 11 1 0 2 := .inr (.inr ⟨rfl, .inr ⟨rfl, 0, rfl, by decide +kernel⟩⟩)
theorem i_GW_sneak_12 : mj_Gf y_GW_sneak 12 7 0 := ⟨by decide, by decide, 17, by decide +kernel, .inl mm_177⟩
theorem i_GW_sneak_15 : mj_Ld y_GW_sneak 15 1 2 0 := .inl ⟨rfl, .inr ⟨rfl, 2, rfl, by decide +kernel⟩⟩
theorem i_GW_sneak_16 : mj_Cv y_GW_sneak 16 y_Room_hasCell 4 1 := ⟨by decide, rfl, mt_Room_hasCell, 77, by decide +kernel, mm_242, mm_243, mm_244⟩
theorem i_GW_sneak_19 : mj_If y_GW_sneak 19 25 (fun (a : Int32) => ¬ a = 0) := ⟨6, by decide, .inr (.inl ⟨by decide +kernel, rfl⟩)⟩
theorem i_GW_sneak_22 : mj_Kc y_GW_sneak 22 2 (.int (-2000000001)) := .inr (.inr (.inr (.inl ⟨62, (-2000000001), by decide +kernel, rfl, rfl, mm_206⟩)))
theorem i_GW_sneak_24 : decode y_GW_sneak.2.1 24 = .ok (.ireturn, 1) := by decide +kernel
theorem i_GW_sneak_25 : mj_Ld y_GW_sneak 25 1 0 2 := .inr (.inr ⟨rfl, .inr ⟨rfl, 0, rfl, by decide +kernel⟩⟩)
theorem i_GW_sneak_26 : mj_Gf y_GW_sneak 26 7 3 := ⟨by decide, by decide, 31, by decide +kernel, .inl mm_180⟩
theorem i_GW_sneak_29 : mj_Cv y_GW_sneak 29 y_View_refresh 6 0 := ⟨by decide, rfl, mt_View_refresh, 172, by decide +kernel, mm_460, mm_461, mm_462⟩
theorem i_GW_sneak_32 : mj_Ld y_GW_sneak 32 1 0 2 := .inr (.inr ⟨rfl, .inr ⟨rfl, 0, rfl, by decide +kernel⟩⟩)
theorem i_GW_sneak_33 : mj_Gf y_GW_sneak 33 7 5 := ⟨by decide, by decide, 47, by decide +kernel, .inl mm_182⟩
theorem i_GW_sneak_36 : mj_Ld y_GW_sneak 36 1 1 0 := .inl ⟨rfl, .inr ⟨rfl, 1, rfl, by decide +kernel⟩⟩
theorem i_GW_sneak_37 : mj_Ld y_GW_sneak 37 1 2 0 := .inl ⟨rfl, .inr ⟨rfl, 2, rfl, by decide +kernel⟩⟩
theorem i_GW_sneak_38 : mj_Cv y_GW_sneak 38 y_Shade_stepsBetween 5 2 := ⟨by decide, rfl, mt_Shade_stepsBetween, 207, by decide +kernel, mm_591, mm_592, mm_593⟩
theorem i_GW_sneak_41 : decode y_GW_sneak.2.1 41 = .ok (.ireturn, 1) := by decide +kernel
theorem i_GW_way_0 : mj_Ld y_GW_way 0 1 0 2 := .inr (.inr ⟨rfl, .inr ⟨rfl, 0, rfl, by decide +kernel⟩⟩)
theorem i_GW_way_1 : mj_Gf y_GW_way 1 7 0 := ⟨by decide, by decide, 17, by decide +kernel, .inl mm_177⟩
theorem i_GW_way_4 : mj_Ld y_GW_way 4 1 1 0 := .inl ⟨rfl, .inr ⟨rfl, 1, rfl, by decide +kernel⟩⟩
theorem i_GW_way_5 : mj_Cv y_GW_way 5 y_Room_hasCell 4 1 := ⟨by decide, rfl, mt_Room_hasCell, 77, by decide +kernel, mm_242, mm_243, mm_244⟩
theorem i_GW_way_8 : mj_If y_GW_way 8 26 (fun (a : Int32) => a = 0) := ⟨18, by decide, .inl ⟨by decide +kernel, rfl⟩⟩
theorem i_GW_way_11 : mj_Ld y_GW_way 11 1 0 2 := .inr (.inr ⟨rfl, .inr ⟨rfl, 0, rfl, by decide +kernel⟩⟩)
theorem i_GW_way_12 : mj_Gf y_GW_way 12 7 0 := ⟨by decide, by decide, 17, by decide +kernel, .inl mm_177⟩
theorem i_GW_way_15 : mj_Ld y_GW_way 15 1 2 0 := .inl ⟨rfl, .inr ⟨rfl, 2, rfl, by decide +kernel⟩⟩
theorem i_GW_way_16 : mj_Cv y_GW_way 16 y_Room_hasCell 4 1 := ⟨by decide, rfl, mt_Room_hasCell, 77, by decide +kernel, mm_242, mm_243, mm_244⟩
theorem i_GW_way_19 : mj_If y_GW_way 19 26 (fun (a : Int32) => a = 0) := ⟨7, by decide, .inl ⟨by decide +kernel, rfl⟩⟩
theorem i_GW_way_22 : mj_Ld y_GW_way 22 1 3 0 := .inl ⟨rfl, .inr ⟨rfl, 3, rfl, by decide +kernel⟩⟩
theorem i_GW_way_23 : mj_If y_GW_way 23 29 (fun (a : Int32) => 0 ≤ a) := ⟨6, by decide, .inr (.inr (.inr (.inl ⟨by decide +kernel, rfl⟩)))⟩
theorem i_GW_way_26 : mj_Kc y_GW_way 26 2 (.int (-2000000001)) := .inr (.inr (.inr (.inl ⟨62, (-2000000001), by decide +kernel, rfl, rfl, mm_206⟩)))
theorem i_GW_way_28 : decode y_GW_way.2.1 28 = .ok (.ireturn, 1) := by decide +kernel
theorem i_GW_way_29 : mj_Ld y_GW_way 29 1 0 2 := .inr (.inr ⟨rfl, .inr ⟨rfl, 0, rfl, by decide +kernel⟩⟩)
theorem i_GW_way_30 : mj_Gf y_GW_way 30 7 3 := ⟨by decide, by decide, 31, by decide +kernel, .inl mm_180⟩
theorem i_GW_way_33 : mj_Cv y_GW_way 33 y_View_refresh 6 0 := ⟨by decide, rfl, mt_View_refresh, 172, by decide +kernel, mm_460, mm_461, mm_462⟩
theorem i_GW_way_36 : mj_Ld y_GW_way 36 1 0 2 := .inr (.inr ⟨rfl, .inr ⟨rfl, 0, rfl, by decide +kernel⟩⟩)
theorem i_GW_way_37 : mj_Gf y_GW_way 37 7 5 := ⟨by decide, by decide, 47, by decide +kernel, .inl mm_182⟩
theorem i_GW_way_40 : mj_Ld y_GW_way 40 1 1 0 := .inl ⟨rfl, .inr ⟨rfl, 1, rfl, by decide +kernel⟩⟩
theorem i_GW_way_41 : mj_Ld y_GW_way 41 1 2 0 := .inl ⟨rfl, .inr ⟨rfl, 2, rfl, by decide +kernel⟩⟩
theorem i_GW_way_42 : mj_Ld y_GW_way 42 1 3 0 := .inl ⟨rfl, .inr ⟨rfl, 3, rfl, by decide +kernel⟩⟩
theorem i_GW_way_43 : mj_Cv y_GW_way 43 y_Shade_cellOnWay 5 3 := ⟨by decide, rfl, mt_Shade_cellOnWay, 211, by decide +kernel, mm_618, mm_619, mm_620⟩
theorem i_GW_way_46 : decode y_GW_way.2.1 46 = .ok (.ireturn, 1) := by decide +kernel
theorem i_GW_hides_0 : mj_Ld y_GW_hides 0 1 0 2 := .inr (.inr ⟨rfl, .inr ⟨rfl, 0, rfl, by decide +kernel⟩⟩)
theorem i_GW_hides_1 : mj_Gf y_GW_hides 1 7 3 := ⟨by decide, by decide, 31, by decide +kernel, .inl mm_180⟩
theorem i_GW_hides_4 : mj_Cv y_GW_hides 4 y_View_refresh 6 0 := ⟨by decide, rfl, mt_View_refresh, 172, by decide +kernel, mm_460, mm_461, mm_462⟩
theorem i_GW_hides_7 : mj_Ld y_GW_hides 7 1 0 2 := .inr (.inr ⟨rfl, .inr ⟨rfl, 0, rfl, by decide +kernel⟩⟩)
theorem i_GW_hides_8 : mj_Gf y_GW_hides 8 7 5 := ⟨by decide, by decide, 47, by decide +kernel, .inl mm_182⟩
theorem i_GW_hides_11 : mj_Cv y_GW_hides 11 y_Shade_parts 5 0 := ⟨by decide, rfl, mt_Shade_parts, 214, by decide +kernel, mm_631, mm_632, mm_633⟩
theorem i_GW_hides_14 : decode y_GW_hides.2.1 14 = .ok (.ireturn, 1) := by decide +kernel
theorem i_GW_tree_0 : mj_Ld y_GW_tree 0 1 1 0 := .inl ⟨rfl, .inr ⟨rfl, 1, rfl, by decide +kernel⟩⟩
theorem i_GW_tree_1 : mj_Kc y_GW_tree 1 1 (.int 0) := .inl ⟨0, by decide +kernel, rfl, by decide +kernel⟩
theorem i_GW_tree_2 : mj_Kc y_GW_tree 2 2 (.int 6) := .inr (.inl ⟨6, by decide +kernel, rfl, by decide +kernel⟩)
theorem i_GW_tree_4 : mj_Cs y_GW_tree 4 y_GW_isWithin 3 := ⟨mt_GW_isWithin, 58, by decide +kernel, mm_204, .inl mm_203⟩
theorem i_GW_tree_7 : mj_If y_GW_tree 7 13 (fun (a : Int32) => ¬ a = 0) := ⟨6, by decide, .inr (.inl ⟨by decide +kernel, rfl⟩)⟩
theorem i_GW_tree_10 : mj_Kc y_GW_tree 10 2 (.int (-2000000001)) := .inr (.inr (.inr (.inl ⟨62, (-2000000001), by decide +kernel, rfl, rfl, mm_206⟩)))
theorem i_GW_tree_12 : decode y_GW_tree.2.1 12 = .ok (.ireturn, 1) := by decide +kernel
theorem i_GW_tree_13 : mj_Ld y_GW_tree 13 1 0 2 := .inr (.inr ⟨rfl, .inr ⟨rfl, 0, rfl, by decide +kernel⟩⟩)
theorem i_GW_tree_14 : mj_Gf y_GW_tree 14 7 3 := ⟨by decide, by decide, 31, by decide +kernel, .inl mm_180⟩
theorem i_GW_tree_17 : mj_Cv y_GW_tree 17 y_View_refresh 6 0 := ⟨by decide, rfl, mt_View_refresh, 172, by decide +kernel, mm_460, mm_461, mm_462⟩
theorem i_GW_tree_20 : mj_Ld y_GW_tree 20 1 0 2 := .inr (.inr ⟨rfl, .inr ⟨rfl, 0, rfl, by decide +kernel⟩⟩)
theorem i_GW_tree_21 : mj_Gf y_GW_tree 21 7 4 := ⟨by decide, by decide, 40, by decide +kernel, .inl mm_181⟩
theorem i_GW_tree_24 : mj_Cv y_GW_tree 24 y_Choice_solve 0 0 := ⟨by decide, rfl, mt_Choice_solve, 192, by decide +kernel, mm_543, mm_544, mm_545⟩
theorem i_GW_tree_27 : mj_Ld y_GW_tree 27 1 0 2 := .inr (.inr ⟨rfl, .inr ⟨rfl, 0, rfl, by decide +kernel⟩⟩)
theorem i_GW_tree_28 : mj_Gf y_GW_tree 28 7 4 := ⟨by decide, by decide, 40, by decide +kernel, .inl mm_181⟩
theorem i_GW_tree_31 : mj_Gf y_GW_tree 31 0 8 := ⟨by decide, by decide, 195, by decide +kernel, .inr ⟨"GalleryWatch", mm_101⟩⟩
theorem i_GW_tree_34 : mj_Kc y_GW_tree 34 2 (.int (-2000000005)) := .inr (.inr (.inr (.inl ⟨188, (-2000000005), by decide +kernel, rfl, rfl, mm_355⟩)))
theorem i_GW_tree_36 : mj_Ic y_GW_tree 36 53 (fun (a b : Int32) => a = b) := ⟨17, by decide, .inl ⟨by decide +kernel, rfl⟩⟩
theorem i_GW_tree_39 : mj_Ld y_GW_tree 39 1 0 2 := .inr (.inr ⟨rfl, .inr ⟨rfl, 0, rfl, by decide +kernel⟩⟩)
theorem i_GW_tree_40 : mj_Gf y_GW_tree 40 7 4 := ⟨by decide, by decide, 40, by decide +kernel, .inl mm_181⟩
theorem i_GW_tree_43 : mj_Gf y_GW_tree 43 0 8 := ⟨by decide, by decide, 195, by decide +kernel, .inr ⟨"GalleryWatch", mm_101⟩⟩
theorem i_GW_tree_46 : mj_Ld y_GW_tree 46 1 1 0 := .inl ⟨rfl, .inr ⟨rfl, 1, rfl, by decide +kernel⟩⟩
theorem i_GW_tree_47 : mj_Ic y_GW_tree 47 53 (fun (a b : Int32) => b < a) := ⟨6, by decide, .inr (.inr (.inr (.inr (.inl ⟨by decide +kernel, rfl⟩))))⟩
theorem i_GW_tree_50 : mj_Kc y_GW_tree 50 2 (.int (-2000000002)) := .inr (.inr (.inr (.inl ⟨92, (-2000000002), by decide +kernel, rfl, rfl, mm_304⟩)))
theorem i_GW_tree_52 : decode y_GW_tree.2.1 52 = .ok (.ireturn, 1) := by decide +kernel
theorem i_GW_tree_53 : mj_Ld y_GW_tree 53 1 0 2 := .inr (.inr ⟨rfl, .inr ⟨rfl, 0, rfl, by decide +kernel⟩⟩)
theorem i_GW_tree_54 : mj_Gf y_GW_tree 54 7 6 := ⟨by decide, by decide, 54, by decide +kernel, .inl mm_183⟩
theorem i_GW_tree_57 : mj_Ld y_GW_tree 57 1 1 0 := .inl ⟨rfl, .inr ⟨rfl, 1, rfl, by decide +kernel⟩⟩
theorem i_GW_tree_58 : mj_Cv y_GW_tree 58 y_Proof_make 3 1 := ⟨by decide, rfl, mt_Proof_make, 217, by decide +kernel, mm_639, mm_640, mm_641⟩
theorem i_GW_tree_61 : decode y_GW_tree.2.1 61 = .ok (.ireturn, 1) := by decide +kernel
theorem i_GW_row_0 : mj_Ld y_GW_row 0 1 0 2 := .inr (.inr ⟨rfl, .inr ⟨rfl, 0, rfl, by decide +kernel⟩⟩)
theorem i_GW_row_1 : mj_Gf y_GW_row 1 7 6 := ⟨by decide, by decide, 54, by decide +kernel, .inl mm_183⟩
theorem i_GW_row_4 : mj_Cv y_GW_row 4 y_Proof_rows 3 0 := ⟨by decide, rfl, mt_Proof_rows, 220, by decide +kernel, mm_659, mm_660, mm_661⟩
theorem i_GW_row_7 : mj_If y_GW_row 7 13 (fun (a : Int32) => ¬ a = 0) := ⟨6, by decide, .inr (.inl ⟨by decide +kernel, rfl⟩)⟩
theorem i_GW_row_10 : mj_Kc y_GW_row 10 2 (.int (-2000000002)) := .inr (.inr (.inr (.inl ⟨92, (-2000000002), by decide +kernel, rfl, rfl, mm_304⟩)))
theorem i_GW_row_12 : decode y_GW_row.2.1 12 = .ok (.ireturn, 1) := by decide +kernel
theorem i_GW_row_13 : mj_Ld y_GW_row 13 1 0 2 := .inr (.inr ⟨rfl, .inr ⟨rfl, 0, rfl, by decide +kernel⟩⟩)
theorem i_GW_row_14 : mj_Gf y_GW_row 14 7 6 := ⟨by decide, by decide, 54, by decide +kernel, .inl mm_183⟩
theorem i_GW_row_17 : mj_Ld y_GW_row 17 1 1 0 := .inl ⟨rfl, .inr ⟨rfl, 1, rfl, by decide +kernel⟩⟩
theorem i_GW_row_18 : mj_Cv y_GW_row 18 y_Proof_hasRow 3 1 := ⟨by decide, rfl, mt_Proof_hasRow, 223, by decide +kernel, mm_663, mm_664, mm_665⟩
theorem i_GW_row_21 : mj_If y_GW_row 21 27 (fun (a : Int32) => ¬ a = 0) := ⟨6, by decide, .inr (.inl ⟨by decide +kernel, rfl⟩)⟩
theorem i_GW_row_24 : mj_Kc y_GW_row 24 2 (.int (-2000000001)) := .inr (.inr (.inr (.inl ⟨62, (-2000000001), by decide +kernel, rfl, rfl, mm_206⟩)))
theorem i_GW_row_26 : decode y_GW_row.2.1 26 = .ok (.ireturn, 1) := by decide +kernel
theorem i_GW_row_27 : mj_Ld y_GW_row 27 1 2 0 := .inl ⟨rfl, .inr ⟨rfl, 2, rfl, by decide +kernel⟩⟩
theorem i_GW_row_28_d : decode y_GW_row.2.1 28 = .ok (.tableswitch 68 0 3 #[32, 41, 50, 59], 32) := by decide +kernel
theorem i_GW_row_28_o {k : Int32} (h : k.toInt < 0 ∨ 3 < k.toInt) : mj_Sw y_GW_row 28 k 96 := ⟨_, _, _, _, _, i_GW_row_28_d, .inl ⟨h, by decide⟩⟩
theorem i_GW_row_28_0 : mj_Sw y_GW_row 28 0 60 := ⟨_, _, _, _, _, i_GW_row_28_d, .inr ⟨by decide, by decide, 32, by decide, by decide⟩⟩
theorem i_GW_row_28_1 : mj_Sw y_GW_row 28 1 69 := ⟨_, _, _, _, _, i_GW_row_28_d, .inr ⟨by decide, by decide, 41, by decide, by decide⟩⟩
theorem i_GW_row_28_2 : mj_Sw y_GW_row 28 2 78 := ⟨_, _, _, _, _, i_GW_row_28_d, .inr ⟨by decide, by decide, 50, by decide, by decide⟩⟩
theorem i_GW_row_28_3 : mj_Sw y_GW_row 28 3 87 := ⟨_, _, _, _, _, i_GW_row_28_d, .inr ⟨by decide, by decide, 59, by decide, by decide⟩⟩
theorem i_GW_row_60 : mj_Ld y_GW_row 60 1 0 2 := .inr (.inr ⟨rfl, .inr ⟨rfl, 0, rfl, by decide +kernel⟩⟩)
theorem i_GW_row_61 : mj_Gf y_GW_row 61 7 6 := ⟨by decide, by decide, 54, by decide +kernel, .inl mm_183⟩
theorem i_GW_row_64 : mj_Ld y_GW_row 64 1 1 0 := .inl ⟨rfl, .inr ⟨rfl, 1, rfl, by decide +kernel⟩⟩
theorem i_GW_row_65 : mj_Cv y_GW_row 65 y_Proof_cellOf 3 1 := ⟨by decide, rfl, mt_Proof_cellOf, 226, by decide +kernel, mm_667, mm_668, mm_669⟩
theorem i_GW_row_68 : decode y_GW_row.2.1 68 = .ok (.ireturn, 1) := by decide +kernel
theorem i_GW_row_69 : mj_Ld y_GW_row 69 1 0 2 := .inr (.inr ⟨rfl, .inr ⟨rfl, 0, rfl, by decide +kernel⟩⟩)
theorem i_GW_row_70 : mj_Gf y_GW_row 70 7 6 := ⟨by decide, by decide, 54, by decide +kernel, .inl mm_183⟩
theorem i_GW_row_73 : mj_Ld y_GW_row 73 1 1 0 := .inl ⟨rfl, .inr ⟨rfl, 1, rfl, by decide +kernel⟩⟩
theorem i_GW_row_74 : mj_Cv y_GW_row 74 y_Proof_aboveOf 3 1 := ⟨by decide, rfl, mt_Proof_aboveOf, 229, by decide +kernel, mm_672, mm_673, mm_674⟩
theorem i_GW_row_77 : decode y_GW_row.2.1 77 = .ok (.ireturn, 1) := by decide +kernel
theorem i_GW_row_78 : mj_Ld y_GW_row 78 1 0 2 := .inr (.inr ⟨rfl, .inr ⟨rfl, 0, rfl, by decide +kernel⟩⟩)
theorem i_GW_row_79 : mj_Gf y_GW_row 79 7 6 := ⟨by decide, by decide, 54, by decide +kernel, .inl mm_183⟩
theorem i_GW_row_82 : mj_Ld y_GW_row 82 1 1 0 := .inl ⟨rfl, .inr ⟨rfl, 1, rfl, by decide +kernel⟩⟩
theorem i_GW_row_83 : mj_Cv y_GW_row 83 y_Proof_comerOf 3 1 := ⟨by decide, rfl, mt_Proof_comerOf, 232, by decide +kernel, mm_676, mm_677, mm_678⟩
theorem i_GW_row_86 : decode y_GW_row.2.1 86 = .ok (.ireturn, 1) := by decide +kernel
theorem i_GW_row_87 : mj_Ld y_GW_row 87 1 0 2 := .inr (.inr ⟨rfl, .inr ⟨rfl, 0, rfl, by decide +kernel⟩⟩)
theorem i_GW_row_88 : mj_Gf y_GW_row 88 7 6 := ⟨by decide, by decide, 54, by decide +kernel, .inl mm_183⟩
theorem i_GW_row_91 : mj_Ld y_GW_row 91 1 1 0 := .inl ⟨rfl, .inr ⟨rfl, 1, rfl, by decide +kernel⟩⟩
theorem i_GW_row_92 : mj_Cv y_GW_row 92 y_Proof_rowsBelow 3 1 := ⟨by decide, rfl, mt_Proof_rowsBelow, 235, by decide +kernel, mm_680, mm_681, mm_682⟩
theorem i_GW_row_95 : decode y_GW_row.2.1 95 = .ok (.ireturn, 1) := by decide +kernel
theorem i_GW_row_96 : mj_Kc y_GW_row 96 2 (.int (-2000000001)) := .inr (.inr (.inr (.inl ⟨62, (-2000000001), by decide +kernel, rfl, rfl, mm_206⟩)))
theorem i_GW_row_98 : decode y_GW_row.2.1 98 = .ok (.ireturn, 1) := by decide +kernel
theorem i_GW_forge_0 : mj_Ld y_GW_forge 0 1 0 2 := .inr (.inr ⟨rfl, .inr ⟨rfl, 0, rfl, by decide +kernel⟩⟩)
theorem i_GW_forge_1 : mj_Gf y_GW_forge 1 7 6 := ⟨by decide, by decide, 54, by decide +kernel, .inl mm_183⟩
theorem i_GW_forge_4 : mj_Cv y_GW_forge 4 y_Proof_rows 3 0 := ⟨by decide, rfl, mt_Proof_rows, 220, by decide +kernel, mm_659, mm_660, mm_661⟩
theorem i_GW_forge_7 : mj_If y_GW_forge 7 13 (fun (a : Int32) => ¬ a = 0) := ⟨6, by decide, .inr (.inl ⟨by decide +kernel, rfl⟩)⟩
theorem i_GW_forge_10 : mj_Kc y_GW_forge 10 2 (.int (-2000000002)) := .inr (.inr (.inr (.inl ⟨92, (-2000000002), by decide +kernel, rfl, rfl, mm_304⟩)))
theorem i_GW_forge_12 : decode y_GW_forge.2.1 12 = .ok (.ireturn, 1) := by decide +kernel
theorem i_GW_forge_13 : mj_Ld y_GW_forge 13 1 0 2 := .inr (.inr ⟨rfl, .inr ⟨rfl, 0, rfl, by decide +kernel⟩⟩)
theorem i_GW_forge_14 : mj_Gf y_GW_forge 14 7 6 := ⟨by decide, by decide, 54, by decide +kernel, .inl mm_183⟩
theorem i_GW_forge_17 : mj_Ld y_GW_forge 17 1 1 0 := .inl ⟨rfl, .inr ⟨rfl, 1, rfl, by decide +kernel⟩⟩
theorem i_GW_forge_18 : mj_Cv y_GW_forge 18 y_Proof_hasRow 3 1 := ⟨by decide, rfl, mt_Proof_hasRow, 223, by decide +kernel, mm_663, mm_664, mm_665⟩
theorem i_GW_forge_21 : mj_If y_GW_forge 21 35 (fun (a : Int32) => a = 0) := ⟨14, by decide, .inl ⟨by decide +kernel, rfl⟩⟩
theorem i_GW_forge_24 : mj_Ld y_GW_forge 24 1 0 2 := .inr (.inr ⟨rfl, .inr ⟨rfl, 0, rfl, by decide +kernel⟩⟩)
theorem i_GW_forge_25 : mj_Gf y_GW_forge 25 7 0 := ⟨by decide, by decide, 17, by decide +kernel, .inl mm_177⟩
theorem i_GW_forge_28 : mj_Ld y_GW_forge 28 1 2 0 := .inl ⟨rfl, .inr ⟨rfl, 2, rfl, by decide +kernel⟩⟩
theorem i_GW_forge_29 : mj_Cv y_GW_forge 29 y_Room_hasCell 4 1 := ⟨by decide, rfl, mt_Room_hasCell, 77, by decide +kernel, mm_242, mm_243, mm_244⟩
theorem i_GW_forge_32 : mj_If y_GW_forge 32 38 (fun (a : Int32) => ¬ a = 0) := ⟨6, by decide, .inr (.inl ⟨by decide +kernel, rfl⟩)⟩
theorem i_GW_forge_35 : mj_Kc y_GW_forge 35 2 (.int (-2000000001)) := .inr (.inr (.inr (.inl ⟨62, (-2000000001), by decide +kernel, rfl, rfl, mm_206⟩)))
theorem i_GW_forge_37 : decode y_GW_forge.2.1 37 = .ok (.ireturn, 1) := by decide +kernel
theorem i_GW_forge_38 : mj_Ld y_GW_forge 38 1 0 2 := .inr (.inr ⟨rfl, .inr ⟨rfl, 0, rfl, by decide +kernel⟩⟩)
theorem i_GW_forge_39 : mj_Gf y_GW_forge 39 7 6 := ⟨by decide, by decide, 54, by decide +kernel, .inl mm_183⟩
theorem i_GW_forge_42 : mj_Ld y_GW_forge 42 1 1 0 := .inl ⟨rfl, .inr ⟨rfl, 1, rfl, by decide +kernel⟩⟩
theorem i_GW_forge_43 : mj_Ld y_GW_forge 43 1 2 0 := .inl ⟨rfl, .inr ⟨rfl, 2, rfl, by decide +kernel⟩⟩
theorem i_GW_forge_44 : mj_Cv y_GW_forge 44 y_Proof_replaceCell 3 2 := ⟨by decide, rfl, mt_Proof_replaceCell, 238, by decide +kernel, mm_694, mm_695, mm_696⟩
theorem i_GW_forge_47 : decode y_GW_forge.2.1 47 = .ok (.ireturn, 1) := by decide +kernel
theorem i_GW_check_0 : mj_Ld y_GW_check 0 1 0 2 := .inr (.inr ⟨rfl, .inr ⟨rfl, 0, rfl, by decide +kernel⟩⟩)
theorem i_GW_check_1 : mj_Gf y_GW_check 1 7 6 := ⟨by decide, by decide, 54, by decide +kernel, .inl mm_183⟩
theorem i_GW_check_4 : mj_Cv y_GW_check 4 y_Proof_rows 3 0 := ⟨by decide, rfl, mt_Proof_rows, 220, by decide +kernel, mm_659, mm_660, mm_661⟩
theorem i_GW_check_7 : mj_If y_GW_check 7 13 (fun (a : Int32) => ¬ a = 0) := ⟨6, by decide, .inr (.inl ⟨by decide +kernel, rfl⟩)⟩
theorem i_GW_check_10 : mj_Kc y_GW_check 10 2 (.int (-2000000002)) := .inr (.inr (.inr (.inl ⟨92, (-2000000002), by decide +kernel, rfl, rfl, mm_304⟩)))
theorem i_GW_check_12 : decode y_GW_check.2.1 12 = .ok (.ireturn, 1) := by decide +kernel
theorem i_GW_check_13 : mj_Ld y_GW_check 13 1 0 2 := .inr (.inr ⟨rfl, .inr ⟨rfl, 0, rfl, by decide +kernel⟩⟩)
theorem i_GW_check_14 : mj_Gf y_GW_check 14 7 3 := ⟨by decide, by decide, 31, by decide +kernel, .inl mm_180⟩
theorem i_GW_check_17 : mj_Cv y_GW_check 17 y_View_refresh 6 0 := ⟨by decide, rfl, mt_View_refresh, 172, by decide +kernel, mm_460, mm_461, mm_462⟩
theorem i_GW_check_20 : mj_Ld y_GW_check 20 1 0 2 := .inr (.inr ⟨rfl, .inr ⟨rfl, 0, rfl, by decide +kernel⟩⟩)
theorem i_GW_check_21 : mj_Gf y_GW_check 21 7 6 := ⟨by decide, by decide, 54, by decide +kernel, .inl mm_183⟩
theorem i_GW_check_24 : mj_Cv y_GW_check 24 y_Proof_firstWrongRow 3 0 := ⟨by decide, rfl, mt_Proof_firstWrongRow, 241, by decide +kernel, mm_703, mm_704, mm_705⟩
theorem i_GW_check_27 : mj_St y_GW_check 27 1 1 0 := .inl ⟨rfl, .inr ⟨rfl, 1, rfl, by decide +kernel⟩⟩
theorem i_GW_check_28 : mj_Ld y_GW_check 28 1 1 0 := .inl ⟨rfl, .inr ⟨rfl, 1, rfl, by decide +kernel⟩⟩
theorem i_GW_check_29 : mj_Kc y_GW_check 29 2 (.int (-2000000005)) := .inr (.inr (.inr (.inl ⟨188, (-2000000005), by decide +kernel, rfl, rfl, mm_355⟩)))
theorem i_GW_check_31 : mj_Ic y_GW_check 31 38 (fun (a b : Int32) => ¬ a = b) := ⟨7, by decide, .inr (.inl ⟨by decide +kernel, rfl⟩)⟩
theorem i_GW_check_34 : mj_Kc y_GW_check 34 1 (.int 0) := .inl ⟨0, by decide +kernel, rfl, by decide +kernel⟩
theorem i_GW_check_35 : mj_Go y_GW_check 35 41 := ⟨6, by decide, by decide +kernel⟩
theorem i_GW_check_38 : mj_Kc y_GW_check 38 1 (.int 1) := .inl ⟨1, by decide +kernel, rfl, by decide +kernel⟩
theorem i_GW_check_39 : mj_Ld y_GW_check 39 1 1 0 := .inl ⟨rfl, .inr ⟨rfl, 1, rfl, by decide +kernel⟩⟩
theorem i_GW_check_40 : mj_B2 y_GW_check 40 (fun (a b : Int32) => a + b) := .inl ⟨by decide +kernel, rfl⟩
theorem i_GW_check_41 : decode y_GW_check.2.1 41 = .ok (.ireturn, 1) := by decide +kernel
theorem i_GW_count_0 : mj_Ld y_GW_count 0 1 1 0 := .inl ⟨rfl, .inr ⟨rfl, 1, rfl, by decide +kernel⟩⟩
theorem i_GW_count_1_d : decode y_GW_count.2.1 1 = .ok (.tableswitch 106 0 6 #[43, 51, 59, 67, 75, 83, 98], 43) := by decide +kernel
theorem i_GW_count_1_o {k : Int32} (h : k.toInt < 0 ∨ 6 < k.toInt) : mj_Sw y_GW_count 1 k 107 := ⟨_, _, _, _, _, i_GW_count_1_d, .inl ⟨h, by decide⟩⟩
theorem i_GW_count_1_0 : mj_Sw y_GW_count 1 0 44 := ⟨_, _, _, _, _, i_GW_count_1_d, .inr ⟨by decide, by decide, 43, by decide, by decide⟩⟩
theorem i_GW_count_1_1 : mj_Sw y_GW_count 1 1 52 := ⟨_, _, _, _, _, i_GW_count_1_d, .inr ⟨by decide, by decide, 51, by decide, by decide⟩⟩
theorem i_GW_count_1_2 : mj_Sw y_GW_count 1 2 60 := ⟨_, _, _, _, _, i_GW_count_1_d, .inr ⟨by decide, by decide, 59, by decide, by decide⟩⟩
theorem i_GW_count_1_3 : mj_Sw y_GW_count 1 3 68 := ⟨_, _, _, _, _, i_GW_count_1_d, .inr ⟨by decide, by decide, 67, by decide, by decide⟩⟩
theorem i_GW_count_1_4 : mj_Sw y_GW_count 1 4 76 := ⟨_, _, _, _, _, i_GW_count_1_d, .inr ⟨by decide, by decide, 75, by decide, by decide⟩⟩
theorem i_GW_count_1_5 : mj_Sw y_GW_count 1 5 84 := ⟨_, _, _, _, _, i_GW_count_1_d, .inr ⟨by decide, by decide, 83, by decide, by decide⟩⟩
theorem i_GW_count_1_6 : mj_Sw y_GW_count 1 6 99 := ⟨_, _, _, _, _, i_GW_count_1_d, .inr ⟨by decide, by decide, 98, by decide, by decide⟩⟩
theorem i_GW_count_44 : mj_Ld y_GW_count 44 1 0 2 := .inr (.inr ⟨rfl, .inr ⟨rfl, 0, rfl, by decide +kernel⟩⟩)
theorem i_GW_count_45 : mj_Gf y_GW_count 45 7 0 := ⟨by decide, by decide, 17, by decide +kernel, .inl mm_177⟩
theorem i_GW_count_48 : mj_Cv y_GW_count 48 y_Room_cells 4 0 := ⟨by decide, rfl, mt_Room_cells, 73, by decide +kernel, mm_234, mm_235, mm_236⟩
theorem i_GW_count_51 : decode y_GW_count.2.1 51 = .ok (.ireturn, 1) := by decide +kernel
theorem i_GW_count_52 : mj_Ld y_GW_count 52 1 0 2 := .inr (.inr ⟨rfl, .inr ⟨rfl, 0, rfl, by decide +kernel⟩⟩)
theorem i_GW_count_53 : mj_Gf y_GW_count 53 7 0 := ⟨by decide, by decide, 17, by decide +kernel, .inl mm_177⟩
theorem i_GW_count_56 : mj_Cv y_GW_count 56 y_Room_openCells 4 0 := ⟨by decide, rfl, mt_Room_openCells, 244, by decide +kernel, mm_716, mm_717, mm_718⟩
theorem i_GW_count_59 : decode y_GW_count.2.1 59 = .ok (.ireturn, 1) := by decide +kernel
theorem i_GW_count_60 : mj_Ld y_GW_count 60 1 0 2 := .inr (.inr ⟨rfl, .inr ⟨rfl, 0, rfl, by decide +kernel⟩⟩)
theorem i_GW_count_61 : mj_Gf y_GW_count 61 7 0 := ⟨by decide, by decide, 17, by decide +kernel, .inl mm_177⟩
theorem i_GW_count_64 : mj_Cv y_GW_count 64 y_Room_posts 4 0 := ⟨by decide, rfl, mt_Room_posts, 113, by decide +kernel, mm_343, mm_344, mm_345⟩
theorem i_GW_count_67 : decode y_GW_count.2.1 67 = .ok (.ireturn, 1) := by decide +kernel
theorem i_GW_count_68 : mj_Ld y_GW_count 68 1 0 2 := .inr (.inr ⟨rfl, .inr ⟨rfl, 0, rfl, by decide +kernel⟩⟩)
theorem i_GW_count_69 : mj_Gf y_GW_count 69 7 2 := ⟨by decide, by decide, 27, by decide +kernel, .inl mm_179⟩
theorem i_GW_count_72 : mj_Cv y_GW_count 72 y_Past_kept 1 0 := ⟨by decide, rfl, mt_Past_kept, 166, by decide +kernel, mm_448, mm_449, mm_450⟩
theorem i_GW_count_75 : decode y_GW_count.2.1 75 = .ok (.ireturn, 1) := by decide +kernel
theorem i_GW_count_76 : mj_Ld y_GW_count 76 1 0 2 := .inr (.inr ⟨rfl, .inr ⟨rfl, 0, rfl, by decide +kernel⟩⟩)
theorem i_GW_count_77 : mj_Gf y_GW_count 77 7 6 := ⟨by decide, by decide, 54, by decide +kernel, .inl mm_183⟩
theorem i_GW_count_80 : mj_Cv y_GW_count 80 y_Proof_rows 3 0 := ⟨by decide, rfl, mt_Proof_rows, 220, by decide +kernel, mm_659, mm_660, mm_661⟩
theorem i_GW_count_83 : decode y_GW_count.2.1 83 = .ok (.ireturn, 1) := by decide +kernel
theorem i_GW_count_84 : mj_Ld y_GW_count 84 1 0 2 := .inr (.inr ⟨rfl, .inr ⟨rfl, 0, rfl, by decide +kernel⟩⟩)
theorem i_GW_count_85 : mj_Gf y_GW_count 85 7 3 := ⟨by decide, by decide, 31, by decide +kernel, .inl mm_180⟩
theorem i_GW_count_88 : mj_Cv y_GW_count 88 y_View_refresh 6 0 := ⟨by decide, rfl, mt_View_refresh, 172, by decide +kernel, mm_460, mm_461, mm_462⟩
theorem i_GW_count_91 : mj_Ld y_GW_count 91 1 0 2 := .inr (.inr ⟨rfl, .inr ⟨rfl, 0, rfl, by decide +kernel⟩⟩)
theorem i_GW_count_92 : mj_Gf y_GW_count 92 7 3 := ⟨by decide, by decide, 31, by decide +kernel, .inl mm_180⟩
theorem i_GW_count_95 : mj_Cv y_GW_count 95 y_View_unseenCells 6 0 := ⟨by decide, rfl, mt_View_unseenCells, 247, by decide +kernel, mm_721, mm_722, mm_723⟩
theorem i_GW_count_98 : decode y_GW_count.2.1 98 = .ok (.ireturn, 1) := by decide +kernel
theorem i_GW_count_99 : mj_Ld y_GW_count 99 1 0 2 := .inr (.inr ⟨rfl, .inr ⟨rfl, 0, rfl, by decide +kernel⟩⟩)
theorem i_GW_count_100 : mj_Gf y_GW_count 100 7 0 := ⟨by decide, by decide, 17, by decide +kernel, .inl mm_177⟩
theorem i_GW_count_103 : mj_Gf y_GW_count 103 4 0 := ⟨by decide, by decide, 250, by decide +kernel, .inr ⟨"GalleryWatch", mm_31⟩⟩
theorem i_GW_count_106 : decode y_GW_count.2.1 106 = .ok (.ireturn, 1) := by decide +kernel
theorem i_GW_count_107 : mj_Kc y_GW_count 107 2 (.int (-2000000001)) := .inr (.inr (.inr (.inl ⟨62, (-2000000001), by decide +kernel, rfl, rfl, mm_206⟩)))
theorem i_GW_count_109 : decode y_GW_count.2.1 109 = .ok (.ireturn, 1) := by decide +kernel
