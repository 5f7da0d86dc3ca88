/-! what stands at each place of the methods: Integer Arrays Past Post Room -/
theorem i_Room_build_25 : mj_Mm y_Room_build 25 (fun (a b : Int32) => if a < b then b else a) := ⟨67, by decide +kernel, .inl ⟨mm_264, rfl⟩⟩
theorem i_Room_build_28 : mj_St y_Room_build 28 2 5 0 := .inl ⟨rfl, .inl ⟨rfl, by decide +kernel⟩⟩
theorem i_Room_build_30 : mj_Ld y_Room_build 30 1 0 2 := .inr (.inr ⟨rfl, .inr ⟨rfl, 0, rfl, by decide +kernel⟩⟩)
theorem i_Room_build_31 : mj_Ld y_Room_build 31 1 1 0 := .inl ⟨rfl, .inr ⟨rfl, 1, rfl, by decide +kernel⟩⟩
theorem i_Room_build_32 : mj_Cv y_Room_build 32 y_Room_columnOf 4 1 := ⟨by decide, rfl, mt_Room_columnOf, 58, by decide +kernel, mm_267, mm_268, mm_269⟩
theorem i_Room_build_35 : mj_Ld y_Room_build 35 1 0 2 := .inr (.inr ⟨rfl, .inr ⟨rfl, 0, rfl, by decide +kernel⟩⟩)
theorem i_Room_build_36 : mj_Ld y_Room_build 36 1 2 0 := .inl ⟨rfl, .inr ⟨rfl, 2, rfl, by decide +kernel⟩⟩
theorem i_Room_build_37 : mj_Cv y_Room_build 37 y_Room_columnOf 4 1 := ⟨by decide, rfl, mt_Room_columnOf, 58, by decide +kernel, mm_267, mm_268, mm_269⟩
theorem i_Room_build_40 : mj_Mm y_Room_build 40 (fun (a b : Int32) => if b < a then b else a) := ⟨61, by decide +kernel, .inr ⟨mm_261, rfl⟩⟩
theorem i_Room_build_43 : mj_St y_Room_build 43 2 6 0 := .inl ⟨rfl, .inl ⟨rfl, by decide +kernel⟩⟩
theorem i_Room_build_45 : mj_Ld y_Room_build 45 1 0 2 := .inr (.inr ⟨rfl, .inr ⟨rfl, 0, rfl, by decide +kernel⟩⟩)
theorem i_Room_build_46 : mj_Ld y_Room_build 46 1 1 0 := .inl ⟨rfl, .inr ⟨rfl, 1, rfl, by decide +kernel⟩⟩
theorem i_Room_build_47 : mj_Cv y_Room_build 47 y_Room_columnOf 4 1 := ⟨by decide, rfl, mt_Room_columnOf, 58, by decide +kernel, mm_267, mm_268, mm_269⟩
theorem i_Room_build_50 : mj_Ld y_Room_build 50 1 0 2 := .inr (.inr ⟨rfl, .inr ⟨rfl, 0, rfl, by decide +kernel⟩⟩)
theorem i_Room_build_51 : mj_Ld y_Room_build 51 1 2 0 := .inl ⟨rfl, .inr ⟨rfl, 2, rfl, by decide +kernel⟩⟩
theorem i_Room_build_52 : mj_Cv y_Room_build 52 y_Room_columnOf 4 1 := ⟨by decide, rfl, mt_Room_columnOf, 58, by decide +kernel, mm_267, mm_268, mm_269⟩
theorem i_Room_build_55 : mj_Mm y_Room_build 55 (fun (a b : Int32) => if a < b then b else a) := ⟨67, by decide +kernel, .inl ⟨mm_264, rfl⟩⟩
theorem i_Room_build_58 : mj_St y_Room_build 58 2 7 0 := .inl ⟨rfl, .inl ⟨rfl, by decide +kernel⟩⟩
theorem i_Room_build_60 : mj_Kc y_Room_build 60 1 (.int 0) := .inl ⟨0, by decide +kernel, rfl, by decide +kernel⟩
theorem i_Room_build_61 : mj_St y_Room_build 61 2 8 0 := .inl ⟨rfl, .inl ⟨rfl, by decide +kernel⟩⟩
theorem i_Room_build_63 : mj_Ld y_Room_build 63 2 4 0 := .inl ⟨rfl, .inl ⟨rfl, by decide +kernel⟩⟩
theorem i_Room_build_65 : mj_St y_Room_build 65 2 9 0 := .inl ⟨rfl, .inl ⟨rfl, by decide +kernel⟩⟩
theorem i_Room_build_67 : mj_Ld y_Room_build 67 2 9 0 := .inl ⟨rfl, .inl ⟨rfl, by decide +kernel⟩⟩
theorem i_Room_build_69 : mj_Ld y_Room_build 69 2 5 0 := .inl ⟨rfl, .inl ⟨rfl, by decide +kernel⟩⟩
theorem i_Room_build_71 : mj_Ic y_Room_build 71 140 (fun (a b : Int32) => b < a) := ⟨69, by decide, .inr (.inr (.inr (.inr (.inl ⟨by decide +kernel, rfl⟩))))⟩
theorem i_Room_build_74 : mj_Ld y_Room_build 74 2 6 0 := .inl ⟨rfl, .inl ⟨rfl, by decide +kernel⟩⟩
theorem i_Room_build_76 : mj_St y_Room_build 76 2 10 0 := .inl ⟨rfl, .inl ⟨rfl, by decide +kernel⟩⟩
theorem i_Room_build_78 : mj_Ld y_Room_build 78 2 10 0 := .inl ⟨rfl, .inl ⟨rfl, by decide +kernel⟩⟩
theorem i_Room_build_80 : mj_Ld y_Room_build 80 2 7 0 := .inl ⟨rfl, .inl ⟨rfl, by decide +kernel⟩⟩
theorem i_Room_build_82 : mj_Ic y_Room_build 82 134 (fun (a b : Int32) => b < a) := ⟨52, by decide, .inr (.inr (.inr (.inr (.inl ⟨by decide +kernel, rfl⟩))))⟩
theorem i_Room_build_85 : mj_Ld y_Room_build 85 2 9 0 := .inl ⟨rfl, .inl ⟨rfl, by decide +kernel⟩⟩
theorem i_Room_build_87 : mj_Ld y_Room_build 87 1 0 2 := .inr (.inr ⟨rfl, .inr ⟨rfl, 0, rfl, by decide +kernel⟩⟩)
theorem i_Room_build_88 : mj_Gf y_Room_build 88 4 0 := ⟨by decide, by decide, 9, by decide +kernel, .inl mm_30⟩
theorem i_Room_build_91 : mj_B2 y_Room_build 91 (fun (a b : Int32) => a * b) := .inr (.inr (.inl ⟨by decide +kernel, rfl⟩))
theorem i_Room_build_92 : mj_Ld y_Room_build 92 2 10 0 := .inl ⟨rfl, .inl ⟨rfl, by decide +kernel⟩⟩
theorem i_Room_build_94 : mj_B2 y_Room_build 94 (fun (a b : Int32) => a + b) := .inl ⟨by decide +kernel, rfl⟩
theorem i_Room_build_95 : mj_St y_Room_build 95 2 11 0 := .inl ⟨rfl, .inl ⟨rfl, by decide +kernel⟩⟩
theorem i_Room_build_97 : mj_Ld y_Room_build 97 1 0 2 := .inr (.inr ⟨rfl, .inr ⟨rfl, 0, rfl, by decide +kernel⟩⟩)
theorem i_Room_build_98 : mj_Ld y_Room_build 98 2 11 0 := .inl ⟨rfl, .inl ⟨rfl, by decide +kernel⟩⟩
theorem i_Room_build_100 : mj_Cv y_Room_build 100 y_Room_hasCell 4 1 := ⟨by decide, rfl, mt_Room_hasCell, 43, by decide +kernel, mm_271, mm_243, mm_244⟩
theorem i_Room_build_103 : mj_If y_Room_build 103 128 (fun (a : Int32) => a = 0) := ⟨25, by decide, .inl ⟨by decide +kernel, rfl⟩⟩
theorem i_Room_build_106 : mj_Ld y_Room_build 106 1 0 2 := .inr (.inr ⟨rfl, .inr ⟨rfl, 0, rfl, by decide +kernel⟩⟩)
theorem i_Room_build_107 : mj_Gf y_Room_build 107 4 3 := ⟨by decide, by decide, 18, by decide +kernel, .inl mm_34⟩
theorem i_Room_build_110 : mj_Ld y_Room_build 110 2 11 0 := .inl ⟨rfl, .inl ⟨rfl, by decide +kernel⟩⟩
theorem i_Room_build_112 : decode y_Room_build.2.1 112 = .ok (.iaload, 1) := by decide +kernel
theorem i_Room_build_113 : mj_Ld y_Room_build 113 1 3 0 := .inl ⟨rfl, .inr ⟨rfl, 3, rfl, by decide +kernel⟩⟩
theorem i_Room_build_114 : mj_Ic y_Room_build 114 128 (fun (a b : Int32) => a = b) := ⟨14, by decide, .inl ⟨by decide +kernel, rfl⟩⟩
theorem i_Room_build_117 : mj_Ld y_Room_build 117 1 0 2 := .inr (.inr ⟨rfl, .inr ⟨rfl, 0, rfl, by decide +kernel⟩⟩)
theorem i_Room_build_118 : mj_Gf y_Room_build 118 4 3 := ⟨by decide, by decide, 18, by decide +kernel, .inl mm_34⟩
theorem i_Room_build_121 : mj_Ld y_Room_build 121 2 11 0 := .inl ⟨rfl, .inl ⟨rfl, by decide +kernel⟩⟩
theorem i_Room_build_123 : mj_Ld y_Room_build 123 1 3 0 := .inl ⟨rfl, .inr ⟨rfl, 3, rfl, by decide +kernel⟩⟩
theorem i_Room_build_124 : decode y_Room_build.2.1 124 = .ok (.iastore, 1) := by decide +kernel
theorem i_Room_build_125 : mj_In y_Room_build 125 8 1 := ⟨1, by decide +kernel, by decide +kernel⟩
theorem i_Room_build_128 : mj_In y_Room_build 128 10 1 := ⟨1, by decide +kernel, by decide +kernel⟩
theorem i_Room_build_131 : mj_Go y_Room_build 131 78 := ⟨(-53), by decide, by decide +kernel⟩
theorem i_Room_build_134 : mj_In y_Room_build 134 9 1 := ⟨1, by decide +kernel, by decide +kernel⟩
theorem i_Room_build_137 : mj_Go y_Room_build 137 67 := ⟨(-70), by decide, by decide +kernel⟩
theorem i_Room_build_140 : mj_Ld y_Room_build 140 2 8 0 := .inl ⟨rfl, .inl ⟨rfl, by decide +kernel⟩⟩
theorem i_Room_build_142 : decode y_Room_build.2.1 142 = .ok (.ireturn, 1) := by decide +kernel
theorem i_Room_rowOf_0 : mj_Ld y_Room_rowOf 0 1 0 2 := .inr (.inr ⟨rfl, .inr ⟨rfl, 0, rfl, by decide +kernel⟩⟩)
theorem i_Room_rowOf_1 : mj_Gf y_Room_rowOf 1 4 0 := ⟨by decide, by decide, 9, by decide +kernel, .inl mm_30⟩
theorem i_Room_rowOf_4 : mj_Kc y_Room_rowOf 4 1 (.int 1) := .inl ⟨1, by decide +kernel, rfl, by decide +kernel⟩
theorem i_Room_rowOf_5 : mj_Ic y_Room_rowOf 5 12 (fun (a b : Int32) => b ≤ a) := ⟨7, by decide, .inr (.inr (.inr (.inl ⟨by decide +kernel, rfl⟩)))⟩
theorem i_Room_rowOf_8 : mj_Kc y_Room_rowOf 8 1 (.int 0) := .inl ⟨0, by decide +kernel, rfl, by decide +kernel⟩
theorem i_Room_rowOf_9 : mj_Go y_Room_rowOf 9 18 := ⟨9, by decide, by decide +kernel⟩
theorem i_Room_rowOf_12 : mj_Ld y_Room_rowOf 12 1 1 0 := .inl ⟨rfl, .inr ⟨rfl, 1, rfl, by decide +kernel⟩⟩
theorem i_Room_rowOf_13 : mj_Ld y_Room_rowOf 13 1 0 2 := .inr (.inr ⟨rfl, .inr ⟨rfl, 0, rfl, by decide +kernel⟩⟩)
theorem i_Room_rowOf_14 : mj_Gf y_Room_rowOf 14 4 0 := ⟨by decide, by decide, 9, by decide +kernel, .inl mm_30⟩
theorem i_Room_rowOf_17 : mj_D2 y_Room_rowOf 17 (fun (a b : Int32) => a / b) := .inl ⟨by decide +kernel, rfl⟩
theorem i_Room_rowOf_18 : decode y_Room_rowOf.2.1 18 = .ok (.ireturn, 1) := by decide +kernel
theorem i_Room_columnOf_0 : mj_Ld y_Room_columnOf 0 1 0 2 := .inr (.inr ⟨rfl, .inr ⟨rfl, 0, rfl, by decide +kernel⟩⟩)
theorem i_Room_columnOf_1 : mj_Gf y_Room_columnOf 1 4 0 := ⟨by decide, by decide, 9, by decide +kernel, .inl mm_30⟩
theorem i_Room_columnOf_4 : mj_Kc y_Room_columnOf 4 1 (.int 1) := .inl ⟨1, by decide +kernel, rfl, by decide +kernel⟩
theorem i_Room_columnOf_5 : mj_Ic y_Room_columnOf 5 12 (fun (a b : Int32) => b ≤ a) := ⟨7, by decide, .inr (.inr (.inr (.inl ⟨by decide +kernel, rfl⟩)))⟩
theorem i_Room_columnOf_8 : mj_Kc y_Room_columnOf 8 1 (.int 0) := .inl ⟨0, by decide +kernel, rfl, by decide +kernel⟩
theorem i_Room_columnOf_9 : mj_Go y_Room_columnOf 9 18 := ⟨9, by decide, by decide +kernel⟩
theorem i_Room_columnOf_12 : mj_Ld y_Room_columnOf 12 1 1 0 := .inl ⟨rfl, .inr ⟨rfl, 1, rfl, by decide +kernel⟩⟩
theorem i_Room_columnOf_13 : mj_Ld y_Room_columnOf 13 1 0 2 := .inr (.inr ⟨rfl, .inr ⟨rfl, 0, rfl, by decide +kernel⟩⟩)
theorem i_Room_columnOf_14 : mj_Gf y_Room_columnOf 14 4 0 := ⟨by decide, by decide, 9, by decide +kernel, .inl mm_30⟩
theorem i_Room_columnOf_17 : mj_D2 y_Room_columnOf 17 (fun (a b : Int32) => a - a / b * b) := .inr ⟨by decide +kernel, rfl⟩
theorem i_Room_columnOf_18 : decode y_Room_columnOf.2.1 18 = .ok (.ireturn, 1) := by decide +kernel
theorem i_Room_holdsItsPosts_0 : mj_Kc y_Room_holdsItsPosts 0 1 (.int 0) := .inl ⟨0, by decide +kernel, rfl, by decide +kernel⟩
theorem i_Room_holdsItsPosts_1 : mj_St y_Room_holdsItsPosts 1 1 1 0 := .inl ⟨rfl, .inr ⟨rfl, 1, rfl, by decide +kernel⟩⟩
theorem i_Room_holdsItsPosts_2 : mj_Ld y_Room_holdsItsPosts 2 1 1 0 := .inl ⟨rfl, .inr ⟨rfl, 1, rfl, by decide +kernel⟩⟩
theorem i_Room_holdsItsPosts_3 : mj_Kc y_Room_holdsItsPosts 3 2 (.int 14) := .inr (.inl ⟨14, by decide +kernel, rfl, by decide +kernel⟩)
theorem i_Room_holdsItsPosts_5 : mj_Ic y_Room_holdsItsPosts 5 41 (fun (a b : Int32) => b ≤ a) := ⟨36, by decide, .inr (.inr (.inr (.inl ⟨by decide +kernel, rfl⟩)))⟩
theorem i_Room_holdsItsPosts_8 : mj_Ld y_Room_holdsItsPosts 8 1 0 2 := .inr (.inr ⟨rfl, .inr ⟨rfl, 0, rfl, by decide +kernel⟩⟩)
theorem i_Room_holdsItsPosts_9 : mj_Ld y_Room_holdsItsPosts 9 1 1 0 := .inl ⟨rfl, .inr ⟨rfl, 1, rfl, by decide +kernel⟩⟩
theorem i_Room_holdsItsPosts_10 : mj_Cv y_Room_holdsItsPosts 10 y_Room_postAt 4 1 := ⟨by decide, rfl, mt_Room_postAt, 91, by decide +kernel, mm_276, mm_277, mm_278⟩
theorem i_Room_holdsItsPosts_13 : mj_St y_Room_holdsItsPosts 13 1 2 2 := .inr (.inr ⟨rfl, .inr ⟨rfl, 2, rfl, by decide +kernel⟩⟩)
theorem i_Room_holdsItsPosts_14 : mj_Ld y_Room_holdsItsPosts 14 1 2 2 := .inr (.inr ⟨rfl, .inr ⟨rfl, 2, rfl, by decide +kernel⟩⟩)
theorem i_Room_holdsItsPosts_15 : mj_Nu y_Room_holdsItsPosts 15 35 true := ⟨20, by decide, .inl ⟨rfl, by decide +kernel⟩⟩
theorem i_Room_holdsItsPosts_18 : mj_Ld y_Room_holdsItsPosts 18 1 0 2 := .inr (.inr ⟨rfl, .inr ⟨rfl, 0, rfl, by decide +kernel⟩⟩)
theorem i_Room_holdsItsPosts_19 : mj_Ld y_Room_holdsItsPosts 19 1 2 2 := .inr (.inr ⟨rfl, .inr ⟨rfl, 2, rfl, by decide +kernel⟩⟩)
theorem i_Room_holdsItsPosts_20 : mj_Gf y_Room_holdsItsPosts 20 2 0 := ⟨by decide, by decide, 95, by decide +kernel, .inr ⟨"GalleryWatch", mm_365⟩⟩
theorem i_Room_holdsItsPosts_23 : mj_Ld y_Room_holdsItsPosts 23 1 2 2 := .inr (.inr ⟨rfl, .inr ⟨rfl, 2, rfl, by decide +kernel⟩⟩)
theorem i_Room_holdsItsPosts_24 : mj_Gf y_Room_holdsItsPosts 24 2 1 := ⟨by decide, by decide, 98, by decide +kernel, .inr ⟨"GalleryWatch", mm_368⟩⟩
theorem i_Room_holdsItsPosts_27 : mj_Cv y_Room_holdsItsPosts 27 y_Room_canStand 4 2 := ⟨by decide, rfl, mt_Room_canStand, 101, by decide +kernel, mm_280, mm_281, mm_282⟩
theorem i_Room_holdsItsPosts_30 : mj_If y_Room_holdsItsPosts 30 35 (fun (a : Int32) => ¬ a = 0) := ⟨5, by decide, .inr (.inl ⟨by decide +kernel, rfl⟩)⟩
theorem i_Room_holdsItsPosts_33 : mj_Kc y_Room_holdsItsPosts 33 1 (.int 0) := .inl ⟨0, by decide +kernel, rfl, by decide +kernel⟩
theorem i_Room_holdsItsPosts_34 : decode y_Room_holdsItsPosts.2.1 34 = .ok (.ireturn, 1) := by decide +kernel
theorem i_Room_holdsItsPosts_35 : mj_In y_Room_holdsItsPosts 35 1 1 := ⟨1, by decide +kernel, by decide +kernel⟩
theorem i_Room_holdsItsPosts_38 : mj_Go y_Room_holdsItsPosts 38 2 := ⟨(-36), by decide, by decide +kernel⟩
theorem i_Room_holdsItsPosts_41 : mj_Kc y_Room_holdsItsPosts 41 1 (.int 1) := .inl ⟨1, by decide +kernel, rfl, by decide +kernel⟩
theorem i_Room_holdsItsPosts_42 : decode y_Room_holdsItsPosts.2.1 42 = .ok (.ireturn, 1) := by decide +kernel
theorem i_Room_postAt_0 : mj_Ld y_Room_postAt 0 1 1 0 := .inl ⟨rfl, .inr ⟨rfl, 1, rfl, by decide +kernel⟩⟩
theorem i_Room_postAt_1 : mj_If y_Room_postAt 1 27 (fun (a : Int32) => a < 0) := ⟨26, by decide, .inr (.inr (.inl ⟨by decide +kernel, rfl⟩))⟩
theorem i_Room_postAt_4 : mj_Ld y_Room_postAt 4 1 1 0 := .inl ⟨rfl, .inr ⟨rfl, 1, rfl, by decide +kernel⟩⟩
theorem i_Room_postAt_5 : mj_Ld y_Room_postAt 5 1 0 2 := .inr (.inr ⟨rfl, .inr ⟨rfl, 0, rfl, by decide +kernel⟩⟩)
theorem i_Room_postAt_6 : mj_Gf y_Room_postAt 6 4 2 := ⟨by decide, by decide, 28, by decide +kernel, .inl mm_33⟩
theorem i_Room_postAt_9 : mj_Ic y_Room_postAt 9 27 (fun (a b : Int32) => b ≤ a) := ⟨18, by decide, .inr (.inr (.inr (.inl ⟨by decide +kernel, rfl⟩)))⟩
theorem i_Room_postAt_12 : mj_Ld y_Room_postAt 12 1 1 0 := .inl ⟨rfl, .inr ⟨rfl, 1, rfl, by decide +kernel⟩⟩
theorem i_Room_postAt_13 : mj_Kc y_Room_postAt 13 2 (.int 14) := .inr (.inl ⟨14, by decide +kernel, rfl, by decide +kernel⟩)
theorem i_Room_postAt_15 : mj_Ic y_Room_postAt 15 27 (fun (a b : Int32) => b ≤ a) := ⟨12, by decide, .inr (.inr (.inr (.inl ⟨by decide +kernel, rfl⟩)))⟩
theorem i_Room_postAt_18 : mj_Ld y_Room_postAt 18 1 0 2 := .inr (.inr ⟨rfl, .inr ⟨rfl, 0, rfl, by decide +kernel⟩⟩)
theorem i_Room_postAt_19 : mj_Gf y_Room_postAt 19 4 4 := ⟨by decide, by decide, 24, by decide +kernel, .inl mm_35⟩
theorem i_Room_postAt_22 : mj_Ld y_Room_postAt 22 1 1 0 := .inl ⟨rfl, .inr ⟨rfl, 1, rfl, by decide +kernel⟩⟩
theorem i_Room_postAt_23 : decode y_Room_postAt.2.1 23 = .ok (.aaload, 1) := by decide +kernel
theorem i_Room_postAt_24 : mj_Go y_Room_postAt 24 28 := ⟨4, by decide, by decide +kernel⟩
theorem i_Room_postAt_27 : mj_Kc y_Room_postAt 27 1 .null := .inr (.inr (.inr (.inr (.inr (.inr (.inr (⟨by decide +kernel, rfl, rfl⟩)))))))
theorem i_Room_postAt_28 : decode y_Room_postAt.2.1 28 = .ok (.areturn, 1) := by decide +kernel
theorem i_Room_canStand_0 : mj_Ld y_Room_canStand 0 1 0 2 := .inr (.inr ⟨rfl, .inr ⟨rfl, 0, rfl, by decide +kernel⟩⟩)
theorem i_Room_canStand_1 : mj_Ld y_Room_canStand 1 1 1 0 := .inl ⟨rfl, .inr ⟨rfl, 1, rfl, by decide +kernel⟩⟩
theorem i_Room_canStand_2 : mj_Cv y_Room_canStand 2 y_Room_isOpen 4 1 := ⟨by decide, rfl, mt_Room_isOpen, 47, by decide +kernel, mm_284, mm_285, mm_286⟩
theorem i_Room_canStand_5 : mj_If y_Room_canStand 5 28 (fun (a : Int32) => a = 0) := ⟨23, by decide, .inl ⟨by decide +kernel, rfl⟩⟩
theorem i_Room_canStand_8 : mj_Ld y_Room_canStand 8 1 2 0 := .inl ⟨rfl, .inr ⟨rfl, 2, rfl, by decide +kernel⟩⟩
theorem i_Room_canStand_9 : mj_Kc y_Room_canStand 9 1 (.int 2) := .inl ⟨2, by decide +kernel, rfl, by decide +kernel⟩
theorem i_Room_canStand_10 : mj_Cs y_Room_canStand 10 y_GW_isKindOf 2 := ⟨mt_GW_isKindOf, 81, by decide +kernel, mm_289, .inr ⟨"GalleryWatch", mm_288⟩⟩
theorem i_Room_canStand_13 : mj_If y_Room_canStand 13 24 (fun (a : Int32) => a = 0) := ⟨11, by decide, .inl ⟨by decide +kernel, rfl⟩⟩
theorem i_Room_canStand_16 : mj_Ld y_Room_canStand 16 1 0 2 := .inr (.inr ⟨rfl, .inr ⟨rfl, 0, rfl, by decide +kernel⟩⟩)
theorem i_Room_canStand_17 : mj_Ld y_Room_canStand 17 1 1 0 := .inl ⟨rfl, .inr ⟨rfl, 1, rfl, by decide +kernel⟩⟩
theorem i_Room_canStand_18 : mj_Cv y_Room_canStand 18 y_Room_isAtWall 4 1 := ⟨by decide, rfl, mt_Room_isAtWall, 85, by decide +kernel, mm_296, mm_298, mp_1⟩
theorem i_Room_canStand_21 : mj_If y_Room_canStand 21 28 (fun (a : Int32) => a = 0) := ⟨7, by decide, .inl ⟨by decide +kernel, rfl⟩⟩
theorem i_Room_canStand_24 : mj_Kc y_Room_canStand 24 1 (.int 1) := .inl ⟨1, by decide +kernel, rfl, by decide +kernel⟩
theorem i_Room_canStand_25 : mj_Go y_Room_canStand 25 29 := ⟨4, by decide, by decide +kernel⟩
theorem i_Room_canStand_28 : mj_Kc y_Room_canStand 28 1 (.int 0) := .inl ⟨0, by decide +kernel, rfl, by decide +kernel⟩
theorem i_Room_canStand_29 : decode y_Room_canStand.2.1 29 = .ok (.ireturn, 1) := by decide +kernel
theorem i_Room_isOpen_0 : mj_Ld y_Room_isOpen 0 1 0 2 := .inr (.inr ⟨rfl, .inr ⟨rfl, 0, rfl, by decide +kernel⟩⟩)
theorem i_Room_isOpen_1 : mj_Ld y_Room_isOpen 1 1 1 0 := .inl ⟨rfl, .inr ⟨rfl, 1, rfl, by decide +kernel⟩⟩
theorem i_Room_isOpen_2 : mj_Cv y_Room_isOpen 2 y_Room_hasCell 4 1 := ⟨by decide, rfl, mt_Room_hasCell, 43, by decide +kernel, mm_271, mm_243, mm_244⟩
theorem i_Room_isOpen_5 : mj_If y_Room_isOpen 5 21 (fun (a : Int32) => a = 0) := ⟨16, by decide, .inl ⟨by decide +kernel, rfl⟩⟩
theorem i_Room_isOpen_8 : mj_Ld y_Room_isOpen 8 1 0 2 := .inr (.inr ⟨rfl, .inr ⟨rfl, 0, rfl, by decide +kernel⟩⟩)
theorem i_Room_isOpen_9 : mj_Gf y_Room_isOpen 9 4 3 := ⟨by decide, by decide, 18, by decide +kernel, .inl mm_34⟩
theorem i_Room_isOpen_12 : mj_Ld y_Room_isOpen 12 1 1 0 := .inl ⟨rfl, .inr ⟨rfl, 1, rfl, by decide +kernel⟩⟩
theorem i_Room_isOpen_13 : decode y_Room_isOpen.2.1 13 = .ok (.iaload, 1) := by decide +kernel
theorem i_Room_isOpen_14 : mj_If y_Room_isOpen 14 21 (fun (a : Int32) => ¬ a = 0) := ⟨7, by decide, .inr (.inl ⟨by decide +kernel, rfl⟩)⟩
theorem i_Room_isOpen_17 : mj_Kc y_Room_isOpen 17 1 (.int 1) := .inl ⟨1, by decide +kernel, rfl, by decide +kernel⟩
theorem i_Room_isOpen_18 : mj_Go y_Room_isOpen 18 22 := ⟨4, by decide, by decide +kernel⟩
theorem i_Room_isOpen_21 : mj_Kc y_Room_isOpen 21 1 (.int 0) := .inl ⟨0, by decide +kernel, rfl, by decide +kernel⟩
theorem i_Room_isOpen_22 : decode y_Room_isOpen.2.1 22 = .ok (.ireturn, 1) := by decide +kernel
theorem i_Room_isAtWall_0 : mj_Kc y_Room_isAtWall 0 1 (.int 0) := .inl ⟨0, by decide +kernel, rfl, by decide +kernel⟩
theorem i_Room_isAtWall_1 : mj_St y_Room_isAtWall 1 1 2 0 := .inl ⟨rfl, .inr ⟨rfl, 2, rfl, by decide +kernel⟩⟩
theorem i_Room_isAtWall_2 : mj_Ld y_Room_isAtWall 2 1 2 0 := .inl ⟨rfl, .inr ⟨rfl, 2, rfl, by decide +kernel⟩⟩
theorem i_Room_isAtWall_3 : mj_Kc y_Room_isAtWall 3 1 (.int 4) := .inl ⟨4, by decide +kernel, rfl, by decide +kernel⟩
theorem i_Room_isAtWall_4 : mj_Ic y_Room_isAtWall 4 28 (fun (a b : Int32) => b ≤ a) := ⟨24, by decide, .inr (.inr (.inr (.inl ⟨by decide +kernel, rfl⟩)))⟩
theorem i_Room_isAtWall_7 : mj_Ld y_Room_isAtWall 7 1 0 2 := .inr (.inr ⟨rfl, .inr ⟨rfl, 0, rfl, by decide +kernel⟩⟩)
theorem i_Room_isAtWall_8 : mj_Ld y_Room_isAtWall 8 1 0 2 := .inr (.inr ⟨rfl, .inr ⟨rfl, 0, rfl, by decide +kernel⟩⟩)
theorem i_Room_isAtWall_9 : mj_Ld y_Room_isAtWall 9 1 1 0 := .inl ⟨rfl, .inr ⟨rfl, 1, rfl, by decide +kernel⟩⟩
theorem i_Room_isAtWall_10 : mj_Ld y_Room_isAtWall 10 1 2 0 := .inl ⟨rfl, .inr ⟨rfl, 2, rfl, by decide +kernel⟩⟩
theorem i_Room_isAtWall_11 : mj_Cv y_Room_isAtWall 11 y_Room_beside 4 2 := ⟨by decide, rfl, mt_Room_beside, 88, by decide +kernel, mm_300, mm_301, mm_302⟩
theorem i_Room_isAtWall_14 : mj_Cv y_Room_isAtWall 14 y_Room_isOpen 4 1 := ⟨by decide, rfl, mt_Room_isOpen, 47, by decide +kernel, mm_284, mm_285, mm_286⟩
theorem i_Room_isAtWall_17 : mj_If y_Room_isAtWall 17 22 (fun (a : Int32) => ¬ a = 0) := ⟨5, by decide, .inr (.inl ⟨by decide +kernel, rfl⟩)⟩
theorem i_Room_isAtWall_20 : mj_Kc y_Room_isAtWall 20 1 (.int 1) := .inl ⟨1, by decide +kernel, rfl, by decide +kernel⟩
theorem i_Room_isAtWall_21 : decode y_Room_isAtWall.2.1 21 = .ok (.ireturn, 1) := by decide +kernel
theorem i_Room_isAtWall_22 : mj_In y_Room_isAtWall 22 2 1 := ⟨1, by decide +kernel, by decide +kernel⟩
theorem i_Room_isAtWall_25 : mj_Go y_Room_isAtWall 25 2 := ⟨(-23), by decide, by decide +kernel⟩
theorem i_Room_isAtWall_28 : mj_Kc y_Room_isAtWall 28 1 (.int 0) := .inl ⟨0, by decide +kernel, rfl, by decide +kernel⟩
theorem i_Room_isAtWall_29 : decode y_Room_isAtWall.2.1 29 = .ok (.ireturn, 1) := by decide +kernel
theorem i_Room_beside_0 : mj_Ld y_Room_beside 0 1 0 2 := .inr (.inr ⟨rfl, .inr ⟨rfl, 0, rfl, by decide +kernel⟩⟩)
theorem i_Room_beside_1 : mj_Ld y_Room_beside 1 1 1 0 := .inl ⟨rfl, .inr ⟨rfl, 1, rfl, by decide +kernel⟩⟩
theorem i_Room_beside_2 : mj_Cv y_Room_beside 2 y_Room_rowOf 4 1 := ⟨by decide, rfl, mt_Room_rowOf, 54, by decide +kernel, mm_257, mm_258, mm_259⟩
theorem i_Room_beside_5 : mj_St y_Room_beside 5 1 3 0 := .inl ⟨rfl, .inr ⟨rfl, 3, rfl, by decide +kernel⟩⟩
theorem i_Room_beside_6 : mj_Ld y_Room_beside 6 1 0 2 := .inr (.inr ⟨rfl, .inr ⟨rfl, 0, rfl, by decide +kernel⟩⟩)
theorem i_Room_beside_7 : mj_Ld y_Room_beside 7 1 1 0 := .inl ⟨rfl, .inr ⟨rfl, 1, rfl, by decide +kernel⟩⟩
theorem i_Room_beside_8 : mj_Cv y_Room_beside 8 y_Room_columnOf 4 1 := ⟨by decide, rfl, mt_Room_columnOf, 58, by decide +kernel, mm_267, mm_268, mm_269⟩
theorem i_Room_beside_11 : mj_St y_Room_beside 11 2 4 0 := .inl ⟨rfl, .inl ⟨rfl, by decide +kernel⟩⟩
theorem i_Room_beside_13 : mj_Ld y_Room_beside 13 1 2 0 := .inl ⟨rfl, .inr ⟨rfl, 2, rfl, by decide +kernel⟩⟩
theorem i_Room_beside_14_d : decode y_Room_beside.2.1 14 = .ok (.tableswitch 73 0 2 #[26, 41, 54], 26) := by decide +kernel
theorem i_Room_beside_14_o {k : Int32} (h : k.toInt < 0 ∨ 2 < k.toInt) : mj_Sw y_Room_beside 14 k 87 := ⟨_, _, _, _, _, i_Room_beside_14_d, .inl ⟨h, by decide⟩⟩
theorem i_Room_beside_14_0 : mj_Sw y_Room_beside 14 0 40 := ⟨_, _, _, _, _, i_Room_beside_14_d, .inr ⟨by decide, by decide, 26, by decide, by decide⟩⟩
theorem i_Room_beside_14_1 : mj_Sw y_Room_beside 14 1 55 := ⟨_, _, _, _, _, i_Room_beside_14_d, .inr ⟨by decide, by decide, 41, by decide, by decide⟩⟩
theorem i_Room_beside_14_2 : mj_Sw y_Room_beside 14 2 68 := ⟨_, _, _, _, _, i_Room_beside_14_d, .inr ⟨by decide, by decide, 54, by decide, by decide⟩⟩
theorem i_Room_beside_40 : mj_Ld y_Room_beside 40 1 3 0 := .inl ⟨rfl, .inr ⟨rfl, 3, rfl, by decide +kernel⟩⟩
theorem i_Room_beside_41 : mj_If y_Room_beside 41 53 (fun (a : Int32) => a ≤ 0) := ⟨12, by decide, .inr (.inr (.inr (.inr (.inr (⟨by decide +kernel, rfl⟩)))))⟩
theorem i_Room_beside_44 : mj_Ld y_Room_beside 44 1 1 0 := .inl ⟨rfl, .inr ⟨rfl, 1, rfl, by decide +kernel⟩⟩
theorem i_Room_beside_45 : mj_Ld y_Room_beside 45 1 0 2 := .inr (.inr ⟨rfl, .inr ⟨rfl, 0, rfl, by decide +kernel⟩⟩)
theorem i_Room_beside_46 : mj_Gf y_Room_beside 46 4 0 := ⟨by decide, by decide, 9, by decide +kernel, .inl mm_30⟩
theorem i_Room_beside_49 : mj_B2 y_Room_beside 49 (fun (a b : Int32) => a - b) := .inr (.inl ⟨by decide +kernel, rfl⟩)
theorem i_Room_beside_50 : mj_Go y_Room_beside 50 54 := ⟨4, by decide, by decide +kernel⟩
theorem i_Room_beside_53 : mj_Kc y_Room_beside 53 1 (.int (-1)) := .inl ⟨(-1), by decide +kernel, rfl, by decide +kernel⟩
theorem i_Room_beside_54 : decode y_Room_beside.2.1 54 = .ok (.ireturn, 1) := by decide +kernel
theorem i_Room_beside_55 : mj_Ld y_Room_beside 55 2 4 0 := .inl ⟨rfl, .inl ⟨rfl, by decide +kernel⟩⟩
theorem i_Room_beside_57 : mj_If y_Room_beside 57 66 (fun (a : Int32) => a ≤ 0) := ⟨9, by decide, .inr (.inr (.inr (.inr (.inr (⟨by decide +kernel, rfl⟩)))))⟩
theorem i_Room_beside_60 : mj_Ld y_Room_beside 60 1 1 0 := .inl ⟨rfl, .inr ⟨rfl, 1, rfl, by decide +kernel⟩⟩
theorem i_Room_beside_61 : mj_Kc y_Room_beside 61 1 (.int 1) := .inl ⟨1, by decide +kernel, rfl, by decide +kernel⟩
theorem i_Room_beside_62 : mj_B2 y_Room_beside 62 (fun (a b : Int32) => a - b) := .inr (.inl ⟨by decide +kernel, rfl⟩)
theorem i_Room_beside_63 : mj_Go y_Room_beside 63 67 := ⟨4, by decide, by decide +kernel⟩
theorem i_Room_beside_66 : mj_Kc y_Room_beside 66 1 (.int (-1)) := .inl ⟨(-1), by decide +kernel, rfl, by decide +kernel⟩
theorem i_Room_beside_67 : decode y_Room_beside.2.1 67 = .ok (.ireturn, 1) := by decide +kernel
theorem i_Room_beside_68 : mj_Ld y_Room_beside 68 2 4 0 := .inl ⟨rfl, .inl ⟨rfl, by decide +kernel⟩⟩
theorem i_Room_beside_70 : mj_Ld y_Room_beside 70 1 0 2 := .inr (.inr ⟨rfl, .inr ⟨rfl, 0, rfl, by decide +kernel⟩⟩)
theorem i_Room_beside_71 : mj_Gf y_Room_beside 71 4 0 := ⟨by decide, by decide, 9, by decide +kernel, .inl mm_30⟩
theorem i_Room_beside_74 : mj_Kc y_Room_beside 74 1 (.int 1) := .inl ⟨1, by decide +kernel, rfl, by decide +kernel⟩
theorem i_Room_beside_75 : mj_B2 y_Room_beside 75 (fun (a b : Int32) => a - b) := .inr (.inl ⟨by decide +kernel, rfl⟩)
theorem i_Room_beside_76 : mj_Ic y_Room_beside 76 85 (fun (a b : Int32) => b ≤ a) := ⟨9, by decide, .inr (.inr (.inr (.inl ⟨by decide +kernel, rfl⟩)))⟩
theorem i_Room_beside_79 : mj_Ld y_Room_beside 79 1 1 0 := .inl ⟨rfl, .inr ⟨rfl, 1, rfl, by decide +kernel⟩⟩
theorem i_Room_beside_80 : mj_Kc y_Room_beside 80 1 (.int 1) := .inl ⟨1, by decide +kernel, rfl, by decide +kernel⟩
theorem i_Room_beside_81 : mj_B2 y_Room_beside 81 (fun (a b : Int32) => a + b) := .inl ⟨by decide +kernel, rfl⟩
theorem i_Room_beside_82 : mj_Go y_Room_beside 82 86 := ⟨4, by decide, by decide +kernel⟩
theorem i_Room_beside_85 : mj_Kc y_Room_beside 85 1 (.int (-1)) := .inl ⟨(-1), by decide +kernel, rfl, by decide +kernel⟩
theorem i_Room_beside_86 : decode y_Room_beside.2.1 86 = .ok (.ireturn, 1) := by decide +kernel
theorem i_Room_beside_87 : mj_Ld y_Room_beside 87 1 3 0 := .inl ⟨rfl, .inr ⟨rfl, 3, rfl, by decide +kernel⟩⟩
theorem i_Room_beside_88 : mj_Ld y_Room_beside 88 1 0 2 := .inr (.inr ⟨rfl, .inr ⟨rfl, 0, rfl, by decide +kernel⟩⟩)
theorem i_Room_beside_89 : mj_Gf y_Room_beside 89 4 1 := ⟨by decide, by decide, 15, by decide +kernel, .inl mm_32⟩
theorem i_Room_beside_92 : mj_Kc y_Room_beside 92 1 (.int 1) := .inl ⟨1, by decide +kernel, rfl, by decide +kernel⟩
theorem i_Room_beside_93 : mj_B2 y_Room_beside 93 (fun (a b : Int32) => a - b) := .inr (.inl ⟨by decide +kernel, rfl⟩)
theorem i_Room_beside_94 : mj_Ic y_Room_beside 94 106 (fun (a b : Int32) => b ≤ a) := ⟨12, by decide, .inr (.inr (.inr (.inl ⟨by decide +kernel, rfl⟩)))⟩
theorem i_Room_beside_97 : mj_Ld y_Room_beside 97 1 1 0 := .inl ⟨rfl, .inr ⟨rfl, 1, rfl, by decide +kernel⟩⟩
theorem i_Room_beside_98 : mj_Ld y_Room_beside 98 1 0 2 := .inr (.inr ⟨rfl, .inr ⟨rfl, 0, rfl, by decide +kernel⟩⟩)
theorem i_Room_beside_99 : mj_Gf y_Room_beside 99 4 0 := ⟨by decide, by decide, 9, by decide +kernel, .inl mm_30⟩
theorem i_Room_beside_102 : mj_B2 y_Room_beside 102 (fun (a b : Int32) => a + b) := .inl ⟨by decide +kernel, rfl⟩
theorem i_Room_beside_103 : mj_Go y_Room_beside 103 107 := ⟨4, by decide, by decide +kernel⟩
theorem i_Room_beside_106 : mj_Kc y_Room_beside 106 1 (.int (-1)) := .inl ⟨(-1), by decide +kernel, rfl, by decide +kernel⟩
theorem i_Room_beside_107 : decode y_Room_beside.2.1 107 = .ok (.ireturn, 1) := by decide +kernel
theorem i_Room_inSight_0 : mj_Ld y_Room_inSight 0 1 0 2 := .inr (.inr ⟨rfl, .inr ⟨rfl, 0, rfl, by decide +kernel⟩⟩)
theorem i_Room_inSight_1 : mj_Ld y_Room_inSight 1 1 1 0 := .inl ⟨rfl, .inr ⟨rfl, 1, rfl, by decide +kernel⟩⟩
theorem i_Room_inSight_2 : mj_Cv y_Room_inSight 2 y_Room_isOpen 4 1 := ⟨by decide, rfl, mt_Room_isOpen, 47, by decide +kernel, mm_284, mm_285, mm_286⟩
theorem i_Room_inSight_5 : mj_If y_Room_inSight 5 16 (fun (a : Int32) => a = 0) := ⟨11, by decide, .inl ⟨by decide +kernel, rfl⟩⟩
theorem i_Room_inSight_8 : mj_Ld y_Room_inSight 8 1 0 2 := .inr (.inr ⟨rfl, .inr ⟨rfl, 0, rfl, by decide +kernel⟩⟩)
theorem i_Room_inSight_9 : mj_Ld y_Room_inSight 9 1 2 0 := .inl ⟨rfl, .inr ⟨rfl, 2, rfl, by decide +kernel⟩⟩
theorem i_Room_inSight_10 : mj_Cv y_Room_inSight 10 y_Room_isOpen 4 1 := ⟨by decide, rfl, mt_Room_isOpen, 47, by decide +kernel, mm_284, mm_285, mm_286⟩
theorem i_Room_inSight_13 : mj_If y_Room_inSight 13 18 (fun (a : Int32) => ¬ a = 0) := ⟨5, by decide, .inr (.inl ⟨by decide +kernel, rfl⟩)⟩
theorem i_Room_inSight_16 : mj_Kc y_Room_inSight 16 1 (.int 0) := .inl ⟨0, by decide +kernel, rfl, by decide +kernel⟩
theorem i_Room_inSight_17 : decode y_Room_inSight.2.1 17 = .ok (.ireturn, 1) := by decide +kernel
theorem i_Room_inSight_18 : mj_Ld y_Room_inSight 18 1 0 2 := .inr (.inr ⟨rfl, .inr ⟨rfl, 0, rfl, by decide +kernel⟩⟩)
theorem i_Room_inSight_19 : mj_Ld y_Room_inSight 19 1 1 0 := .inl ⟨rfl, .inr ⟨rfl, 1, rfl, by decide +kernel⟩⟩
theorem i_Room_inSight_20 : mj_Cv y_Room_inSight 20 y_Room_rowOf 4 1 := ⟨by decide, rfl, mt_Room_rowOf, 54, by decide +kernel, mm_257, mm_258, mm_259⟩
theorem i_Room_inSight_23 : mj_St y_Room_inSight 23 1 3 0 := .inl ⟨rfl, .inr ⟨rfl, 3, rfl, by decide +kernel⟩⟩
theorem i_Room_inSight_24 : mj_Ld y_Room_inSight 24 1 0 2 := .inr (.inr ⟨rfl, .inr ⟨rfl, 0, rfl, by decide +kernel⟩⟩)
theorem i_Room_inSight_25 : mj_Ld y_Room_inSight 25 1 1 0 := .inl ⟨rfl, .inr ⟨rfl, 1, rfl, by decide +kernel⟩⟩
theorem i_Room_inSight_26 : mj_Cv y_Room_inSight 26 y_Room_columnOf 4 1 := ⟨by decide, rfl, mt_Room_columnOf, 58, by decide +kernel, mm_267, mm_268, mm_269⟩
theorem i_Room_inSight_29 : mj_St y_Room_inSight 29 2 4 0 := .inl ⟨rfl, .inl ⟨rfl, by decide +kernel⟩⟩
theorem i_Room_inSight_31 : mj_Ld y_Room_inSight 31 1 0 2 := .inr (.inr ⟨rfl, .inr ⟨rfl, 0, rfl, by decide +kernel⟩⟩)
theorem i_Room_inSight_32 : mj_Ld y_Room_inSight 32 1 2 0 := .inl ⟨rfl, .inr ⟨rfl, 2, rfl, by decide +kernel⟩⟩
theorem i_Room_inSight_33 : mj_Cv y_Room_inSight 33 y_Room_rowOf 4 1 := ⟨by decide, rfl, mt_Room_rowOf, 54, by decide +kernel, mm_257, mm_258, mm_259⟩
theorem i_Room_inSight_36 : mj_St y_Room_inSight 36 2 5 0 := .inl ⟨rfl, .inl ⟨rfl, by decide +kernel⟩⟩
theorem i_Room_inSight_38 : mj_Ld y_Room_inSight 38 1 0 2 := .inr (.inr ⟨rfl, .inr ⟨rfl, 0, rfl, by decide +kernel⟩⟩)
theorem i_Room_inSight_39 : mj_Ld y_Room_inSight 39 1 2 0 := .inl ⟨rfl, .inr ⟨rfl, 2, rfl, by decide +kernel⟩⟩
theorem i_Room_inSight_40 : mj_Cv y_Room_inSight 40 y_Room_columnOf 4 1 := ⟨by decide, rfl, mt_Room_columnOf, 58, by decide +kernel, mm_267, mm_268, mm_269⟩
theorem i_Room_inSight_43 : mj_St y_Room_inSight 43 2 6 0 := .inl ⟨rfl, .inl ⟨rfl, by decide +kernel⟩⟩
theorem i_Room_inSight_45 : mj_Ld y_Room_inSight 45 2 5 0 := .inl ⟨rfl, .inl ⟨rfl, by decide +kernel⟩⟩
theorem i_Room_inSight_47 : mj_Ld y_Room_inSight 47 1 3 0 := .inl ⟨rfl, .inr ⟨rfl, 3, rfl, by decide +kernel⟩⟩
theorem i_Room_inSight_48 : mj_B2 y_Room_inSight 48 (fun (a b : Int32) => a - b) := .inr (.inl ⟨by decide +kernel, rfl⟩)
theorem i_Room_inSight_49 : mj_St y_Room_inSight 49 2 7 0 := .inl ⟨rfl, .inl ⟨rfl, by decide +kernel⟩⟩
theorem i_Room_inSight_51 : mj_Ld y_Room_inSight 51 2 6 0 := .inl ⟨rfl, .inl ⟨rfl, by decide +kernel⟩⟩
theorem i_Room_inSight_53 : mj_Ld y_Room_inSight 53 2 4 0 := .inl ⟨rfl, .inl ⟨rfl, by decide +kernel⟩⟩
theorem i_Room_inSight_55 : mj_B2 y_Room_inSight 55 (fun (a b : Int32) => a - b) := .inr (.inl ⟨by decide +kernel, rfl⟩)
theorem i_Room_inSight_56 : mj_St y_Room_inSight 56 2 8 0 := .inl ⟨rfl, .inl ⟨rfl, by decide +kernel⟩⟩
theorem i_Room_inSight_58 : mj_Ld y_Room_inSight 58 2 7 0 := .inl ⟨rfl, .inl ⟨rfl, by decide +kernel⟩⟩
theorem i_Room_inSight_60 : mj_Ma y_Room_inSight 60 := ⟨70, by decide +kernel, mm_335⟩
theorem i_Room_inSight_63 : mj_Ld y_Room_inSight 63 2 8 0 := .inl ⟨rfl, .inl ⟨rfl, by decide +kernel⟩⟩
theorem i_Room_inSight_65 : mj_Ma y_Room_inSight 65 := ⟨70, by decide +kernel, mm_335⟩
theorem i_Room_inSight_68 : mj_B2 y_Room_inSight 68 (fun (a b : Int32) => a + b) := .inl ⟨by decide +kernel, rfl⟩
theorem i_Room_inSight_69 : mj_St y_Room_inSight 69 2 9 0 := .inl ⟨rfl, .inl ⟨rfl, by decide +kernel⟩⟩
theorem i_Room_inSight_71 : mj_Ld y_Room_inSight 71 1 3 0 := .inl ⟨rfl, .inr ⟨rfl, 3, rfl, by decide +kernel⟩⟩
theorem i_Room_inSight_72 : mj_Ld y_Room_inSight 72 2 5 0 := .inl ⟨rfl, .inl ⟨rfl, by decide +kernel⟩⟩
theorem i_Room_inSight_74 : mj_Mm y_Room_inSight 74 (fun (a b : Int32) => if b < a then b else a) := ⟨61, by decide +kernel, .inr ⟨mm_261, rfl⟩⟩
theorem i_Room_inSight_77 : mj_St y_Room_inSight 77 2 10 0 := .inl ⟨rfl, .inl ⟨rfl, by decide +kernel⟩⟩
theorem i_Room_inSight_79 : mj_Ld y_Room_inSight 79 2 10 0 := .inl ⟨rfl, .inl ⟨rfl, by decide +kernel⟩⟩
theorem i_Room_inSight_81 : mj_Ld y_Room_inSight 81 1 3 0 := .inl ⟨rfl, .inr ⟨rfl, 3, rfl, by decide +kernel⟩⟩
theorem i_Room_inSight_82 : mj_Ld y_Room_inSight 82 2 5 0 := .inl ⟨rfl, .inl ⟨rfl, by decide +kernel⟩⟩
theorem i_Room_inSight_84 : mj_Mm y_Room_inSight 84 (fun (a b : Int32) => if a < b then b else a) := ⟨67, by decide +kernel, .inl ⟨mm_264, rfl⟩⟩
theorem i_Room_inSight_87 : mj_Ic y_Room_inSight 87 172 (fun (a b : Int32) => b < a) := ⟨85, by decide, .inr (.inr (.inr (.inr (.inl ⟨by decide +kernel, rfl⟩))))⟩
theorem i_Room_inSight_90 : mj_Ld y_Room_inSight 90 2 4 0 := .inl ⟨rfl, .inl ⟨rfl, by decide +kernel⟩⟩
theorem i_Room_inSight_92 : mj_Ld y_Room_inSight 92 2 6 0 := .inl ⟨rfl, .inl ⟨rfl, by decide +kernel⟩⟩
theorem i_Room_inSight_94 : mj_Mm y_Room_inSight 94 (fun (a b : Int32) => if b < a then b else a) := ⟨61, by decide +kernel, .inr ⟨mm_261, rfl⟩⟩
theorem i_Room_inSight_97 : mj_St y_Room_inSight 97 2 11 0 := .inl ⟨rfl, .inl ⟨rfl, by decide +kernel⟩⟩
theorem i_Room_inSight_99 : mj_Ld y_Room_inSight 99 2 11 0 := .inl ⟨rfl, .inl ⟨rfl, by decide +kernel⟩⟩
theorem i_Room_inSight_101 : mj_Ld y_Room_inSight 101 2 4 0 := .inl ⟨rfl, .inl ⟨rfl, by decide +kernel⟩⟩
theorem i_Room_inSight_103 : mj_Ld y_Room_inSight 103 2 6 0 := .inl ⟨rfl, .inl ⟨rfl, by decide +kernel⟩⟩
theorem i_Room_inSight_105 : mj_Mm y_Room_inSight 105 (fun (a b : Int32) => if a < b then b else a) := ⟨67, by decide +kernel, .inl ⟨mm_264, rfl⟩⟩
theorem i_Room_inSight_108 : mj_Ic y_Room_inSight 108 166 (fun (a b : Int32) => b < a) := ⟨58, by decide, .inr (.inr (.inr (.inr (.inl ⟨by decide +kernel, rfl⟩))))⟩
theorem i_Room_inSight_111 : mj_Kc y_Room_inSight 111 1 (.int 2) := .inl ⟨2, by decide +kernel, rfl, by decide +kernel⟩
theorem i_Room_inSight_112 : mj_Ld y_Room_inSight 112 2 8 0 := .inl ⟨rfl, .inl ⟨rfl, by decide +kernel⟩⟩
theorem i_Room_inSight_114 : mj_Ld y_Room_inSight 114 2 10 0 := .inl ⟨rfl, .inl ⟨rfl, by decide +kernel⟩⟩
theorem i_Room_inSight_116 : mj_Ld y_Room_inSight 116 1 3 0 := .inl ⟨rfl, .inr ⟨rfl, 3, rfl, by decide +kernel⟩⟩
theorem i_Room_inSight_117 : mj_B2 y_Room_inSight 117 (fun (a b : Int32) => a - b) := .inr (.inl ⟨by decide +kernel, rfl⟩)
theorem i_Room_inSight_118 : mj_B2 y_Room_inSight 118 (fun (a b : Int32) => a * b) := .inr (.inr (.inl ⟨by decide +kernel, rfl⟩))
theorem i_Room_inSight_119 : mj_Ld y_Room_inSight 119 2 7 0 := .inl ⟨rfl, .inl ⟨rfl, by decide +kernel⟩⟩
theorem i_Room_inSight_121 : mj_Ld y_Room_inSight 121 2 11 0 := .inl ⟨rfl, .inl ⟨rfl, by decide +kernel⟩⟩
theorem i_Room_inSight_123 : mj_Ld y_Room_inSight 123 2 4 0 := .inl ⟨rfl, .inl ⟨rfl, by decide +kernel⟩⟩
theorem i_Room_inSight_125 : mj_B2 y_Room_inSight 125 (fun (a b : Int32) => a - b) := .inr (.inl ⟨by decide +kernel, rfl⟩)
theorem i_Room_inSight_126 : mj_B2 y_Room_inSight 126 (fun (a b : Int32) => a * b) := .inr (.inr (.inl ⟨by decide +kernel, rfl⟩))
theorem i_Room_inSight_127 : mj_B2 y_Room_inSight 127 (fun (a b : Int32) => a - b) := .inr (.inl ⟨by decide +kernel, rfl⟩)
theorem i_Room_inSight_128 : mj_Ma y_Room_inSight 128 := ⟨70, by decide +kernel, mm_335⟩
theorem i_Room_inSight_131 : mj_B2 y_Room_inSight 131 (fun (a b : Int32) => a * b) := .inr (.inr (.inl ⟨by decide +kernel, rfl⟩))
theorem i_Room_inSight_132 : mj_St y_Room_inSight 132 2 12 0 := .inl ⟨rfl, .inl ⟨rfl, by decide +kernel⟩⟩
theorem i_Room_inSight_134 : mj_Ld y_Room_inSight 134 2 12 0 := .inl ⟨rfl, .inl ⟨rfl, by decide +kernel⟩⟩
theorem i_Room_inSight_136 : mj_Ld y_Room_inSight 136 2 9 0 := .inl ⟨rfl, .inl ⟨rfl, by decide +kernel⟩⟩
theorem i_Room_inSight_138 : mj_Ic y_Room_inSight 138 160 (fun (a b : Int32) => b ≤ a) := ⟨22, by decide, .inr (.inr (.inr (.inl ⟨by decide +kernel, rfl⟩)))⟩
theorem i_Room_inSight_141 : mj_Ld y_Room_inSight 141 1 0 2 := .inr (.inr ⟨rfl, .inr ⟨rfl, 0, rfl, by decide +kernel⟩⟩)
theorem i_Room_inSight_142 : mj_Ld y_Room_inSight 142 2 10 0 := .inl ⟨rfl, .inl ⟨rfl, by decide +kernel⟩⟩
theorem i_Room_inSight_144 : mj_Ld y_Room_inSight 144 1 0 2 := .inr (.inr ⟨rfl, .inr ⟨rfl, 0, rfl, by decide +kernel⟩⟩)
theorem i_Room_inSight_145 : mj_Gf y_Room_inSight 145 4 0 := ⟨by decide, by decide, 9, by decide +kernel, .inl mm_30⟩
theorem i_Room_inSight_148 : mj_B2 y_Room_inSight 148 (fun (a b : Int32) => a * b) := .inr (.inr (.inl ⟨by decide +kernel, rfl⟩))
theorem i_Room_inSight_149 : mj_Ld y_Room_inSight 149 2 11 0 := .inl ⟨rfl, .inl ⟨rfl, by decide +kernel⟩⟩
theorem i_Room_inSight_151 : mj_B2 y_Room_inSight 151 (fun (a b : Int32) => a + b) := .inl ⟨by decide +kernel, rfl⟩
theorem i_Room_inSight_152 : mj_Cv y_Room_inSight 152 y_Room_isOpen 4 1 := ⟨by decide, rfl, mt_Room_isOpen, 47, by decide +kernel, mm_284, mm_285, mm_286⟩
theorem i_Room_inSight_155 : mj_If y_Room_inSight 155 160 (fun (a : Int32) => ¬ a = 0) := ⟨5, by decide, .inr (.inl ⟨by decide +kernel, rfl⟩)⟩
theorem i_Room_inSight_158 : mj_Kc y_Room_inSight 158 1 (.int 0) := .inl ⟨0, by decide +kernel, rfl, by decide +kernel⟩
theorem i_Room_inSight_159 : decode y_Room_inSight.2.1 159 = .ok (.ireturn, 1) := by decide +kernel
theorem i_Room_inSight_160 : mj_In y_Room_inSight 160 11 1 := ⟨1, by decide +kernel, by decide +kernel⟩
theorem i_Room_inSight_163 : mj_Go y_Room_inSight 163 99 := ⟨(-64), by decide, by decide +kernel⟩
theorem i_Room_inSight_166 : mj_In y_Room_inSight 166 10 1 := ⟨1, by decide +kernel, by decide +kernel⟩
theorem i_Room_inSight_169 : mj_Go y_Room_inSight 169 79 := ⟨(-90), by decide, by decide +kernel⟩
theorem i_Room_inSight_172 : mj_Kc y_Room_inSight 172 1 (.int 1) := .inl ⟨1, by decide +kernel, rfl, by decide +kernel⟩
theorem i_Room_inSight_173 : decode y_Room_inSight.2.1 173 = .ok (.ireturn, 1) := by decide +kernel
theorem i_Room_posts_0 : mj_Ld y_Room_posts 0 1 0 2 := .inr (.inr ⟨rfl, .inr ⟨rfl, 0, rfl, by decide +kernel⟩⟩)
theorem i_Room_posts_1 : mj_Gf y_Room_posts 1 4 2 := ⟨by decide, by decide, 28, by decide +kernel, .inl mm_33⟩
theorem i_Room_posts_4 : decode y_Room_posts.2.1 4 = .ok (.ireturn, 1) := by decide +kernel
theorem i_Room_addPost_0 : mj_Ld y_Room_addPost 0 1 0 2 := .inr (.inr ⟨rfl, .inr ⟨rfl, 0, rfl, by decide +kernel⟩⟩)
theorem i_Room_addPost_1 : mj_Gf y_Room_addPost 1 4 2 := ⟨by decide, by decide, 28, by decide +kernel, .inl mm_33⟩
theorem i_Room_addPost_4 : mj_Kc y_Room_addPost 4 2 (.int 14) := .inr (.inl ⟨14, by decide +kernel, rfl, by decide +kernel⟩)
theorem i_Room_addPost_6 : mj_Ic y_Room_addPost 6 29 (fun (a b : Int32) => b ≤ a) := ⟨23, by decide, .inr (.inr (.inr (.inl ⟨by decide +kernel, rfl⟩)))⟩
theorem i_Room_addPost_9 : mj_Ld y_Room_addPost 9 1 0 2 := .inr (.inr ⟨rfl, .inr ⟨rfl, 0, rfl, by decide +kernel⟩⟩)
theorem i_Room_addPost_10 : mj_Gf y_Room_addPost 10 4 4 := ⟨by decide, by decide, 24, by decide +kernel, .inl mm_35⟩
theorem i_Room_addPost_13 : mj_Ld y_Room_addPost 13 1 0 2 := .inr (.inr ⟨rfl, .inr ⟨rfl, 0, rfl, by decide +kernel⟩⟩)
theorem i_Room_addPost_14 : mj_Gf y_Room_addPost 14 4 2 := ⟨by decide, by decide, 28, by decide +kernel, .inl mm_33⟩
theorem i_Room_addPost_17 : mj_Ld y_Room_addPost 17 1 1 2 := .inr (.inr ⟨rfl, .inr ⟨rfl, 1, rfl, by decide +kernel⟩⟩)
theorem i_Room_addPost_18 : decode y_Room_addPost.2.1 18 = .ok (.aastore, 1) := by decide +kernel
theorem i_Room_addPost_19 : mj_Ld y_Room_addPost 19 1 0 2 := .inr (.inr ⟨rfl, .inr ⟨rfl, 0, rfl, by decide +kernel⟩⟩)
theorem i_Room_addPost_20 : decode y_Room_addPost.2.1 20 = .ok (.dup, 1) := by decide +kernel
theorem i_Room_addPost_21 : mj_Gf y_Room_addPost 21 4 2 := ⟨by decide, by decide, 28, by decide +kernel, .inl mm_33⟩
theorem i_Room_addPost_24 : mj_Kc y_Room_addPost 24 1 (.int 1) := .inl ⟨1, by decide +kernel, rfl, by decide +kernel⟩
theorem i_Room_addPost_25 : mj_B2 y_Room_addPost 25 (fun (a b : Int32) => a + b) := .inl ⟨by decide +kernel, rfl⟩
theorem i_Room_addPost_26 : mj_Pf y_Room_addPost 26 4 2 (.int) := ⟨by decide, by decide, 28, by decide +kernel, mm_33, by decide +kernel, .inl rfl⟩
theorem i_Room_addPost_29 : decode y_Room_addPost.2.1 29 = .ok (.return_, 1) := by decide +kernel
theorem i_Room_setPost_0 : mj_Ld y_Room_setPost 0 1 1 0 := .inl ⟨rfl, .inr ⟨rfl, 1, rfl, by decide +kernel⟩⟩
theorem i_Room_setPost_1 : mj_If y_Room_setPost 1 17 (fun (a : Int32) => a < 0) := ⟨16, by decide, .inr (.inr (.inl ⟨by decide +kernel, rfl⟩))⟩
theorem i_Room_setPost_4 : mj_Ld y_Room_setPost 4 1 1 0 := .inl ⟨rfl, .inr ⟨rfl, 1, rfl, by decide +kernel⟩⟩
theorem i_Room_setPost_5 : mj_Kc y_Room_setPost 5 2 (.int 14) := .inr (.inl ⟨14, by decide +kernel, rfl, by decide +kernel⟩)
theorem i_Room_setPost_7 : mj_Ic y_Room_setPost 7 17 (fun (a b : Int32) => b ≤ a) := ⟨10, by decide, .inr (.inr (.inr (.inl ⟨by decide +kernel, rfl⟩)))⟩
theorem i_Room_setPost_10 : mj_Ld y_Room_setPost 10 1 0 2 := .inr (.inr ⟨rfl, .inr ⟨rfl, 0, rfl, by decide +kernel⟩⟩)
theorem i_Room_setPost_11 : mj_Gf y_Room_setPost 11 4 4 := ⟨by decide, by decide, 24, by decide +kernel, .inl mm_35⟩
theorem i_Room_setPost_14 : mj_Ld y_Room_setPost 14 1 1 0 := .inl ⟨rfl, .inr ⟨rfl, 1, rfl, by decide +kernel⟩⟩
theorem i_Room_setPost_15 : mj_Ld y_Room_setPost 15 1 2 2 := .inr (.inr ⟨rfl, .inr ⟨rfl, 2, rfl, by decide +kernel⟩⟩)
theorem i_Room_setPost_16 : decode y_Room_setPost.2.1 16 = .ok (.aastore, 1) := by decide +kernel
theorem i_Room_setPost_17 : decode y_Room_setPost.2.1 17 = .ok (.return_, 1) := by decide +kernel
theorem i_Room_removeLatestPost_0 : mj_Ld y_Room_removeLatestPost 0 1 0 2 := .inr (.inr ⟨rfl, .inr ⟨rfl, 0, rfl, by decide +kernel⟩⟩)
theorem i_Room_removeLatestPost_1 : mj_Gf y_Room_removeLatestPost 1 4 2 := ⟨by decide, by decide, 28, by decide +kernel, .inl mm_33⟩
theorem i_Room_removeLatestPost_4 : mj_If y_Room_removeLatestPost 4 26 (fun (a : Int32) => a ≤ 0) := ⟨22, by decide, .inr (.inr (.inr (.inr (.inr (⟨by decide +kernel, rfl⟩)))))⟩
theorem i_Room_removeLatestPost_7 : mj_Ld y_Room_removeLatestPost 7 1 0 2 := .inr (.inr ⟨rfl, .inr ⟨rfl, 0, rfl, by decide +kernel⟩⟩)
theorem i_Room_removeLatestPost_8 : decode y_Room_removeLatestPost.2.1 8 = .ok (.dup, 1) := by decide +kernel
theorem i_Room_removeLatestPost_9 : mj_Gf y_Room_removeLatestPost 9 4 2 := ⟨by decide, by decide, 28, by decide +kernel, .inl mm_33⟩
theorem i_Room_removeLatestPost_12 : mj_Kc y_Room_removeLatestPost 12 1 (.int 1) := .inl ⟨1, by decide +kernel, rfl, by decide +kernel⟩
theorem i_Room_removeLatestPost_13 : mj_B2 y_Room_removeLatestPost 13 (fun (a b : Int32) => a - b) := .inr (.inl ⟨by decide +kernel, rfl⟩)
theorem i_Room_removeLatestPost_14 : mj_Pf y_Room_removeLatestPost 14 4 2 (.int) := ⟨by decide, by decide, 28, by decide +kernel, mm_33, by decide +kernel, .inl rfl⟩
theorem i_Room_removeLatestPost_17 : mj_Ld y_Room_removeLatestPost 17 1 0 2 := .inr (.inr ⟨rfl, .inr ⟨rfl, 0, rfl, by decide +kernel⟩⟩)
theorem i_Room_removeLatestPost_18 : mj_Ld y_Room_removeLatestPost 18 1 0 2 := .inr (.inr ⟨rfl, .inr ⟨rfl, 0, rfl, by decide +kernel⟩⟩)
theorem i_Room_removeLatestPost_19 : mj_Gf y_Room_removeLatestPost 19 4 2 := ⟨by decide, by decide, 28, by decide +kernel, .inl mm_33⟩
theorem i_Room_removeLatestPost_22 : mj_Kc y_Room_removeLatestPost 22 1 .null := .inr (.inr (.inr (.inr (.inr (.inr (.inr (⟨by decide +kernel, rfl, rfl⟩)))))))
theorem i_Room_removeLatestPost_23 : mj_Cv y_Room_removeLatestPost 23 y_Room_setPost 4 2 := ⟨by decide, rfl, mt_Room_setPost, 77, by decide +kernel, mm_435, mm_412, mm_413⟩
theorem i_Room_removeLatestPost_26 : decode y_Room_removeLatestPost.2.1 26 = .ok (.return_, 1) := by decide +kernel
theorem i_Room_hasPosts_0 : mj_Ld y_Room_hasPosts 0 1 1 0 := .inl ⟨rfl, .inr ⟨rfl, 1, rfl, by decide +kernel⟩⟩
theorem i_Room_hasPosts_1 : mj_Ld y_Room_hasPosts 1 1 0 2 := .inr (.inr ⟨rfl, .inr ⟨rfl, 0, rfl, by decide +kernel⟩⟩)
theorem i_Room_hasPosts_2 : mj_Cv y_Room_hasPosts 2 y_Room_allPosts 4 0 := ⟨by decide, rfl, mt_Room_allPosts, 73, by decide +kernel, mm_517, mm_518, mm_519⟩
theorem i_Room_hasPosts_5 : mj_Kc y_Room_hasPosts 5 1 (.int (-1)) := .inl ⟨(-1), by decide +kernel, rfl, by decide +kernel⟩
theorem i_Room_hasPosts_6 : mj_B2 y_Room_hasPosts 6 (fun (a b : Int32) => a ^^^ b) := .inr (.inr (.inr (.inr (.inr (.inl ⟨by decide +kernel, rfl⟩)))))
theorem i_Room_hasPosts_7 : mj_B2 y_Room_hasPosts 7 (fun (a b : Int32) => a &&& b) := .inr (.inr (.inr (.inl ⟨by decide +kernel, rfl⟩)))
theorem i_Room_hasPosts_8 : mj_If y_Room_hasPosts 8 15 (fun (a : Int32) => ¬ a = 0) := ⟨7, by decide, .inr (.inl ⟨by decide +kernel, rfl⟩)⟩
theorem i_Room_hasPosts_11 : mj_Kc y_Room_hasPosts 11 1 (.int 1) := .inl ⟨1, by decide +kernel, rfl, by decide +kernel⟩
theorem i_Room_hasPosts_12 : mj_Go y_Room_hasPosts 12 16 := ⟨4, by decide, by decide +kernel⟩
theorem i_Room_hasPosts_15 : mj_Kc y_Room_hasPosts 15 1 (.int 0) := .inl ⟨0, by decide +kernel, rfl, by decide +kernel⟩
theorem i_Room_hasPosts_16 : decode y_Room_hasPosts.2.1 16 = .ok (.ireturn, 1) := by decide +kernel
theorem i_Room_allPosts_0 : mj_Kc y_Room_allPosts 0 1 (.int 1) := .inl ⟨1, by decide +kernel, rfl, by decide +kernel⟩
theorem i_Room_allPosts_1 : mj_Ld y_Room_allPosts 1 1 0 2 := .inr (.inr ⟨rfl, .inr ⟨rfl, 0, rfl, by decide +kernel⟩⟩)
theorem i_Room_allPosts_2 : mj_Gf y_Room_allPosts 2 4 2 := ⟨by decide, by decide, 28, by decide +kernel, .inl mm_33⟩
theorem i_Room_allPosts_5 : mj_B2 y_Room_allPosts 5 (fun (a b : Int32) => a <<< (b &&& 31)) := .inr (.inr (.inr (.inr (.inr (.inr (.inl ⟨by decide +kernel, rfl⟩))))))
theorem i_Room_allPosts_6 : mj_Kc y_Room_allPosts 6 1 (.int 1) := .inl ⟨1, by decide +kernel, rfl, by decide +kernel⟩
theorem i_Room_allPosts_7 : mj_B2 y_Room_allPosts 7 (fun (a b : Int32) => a - b) := .inr (.inl ⟨by decide +kernel, rfl⟩)
theorem i_Room_allPosts_8 : decode y_Room_allPosts.2.1 8 = .ok (.ireturn, 1) := by decide +kernel
theorem i_Room_openCells_0 : mj_Kc y_Room_openCells 0 1 (.int 0) := .inl ⟨0, by decide +kernel, rfl, by decide +kernel⟩
theorem i_Room_openCells_1 : mj_St y_Room_openCells 1 1 1 0 := .inl ⟨rfl, .inr ⟨rfl, 1, rfl, by decide +kernel⟩⟩
theorem i_Room_openCells_2 : mj_Kc y_Room_openCells 2 1 (.int 0) := .inl ⟨0, by decide +kernel, rfl, by decide +kernel⟩
theorem i_Room_openCells_3 : mj_St y_Room_openCells 3 1 2 0 := .inl ⟨rfl, .inr ⟨rfl, 2, rfl, by decide +kernel⟩⟩
theorem i_Room_openCells_4 : mj_Ld y_Room_openCells 4 1 2 0 := .inl ⟨rfl, .inr ⟨rfl, 2, rfl, by decide +kernel⟩⟩
theorem i_Room_openCells_5 : mj_Kc y_Room_openCells 5 2 (.int 100) := .inr (.inl ⟨100, by decide +kernel, rfl, by decide +kernel⟩)
theorem i_Room_openCells_7 : mj_Ic y_Room_openCells 7 27 (fun (a b : Int32) => b ≤ a) := ⟨20, by decide, .inr (.inr (.inr (.inl ⟨by decide +kernel, rfl⟩)))⟩
theorem i_Room_openCells_10 : mj_Ld y_Room_openCells 10 1 1 0 := .inl ⟨rfl, .inr ⟨rfl, 1, rfl, by decide +kernel⟩⟩
theorem i_Room_openCells_11 : mj_Ld y_Room_openCells 11 1 0 2 := .inr (.inr ⟨rfl, .inr ⟨rfl, 0, rfl, by decide +kernel⟩⟩)
theorem i_Room_openCells_12 : mj_Ld y_Room_openCells 12 1 2 0 := .inl ⟨rfl, .inr ⟨rfl, 2, rfl, by decide +kernel⟩⟩
theorem i_Room_openCells_13 : mj_Cv y_Room_openCells 13 y_Room_isOpen 4 1 := ⟨by decide, rfl, mt_Room_isOpen, 47, by decide +kernel, mm_284, mm_285, mm_286⟩
theorem i_Room_openCells_16 : mj_Cs y_Room_openCells 16 y_GW_bit 1 := ⟨mt_GW_bit, 50, by decide +kernel, mm_325, .inr ⟨"GalleryWatch", mm_720⟩⟩
theorem i_Room_openCells_19 : mj_B2 y_Room_openCells 19 (fun (a b : Int32) => a + b) := .inl ⟨by decide +kernel, rfl⟩
theorem i_Room_openCells_20 : mj_St y_Room_openCells 20 1 1 0 := .inl ⟨rfl, .inr ⟨rfl, 1, rfl, by decide +kernel⟩⟩
theorem i_Room_openCells_21 : mj_In y_Room_openCells 21 2 1 := ⟨1, by decide +kernel, by decide +kernel⟩
theorem i_Room_openCells_24 : mj_Go y_Room_openCells 24 4 := ⟨(-20), by decide, by decide +kernel⟩
theorem i_Room_openCells_27 : mj_Ld y_Room_openCells 27 1 1 0 := .inl ⟨rfl, .inr ⟨rfl, 1, rfl, by decide +kernel⟩⟩
theorem i_Room_openCells_28 : decode y_Room_openCells.2.1 28 = .ok (.ireturn, 1) := by decide +kernel
