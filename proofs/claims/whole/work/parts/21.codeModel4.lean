/-! what stands at each place of the methods: Model -/
theorem i_Model_walk_48 : mj_Kc y_Model_walk 48 1 (.int 0) := .inl ⟨0, by decide +kernel, rfl, by decide +kernel⟩
theorem i_Model_walk_49 : mj_St y_Model_walk 49 1 2 0 := .inl ⟨rfl, .inr ⟨rfl, 2, rfl, by decide +kernel⟩⟩
theorem i_Model_walk_50 : mj_Kc y_Model_walk 50 1 (.int 0) := .inl ⟨0, by decide +kernel, rfl, by decide +kernel⟩
theorem i_Model_walk_51 : mj_St y_Model_walk 51 2 4 0 := .inl ⟨rfl, .inl ⟨rfl, by decide +kernel⟩⟩
theorem i_Model_walk_53 : mj_Ld y_Model_walk 53 2 4 0 := .inl ⟨rfl, .inl ⟨rfl, by decide +kernel⟩⟩
theorem i_Model_walk_55 : mj_Ld y_Model_walk 55 1 0 2 := .inr (.inr ⟨rfl, .inr ⟨rfl, 0, rfl, by decide +kernel⟩⟩)
theorem i_Model_walk_56 : mj_Cv y_Model_walk 56 y_Model_cells 8 0 := ⟨by decide, rfl, mt_Model_cells, 66, by decide +kernel, mm_822, mm_824, mp_18⟩
theorem i_Model_walk_59 : mj_Ic y_Model_walk 59 139 (fun (a b : Int32) => b ≤ a) := ⟨80, by decide, .inr (.inr (.inr (.inl ⟨by decide +kernel, rfl⟩)))⟩
theorem i_Model_walk_62 : mj_Kc y_Model_walk 62 1 (.int 0) := .inl ⟨0, by decide +kernel, rfl, by decide +kernel⟩
theorem i_Model_walk_63 : mj_St y_Model_walk 63 2 5 0 := .inl ⟨rfl, .inl ⟨rfl, by decide +kernel⟩⟩
theorem i_Model_walk_65 : mj_Ld y_Model_walk 65 2 5 0 := .inl ⟨rfl, .inl ⟨rfl, by decide +kernel⟩⟩
theorem i_Model_walk_67 : mj_Ld y_Model_walk 67 1 0 2 := .inr (.inr ⟨rfl, .inr ⟨rfl, 0, rfl, by decide +kernel⟩⟩)
theorem i_Model_walk_68 : mj_Cv y_Model_walk 68 y_Model_cells 8 0 := ⟨by decide, rfl, mt_Model_cells, 66, by decide +kernel, mm_822, mm_824, mp_18⟩
theorem i_Model_walk_71 : mj_Ic y_Model_walk 71 133 (fun (a b : Int32) => b ≤ a) := ⟨62, by decide, .inr (.inr (.inr (.inl ⟨by decide +kernel, rfl⟩)))⟩
theorem i_Model_walk_74 : mj_Ld y_Model_walk 74 1 0 2 := .inr (.inr ⟨rfl, .inr ⟨rfl, 0, rfl, by decide +kernel⟩⟩)
theorem i_Model_walk_75 : mj_Gf y_Model_walk 75 8 18 := ⟨by decide, by decide, 44, by decide +kernel, .inl mm_750⟩
theorem i_Model_walk_78 : mj_Ld y_Model_walk 78 2 4 0 := .inl ⟨rfl, .inl ⟨rfl, by decide +kernel⟩⟩
theorem i_Model_walk_80 : decode y_Model_walk.2.1 80 = .ok (.iaload, 1) := by decide +kernel
theorem i_Model_walk_81 : mj_Ld y_Model_walk 81 1 3 0 := .inl ⟨rfl, .inr ⟨rfl, 3, rfl, by decide +kernel⟩⟩
theorem i_Model_walk_82 : mj_Ic y_Model_walk 82 127 (fun (a b : Int32) => ¬ a = b) := ⟨45, by decide, .inr (.inl ⟨by decide +kernel, rfl⟩)⟩
theorem i_Model_walk_85 : mj_Ld y_Model_walk 85 1 0 2 := .inr (.inr ⟨rfl, .inr ⟨rfl, 0, rfl, by decide +kernel⟩⟩)
theorem i_Model_walk_86 : mj_Gf y_Model_walk 86 8 18 := ⟨by decide, by decide, 44, by decide +kernel, .inl mm_750⟩
theorem i_Model_walk_89 : mj_Ld y_Model_walk 89 2 5 0 := .inl ⟨rfl, .inl ⟨rfl, by decide +kernel⟩⟩
theorem i_Model_walk_91 : decode y_Model_walk.2.1 91 = .ok (.iaload, 1) := by decide +kernel
theorem i_Model_walk_92 : mj_If y_Model_walk 92 127 (fun (a : Int32) => 0 ≤ a) := ⟨35, by decide, .inr (.inr (.inr (.inl ⟨by decide +kernel, rfl⟩)))⟩
theorem i_Model_walk_95 : mj_Ld y_Model_walk 95 1 0 2 := .inr (.inr ⟨rfl, .inr ⟨rfl, 0, rfl, by decide +kernel⟩⟩)
theorem i_Model_walk_96 : mj_Ld y_Model_walk 96 2 5 0 := .inl ⟨rfl, .inl ⟨rfl, by decide +kernel⟩⟩
theorem i_Model_walk_98 : mj_Cv y_Model_walk 98 y_Model_isUnseen 8 1 := ⟨by decide, rfl, mt_Model_isUnseen, 177, by decide +kernel, mm_1018, mm_1020, mp_39⟩
theorem i_Model_walk_101 : mj_If y_Model_walk 101 127 (fun (a : Int32) => a = 0) := ⟨26, by decide, .inl ⟨by decide +kernel, rfl⟩⟩
theorem i_Model_walk_104 : mj_Ld y_Model_walk 104 1 0 2 := .inr (.inr ⟨rfl, .inr ⟨rfl, 0, rfl, by decide +kernel⟩⟩)
theorem i_Model_walk_105 : mj_Ld y_Model_walk 105 2 4 0 := .inl ⟨rfl, .inl ⟨rfl, by decide +kernel⟩⟩
theorem i_Model_walk_107 : mj_Ld y_Model_walk 107 2 5 0 := .inl ⟨rfl, .inl ⟨rfl, by decide +kernel⟩⟩
theorem i_Model_walk_109 : mj_Cv y_Model_walk 109 y_Model_areNeighbours 8 2 := ⟨by decide, rfl, mt_Model_areNeighbours, 180, by decide +kernel, mm_1022, mm_1024, mp_40⟩
theorem i_Model_walk_112 : mj_If y_Model_walk 112 127 (fun (a : Int32) => a = 0) := ⟨15, by decide, .inl ⟨by decide +kernel, rfl⟩⟩
theorem i_Model_walk_115 : mj_Ld y_Model_walk 115 1 0 2 := .inr (.inr ⟨rfl, .inr ⟨rfl, 0, rfl, by decide +kernel⟩⟩)
theorem i_Model_walk_116 : mj_Gf y_Model_walk 116 8 18 := ⟨by decide, by decide, 44, by decide +kernel, .inl mm_750⟩
theorem i_Model_walk_119 : mj_Ld y_Model_walk 119 2 5 0 := .inl ⟨rfl, .inl ⟨rfl, by decide +kernel⟩⟩
theorem i_Model_walk_121 : mj_Ld y_Model_walk 121 1 3 0 := .inl ⟨rfl, .inr ⟨rfl, 3, rfl, by decide +kernel⟩⟩
theorem i_Model_walk_122 : mj_Kc y_Model_walk 122 1 (.int 1) := .inl ⟨1, by decide +kernel, rfl, by decide +kernel⟩
theorem i_Model_walk_123 : mj_B2 y_Model_walk 123 (fun (a b : Int32) => a + b) := .inl ⟨by decide +kernel, rfl⟩
theorem i_Model_walk_124 : decode y_Model_walk.2.1 124 = .ok (.iastore, 1) := by decide +kernel
theorem i_Model_walk_125 : mj_Kc y_Model_walk 125 1 (.int 1) := .inl ⟨1, by decide +kernel, rfl, by decide +kernel⟩
theorem i_Model_walk_126 : mj_St y_Model_walk 126 1 2 0 := .inl ⟨rfl, .inr ⟨rfl, 2, rfl, by decide +kernel⟩⟩
theorem i_Model_walk_127 : mj_In y_Model_walk 127 5 1 := ⟨1, by decide +kernel, by decide +kernel⟩
theorem i_Model_walk_130 : mj_Go y_Model_walk 130 65 := ⟨(-65), by decide, by decide +kernel⟩
theorem i_Model_walk_133 : mj_In y_Model_walk 133 4 1 := ⟨1, by decide +kernel, by decide +kernel⟩
theorem i_Model_walk_136 : mj_Go y_Model_walk 136 53 := ⟨(-83), by decide, by decide +kernel⟩
theorem i_Model_walk_139 : mj_In y_Model_walk 139 3 1 := ⟨1, by decide +kernel, by decide +kernel⟩
theorem i_Model_walk_142 : mj_Go y_Model_walk 142 44 := ⟨(-98), by decide, by decide +kernel⟩
theorem i_Model_walk_145 : decode y_Model_walk.2.1 145 = .ok (.return_, 1) := by decide +kernel
theorem i_Model_isUnseen_0 : mj_Ld y_Model_isUnseen 0 1 0 2 := .inr (.inr ⟨rfl, .inr ⟨rfl, 0, rfl, by decide +kernel⟩⟩)
theorem i_Model_isUnseen_1 : mj_Ld y_Model_isUnseen 1 1 1 0 := .inl ⟨rfl, .inr ⟨rfl, 1, rfl, by decide +kernel⟩⟩
theorem i_Model_isUnseen_2 : mj_Cv y_Model_isUnseen 2 y_Model_isOpen 8 1 := ⟨by decide, rfl, mt_Model_isOpen, 82, by decide +kernel, mm_854, mm_856, mp_25⟩
theorem i_Model_isUnseen_5 : mj_If y_Model_isUnseen 5 21 (fun (a : Int32) => a = 0) := ⟨16, by decide, .inl ⟨by decide +kernel, rfl⟩⟩
theorem i_Model_isUnseen_8 : mj_Ld y_Model_isUnseen 8 1 0 2 := .inr (.inr ⟨rfl, .inr ⟨rfl, 0, rfl, by decide +kernel⟩⟩)
theorem i_Model_isUnseen_9 : mj_Gf y_Model_isUnseen 9 8 5 := ⟨by decide, by decide, 23, by decide +kernel, .inl mm_737⟩
theorem i_Model_isUnseen_12 : mj_Ld y_Model_isUnseen 12 1 1 0 := .inl ⟨rfl, .inr ⟨rfl, 1, rfl, by decide +kernel⟩⟩
theorem i_Model_isUnseen_13 : decode y_Model_isUnseen.2.1 13 = .ok (.iaload, 1) := by decide +kernel
theorem i_Model_isUnseen_14 : mj_If y_Model_isUnseen 14 21 (fun (a : Int32) => ¬ a = 0) := ⟨7, by decide, .inr (.inl ⟨by decide +kernel, rfl⟩)⟩
theorem i_Model_isUnseen_17 : mj_Kc y_Model_isUnseen 17 1 (.int 1) := .inl ⟨1, by decide +kernel, rfl, by decide +kernel⟩
theorem i_Model_isUnseen_18 : mj_Go y_Model_isUnseen 18 22 := ⟨4, by decide, by decide +kernel⟩
theorem i_Model_isUnseen_21 : mj_Kc y_Model_isUnseen 21 1 (.int 0) := .inl ⟨0, by decide +kernel, rfl, by decide +kernel⟩
theorem i_Model_isUnseen_22 : decode y_Model_isUnseen.2.1 22 = .ok (.ireturn, 1) := by decide +kernel
theorem i_Model_areNeighbours_0 : mj_Ld y_Model_areNeighbours 0 1 1 0 := .inl ⟨rfl, .inr ⟨rfl, 1, rfl, by decide +kernel⟩⟩
theorem i_Model_areNeighbours_1 : mj_Ld y_Model_areNeighbours 1 1 0 2 := .inr (.inr ⟨rfl, .inr ⟨rfl, 0, rfl, by decide +kernel⟩⟩)
theorem i_Model_areNeighbours_2 : mj_Gf y_Model_areNeighbours 2 8 0 := ⟨by decide, by decide, 7, by decide +kernel, .inl mm_732⟩
theorem i_Model_areNeighbours_5 : mj_D2 y_Model_areNeighbours 5 (fun (a b : Int32) => a - a / b * b) := .inr ⟨by decide +kernel, rfl⟩
theorem i_Model_areNeighbours_6 : mj_Ld y_Model_areNeighbours 6 1 2 0 := .inl ⟨rfl, .inr ⟨rfl, 2, rfl, by decide +kernel⟩⟩
theorem i_Model_areNeighbours_7 : mj_Ld y_Model_areNeighbours 7 1 0 2 := .inr (.inr ⟨rfl, .inr ⟨rfl, 0, rfl, by decide +kernel⟩⟩)
theorem i_Model_areNeighbours_8 : mj_Gf y_Model_areNeighbours 8 8 0 := ⟨by decide, by decide, 7, by decide +kernel, .inl mm_732⟩
theorem i_Model_areNeighbours_11 : mj_D2 y_Model_areNeighbours 11 (fun (a b : Int32) => a - a / b * b) := .inr ⟨by decide +kernel, rfl⟩
theorem i_Model_areNeighbours_12 : mj_B2 y_Model_areNeighbours 12 (fun (a b : Int32) => a - b) := .inr (.inl ⟨by decide +kernel, rfl⟩)
theorem i_Model_areNeighbours_13 : mj_St y_Model_areNeighbours 13 1 3 0 := .inl ⟨rfl, .inr ⟨rfl, 3, rfl, by decide +kernel⟩⟩
theorem i_Model_areNeighbours_14 : mj_Ld y_Model_areNeighbours 14 1 1 0 := .inl ⟨rfl, .inr ⟨rfl, 1, rfl, by decide +kernel⟩⟩
theorem i_Model_areNeighbours_15 : mj_Ld y_Model_areNeighbours 15 1 0 2 := .inr (.inr ⟨rfl, .inr ⟨rfl, 0, rfl, by decide +kernel⟩⟩)
theorem i_Model_areNeighbours_16 : mj_Gf y_Model_areNeighbours 16 8 0 := ⟨by decide, by decide, 7, by decide +kernel, .inl mm_732⟩
theorem i_Model_areNeighbours_19 : mj_D2 y_Model_areNeighbours 19 (fun (a b : Int32) => a / b) := .inl ⟨by decide +kernel, rfl⟩
theorem i_Model_areNeighbours_20 : mj_Ld y_Model_areNeighbours 20 1 2 0 := .inl ⟨rfl, .inr ⟨rfl, 2, rfl, by decide +kernel⟩⟩
theorem i_Model_areNeighbours_21 : mj_Ld y_Model_areNeighbours 21 1 0 2 := .inr (.inr ⟨rfl, .inr ⟨rfl, 0, rfl, by decide +kernel⟩⟩)
theorem i_Model_areNeighbours_22 : mj_Gf y_Model_areNeighbours 22 8 0 := ⟨by decide, by decide, 7, by decide +kernel, .inl mm_732⟩
theorem i_Model_areNeighbours_25 : mj_D2 y_Model_areNeighbours 25 (fun (a b : Int32) => a / b) := .inl ⟨by decide +kernel, rfl⟩
theorem i_Model_areNeighbours_26 : mj_B2 y_Model_areNeighbours 26 (fun (a b : Int32) => a - b) := .inr (.inl ⟨by decide +kernel, rfl⟩)
theorem i_Model_areNeighbours_27 : mj_St y_Model_areNeighbours 27 2 4 0 := .inl ⟨rfl, .inl ⟨rfl, by decide +kernel⟩⟩
theorem i_Model_areNeighbours_29 : mj_Ld y_Model_areNeighbours 29 1 3 0 := .inl ⟨rfl, .inr ⟨rfl, 3, rfl, by decide +kernel⟩⟩
theorem i_Model_areNeighbours_30 : mj_Ld y_Model_areNeighbours 30 1 3 0 := .inl ⟨rfl, .inr ⟨rfl, 3, rfl, by decide +kernel⟩⟩
theorem i_Model_areNeighbours_31 : mj_B2 y_Model_areNeighbours 31 (fun (a b : Int32) => a * b) := .inr (.inr (.inl ⟨by decide +kernel, rfl⟩))
theorem i_Model_areNeighbours_32 : mj_Ld y_Model_areNeighbours 32 2 4 0 := .inl ⟨rfl, .inl ⟨rfl, by decide +kernel⟩⟩
theorem i_Model_areNeighbours_34 : mj_Ld y_Model_areNeighbours 34 2 4 0 := .inl ⟨rfl, .inl ⟨rfl, by decide +kernel⟩⟩
theorem i_Model_areNeighbours_36 : mj_B2 y_Model_areNeighbours 36 (fun (a b : Int32) => a * b) := .inr (.inr (.inl ⟨by decide +kernel, rfl⟩))
theorem i_Model_areNeighbours_37 : mj_B2 y_Model_areNeighbours 37 (fun (a b : Int32) => a + b) := .inl ⟨by decide +kernel, rfl⟩
theorem i_Model_areNeighbours_38 : mj_Kc y_Model_areNeighbours 38 1 (.int 1) := .inl ⟨1, by decide +kernel, rfl, by decide +kernel⟩
theorem i_Model_areNeighbours_39 : mj_Ic y_Model_areNeighbours 39 46 (fun (a b : Int32) => ¬ a = b) := ⟨7, by decide, .inr (.inl ⟨by decide +kernel, rfl⟩)⟩
theorem i_Model_areNeighbours_42 : mj_Kc y_Model_areNeighbours 42 1 (.int 1) := .inl ⟨1, by decide +kernel, rfl, by decide +kernel⟩
theorem i_Model_areNeighbours_43 : mj_Go y_Model_areNeighbours 43 47 := ⟨4, by decide, by decide +kernel⟩
theorem i_Model_areNeighbours_46 : mj_Kc y_Model_areNeighbours 46 1 (.int 0) := .inl ⟨0, by decide +kernel, rfl, by decide +kernel⟩
theorem i_Model_areNeighbours_47 : decode y_Model_areNeighbours.2.1 47 = .ok (.ireturn, 1) := by decide +kernel
theorem i_Model_way_0 : mj_Ld y_Model_way 0 1 0 2 := .inr (.inr ⟨rfl, .inr ⟨rfl, 0, rfl, by decide +kernel⟩⟩)
theorem i_Model_way_1 : mj_Ld y_Model_way 1 1 1 0 := .inl ⟨rfl, .inr ⟨rfl, 1, rfl, by decide +kernel⟩⟩
theorem i_Model_way_2 : mj_Cv y_Model_way 2 y_Model_isCell 8 1 := ⟨by decide, rfl, mt_Model_isCell, 96, by decide +kernel, mm_830, mm_832, mp_19⟩
theorem i_Model_way_5 : mj_If y_Model_way 5 20 (fun (a : Int32) => a = 0) := ⟨15, by decide, .inl ⟨by decide +kernel, rfl⟩⟩
theorem i_Model_way_8 : mj_Ld y_Model_way 8 1 0 2 := .inr (.inr ⟨rfl, .inr ⟨rfl, 0, rfl, by decide +kernel⟩⟩)
theorem i_Model_way_9 : mj_Ld y_Model_way 9 1 2 0 := .inl ⟨rfl, .inr ⟨rfl, 2, rfl, by decide +kernel⟩⟩
theorem i_Model_way_10 : mj_Cv y_Model_way 10 y_Model_isCell 8 1 := ⟨by decide, rfl, mt_Model_isCell, 96, by decide +kernel, mm_830, mm_832, mp_19⟩
theorem i_Model_way_13 : mj_If y_Model_way 13 20 (fun (a : Int32) => a = 0) := ⟨7, by decide, .inl ⟨by decide +kernel, rfl⟩⟩
theorem i_Model_way_16 : mj_Ld y_Model_way 16 1 3 0 := .inl ⟨rfl, .inr ⟨rfl, 3, rfl, by decide +kernel⟩⟩
theorem i_Model_way_17 : mj_If y_Model_way 17 23 (fun (a : Int32) => 0 ≤ a) := ⟨6, by decide, .inr (.inr (.inr (.inl ⟨by decide +kernel, rfl⟩)))⟩
theorem i_Model_way_20 : mj_Kc y_Model_way 20 2 (.int (-2000000001)) := .inr (.inr (.inr (.inl ⟨81, (-2000000001), by decide +kernel, rfl, rfl, mm_821⟩)))
theorem i_Model_way_22 : decode y_Model_way.2.1 22 = .ok (.ireturn, 1) := by decide +kernel
theorem i_Model_way_23 : mj_Ld y_Model_way 23 1 0 2 := .inr (.inr ⟨rfl, .inr ⟨rfl, 0, rfl, by decide +kernel⟩⟩)
theorem i_Model_way_24 : mj_Cv y_Model_way 24 y_Model_look 8 0 := ⟨by decide, rfl, mt_Model_look, 146, by decide +kernel, mm_943, mm_945, mp_32⟩
theorem i_Model_way_27 : mj_Ld y_Model_way 27 1 0 2 := .inr (.inr ⟨rfl, .inr ⟨rfl, 0, rfl, by decide +kernel⟩⟩)
theorem i_Model_way_28 : mj_Ld y_Model_way 28 1 2 0 := .inl ⟨rfl, .inr ⟨rfl, 2, rfl, by decide +kernel⟩⟩
theorem i_Model_way_29 : mj_Cv y_Model_way 29 y_Model_walk 8 1 := ⟨by decide, rfl, mt_Model_walk, 183, by decide +kernel, mm_1014, mm_1016, mp_38⟩
theorem i_Model_way_32 : mj_Ld y_Model_way 32 1 0 2 := .inr (.inr ⟨rfl, .inr ⟨rfl, 0, rfl, by decide +kernel⟩⟩)
theorem i_Model_way_33 : mj_Gf y_Model_way 33 8 18 := ⟨by decide, by decide, 44, by decide +kernel, .inl mm_750⟩
theorem i_Model_way_36 : mj_Ld y_Model_way 36 1 1 0 := .inl ⟨rfl, .inr ⟨rfl, 1, rfl, by decide +kernel⟩⟩
theorem i_Model_way_37 : decode y_Model_way.2.1 37 = .ok (.iaload, 1) := by decide +kernel
theorem i_Model_way_38 : mj_Ld y_Model_way 38 1 3 0 := .inl ⟨rfl, .inr ⟨rfl, 3, rfl, by decide +kernel⟩⟩
theorem i_Model_way_39 : mj_Ic y_Model_way 39 45 (fun (a b : Int32) => b ≤ a) := ⟨6, by decide, .inr (.inr (.inr (.inl ⟨by decide +kernel, rfl⟩)))⟩
theorem i_Model_way_42 : mj_Kc y_Model_way 42 2 (.int (-2000000005)) := .inr (.inr (.inr (.inl ⟨139, (-2000000005), by decide +kernel, rfl, rfl, mm_934⟩)))
theorem i_Model_way_44 : decode y_Model_way.2.1 44 = .ok (.ireturn, 1) := by decide +kernel
theorem i_Model_way_45 : mj_Ld y_Model_way 45 1 1 0 := .inl ⟨rfl, .inr ⟨rfl, 1, rfl, by decide +kernel⟩⟩
theorem i_Model_way_46 : mj_St y_Model_way 46 2 4 0 := .inl ⟨rfl, .inl ⟨rfl, by decide +kernel⟩⟩
theorem i_Model_way_48 : mj_Kc y_Model_way 48 1 (.int 0) := .inl ⟨0, by decide +kernel, rfl, by decide +kernel⟩
theorem i_Model_way_49 : mj_St y_Model_way 49 2 5 0 := .inl ⟨rfl, .inl ⟨rfl, by decide +kernel⟩⟩
theorem i_Model_way_51 : mj_Ld y_Model_way 51 2 5 0 := .inl ⟨rfl, .inl ⟨rfl, by decide +kernel⟩⟩
theorem i_Model_way_53 : mj_Ld y_Model_way 53 1 3 0 := .inl ⟨rfl, .inr ⟨rfl, 3, rfl, by decide +kernel⟩⟩
theorem i_Model_way_54 : mj_Ic y_Model_way 54 106 (fun (a b : Int32) => b ≤ a) := ⟨52, by decide, .inr (.inr (.inr (.inl ⟨by decide +kernel, rfl⟩)))⟩
theorem i_Model_way_57 : mj_Kc y_Model_way 57 1 (.int 0) := .inl ⟨0, by decide +kernel, rfl, by decide +kernel⟩
theorem i_Model_way_58 : mj_St y_Model_way 58 2 6 0 := .inl ⟨rfl, .inl ⟨rfl, by decide +kernel⟩⟩
theorem i_Model_way_60 : mj_Ld y_Model_way 60 1 0 2 := .inr (.inr ⟨rfl, .inr ⟨rfl, 0, rfl, by decide +kernel⟩⟩)
theorem i_Model_way_61 : mj_Gf y_Model_way 61 8 18 := ⟨by decide, by decide, 44, by decide +kernel, .inl mm_750⟩
theorem i_Model_way_64 : mj_Ld y_Model_way 64 2 6 0 := .inl ⟨rfl, .inl ⟨rfl, by decide +kernel⟩⟩
theorem i_Model_way_66 : decode y_Model_way.2.1 66 = .ok (.iaload, 1) := by decide +kernel
theorem i_Model_way_67 : mj_Ld y_Model_way 67 1 0 2 := .inr (.inr ⟨rfl, .inr ⟨rfl, 0, rfl, by decide +kernel⟩⟩)
theorem i_Model_way_68 : mj_Gf y_Model_way 68 8 18 := ⟨by decide, by decide, 44, by decide +kernel, .inl mm_750⟩
theorem i_Model_way_71 : mj_Ld y_Model_way 71 2 4 0 := .inl ⟨rfl, .inl ⟨rfl, by decide +kernel⟩⟩
theorem i_Model_way_73 : decode y_Model_way.2.1 73 = .ok (.iaload, 1) := by decide +kernel
theorem i_Model_way_74 : mj_Kc y_Model_way 74 1 (.int 1) := .inl ⟨1, by decide +kernel, rfl, by decide +kernel⟩
theorem i_Model_way_75 : mj_B2 y_Model_way 75 (fun (a b : Int32) => a - b) := .inr (.inl ⟨by decide +kernel, rfl⟩)
theorem i_Model_way_76 : mj_Ic y_Model_way 76 90 (fun (a b : Int32) => ¬ a = b) := ⟨14, by decide, .inr (.inl ⟨by decide +kernel, rfl⟩)⟩
theorem i_Model_way_79 : mj_Ld y_Model_way 79 1 0 2 := .inr (.inr ⟨rfl, .inr ⟨rfl, 0, rfl, by decide +kernel⟩⟩)
theorem i_Model_way_80 : mj_Ld y_Model_way 80 2 4 0 := .inl ⟨rfl, .inl ⟨rfl, by decide +kernel⟩⟩
theorem i_Model_way_82 : mj_Ld y_Model_way 82 2 6 0 := .inl ⟨rfl, .inl ⟨rfl, by decide +kernel⟩⟩
theorem i_Model_way_84 : mj_Cv y_Model_way 84 y_Model_areNeighbours 8 2 := ⟨by decide, rfl, mt_Model_areNeighbours, 180, by decide +kernel, mm_1022, mm_1024, mp_40⟩
theorem i_Model_way_87 : mj_If y_Model_way 87 96 (fun (a : Int32) => ¬ a = 0) := ⟨9, by decide, .inr (.inl ⟨by decide +kernel, rfl⟩)⟩
theorem i_Model_way_90 : mj_In y_Model_way 90 6 1 := ⟨1, by decide +kernel, by decide +kernel⟩
theorem i_Model_way_93 : mj_Go y_Model_way 93 60 := ⟨(-33), by decide, by decide +kernel⟩
theorem i_Model_way_96 : mj_Ld y_Model_way 96 2 6 0 := .inl ⟨rfl, .inl ⟨rfl, by decide +kernel⟩⟩
theorem i_Model_way_98 : mj_St y_Model_way 98 2 4 0 := .inl ⟨rfl, .inl ⟨rfl, by decide +kernel⟩⟩
theorem i_Model_way_100 : mj_In y_Model_way 100 5 1 := ⟨1, by decide +kernel, by decide +kernel⟩
theorem i_Model_way_103 : mj_Go y_Model_way 103 51 := ⟨(-52), by decide, by decide +kernel⟩
theorem i_Model_way_106 : mj_Ld y_Model_way 106 2 4 0 := .inl ⟨rfl, .inl ⟨rfl, by decide +kernel⟩⟩
theorem i_Model_way_108 : decode y_Model_way.2.1 108 = .ok (.ireturn, 1) := by decide +kernel
theorem i_Model_hides_0 : mj_Ld y_Model_hides 0 1 0 2 := .inr (.inr ⟨rfl, .inr ⟨rfl, 0, rfl, by decide +kernel⟩⟩)
theorem i_Model_hides_1 : mj_Cv y_Model_hides 1 y_Model_look 8 0 := ⟨by decide, rfl, mt_Model_look, 146, by decide +kernel, mm_943, mm_945, mp_32⟩
theorem i_Model_hides_4 : mj_Kc y_Model_hides 4 1 (.int 0) := .inl ⟨0, by decide +kernel, rfl, by decide +kernel⟩
theorem i_Model_hides_5 : mj_St y_Model_hides 5 1 1 0 := .inl ⟨rfl, .inr ⟨rfl, 1, rfl, by decide +kernel⟩⟩
theorem i_Model_hides_6 : mj_Ld y_Model_hides 6 1 1 0 := .inl ⟨rfl, .inr ⟨rfl, 1, rfl, by decide +kernel⟩⟩
theorem i_Model_hides_7 : mj_Ld y_Model_hides 7 1 0 2 := .inr (.inr ⟨rfl, .inr ⟨rfl, 0, rfl, by decide +kernel⟩⟩)
theorem i_Model_hides_8 : mj_Cv y_Model_hides 8 y_Model_cells 8 0 := ⟨by decide, rfl, mt_Model_cells, 66, by decide +kernel, mm_822, mm_824, mp_18⟩
theorem i_Model_hides_11 : mj_Ic y_Model_hides 11 27 (fun (a b : Int32) => b ≤ a) := ⟨16, by decide, .inr (.inr (.inr (.inl ⟨by decide +kernel, rfl⟩)))⟩
theorem i_Model_hides_14 : mj_Ld y_Model_hides 14 1 0 2 := .inr (.inr ⟨rfl, .inr ⟨rfl, 0, rfl, by decide +kernel⟩⟩)
theorem i_Model_hides_15 : mj_Gf y_Model_hides 15 8 19 := ⟨by decide, by decide, 47, by decide +kernel, .inl mm_751⟩
theorem i_Model_hides_18 : mj_Ld y_Model_hides 18 1 1 0 := .inl ⟨rfl, .inr ⟨rfl, 1, rfl, by decide +kernel⟩⟩
theorem i_Model_hides_19 : mj_Kc y_Model_hides 19 1 (.int 0) := .inl ⟨0, by decide +kernel, rfl, by decide +kernel⟩
theorem i_Model_hides_20 : decode y_Model_hides.2.1 20 = .ok (.bastore, 1) := by decide +kernel
theorem i_Model_hides_21 : mj_In y_Model_hides 21 1 1 := ⟨1, by decide +kernel, by decide +kernel⟩
theorem i_Model_hides_24 : mj_Go y_Model_hides 24 6 := ⟨(-18), by decide, by decide +kernel⟩
theorem i_Model_hides_27 : mj_Kc y_Model_hides 27 1 (.int 0) := .inl ⟨0, by decide +kernel, rfl, by decide +kernel⟩
theorem i_Model_hides_28 : mj_St y_Model_hides 28 1 1 0 := .inl ⟨rfl, .inr ⟨rfl, 1, rfl, by decide +kernel⟩⟩
theorem i_Model_hides_29 : mj_Kc y_Model_hides 29 1 (.int 0) := .inl ⟨0, by decide +kernel, rfl, by decide +kernel⟩
theorem i_Model_hides_30 : mj_St y_Model_hides 30 1 2 0 := .inl ⟨rfl, .inr ⟨rfl, 2, rfl, by decide +kernel⟩⟩
theorem i_Model_hides_31 : mj_Ld y_Model_hides 31 1 2 0 := .inl ⟨rfl, .inr ⟨rfl, 2, rfl, by decide +kernel⟩⟩
theorem i_Model_hides_32 : mj_Ld y_Model_hides 32 1 0 2 := .inr (.inr ⟨rfl, .inr ⟨rfl, 0, rfl, by decide +kernel⟩⟩)
theorem i_Model_hides_33 : mj_Cv y_Model_hides 33 y_Model_cells 8 0 := ⟨by decide, rfl, mt_Model_cells, 66, by decide +kernel, mm_822, mm_824, mp_18⟩
theorem i_Model_hides_36 : mj_Ic y_Model_hides 36 115 (fun (a b : Int32) => b ≤ a) := ⟨79, by decide, .inr (.inr (.inr (.inl ⟨by decide +kernel, rfl⟩)))⟩
theorem i_Model_hides_39 : mj_Ld y_Model_hides 39 1 0 2 := .inr (.inr ⟨rfl, .inr ⟨rfl, 0, rfl, by decide +kernel⟩⟩)
theorem i_Model_hides_40 : mj_Ld y_Model_hides 40 1 2 0 := .inl ⟨rfl, .inr ⟨rfl, 2, rfl, by decide +kernel⟩⟩
theorem i_Model_hides_41 : mj_Cv y_Model_hides 41 y_Model_isUnseen 8 1 := ⟨by decide, rfl, mt_Model_isUnseen, 177, by decide +kernel, mm_1018, mm_1020, mp_39⟩
theorem i_Model_hides_44 : mj_If y_Model_hides 44 109 (fun (a : Int32) => a = 0) := ⟨65, by decide, .inl ⟨by decide +kernel, rfl⟩⟩
theorem i_Model_hides_47 : mj_Ld y_Model_hides 47 1 0 2 := .inr (.inr ⟨rfl, .inr ⟨rfl, 0, rfl, by decide +kernel⟩⟩)
theorem i_Model_hides_48 : mj_Gf y_Model_hides 48 8 19 := ⟨by decide, by decide, 47, by decide +kernel, .inl mm_751⟩
theorem i_Model_hides_51 : mj_Ld y_Model_hides 51 1 2 0 := .inl ⟨rfl, .inr ⟨rfl, 2, rfl, by decide +kernel⟩⟩
theorem i_Model_hides_52 : decode y_Model_hides.2.1 52 = .ok (.baload, 1) := by decide +kernel
theorem i_Model_hides_53 : mj_If y_Model_hides 53 109 (fun (a : Int32) => ¬ a = 0) := ⟨56, by decide, .inr (.inl ⟨by decide +kernel, rfl⟩)⟩
theorem i_Model_hides_56 : mj_In y_Model_hides 56 1 1 := ⟨1, by decide +kernel, by decide +kernel⟩
theorem i_Model_hides_59 : mj_Ld y_Model_hides 59 1 0 2 := .inr (.inr ⟨rfl, .inr ⟨rfl, 0, rfl, by decide +kernel⟩⟩)
theorem i_Model_hides_60 : mj_Ld y_Model_hides 60 1 2 0 := .inl ⟨rfl, .inr ⟨rfl, 2, rfl, by decide +kernel⟩⟩
theorem i_Model_hides_61 : mj_Cv y_Model_hides 61 y_Model_walk 8 1 := ⟨by decide, rfl, mt_Model_walk, 183, by decide +kernel, mm_1014, mm_1016, mp_38⟩
theorem i_Model_hides_64 : mj_Kc y_Model_hides 64 1 (.int 0) := .inl ⟨0, by decide +kernel, rfl, by decide +kernel⟩
theorem i_Model_hides_65 : mj_St y_Model_hides 65 1 3 0 := .inl ⟨rfl, .inr ⟨rfl, 3, rfl, by decide +kernel⟩⟩
theorem i_Model_hides_66 : mj_Ld y_Model_hides 66 1 3 0 := .inl ⟨rfl, .inr ⟨rfl, 3, rfl, by decide +kernel⟩⟩
theorem i_Model_hides_67 : mj_Ld y_Model_hides 67 1 0 2 := .inr (.inr ⟨rfl, .inr ⟨rfl, 0, rfl, by decide +kernel⟩⟩)
theorem i_Model_hides_68 : mj_Cv y_Model_hides 68 y_Model_cells 8 0 := ⟨by decide, rfl, mt_Model_cells, 66, by decide +kernel, mm_822, mm_824, mp_18⟩
theorem i_Model_hides_71 : mj_Ic y_Model_hides 71 109 (fun (a b : Int32) => b ≤ a) := ⟨38, by decide, .inr (.inr (.inr (.inl ⟨by decide +kernel, rfl⟩)))⟩
theorem i_Model_hides_74 : mj_Ld y_Model_hides 74 1 0 2 := .inr (.inr ⟨rfl, .inr ⟨rfl, 0, rfl, by decide +kernel⟩⟩)
theorem i_Model_hides_75 : mj_Gf y_Model_hides 75 8 19 := ⟨by decide, by decide, 47, by decide +kernel, .inl mm_751⟩
theorem i_Model_hides_78 : mj_Ld y_Model_hides 78 1 3 0 := .inl ⟨rfl, .inr ⟨rfl, 3, rfl, by decide +kernel⟩⟩
theorem i_Model_hides_79 : mj_Ld y_Model_hides 79 1 0 2 := .inr (.inr ⟨rfl, .inr ⟨rfl, 0, rfl, by decide +kernel⟩⟩)
theorem i_Model_hides_80 : mj_Gf y_Model_hides 80 8 19 := ⟨by decide, by decide, 47, by decide +kernel, .inl mm_751⟩
theorem i_Model_hides_83 : mj_Ld y_Model_hides 83 1 3 0 := .inl ⟨rfl, .inr ⟨rfl, 3, rfl, by decide +kernel⟩⟩
theorem i_Model_hides_84 : decode y_Model_hides.2.1 84 = .ok (.baload, 1) := by decide +kernel
theorem i_Model_hides_85 : mj_If y_Model_hides 85 97 (fun (a : Int32) => ¬ a = 0) := ⟨12, by decide, .inr (.inl ⟨by decide +kernel, rfl⟩)⟩
theorem i_Model_hides_88 : mj_Ld y_Model_hides 88 1 0 2 := .inr (.inr ⟨rfl, .inr ⟨rfl, 0, rfl, by decide +kernel⟩⟩)
theorem i_Model_hides_89 : mj_Gf y_Model_hides 89 8 18 := ⟨by decide, by decide, 44, by decide +kernel, .inl mm_750⟩
theorem i_Model_hides_92 : mj_Ld y_Model_hides 92 1 3 0 := .inl ⟨rfl, .inr ⟨rfl, 3, rfl, by decide +kernel⟩⟩
theorem i_Model_hides_93 : decode y_Model_hides.2.1 93 = .ok (.iaload, 1) := by decide +kernel
theorem i_Model_hides_94 : mj_If y_Model_hides 94 101 (fun (a : Int32) => a < 0) := ⟨7, by decide, .inr (.inr (.inl ⟨by decide +kernel, rfl⟩))⟩
theorem i_Model_hides_97 : mj_Kc y_Model_hides 97 1 (.int 1) := .inl ⟨1, by decide +kernel, rfl, by decide +kernel⟩
theorem i_Model_hides_98 : mj_Go y_Model_hides 98 102 := ⟨4, by decide, by decide +kernel⟩
theorem i_Model_hides_101 : mj_Kc y_Model_hides 101 1 (.int 0) := .inl ⟨0, by decide +kernel, rfl, by decide +kernel⟩
theorem i_Model_hides_102 : decode y_Model_hides.2.1 102 = .ok (.bastore, 1) := by decide +kernel
theorem i_Model_hides_103 : mj_In y_Model_hides 103 3 1 := ⟨1, by decide +kernel, by decide +kernel⟩
theorem i_Model_hides_106 : mj_Go y_Model_hides 106 66 := ⟨(-40), by decide, by decide +kernel⟩
theorem i_Model_hides_109 : mj_In y_Model_hides 109 2 1 := ⟨1, by decide +kernel, by decide +kernel⟩
theorem i_Model_hides_112 : mj_Go y_Model_hides 112 31 := ⟨(-81), by decide, by decide +kernel⟩
theorem i_Model_hides_115 : mj_Ld y_Model_hides 115 1 1 0 := .inl ⟨rfl, .inr ⟨rfl, 1, rfl, by decide +kernel⟩⟩
theorem i_Model_hides_116 : decode y_Model_hides.2.1 116 = .ok (.ireturn, 1) := by decide +kernel
theorem i_Model_tree_0 : mj_Ld y_Model_tree 0 1 1 0 := .inl ⟨rfl, .inr ⟨rfl, 1, rfl, by decide +kernel⟩⟩
theorem i_Model_tree_1 : mj_Kc y_Model_tree 1 1 (.int 0) := .inl ⟨0, by decide +kernel, rfl, by decide +kernel⟩
theorem i_Model_tree_2 : mj_Kc y_Model_tree 2 2 (.int 6) := .inr (.inl ⟨6, by decide +kernel, rfl, by decide +kernel⟩)
theorem i_Model_tree_4 : mj_Cs y_Model_tree 4 y_Model_isIn 3 := ⟨mt_Model_isIn, 70, by decide +kernel, mm_819, .inl mm_818⟩
theorem i_Model_tree_7 : mj_If y_Model_tree 7 13 (fun (a : Int32) => ¬ a = 0) := ⟨6, by decide, .inr (.inl ⟨by decide +kernel, rfl⟩)⟩
theorem i_Model_tree_10 : mj_Kc y_Model_tree 10 2 (.int (-2000000001)) := .inr (.inr (.inr (.inl ⟨81, (-2000000001), by decide +kernel, rfl, rfl, mm_821⟩)))
theorem i_Model_tree_12 : decode y_Model_tree.2.1 12 = .ok (.ireturn, 1) := by decide +kernel
theorem i_Model_tree_13 : mj_Ld y_Model_tree 13 1 0 2 := .inr (.inr ⟨rfl, .inr ⟨rfl, 0, rfl, by decide +kernel⟩⟩)
theorem i_Model_tree_14 : mj_Cv y_Model_tree 14 y_Model_seek 8 0 := ⟨by decide, rfl, mt_Model_seek, 174, by decide +kernel, mm_988, mm_990, mp_37⟩
theorem i_Model_tree_17 : mj_Ld y_Model_tree 17 1 0 2 := .inr (.inr ⟨rfl, .inr ⟨rfl, 0, rfl, by decide +kernel⟩⟩)
theorem i_Model_tree_18 : mj_Gf y_Model_tree 18 8 15 := ⟨by decide, by decide, 159, by decide +kernel, .inl mm_747⟩
theorem i_Model_tree_21 : mj_Kc y_Model_tree 21 2 (.int (-2000000005)) := .inr (.inr (.inr (.inl ⟨139, (-2000000005), by decide +kernel, rfl, rfl, mm_934⟩)))
theorem i_Model_tree_23 : mj_Ic y_Model_tree 23 37 (fun (a b : Int32) => a = b) := ⟨14, by decide, .inl ⟨by decide +kernel, rfl⟩⟩
theorem i_Model_tree_26 : mj_Ld y_Model_tree 26 1 0 2 := .inr (.inr ⟨rfl, .inr ⟨rfl, 0, rfl, by decide +kernel⟩⟩)
theorem i_Model_tree_27 : mj_Gf y_Model_tree 27 8 15 := ⟨by decide, by decide, 159, by decide +kernel, .inl mm_747⟩
theorem i_Model_tree_30 : mj_Ld y_Model_tree 30 1 1 0 := .inl ⟨rfl, .inr ⟨rfl, 1, rfl, by decide +kernel⟩⟩
theorem i_Model_tree_31 : mj_Ic y_Model_tree 31 37 (fun (a b : Int32) => b < a) := ⟨6, by decide, .inr (.inr (.inr (.inr (.inl ⟨by decide +kernel, rfl⟩))))⟩
theorem i_Model_tree_34 : mj_Kc y_Model_tree 34 2 (.int (-2000000002)) := .inr (.inr (.inr (.inl ⟨80, (-2000000002), by decide +kernel, rfl, rfl, mm_813⟩)))
theorem i_Model_tree_36 : decode y_Model_tree.2.1 36 = .ok (.ireturn, 1) := by decide +kernel
theorem i_Model_tree_37 : mj_Ld y_Model_tree 37 1 0 2 := .inr (.inr ⟨rfl, .inr ⟨rfl, 0, rfl, by decide +kernel⟩⟩)
theorem i_Model_tree_38 : mj_Kc y_Model_tree 38 1 (.int 0) := .inl ⟨0, by decide +kernel, rfl, by decide +kernel⟩
theorem i_Model_tree_39 : mj_Pf y_Model_tree 39 8 20 (.int) := ⟨by decide, by decide, 187, by decide +kernel, mm_752, by decide +kernel, .inl rfl⟩
theorem i_Model_tree_42 : mj_Ld y_Model_tree 42 1 0 2 := .inr (.inr ⟨rfl, .inr ⟨rfl, 0, rfl, by decide +kernel⟩⟩)
theorem i_Model_tree_43 : mj_Kc y_Model_tree 43 1 (.int 0) := .inl ⟨0, by decide +kernel, rfl, by decide +kernel⟩
theorem i_Model_tree_44 : mj_Pf y_Model_tree 44 8 12 (.boolean) := ⟨by decide, by decide, 190, by decide +kernel, mm_744, by decide +kernel, .inl rfl⟩
theorem i_Model_tree_47 : mj_Ld y_Model_tree 47 1 0 2 := .inr (.inr ⟨rfl, .inr ⟨rfl, 0, rfl, by decide +kernel⟩⟩)
theorem i_Model_tree_48 : mj_Kc y_Model_tree 48 2 (.int (-2000000005)) := .inr (.inr (.inr (.inl ⟨139, (-2000000005), by decide +kernel, rfl, rfl, mm_934⟩)))
theorem i_Model_tree_50 : mj_Kc y_Model_tree 50 2 (.int (-2000000005)) := .inr (.inr (.inr (.inl ⟨139, (-2000000005), by decide +kernel, rfl, rfl, mm_934⟩)))
theorem i_Model_tree_52 : mj_Kc y_Model_tree 52 1 (.int 0) := .inl ⟨0, by decide +kernel, rfl, by decide +kernel⟩
theorem i_Model_tree_53 : mj_Ld y_Model_tree 53 1 1 0 := .inl ⟨rfl, .inr ⟨rfl, 1, rfl, by decide +kernel⟩⟩
theorem i_Model_tree_54 : mj_Cv y_Model_tree 54 y_Model_make 8 4 := ⟨by decide, rfl, mt_Model_make, 194, by decide +kernel, mm_1038, mm_1040, mp_41⟩
theorem i_Model_tree_57 : mj_Ld y_Model_tree 57 1 0 2 := .inr (.inr ⟨rfl, .inr ⟨rfl, 0, rfl, by decide +kernel⟩⟩)
theorem i_Model_tree_58 : mj_Gf y_Model_tree 58 8 12 := ⟨by decide, by decide, 190, by decide +kernel, .inl mm_744⟩
theorem i_Model_tree_61 : mj_If y_Model_tree 61 67 (fun (a : Int32) => a = 0) := ⟨6, by decide, .inl ⟨by decide +kernel, rfl⟩⟩
theorem i_Model_tree_64 : mj_Kc y_Model_tree 64 2 (.int (-2000000003)) := .inr (.inr (.inr (.inl ⟨125, (-2000000003), by decide +kernel, rfl, rfl, mm_896⟩)))
theorem i_Model_tree_66 : decode y_Model_tree.2.1 66 = .ok (.ireturn, 1) := by decide +kernel
theorem i_Model_tree_67 : mj_Ld y_Model_tree 67 1 0 2 := .inr (.inr ⟨rfl, .inr ⟨rfl, 0, rfl, by decide +kernel⟩⟩)
theorem i_Model_tree_68 : mj_Ld y_Model_tree 68 1 0 2 := .inr (.inr ⟨rfl, .inr ⟨rfl, 0, rfl, by decide +kernel⟩⟩)
theorem i_Model_tree_69 : mj_Gf y_Model_tree 69 8 20 := ⟨by decide, by decide, 187, by decide +kernel, .inl mm_752⟩
theorem i_Model_tree_72 : mj_Pf y_Model_tree 72 8 6 (.int) := ⟨by decide, by decide, 63, by decide +kernel, mm_738, by decide +kernel, .inl rfl⟩
theorem i_Model_tree_75 : mj_Ld y_Model_tree 75 1 0 2 := .inr (.inr ⟨rfl, .inr ⟨rfl, 0, rfl, by decide +kernel⟩⟩)
theorem i_Model_tree_76 : mj_Ld y_Model_tree 76 1 1 0 := .inl ⟨rfl, .inr ⟨rfl, 1, rfl, by decide +kernel⟩⟩
theorem i_Model_tree_77 : mj_Pf y_Model_tree 77 8 7 (.int) := ⟨by decide, by decide, 198, by decide +kernel, mm_739, by decide +kernel, .inl rfl⟩
theorem i_Model_tree_80 : mj_Kc y_Model_tree 80 1 (.int 0) := .inl ⟨0, by decide +kernel, rfl, by decide +kernel⟩
theorem i_Model_tree_81 : mj_St y_Model_tree 81 1 2 0 := .inl ⟨rfl, .inr ⟨rfl, 2, rfl, by decide +kernel⟩⟩
theorem i_Model_tree_82 : mj_Ld y_Model_tree 82 1 2 0 := .inl ⟨rfl, .inr ⟨rfl, 2, rfl, by decide +kernel⟩⟩
theorem i_Model_tree_83 : mj_Ld y_Model_tree 83 1 0 2 := .inr (.inr ⟨rfl, .inr ⟨rfl, 0, rfl, by decide +kernel⟩⟩)
theorem i_Model_tree_84 : mj_Gf y_Model_tree 84 8 6 := ⟨by decide, by decide, 63, by decide +kernel, .inl mm_738⟩
theorem i_Model_tree_87 : mj_Ic y_Model_tree 87 144 (fun (a b : Int32) => b ≤ a) := ⟨57, by decide, .inr (.inr (.inr (.inl ⟨by decide +kernel, rfl⟩)))⟩
theorem i_Model_tree_90 : mj_Ld y_Model_tree 90 1 0 2 := .inr (.inr ⟨rfl, .inr ⟨rfl, 0, rfl, by decide +kernel⟩⟩)
theorem i_Model_tree_91 : mj_Gf y_Model_tree 91 8 8 := ⟨by decide, by decide, 26, by decide +kernel, .inl mm_740⟩
theorem i_Model_tree_94 : mj_Ld y_Model_tree 94 1 2 0 := .inl ⟨rfl, .inr ⟨rfl, 2, rfl, by decide +kernel⟩⟩
theorem i_Model_tree_95 : mj_Ld y_Model_tree 95 1 0 2 := .inr (.inr ⟨rfl, .inr ⟨rfl, 0, rfl, by decide +kernel⟩⟩)
theorem i_Model_tree_96 : mj_Gf y_Model_tree 96 8 21 := ⟨by decide, by decide, 51, by decide +kernel, .inl mm_753⟩
theorem i_Model_tree_99 : mj_Ld y_Model_tree 99 1 2 0 := .inl ⟨rfl, .inr ⟨rfl, 2, rfl, by decide +kernel⟩⟩
theorem i_Model_tree_100 : decode y_Model_tree.2.1 100 = .ok (.iaload, 1) := by decide +kernel
theorem i_Model_tree_101 : decode y_Model_tree.2.1 101 = .ok (.iastore, 1) := by decide +kernel
theorem i_Model_tree_102 : mj_Ld y_Model_tree 102 1 0 2 := .inr (.inr ⟨rfl, .inr ⟨rfl, 0, rfl, by decide +kernel⟩⟩)
theorem i_Model_tree_103 : mj_Gf y_Model_tree 103 8 9 := ⟨by decide, by decide, 29, by decide +kernel, .inl mm_741⟩
theorem i_Model_tree_106 : mj_Ld y_Model_tree 106 1 2 0 := .inl ⟨rfl, .inr ⟨rfl, 2, rfl, by decide +kernel⟩⟩
theorem i_Model_tree_107 : mj_Ld y_Model_tree 107 1 0 2 := .inr (.inr ⟨rfl, .inr ⟨rfl, 0, rfl, by decide +kernel⟩⟩)
theorem i_Model_tree_108 : mj_Gf y_Model_tree 108 8 22 := ⟨by decide, by decide, 54, by decide +kernel, .inl mm_754⟩
theorem i_Model_tree_111 : mj_Ld y_Model_tree 111 1 2 0 := .inl ⟨rfl, .inr ⟨rfl, 2, rfl, by decide +kernel⟩⟩
theorem i_Model_tree_112 : decode y_Model_tree.2.1 112 = .ok (.iaload, 1) := by decide +kernel
theorem i_Model_tree_113 : decode y_Model_tree.2.1 113 = .ok (.iastore, 1) := by decide +kernel
theorem i_Model_tree_114 : mj_Ld y_Model_tree 114 1 0 2 := .inr (.inr ⟨rfl, .inr ⟨rfl, 0, rfl, by decide +kernel⟩⟩)
theorem i_Model_tree_115 : mj_Gf y_Model_tree 115 8 10 := ⟨by decide, by decide, 32, by decide +kernel, .inl mm_742⟩
theorem i_Model_tree_118 : mj_Ld y_Model_tree 118 1 2 0 := .inl ⟨rfl, .inr ⟨rfl, 2, rfl, by decide +kernel⟩⟩
theorem i_Model_tree_119 : mj_Ld y_Model_tree 119 1 0 2 := .inr (.inr ⟨rfl, .inr ⟨rfl, 0, rfl, by decide +kernel⟩⟩)
theorem i_Model_tree_120 : mj_Gf y_Model_tree 120 8 23 := ⟨by decide, by decide, 57, by decide +kernel, .inl mm_755⟩
theorem i_Model_tree_123 : mj_Ld y_Model_tree 123 1 2 0 := .inl ⟨rfl, .inr ⟨rfl, 2, rfl, by decide +kernel⟩⟩
theorem i_Model_tree_124 : decode y_Model_tree.2.1 124 = .ok (.iaload, 1) := by decide +kernel
theorem i_Model_tree_125 : decode y_Model_tree.2.1 125 = .ok (.iastore, 1) := by decide +kernel
theorem i_Model_tree_126 : mj_Ld y_Model_tree 126 1 0 2 := .inr (.inr ⟨rfl, .inr ⟨rfl, 0, rfl, by decide +kernel⟩⟩)
theorem i_Model_tree_127 : mj_Gf y_Model_tree 127 8 11 := ⟨by decide, by decide, 35, by decide +kernel, .inl mm_743⟩
theorem i_Model_tree_130 : mj_Ld y_Model_tree 130 1 2 0 := .inl ⟨rfl, .inr ⟨rfl, 2, rfl, by decide +kernel⟩⟩
theorem i_Model_tree_131 : mj_Ld y_Model_tree 131 1 0 2 := .inr (.inr ⟨rfl, .inr ⟨rfl, 0, rfl, by decide +kernel⟩⟩)
theorem i_Model_tree_132 : mj_Gf y_Model_tree 132 8 24 := ⟨by decide, by decide, 60, by decide +kernel, .inl mm_756⟩
theorem i_Model_tree_135 : mj_Ld y_Model_tree 135 1 2 0 := .inl ⟨rfl, .inr ⟨rfl, 2, rfl, by decide +kernel⟩⟩
theorem i_Model_tree_136 : decode y_Model_tree.2.1 136 = .ok (.iaload, 1) := by decide +kernel
theorem i_Model_tree_137 : decode y_Model_tree.2.1 137 = .ok (.iastore, 1) := by decide +kernel
theorem i_Model_tree_138 : mj_In y_Model_tree 138 2 1 := ⟨1, by decide +kernel, by decide +kernel⟩
theorem i_Model_tree_141 : mj_Go y_Model_tree 141 82 := ⟨(-59), by decide, by decide +kernel⟩
theorem i_Model_tree_144 : mj_Ld y_Model_tree 144 1 0 2 := .inr (.inr ⟨rfl, .inr ⟨rfl, 0, rfl, by decide +kernel⟩⟩)
theorem i_Model_tree_145 : mj_Gf y_Model_tree 145 8 6 := ⟨by decide, by decide, 63, by decide +kernel, .inl mm_738⟩
theorem i_Model_tree_148 : decode y_Model_tree.2.1 148 = .ok (.ireturn, 1) := by decide +kernel
theorem i_Model_make_0 : mj_Ld y_Model_make 0 1 0 2 := .inr (.inr ⟨rfl, .inr ⟨rfl, 0, rfl, by decide +kernel⟩⟩)
theorem i_Model_make_1 : mj_Gf y_Model_make 1 8 20 := ⟨by decide, by decide, 187, by decide +kernel, .inl mm_752⟩
theorem i_Model_make_4 : mj_Kc y_Model_make 4 3 (.int 600) := .inr (.inr (.inl ⟨600, by decide +kernel, rfl, by decide +kernel⟩))
theorem i_Model_make_7 : mj_Ic y_Model_make 7 15 (fun (a b : Int32) => ¬ a = b) := ⟨8, by decide, .inr (.inl ⟨by decide +kernel, rfl⟩)⟩
theorem i_Model_make_10 : mj_Ld y_Model_make 10 1 0 2 := .inr (.inr ⟨rfl, .inr ⟨rfl, 0, rfl, by decide +kernel⟩⟩)
theorem i_Model_make_11 : mj_Kc y_Model_make 11 1 (.int 1) := .inl ⟨1, by decide +kernel, rfl, by decide +kernel⟩
theorem i_Model_make_12 : mj_Pf y_Model_make 12 8 12 (.boolean) := ⟨by decide, by decide, 190, by decide +kernel, mm_744, by decide +kernel, .inl rfl⟩
theorem i_Model_make_15 : mj_Ld y_Model_make 15 1 0 2 := .inr (.inr ⟨rfl, .inr ⟨rfl, 0, rfl, by decide +kernel⟩⟩)
theorem i_Model_make_16 : mj_Gf y_Model_make 16 8 12 := ⟨by decide, by decide, 190, by decide +kernel, .inl mm_744⟩
theorem i_Model_make_19 : mj_If y_Model_make 19 23 (fun (a : Int32) => a = 0) := ⟨4, by decide, .inl ⟨by decide +kernel, rfl⟩⟩
theorem i_Model_make_22 : decode y_Model_make.2.1 22 = .ok (.return_, 1) := by decide +kernel
theorem i_Model_make_23 : mj_Ld y_Model_make 23 1 0 2 := .inr (.inr ⟨rfl, .inr ⟨rfl, 0, rfl, by decide +kernel⟩⟩)
theorem i_Model_make_24 : mj_Gf y_Model_make 24 8 20 := ⟨by decide, by decide, 187, by decide +kernel, .inl mm_752⟩
theorem i_Model_make_27 : mj_St y_Model_make 27 2 5 0 := .inl ⟨rfl, .inl ⟨rfl, by decide +kernel⟩⟩
theorem i_Model_make_29 : mj_Ld y_Model_make 29 1 0 2 := .inr (.inr ⟨rfl, .inr ⟨rfl, 0, rfl, by decide +kernel⟩⟩)
theorem i_Model_make_30 : decode y_Model_make.2.1 30 = .ok (.dup, 1) := by decide +kernel
theorem i_Model_make_31 : mj_Gf y_Model_make 31 8 20 := ⟨by decide, by decide, 187, by decide +kernel, .inl mm_752⟩
theorem i_Model_make_34 : mj_Kc y_Model_make 34 1 (.int 1) := .inl ⟨1, by decide +kernel, rfl, by decide +kernel⟩
theorem i_Model_make_35 : mj_B2 y_Model_make 35 (fun (a b : Int32) => a + b) := .inl ⟨by decide +kernel, rfl⟩
theorem i_Model_make_36 : mj_Pf y_Model_make 36 8 20 (.int) := ⟨by decide, by decide, 187, by decide +kernel, mm_752, by decide +kernel, .inl rfl⟩
theorem i_Model_make_39 : mj_Ld y_Model_make 39 1 0 2 := .inr (.inr ⟨rfl, .inr ⟨rfl, 0, rfl, by decide +kernel⟩⟩)
theorem i_Model_make_40 : mj_Gf y_Model_make 40 8 21 := ⟨by decide, by decide, 51, by decide +kernel, .inl mm_753⟩
theorem i_Model_make_43 : mj_Ld y_Model_make 43 2 5 0 := .inl ⟨rfl, .inl ⟨rfl, by decide +kernel⟩⟩
theorem i_Model_make_45 : mj_Ld y_Model_make 45 1 0 2 := .inr (.inr ⟨rfl, .inr ⟨rfl, 0, rfl, by decide +kernel⟩⟩)
theorem i_Model_make_46 : mj_Ld y_Model_make 46 1 3 0 := .inl ⟨rfl, .inr ⟨rfl, 3, rfl, by decide +kernel⟩⟩
theorem i_Model_make_47 : mj_Cv y_Model_make 47 y_Model_unseenBy 8 1 := ⟨by decide, rfl, mt_Model_unseenBy, 156, by decide +kernel, mm_975, mm_977, mp_36⟩
theorem i_Model_make_50 : decode y_Model_make.2.1 50 = .ok (.iastore, 1) := by decide +kernel
theorem i_Model_make_51 : mj_Ld y_Model_make 51 1 0 2 := .inr (.inr ⟨rfl, .inr ⟨rfl, 0, rfl, by decide +kernel⟩⟩)
theorem i_Model_make_52 : mj_Gf y_Model_make 52 8 22 := ⟨by decide, by decide, 54, by decide +kernel, .inl mm_754⟩
theorem i_Model_make_55 : mj_Ld y_Model_make 55 2 5 0 := .inl ⟨rfl, .inl ⟨rfl, by decide +kernel⟩⟩
theorem i_Model_make_57 : mj_Ld y_Model_make 57 1 1 0 := .inl ⟨rfl, .inr ⟨rfl, 1, rfl, by decide +kernel⟩⟩
theorem i_Model_make_58 : decode y_Model_make.2.1 58 = .ok (.iastore, 1) := by decide +kernel
theorem i_Model_make_59 : mj_Ld y_Model_make 59 1 0 2 := .inr (.inr ⟨rfl, .inr ⟨rfl, 0, rfl, by decide +kernel⟩⟩)
theorem i_Model_make_60 : mj_Gf y_Model_make 60 8 23 := ⟨by decide, by decide, 57, by decide +kernel, .inl mm_755⟩
theorem i_Model_make_63 : mj_Ld y_Model_make 63 2 5 0 := .inl ⟨rfl, .inl ⟨rfl, by decide +kernel⟩⟩
theorem i_Model_make_65 : mj_Ld y_Model_make 65 1 2 0 := .inl ⟨rfl, .inr ⟨rfl, 2, rfl, by decide +kernel⟩⟩
theorem i_Model_make_66 : decode y_Model_make.2.1 66 = .ok (.iastore, 1) := by decide +kernel
theorem i_Model_make_67 : mj_Ld y_Model_make 67 1 0 2 := .inr (.inr ⟨rfl, .inr ⟨rfl, 0, rfl, by decide +kernel⟩⟩)
theorem i_Model_make_68 : mj_Gf y_Model_make 68 8 24 := ⟨by decide, by decide, 60, by decide +kernel, .inl mm_756⟩
theorem i_Model_make_71 : mj_Ld y_Model_make 71 2 5 0 := .inl ⟨rfl, .inl ⟨rfl, by decide +kernel⟩⟩
theorem i_Model_make_73 : mj_Ld y_Model_make 73 1 3 0 := .inl ⟨rfl, .inr ⟨rfl, 3, rfl, by decide +kernel⟩⟩
theorem i_Model_make_74 : decode y_Model_make.2.1 74 = .ok (.iastore, 1) := by decide +kernel
theorem i_Model_make_75 : mj_Kc y_Model_make 75 1 (.int 0) := .inl ⟨0, by decide +kernel, rfl, by decide +kernel⟩
theorem i_Model_make_76 : mj_St y_Model_make 76 2 6 0 := .inl ⟨rfl, .inl ⟨rfl, by decide +kernel⟩⟩
theorem i_Model_make_78 : mj_Ld y_Model_make 78 2 6 0 := .inl ⟨rfl, .inl ⟨rfl, by decide +kernel⟩⟩
theorem i_Model_make_80 : mj_Ld y_Model_make 80 1 0 2 := .inr (.inr ⟨rfl, .inr ⟨rfl, 0, rfl, by decide +kernel⟩⟩)
theorem i_Model_make_81 : mj_Cv y_Model_make 81 y_Model_posts 8 0 := ⟨by decide, rfl, mt_Model_posts, 74, by decide +kernel, mm_846, mm_848, mp_23⟩
theorem i_Model_make_84 : mj_Ic y_Model_make 84 139 (fun (a b : Int32) => b ≤ a) := ⟨55, by decide, .inr (.inr (.inr (.inl ⟨by decide +kernel, rfl⟩)))⟩
theorem i_Model_make_87 : mj_Ld y_Model_make 87 1 3 0 := .inl ⟨rfl, .inr ⟨rfl, 3, rfl, by decide +kernel⟩⟩
theorem i_Model_make_88 : mj_Cs y_Model_make 88 y_Model_manyOf 1 := ⟨mt_Model_manyOf, 168, by decide +kernel, mm_993, .inl mm_992⟩
theorem i_Model_make_91 : mj_Ld y_Model_make 91 2 4 0 := .inl ⟨rfl, .inl ⟨rfl, by decide +kernel⟩⟩
theorem i_Model_make_93 : mj_Ic y_Model_make 93 139 (fun (a b : Int32) => b ≤ a) := ⟨46, by decide, .inr (.inr (.inr (.inl ⟨by decide +kernel, rfl⟩)))⟩
theorem i_Model_make_96 : mj_Ld y_Model_make 96 1 0 2 := .inr (.inr ⟨rfl, .inr ⟨rfl, 0, rfl, by decide +kernel⟩⟩)
theorem i_Model_make_97 : mj_Gf y_Model_make 97 8 5 := ⟨by decide, by decide, 23, by decide +kernel, .inl mm_737⟩
theorem i_Model_make_100 : mj_Ld y_Model_make 100 1 0 2 := .inr (.inr ⟨rfl, .inr ⟨rfl, 0, rfl, by decide +kernel⟩⟩)
theorem i_Model_make_101 : mj_Gf y_Model_make 101 8 21 := ⟨by decide, by decide, 51, by decide +kernel, .inl mm_753⟩
theorem i_Model_make_104 : mj_Ld y_Model_make 104 2 5 0 := .inl ⟨rfl, .inl ⟨rfl, by decide +kernel⟩⟩
theorem i_Model_make_106 : decode y_Model_make.2.1 106 = .ok (.iaload, 1) := by decide +kernel
theorem i_Model_make_107 : decode y_Model_make.2.1 107 = .ok (.iaload, 1) := by decide +kernel
theorem i_Model_make_108 : mj_Ld y_Model_make 108 2 6 0 := .inl ⟨rfl, .inl ⟨rfl, by decide +kernel⟩⟩
theorem i_Model_make_110 : mj_B2 y_Model_make 110 (fun (a b : Int32) => a >>> (b &&& 31)) := .inr (.inr (.inr (.inr (.inr (.inr (.inr (.inl ⟨by decide +kernel, rfl⟩)))))))
theorem i_Model_make_111 : mj_Kc y_Model_make 111 1 (.int 1) := .inl ⟨1, by decide +kernel, rfl, by decide +kernel⟩
theorem i_Model_make_112 : mj_B2 y_Model_make 112 (fun (a b : Int32) => a &&& b) := .inr (.inr (.inr (.inl ⟨by decide +kernel, rfl⟩)))
theorem i_Model_make_113 : mj_Kc y_Model_make 113 1 (.int 1) := .inl ⟨1, by decide +kernel, rfl, by decide +kernel⟩
theorem i_Model_make_114 : mj_Ic y_Model_make 114 133 (fun (a b : Int32) => ¬ a = b) := ⟨19, by decide, .inr (.inl ⟨by decide +kernel, rfl⟩)⟩
theorem i_Model_make_117 : mj_Ld y_Model_make 117 1 0 2 := .inr (.inr ⟨rfl, .inr ⟨rfl, 0, rfl, by decide +kernel⟩⟩)
theorem i_Model_make_118 : mj_Ld y_Model_make 118 2 5 0 := .inl ⟨rfl, .inl ⟨rfl, by decide +kernel⟩⟩
theorem i_Model_make_120 : mj_Ld y_Model_make 120 2 6 0 := .inl ⟨rfl, .inl ⟨rfl, by decide +kernel⟩⟩
theorem i_Model_make_122 : mj_Ld y_Model_make 122 1 3 0 := .inl ⟨rfl, .inr ⟨rfl, 3, rfl, by decide +kernel⟩⟩
theorem i_Model_make_123 : mj_Kc y_Model_make 123 1 (.int 1) := .inl ⟨1, by decide +kernel, rfl, by decide +kernel⟩
theorem i_Model_make_124 : mj_Ld y_Model_make 124 2 6 0 := .inl ⟨rfl, .inl ⟨rfl, by decide +kernel⟩⟩
theorem i_Model_make_126 : mj_B2 y_Model_make 126 (fun (a b : Int32) => a <<< (b &&& 31)) := .inr (.inr (.inr (.inr (.inr (.inr (.inl ⟨by decide +kernel, rfl⟩))))))
theorem i_Model_make_127 : mj_B2 y_Model_make 127 (fun (a b : Int32) => a ||| b) := .inr (.inr (.inr (.inr (.inl ⟨by decide +kernel, rfl⟩))))
theorem i_Model_make_128 : mj_Ld y_Model_make 128 2 4 0 := .inl ⟨rfl, .inl ⟨rfl, by decide +kernel⟩⟩
theorem i_Model_make_130 : mj_Cv y_Model_make 130 y_Model_make 8 4 := ⟨by decide, rfl, mt_Model_make, 194, by decide +kernel, mm_1038, mm_1040, mp_41⟩
theorem i_Model_make_133 : mj_In y_Model_make 133 6 1 := ⟨1, by decide +kernel, by decide +kernel⟩
theorem i_Model_make_136 : mj_Go y_Model_make 136 78 := ⟨(-58), by decide, by decide +kernel⟩
theorem i_Model_make_139 : decode y_Model_make.2.1 139 = .ok (.return_, 1) := by decide +kernel
theorem i_Model_row_0 : mj_Ld y_Model_row 0 1 0 2 := .inr (.inr ⟨rfl, .inr ⟨rfl, 0, rfl, by decide +kernel⟩⟩)
theorem i_Model_row_1 : mj_Gf y_Model_row 1 8 6 := ⟨by decide, by decide, 63, by decide +kernel, .inl mm_738⟩
theorem i_Model_row_4 : mj_If y_Model_row 4 10 (fun (a : Int32) => ¬ a = 0) := ⟨6, by decide, .inr (.inl ⟨by decide +kernel, rfl⟩)⟩
theorem i_Model_row_7 : mj_Kc y_Model_row 7 2 (.int (-2000000002)) := .inr (.inr (.inr (.inl ⟨80, (-2000000002), by decide +kernel, rfl, rfl, mm_813⟩)))
theorem i_Model_row_9 : decode y_Model_row.2.1 9 = .ok (.ireturn, 1) := by decide +kernel
theorem i_Model_row_10 : mj_Ld y_Model_row 10 1 1 0 := .inl ⟨rfl, .inr ⟨rfl, 1, rfl, by decide +kernel⟩⟩
theorem i_Model_row_11 : mj_Kc y_Model_row 11 1 (.int 0) := .inl ⟨0, by decide +kernel, rfl, by decide +kernel⟩
theorem i_Model_row_12 : mj_Ld y_Model_row 12 1 0 2 := .inr (.inr ⟨rfl, .inr ⟨rfl, 0, rfl, by decide +kernel⟩⟩)
theorem i_Model_row_13 : mj_Gf y_Model_row 13 8 6 := ⟨by decide, by decide, 63, by decide +kernel, .inl mm_738⟩
theorem i_Model_row_16 : mj_Kc y_Model_row 16 1 (.int 1) := .inl ⟨1, by decide +kernel, rfl, by decide +kernel⟩
theorem i_Model_row_17 : mj_B2 y_Model_row 17 (fun (a b : Int32) => a - b) := .inr (.inl ⟨by decide +kernel, rfl⟩)
theorem i_Model_row_18 : mj_Cs y_Model_row 18 y_Model_isIn 3 := ⟨mt_Model_isIn, 70, by decide +kernel, mm_819, .inl mm_818⟩
theorem i_Model_row_21 : mj_If y_Model_row 21 33 (fun (a : Int32) => a = 0) := ⟨12, by decide, .inl ⟨by decide +kernel, rfl⟩⟩
theorem i_Model_row_24 : mj_Ld y_Model_row 24 1 2 0 := .inl ⟨rfl, .inr ⟨rfl, 2, rfl, by decide +kernel⟩⟩
theorem i_Model_row_25 : mj_Kc y_Model_row 25 1 (.int 0) := .inl ⟨0, by decide +kernel, rfl, by decide +kernel⟩
theorem i_Model_row_26 : mj_Kc y_Model_row 26 1 (.int 3) := .inl ⟨3, by decide +kernel, rfl, by decide +kernel⟩
theorem i_Model_row_27 : mj_Cs y_Model_row 27 y_Model_isIn 3 := ⟨mt_Model_isIn, 70, by decide +kernel, mm_819, .inl mm_818⟩
theorem i_Model_row_30 : mj_If y_Model_row 30 36 (fun (a : Int32) => ¬ a = 0) := ⟨6, by decide, .inr (.inl ⟨by decide +kernel, rfl⟩)⟩
theorem i_Model_row_33 : mj_Kc y_Model_row 33 2 (.int (-2000000001)) := .inr (.inr (.inr (.inl ⟨81, (-2000000001), by decide +kernel, rfl, rfl, mm_821⟩)))
theorem i_Model_row_35 : decode y_Model_row.2.1 35 = .ok (.ireturn, 1) := by decide +kernel
theorem i_Model_row_36 : mj_Ld y_Model_row 36 1 2 0 := .inl ⟨rfl, .inr ⟨rfl, 2, rfl, by decide +kernel⟩⟩
theorem i_Model_row_37 : mj_If y_Model_row 37 49 (fun (a : Int32) => ¬ a = 0) := ⟨12, by decide, .inr (.inl ⟨by decide +kernel, rfl⟩)⟩
theorem i_Model_row_40 : mj_Ld y_Model_row 40 1 0 2 := .inr (.inr ⟨rfl, .inr ⟨rfl, 0, rfl, by decide +kernel⟩⟩)
theorem i_Model_row_41 : mj_Gf y_Model_row 41 8 8 := ⟨by decide, by decide, 26, by decide +kernel, .inl mm_740⟩
theorem i_Model_row_44 : mj_Ld y_Model_row 44 1 1 0 := .inl ⟨rfl, .inr ⟨rfl, 1, rfl, by decide +kernel⟩⟩
theorem i_Model_row_45 : decode y_Model_row.2.1 45 = .ok (.iaload, 1) := by decide +kernel
theorem i_Model_row_46 : mj_Go y_Model_row 46 82 := ⟨36, by decide, by decide +kernel⟩
theorem i_Model_row_49 : mj_Ld y_Model_row 49 1 2 0 := .inl ⟨rfl, .inr ⟨rfl, 2, rfl, by decide +kernel⟩⟩
theorem i_Model_row_50 : mj_Kc y_Model_row 50 1 (.int 1) := .inl ⟨1, by decide +kernel, rfl, by decide +kernel⟩
theorem i_Model_row_51 : mj_Ic y_Model_row 51 63 (fun (a b : Int32) => ¬ a = b) := ⟨12, by decide, .inr (.inl ⟨by decide +kernel, rfl⟩)⟩
theorem i_Model_row_54 : mj_Ld y_Model_row 54 1 0 2 := .inr (.inr ⟨rfl, .inr ⟨rfl, 0, rfl, by decide +kernel⟩⟩)
theorem i_Model_row_55 : mj_Gf y_Model_row 55 8 9 := ⟨by decide, by decide, 29, by decide +kernel, .inl mm_741⟩
theorem i_Model_row_58 : mj_Ld y_Model_row 58 1 1 0 := .inl ⟨rfl, .inr ⟨rfl, 1, rfl, by decide +kernel⟩⟩
theorem i_Model_row_59 : decode y_Model_row.2.1 59 = .ok (.iaload, 1) := by decide +kernel
theorem i_Model_row_60 : mj_Go y_Model_row 60 82 := ⟨22, by decide, by decide +kernel⟩
theorem i_Model_row_63 : mj_Ld y_Model_row 63 1 2 0 := .inl ⟨rfl, .inr ⟨rfl, 2, rfl, by decide +kernel⟩⟩
theorem i_Model_row_64 : mj_Kc y_Model_row 64 1 (.int 2) := .inl ⟨2, by decide +kernel, rfl, by decide +kernel⟩
theorem i_Model_row_65 : mj_Ic y_Model_row 65 77 (fun (a b : Int32) => ¬ a = b) := ⟨12, by decide, .inr (.inl ⟨by decide +kernel, rfl⟩)⟩
theorem i_Model_row_68 : mj_Ld y_Model_row 68 1 0 2 := .inr (.inr ⟨rfl, .inr ⟨rfl, 0, rfl, by decide +kernel⟩⟩)
theorem i_Model_row_69 : mj_Gf y_Model_row 69 8 10 := ⟨by decide, by decide, 32, by decide +kernel, .inl mm_742⟩
theorem i_Model_row_72 : mj_Ld y_Model_row 72 1 1 0 := .inl ⟨rfl, .inr ⟨rfl, 1, rfl, by decide +kernel⟩⟩
theorem i_Model_row_73 : decode y_Model_row.2.1 73 = .ok (.iaload, 1) := by decide +kernel
theorem i_Model_row_74 : mj_Go y_Model_row 74 82 := ⟨8, by decide, by decide +kernel⟩
theorem i_Model_row_77 : mj_Ld y_Model_row 77 1 0 2 := .inr (.inr ⟨rfl, .inr ⟨rfl, 0, rfl, by decide +kernel⟩⟩)
theorem i_Model_row_78 : mj_Ld y_Model_row 78 1 1 0 := .inl ⟨rfl, .inr ⟨rfl, 1, rfl, by decide +kernel⟩⟩
theorem i_Model_row_79 : mj_Cv y_Model_row 79 y_Model_below 8 1 := ⟨by decide, rfl, mt_Model_below, 201, by decide +kernel, mm_1046, mm_1048, mp_42⟩
theorem i_Model_row_82 : decode y_Model_row.2.1 82 = .ok (.ireturn, 1) := by decide +kernel
theorem i_Model_below_0 : mj_Kc y_Model_below 0 1 (.int 0) := .inl ⟨0, by decide +kernel, rfl, by decide +kernel⟩
theorem i_Model_below_1 : mj_St y_Model_below 1 1 2 0 := .inl ⟨rfl, .inr ⟨rfl, 2, rfl, by decide +kernel⟩⟩
theorem i_Model_below_2 : mj_Kc y_Model_below 2 1 (.int 0) := .inl ⟨0, by decide +kernel, rfl, by decide +kernel⟩
theorem i_Model_below_3 : mj_St y_Model_below 3 1 3 0 := .inl ⟨rfl, .inr ⟨rfl, 3, rfl, by decide +kernel⟩⟩
theorem i_Model_below_4 : mj_Ld y_Model_below 4 1 3 0 := .inl ⟨rfl, .inr ⟨rfl, 3, rfl, by decide +kernel⟩⟩
theorem i_Model_below_5 : mj_Ld y_Model_below 5 1 0 2 := .inr (.inr ⟨rfl, .inr ⟨rfl, 0, rfl, by decide +kernel⟩⟩)
theorem i_Model_below_6 : mj_Gf y_Model_below 6 8 6 := ⟨by decide, by decide, 63, by decide +kernel, .inl mm_738⟩
theorem i_Model_below_9 : mj_Ic y_Model_below 9 36 (fun (a b : Int32) => b ≤ a) := ⟨27, by decide, .inr (.inr (.inr (.inl ⟨by decide +kernel, rfl⟩)))⟩
theorem i_Model_below_12 : mj_Ld y_Model_below 12 1 2 0 := .inl ⟨rfl, .inr ⟨rfl, 2, rfl, by decide +kernel⟩⟩
theorem i_Model_below_13 : mj_Ld y_Model_below 13 1 0 2 := .inr (.inr ⟨rfl, .inr ⟨rfl, 0, rfl, by decide +kernel⟩⟩)
theorem i_Model_below_14 : mj_Gf y_Model_below 14 8 9 := ⟨by decide, by decide, 29, by decide +kernel, .inl mm_741⟩
theorem i_Model_below_17 : mj_Ld y_Model_below 17 1 3 0 := .inl ⟨rfl, .inr ⟨rfl, 3, rfl, by decide +kernel⟩⟩
theorem i_Model_below_18 : decode y_Model_below.2.1 18 = .ok (.iaload, 1) := by decide +kernel
theorem i_Model_below_19 : mj_Ld y_Model_below 19 1 1 0 := .inl ⟨rfl, .inr ⟨rfl, 1, rfl, by decide +kernel⟩⟩
theorem i_Model_below_20 : mj_Ic y_Model_below 20 27 (fun (a b : Int32) => ¬ a = b) := ⟨7, by decide, .inr (.inl ⟨by decide +kernel, rfl⟩)⟩
theorem i_Model_below_23 : mj_Kc y_Model_below 23 1 (.int 1) := .inl ⟨1, by decide +kernel, rfl, by decide +kernel⟩
theorem i_Model_below_24 : mj_Go y_Model_below 24 28 := ⟨4, by decide, by decide +kernel⟩
theorem i_Model_below_27 : mj_Kc y_Model_below 27 1 (.int 0) := .inl ⟨0, by decide +kernel, rfl, by decide +kernel⟩
theorem i_Model_below_28 : mj_B2 y_Model_below 28 (fun (a b : Int32) => a + b) := .inl ⟨by decide +kernel, rfl⟩
theorem i_Model_below_29 : mj_St y_Model_below 29 1 2 0 := .inl ⟨rfl, .inr ⟨rfl, 2, rfl, by decide +kernel⟩⟩
theorem i_Model_below_30 : mj_In y_Model_below 30 3 1 := ⟨1, by decide +kernel, by decide +kernel⟩
theorem i_Model_below_33 : mj_Go y_Model_below 33 4 := ⟨(-29), by decide, by decide +kernel⟩
theorem i_Model_below_36 : mj_Ld y_Model_below 36 1 2 0 := .inl ⟨rfl, .inr ⟨rfl, 2, rfl, by decide +kernel⟩⟩
theorem i_Model_below_37 : decode y_Model_below.2.1 37 = .ok (.ireturn, 1) := by decide +kernel
theorem i_Model_forge_0 : mj_Ld y_Model_forge 0 1 0 2 := .inr (.inr ⟨rfl, .inr ⟨rfl, 0, rfl, by decide +kernel⟩⟩)
theorem i_Model_forge_1 : mj_Gf y_Model_forge 1 8 6 := ⟨by decide, by decide, 63, by decide +kernel, .inl mm_738⟩
theorem i_Model_forge_4 : mj_If y_Model_forge 4 10 (fun (a : Int32) => ¬ a = 0) := ⟨6, by decide, .inr (.inl ⟨by decide +kernel, rfl⟩)⟩
theorem i_Model_forge_7 : mj_Kc y_Model_forge 7 2 (.int (-2000000002)) := .inr (.inr (.inr (.inl ⟨80, (-2000000002), by decide +kernel, rfl, rfl, mm_813⟩)))
theorem i_Model_forge_9 : decode y_Model_forge.2.1 9 = .ok (.ireturn, 1) := by decide +kernel
theorem i_Model_forge_10 : mj_Ld y_Model_forge 10 1 1 0 := .inl ⟨rfl, .inr ⟨rfl, 1, rfl, by decide +kernel⟩⟩
theorem i_Model_forge_11 : mj_Kc y_Model_forge 11 1 (.int 0) := .inl ⟨0, by decide +kernel, rfl, by decide +kernel⟩
theorem i_Model_forge_12 : mj_Ld y_Model_forge 12 1 0 2 := .inr (.inr ⟨rfl, .inr ⟨rfl, 0, rfl, by decide +kernel⟩⟩)
theorem i_Model_forge_13 : mj_Gf y_Model_forge 13 8 6 := ⟨by decide, by decide, 63, by decide +kernel, .inl mm_738⟩
theorem i_Model_forge_16 : mj_Kc y_Model_forge 16 1 (.int 1) := .inl ⟨1, by decide +kernel, rfl, by decide +kernel⟩
theorem i_Model_forge_17 : mj_B2 y_Model_forge 17 (fun (a b : Int32) => a - b) := .inr (.inl ⟨by decide +kernel, rfl⟩)
theorem i_Model_forge_18 : mj_Cs y_Model_forge 18 y_Model_isIn 3 := ⟨mt_Model_isIn, 70, by decide +kernel, mm_819, .inl mm_818⟩
theorem i_Model_forge_21 : mj_If y_Model_forge 21 32 (fun (a : Int32) => a = 0) := ⟨11, by decide, .inl ⟨by decide +kernel, rfl⟩⟩
theorem i_Model_forge_24 : mj_Ld y_Model_forge 24 1 0 2 := .inr (.inr ⟨rfl, .inr ⟨rfl, 0, rfl, by decide +kernel⟩⟩)
theorem i_Model_forge_25 : mj_Ld y_Model_forge 25 1 2 0 := .inl ⟨rfl, .inr ⟨rfl, 2, rfl, by decide +kernel⟩⟩
theorem i_Model_forge_26 : mj_Cv y_Model_forge 26 y_Model_isCell 8 1 := ⟨by decide, rfl, mt_Model_isCell, 96, by decide +kernel, mm_830, mm_832, mp_19⟩
theorem i_Model_forge_29 : mj_If y_Model_forge 29 35 (fun (a : Int32) => ¬ a = 0) := ⟨6, by decide, .inr (.inl ⟨by decide +kernel, rfl⟩)⟩
theorem i_Model_forge_32 : mj_Kc y_Model_forge 32 2 (.int (-2000000001)) := .inr (.inr (.inr (.inl ⟨81, (-2000000001), by decide +kernel, rfl, rfl, mm_821⟩)))
theorem i_Model_forge_34 : decode y_Model_forge.2.1 34 = .ok (.ireturn, 1) := by decide +kernel
theorem i_Model_forge_35 : mj_Ld y_Model_forge 35 1 0 2 := .inr (.inr ⟨rfl, .inr ⟨rfl, 0, rfl, by decide +kernel⟩⟩)
theorem i_Model_forge_36 : mj_Gf y_Model_forge 36 8 8 := ⟨by decide, by decide, 26, by decide +kernel, .inl mm_740⟩
theorem i_Model_forge_39 : mj_Ld y_Model_forge 39 1 1 0 := .inl ⟨rfl, .inr ⟨rfl, 1, rfl, by decide +kernel⟩⟩
theorem i_Model_forge_40 : decode y_Model_forge.2.1 40 = .ok (.iaload, 1) := by decide +kernel
theorem i_Model_forge_41 : mj_St y_Model_forge 41 1 3 0 := .inl ⟨rfl, .inr ⟨rfl, 3, rfl, by decide +kernel⟩⟩
theorem i_Model_forge_42 : mj_Ld y_Model_forge 42 1 0 2 := .inr (.inr ⟨rfl, .inr ⟨rfl, 0, rfl, by decide +kernel⟩⟩)
theorem i_Model_forge_43 : mj_Gf y_Model_forge 43 8 8 := ⟨by decide, by decide, 26, by decide +kernel, .inl mm_740⟩
theorem i_Model_forge_46 : mj_Ld y_Model_forge 46 1 1 0 := .inl ⟨rfl, .inr ⟨rfl, 1, rfl, by decide +kernel⟩⟩
theorem i_Model_forge_47 : mj_Ld y_Model_forge 47 1 2 0 := .inl ⟨rfl, .inr ⟨rfl, 2, rfl, by decide +kernel⟩⟩
theorem i_Model_forge_48 : decode y_Model_forge.2.1 48 = .ok (.iastore, 1) := by decide +kernel
theorem i_Model_forge_49 : mj_Ld y_Model_forge 49 1 3 0 := .inl ⟨rfl, .inr ⟨rfl, 3, rfl, by decide +kernel⟩⟩
theorem i_Model_forge_50 : decode y_Model_forge.2.1 50 = .ok (.ireturn, 1) := by decide +kernel
theorem i_Model_check_0 : mj_Ld y_Model_check 0 1 0 2 := .inr (.inr ⟨rfl, .inr ⟨rfl, 0, rfl, by decide +kernel⟩⟩)
theorem i_Model_check_1 : mj_Gf y_Model_check 1 8 6 := ⟨by decide, by decide, 63, by decide +kernel, .inl mm_738⟩
theorem i_Model_check_4 : mj_If y_Model_check 4 10 (fun (a : Int32) => ¬ a = 0) := ⟨6, by decide, .inr (.inl ⟨by decide +kernel, rfl⟩)⟩
theorem i_Model_check_7 : mj_Kc y_Model_check 7 2 (.int (-2000000002)) := .inr (.inr (.inr (.inl ⟨80, (-2000000002), by decide +kernel, rfl, rfl, mm_813⟩)))
theorem i_Model_check_9 : decode y_Model_check.2.1 9 = .ok (.ireturn, 1) := by decide +kernel
theorem i_Model_check_10 : mj_Ld y_Model_check 10 1 0 2 := .inr (.inr ⟨rfl, .inr ⟨rfl, 0, rfl, by decide +kernel⟩⟩)
theorem i_Model_check_11 : mj_Cv y_Model_check 11 y_Model_look 8 0 := ⟨by decide, rfl, mt_Model_look, 146, by decide +kernel, mm_943, mm_945, mp_32⟩
theorem i_Model_check_14 : mj_Kc y_Model_check 14 1 (.int 0) := .inl ⟨0, by decide +kernel, rfl, by decide +kernel⟩
theorem i_Model_check_15 : mj_St y_Model_check 15 1 1 0 := .inl ⟨rfl, .inr ⟨rfl, 1, rfl, by decide +kernel⟩⟩
theorem i_Model_check_16 : mj_Ld y_Model_check 16 1 1 0 := .inl ⟨rfl, .inr ⟨rfl, 1, rfl, by decide +kernel⟩⟩
theorem i_Model_check_17 : mj_Ld y_Model_check 17 1 0 2 := .inr (.inr ⟨rfl, .inr ⟨rfl, 0, rfl, by decide +kernel⟩⟩)
theorem i_Model_check_18 : mj_Gf y_Model_check 18 8 6 := ⟨by decide, by decide, 63, by decide +kernel, .inl mm_738⟩
theorem i_Model_check_21 : mj_Ic y_Model_check 21 42 (fun (a b : Int32) => b ≤ a) := ⟨21, by decide, .inr (.inr (.inr (.inl ⟨by decide +kernel, rfl⟩)))⟩
theorem i_Model_check_24 : mj_Ld y_Model_check 24 1 0 2 := .inr (.inr ⟨rfl, .inr ⟨rfl, 0, rfl, by decide +kernel⟩⟩)
theorem i_Model_check_25 : mj_Ld y_Model_check 25 1 1 0 := .inl ⟨rfl, .inr ⟨rfl, 1, rfl, by decide +kernel⟩⟩
theorem i_Model_check_26 : mj_Cv y_Model_check 26 y_Model_isRight 8 1 := ⟨by decide, rfl, mt_Model_isRight, 207, by decide +kernel, mm_1058, mm_1060, mp_43⟩
theorem i_Model_check_29 : mj_If y_Model_check 29 36 (fun (a : Int32) => ¬ a = 0) := ⟨7, by decide, .inr (.inl ⟨by decide +kernel, rfl⟩)⟩
theorem i_Model_check_32 : mj_Kc y_Model_check 32 1 (.int 1) := .inl ⟨1, by decide +kernel, rfl, by decide +kernel⟩
theorem i_Model_check_33 : mj_Ld y_Model_check 33 1 1 0 := .inl ⟨rfl, .inr ⟨rfl, 1, rfl, by decide +kernel⟩⟩
theorem i_Model_check_34 : mj_B2 y_Model_check 34 (fun (a b : Int32) => a + b) := .inl ⟨by decide +kernel, rfl⟩
theorem i_Model_check_35 : decode y_Model_check.2.1 35 = .ok (.ireturn, 1) := by decide +kernel
theorem i_Model_check_36 : mj_In y_Model_check 36 1 1 := ⟨1, by decide +kernel, by decide +kernel⟩
theorem i_Model_check_39 : mj_Go y_Model_check 39 16 := ⟨(-23), by decide, by decide +kernel⟩
theorem i_Model_check_42 : mj_Kc y_Model_check 42 1 (.int 0) := .inl ⟨0, by decide +kernel, rfl, by decide +kernel⟩
theorem i_Model_check_43 : decode y_Model_check.2.1 43 = .ok (.ireturn, 1) := by decide +kernel
theorem i_Model_isRight_0 : mj_Ld y_Model_isRight 0 1 0 2 := .inr (.inr ⟨rfl, .inr ⟨rfl, 0, rfl, by decide +kernel⟩⟩)
theorem i_Model_isRight_1 : mj_Gf y_Model_isRight 1 8 8 := ⟨by decide, by decide, 26, by decide +kernel, .inl mm_740⟩
theorem i_Model_isRight_4 : mj_Ld y_Model_isRight 4 1 1 0 := .inl ⟨rfl, .inr ⟨rfl, 1, rfl, by decide +kernel⟩⟩
theorem i_Model_isRight_5 : decode y_Model_isRight.2.1 5 = .ok (.iaload, 1) := by decide +kernel
theorem i_Model_isRight_6 : mj_St y_Model_isRight 6 1 2 0 := .inl ⟨rfl, .inr ⟨rfl, 2, rfl, by decide +kernel⟩⟩
theorem i_Model_isRight_7 : mj_Ld y_Model_isRight 7 1 0 2 := .inr (.inr ⟨rfl, .inr ⟨rfl, 0, rfl, by decide +kernel⟩⟩)
theorem i_Model_isRight_8 : mj_Ld y_Model_isRight 8 1 2 0 := .inl ⟨rfl, .inr ⟨rfl, 2, rfl, by decide +kernel⟩⟩
theorem i_Model_isRight_9 : mj_Cv y_Model_isRight 9 y_Model_isOpen 8 1 := ⟨by decide, rfl, mt_Model_isOpen, 82, by decide +kernel, mm_854, mm_856, mp_25⟩
theorem i_Model_isRight_12 : mj_If y_Model_isRight 12 31 (fun (a : Int32) => a = 0) := ⟨19, by decide, .inl ⟨by decide +kernel, rfl⟩⟩
theorem i_Model_isRight_15 : mj_Ld y_Model_isRight 15 1 0 2 := .inr (.inr ⟨rfl, .inr ⟨rfl, 0, rfl, by decide +kernel⟩⟩)
theorem i_Model_isRight_16 : mj_Gf y_Model_isRight 16 8 5 := ⟨by decide, by decide, 23, by decide +kernel, .inl mm_737⟩
theorem i_Model_isRight_19 : mj_Ld y_Model_isRight 19 1 2 0 := .inl ⟨rfl, .inr ⟨rfl, 2, rfl, by decide +kernel⟩⟩
theorem i_Model_isRight_20 : decode y_Model_isRight.2.1 20 = .ok (.iaload, 1) := by decide +kernel
theorem i_Model_isRight_21 : mj_Ld y_Model_isRight 21 1 0 2 := .inr (.inr ⟨rfl, .inr ⟨rfl, 0, rfl, by decide +kernel⟩⟩)
theorem i_Model_isRight_22 : mj_Gf y_Model_isRight 22 8 11 := ⟨by decide, by decide, 35, by decide +kernel, .inl mm_743⟩
theorem i_Model_isRight_25 : mj_Ld y_Model_isRight 25 1 1 0 := .inl ⟨rfl, .inr ⟨rfl, 1, rfl, by decide +kernel⟩⟩
theorem i_Model_isRight_26 : decode y_Model_isRight.2.1 26 = .ok (.iaload, 1) := by decide +kernel
theorem i_Model_isRight_27 : mj_B2 y_Model_isRight 27 (fun (a b : Int32) => a &&& b) := .inr (.inr (.inr (.inl ⟨by decide +kernel, rfl⟩)))
theorem i_Model_isRight_28 : mj_If y_Model_isRight 28 33 (fun (a : Int32) => a = 0) := ⟨5, by decide, .inl ⟨by decide +kernel, rfl⟩⟩
theorem i_Model_isRight_31 : mj_Kc y_Model_isRight 31 1 (.int 0) := .inl ⟨0, by decide +kernel, rfl, by decide +kernel⟩
theorem i_Model_isRight_32 : decode y_Model_isRight.2.1 32 = .ok (.ireturn, 1) := by decide +kernel
theorem i_Model_isRight_33 : mj_Ld y_Model_isRight 33 1 0 2 := .inr (.inr ⟨rfl, .inr ⟨rfl, 0, rfl, by decide +kernel⟩⟩)
theorem i_Model_isRight_34 : mj_Gf y_Model_isRight 34 8 11 := ⟨by decide, by decide, 35, by decide +kernel, .inl mm_743⟩
theorem i_Model_isRight_37 : mj_Ld y_Model_isRight 37 1 1 0 := .inl ⟨rfl, .inr ⟨rfl, 1, rfl, by decide +kernel⟩⟩
theorem i_Model_isRight_38 : decode y_Model_isRight.2.1 38 = .ok (.iaload, 1) := by decide +kernel
theorem i_Model_isRight_39 : mj_Cs y_Model_isRight 39 y_Model_manyOf 1 := ⟨mt_Model_manyOf, 168, by decide +kernel, mm_993, .inl mm_992⟩
theorem i_Model_isRight_42 : mj_Ld y_Model_isRight 42 1 0 2 := .inr (.inr ⟨rfl, .inr ⟨rfl, 0, rfl, by decide +kernel⟩⟩)
theorem i_Model_isRight_43 : mj_Gf y_Model_isRight 43 8 7 := ⟨by decide, by decide, 198, by decide +kernel, .inl mm_739⟩
theorem i_Model_isRight_46 : mj_Ic y_Model_isRight 46 72 (fun (a b : Int32) => b ≤ a) := ⟨26, by decide, .inr (.inr (.inr (.inl ⟨by decide +kernel, rfl⟩)))⟩
theorem i_Model_isRight_49 : mj_Ld y_Model_isRight 49 1 0 2 := .inr (.inr ⟨rfl, .inr ⟨rfl, 0, rfl, by decide +kernel⟩⟩)
theorem i_Model_isRight_50 : mj_Ld y_Model_isRight 50 1 1 0 := .inl ⟨rfl, .inr ⟨rfl, 1, rfl, by decide +kernel⟩⟩
theorem i_Model_isRight_51 : mj_Cv y_Model_isRight 51 y_Model_postsBelow 8 1 := ⟨by decide, rfl, mt_Model_postsBelow, 204, by decide +kernel, mm_1062, mm_1064, mp_44⟩
theorem i_Model_isRight_54 : mj_Ld y_Model_isRight 54 1 0 2 := .inr (.inr ⟨rfl, .inr ⟨rfl, 0, rfl, by decide +kernel⟩⟩)
theorem i_Model_isRight_55 : mj_Gf y_Model_isRight 55 8 5 := ⟨by decide, by decide, 23, by decide +kernel, .inl mm_737⟩
theorem i_Model_isRight_58 : mj_Ld y_Model_isRight 58 1 2 0 := .inl ⟨rfl, .inr ⟨rfl, 2, rfl, by decide +kernel⟩⟩
theorem i_Model_isRight_59 : decode y_Model_isRight.2.1 59 = .ok (.iaload, 1) := by decide +kernel
theorem i_Model_isRight_60 : mj_Ld y_Model_isRight 60 1 0 2 := .inr (.inr ⟨rfl, .inr ⟨rfl, 0, rfl, by decide +kernel⟩⟩)
theorem i_Model_isRight_61 : mj_Gf y_Model_isRight 61 8 11 := ⟨by decide, by decide, 35, by decide +kernel, .inl mm_743⟩
theorem i_Model_isRight_64 : mj_Ld y_Model_isRight 64 1 1 0 := .inl ⟨rfl, .inr ⟨rfl, 1, rfl, by decide +kernel⟩⟩
theorem i_Model_isRight_65 : decode y_Model_isRight.2.1 65 = .ok (.iaload, 1) := by decide +kernel
theorem i_Model_isRight_66 : mj_Kc y_Model_isRight 66 1 (.int (-1)) := .inl ⟨(-1), by decide +kernel, rfl, by decide +kernel⟩
theorem i_Model_isRight_67 : mj_B2 y_Model_isRight 67 (fun (a b : Int32) => a ^^^ b) := .inr (.inr (.inr (.inr (.inr (.inl ⟨by decide +kernel, rfl⟩)))))
theorem i_Model_isRight_68 : mj_B2 y_Model_isRight 68 (fun (a b : Int32) => a &&& b) := .inr (.inr (.inr (.inl ⟨by decide +kernel, rfl⟩)))
theorem i_Model_isRight_69 : mj_Ic y_Model_isRight 69 76 (fun (a b : Int32) => ¬ a = b) := ⟨7, by decide, .inr (.inl ⟨by decide +kernel, rfl⟩)⟩
theorem i_Model_isRight_72 : mj_Kc y_Model_isRight 72 1 (.int 1) := .inl ⟨1, by decide +kernel, rfl, by decide +kernel⟩
theorem i_Model_isRight_73 : mj_Go y_Model_isRight 73 77 := ⟨4, by decide, by decide +kernel⟩
theorem i_Model_isRight_76 : mj_Kc y_Model_isRight 76 1 (.int 0) := .inl ⟨0, by decide +kernel, rfl, by decide +kernel⟩
theorem i_Model_isRight_77 : decode y_Model_isRight.2.1 77 = .ok (.ireturn, 1) := by decide +kernel
theorem i_Model_postsBelow_0 : mj_Kc y_Model_postsBelow 0 1 (.int 0) := .inl ⟨0, by decide +kernel, rfl, by decide +kernel⟩
theorem i_Model_postsBelow_1 : mj_St y_Model_postsBelow 1 1 2 0 := .inl ⟨rfl, .inr ⟨rfl, 2, rfl, by decide +kernel⟩⟩
theorem i_Model_postsBelow_2 : mj_Kc y_Model_postsBelow 2 1 (.int 0) := .inl ⟨0, by decide +kernel, rfl, by decide +kernel⟩
theorem i_Model_postsBelow_3 : mj_St y_Model_postsBelow 3 1 3 0 := .inl ⟨rfl, .inr ⟨rfl, 3, rfl, by decide +kernel⟩⟩
theorem i_Model_postsBelow_4 : mj_Ld y_Model_postsBelow 4 1 3 0 := .inl ⟨rfl, .inr ⟨rfl, 3, rfl, by decide +kernel⟩⟩
theorem i_Model_postsBelow_5 : mj_Ld y_Model_postsBelow 5 1 0 2 := .inr (.inr ⟨rfl, .inr ⟨rfl, 0, rfl, by decide +kernel⟩⟩)
theorem i_Model_postsBelow_6 : mj_Gf y_Model_postsBelow 6 8 6 := ⟨by decide, by decide, 63, by decide +kernel, .inl mm_738⟩
theorem i_Model_postsBelow_9 : mj_Ic y_Model_postsBelow 9 43 (fun (a b : Int32) => b ≤ a) := ⟨34, by decide, .inr (.inr (.inr (.inl ⟨by decide +kernel, rfl⟩)))⟩
theorem i_Model_postsBelow_12 : mj_Ld y_Model_postsBelow 12 1 2 0 := .inl ⟨rfl, .inr ⟨rfl, 2, rfl, by decide +kernel⟩⟩
theorem i_Model_postsBelow_13 : mj_Ld y_Model_postsBelow 13 1 0 2 := .inr (.inr ⟨rfl, .inr ⟨rfl, 0, rfl, by decide +kernel⟩⟩)
theorem i_Model_postsBelow_14 : mj_Gf y_Model_postsBelow 14 8 9 := ⟨by decide, by decide, 29, by decide +kernel, .inl mm_741⟩
theorem i_Model_postsBelow_17 : mj_Ld y_Model_postsBelow 17 1 3 0 := .inl ⟨rfl, .inr ⟨rfl, 3, rfl, by decide +kernel⟩⟩
theorem i_Model_postsBelow_18 : decode y_Model_postsBelow.2.1 18 = .ok (.iaload, 1) := by decide +kernel
theorem i_Model_postsBelow_19 : mj_Ld y_Model_postsBelow 19 1 1 0 := .inl ⟨rfl, .inr ⟨rfl, 1, rfl, by decide +kernel⟩⟩
theorem i_Model_postsBelow_20 : mj_Ic y_Model_postsBelow 20 34 (fun (a b : Int32) => ¬ a = b) := ⟨14, by decide, .inr (.inl ⟨by decide +kernel, rfl⟩)⟩
theorem i_Model_postsBelow_23 : mj_Kc y_Model_postsBelow 23 1 (.int 1) := .inl ⟨1, by decide +kernel, rfl, by decide +kernel⟩
theorem i_Model_postsBelow_24 : mj_Ld y_Model_postsBelow 24 1 0 2 := .inr (.inr ⟨rfl, .inr ⟨rfl, 0, rfl, by decide +kernel⟩⟩)
theorem i_Model_postsBelow_25 : mj_Gf y_Model_postsBelow 25 8 10 := ⟨by decide, by decide, 32, by decide +kernel, .inl mm_742⟩
theorem i_Model_postsBelow_28 : mj_Ld y_Model_postsBelow 28 1 3 0 := .inl ⟨rfl, .inr ⟨rfl, 3, rfl, by decide +kernel⟩⟩
theorem i_Model_postsBelow_29 : decode y_Model_postsBelow.2.1 29 = .ok (.iaload, 1) := by decide +kernel
theorem i_Model_postsBelow_30 : mj_B2 y_Model_postsBelow 30 (fun (a b : Int32) => a <<< (b &&& 31)) := .inr (.inr (.inr (.inr (.inr (.inr (.inl ⟨by decide +kernel, rfl⟩))))))
theorem i_Model_postsBelow_31 : mj_Go y_Model_postsBelow 31 35 := ⟨4, by decide, by decide +kernel⟩
theorem i_Model_postsBelow_34 : mj_Kc y_Model_postsBelow 34 1 (.int 0) := .inl ⟨0, by decide +kernel, rfl, by decide +kernel⟩
theorem i_Model_postsBelow_35 : mj_B2 y_Model_postsBelow 35 (fun (a b : Int32) => a ||| b) := .inr (.inr (.inr (.inr (.inl ⟨by decide +kernel, rfl⟩))))
theorem i_Model_postsBelow_36 : mj_St y_Model_postsBelow 36 1 2 0 := .inl ⟨rfl, .inr ⟨rfl, 2, rfl, by decide +kernel⟩⟩
theorem i_Model_postsBelow_37 : mj_In y_Model_postsBelow 37 3 1 := ⟨1, by decide +kernel, by decide +kernel⟩
theorem i_Model_postsBelow_40 : mj_Go y_Model_postsBelow 40 4 := ⟨(-36), by decide, by decide +kernel⟩
theorem i_Model_postsBelow_43 : mj_Ld y_Model_postsBelow 43 1 2 0 := .inl ⟨rfl, .inr ⟨rfl, 2, rfl, by decide +kernel⟩⟩
theorem i_Model_postsBelow_44 : decode y_Model_postsBelow.2.1 44 = .ok (.ireturn, 1) := by decide +kernel
theorem i_Model_count_0 : mj_Kc y_Model_count 0 1 (.int 0) := .inl ⟨0, by decide +kernel, rfl, by decide +kernel⟩
theorem i_Model_count_1 : mj_St y_Model_count 1 1 2 0 := .inl ⟨rfl, .inr ⟨rfl, 2, rfl, by decide +kernel⟩⟩
theorem i_Model_count_2 : mj_Ld y_Model_count 2 1 1 0 := .inl ⟨rfl, .inr ⟨rfl, 1, rfl, by decide +kernel⟩⟩
theorem i_Model_count_3_d : decode y_Model_count.2.1 3 = .ok (.tableswitch 138 0 6 #[41, 46, 80, 85, 90, 95, 133], 41) := by decide +kernel
theorem i_Model_count_3_o {k : Int32} (h : k.toInt < 0 ∨ 6 < k.toInt) : mj_Sw y_Model_count 3 k 141 := ⟨_, _, _, _, _, i_Model_count_3_d, .inl ⟨h, by decide⟩⟩
theorem i_Model_count_3_0 : mj_Sw y_Model_count 3 0 44 := ⟨_, _, _, _, _, i_Model_count_3_d, .inr ⟨by decide, by decide, 41, by decide, by decide⟩⟩
theorem i_Model_count_3_1 : mj_Sw y_Model_count 3 1 49 := ⟨_, _, _, _, _, i_Model_count_3_d, .inr ⟨by decide, by decide, 46, by decide, by decide⟩⟩
theorem i_Model_count_3_2 : mj_Sw y_Model_count 3 2 83 := ⟨_, _, _, _, _, i_Model_count_3_d, .inr ⟨by decide, by decide, 80, by decide, by decide⟩⟩
theorem i_Model_count_3_3 : mj_Sw y_Model_count 3 3 88 := ⟨_, _, _, _, _, i_Model_count_3_d, .inr ⟨by decide, by decide, 85, by decide, by decide⟩⟩
theorem i_Model_count_3_4 : mj_Sw y_Model_count 3 4 93 := ⟨_, _, _, _, _, i_Model_count_3_d, .inr ⟨by decide, by decide, 90, by decide, by decide⟩⟩
theorem i_Model_count_3_5 : mj_Sw y_Model_count 3 5 98 := ⟨_, _, _, _, _, i_Model_count_3_d, .inr ⟨by decide, by decide, 95, by decide, by decide⟩⟩
theorem i_Model_count_3_6 : mj_Sw y_Model_count 3 6 136 := ⟨_, _, _, _, _, i_Model_count_3_d, .inr ⟨by decide, by decide, 133, by decide, by decide⟩⟩
theorem i_Model_count_44 : mj_Ld y_Model_count 44 1 0 2 := .inr (.inr ⟨rfl, .inr ⟨rfl, 0, rfl, by decide +kernel⟩⟩)
theorem i_Model_count_45 : mj_Cv y_Model_count 45 y_Model_cells 8 0 := ⟨by decide, rfl, mt_Model_cells, 66, by decide +kernel, mm_822, mm_824, mp_18⟩
theorem i_Model_count_48 : decode y_Model_count.2.1 48 = .ok (.ireturn, 1) := by decide +kernel
theorem i_Model_count_49 : mj_Kc y_Model_count 49 1 (.int 0) := .inl ⟨0, by decide +kernel, rfl, by decide +kernel⟩
theorem i_Model_count_50 : mj_St y_Model_count 50 1 3 0 := .inl ⟨rfl, .inr ⟨rfl, 3, rfl, by decide +kernel⟩⟩
theorem i_Model_count_51 : mj_Ld y_Model_count 51 1 3 0 := .inl ⟨rfl, .inr ⟨rfl, 3, rfl, by decide +kernel⟩⟩
theorem i_Model_count_52 : mj_Ld y_Model_count 52 1 0 2 := .inr (.inr ⟨rfl, .inr ⟨rfl, 0, rfl, by decide +kernel⟩⟩)
theorem i_Model_count_53 : mj_Cv y_Model_count 53 y_Model_cells 8 0 := ⟨by decide, rfl, mt_Model_cells, 66, by decide +kernel, mm_822, mm_824, mp_18⟩
theorem i_Model_count_56 : mj_Ic y_Model_count 56 81 (fun (a b : Int32) => b ≤ a) := ⟨25, by decide, .inr (.inr (.inr (.inl ⟨by decide +kernel, rfl⟩)))⟩
theorem i_Model_count_59 : mj_Ld y_Model_count 59 1 2 0 := .inl ⟨rfl, .inr ⟨rfl, 2, rfl, by decide +kernel⟩⟩
theorem i_Model_count_60 : mj_Ld y_Model_count 60 1 0 2 := .inr (.inr ⟨rfl, .inr ⟨rfl, 0, rfl, by decide +kernel⟩⟩)
theorem i_Model_count_61 : mj_Ld y_Model_count 61 1 3 0 := .inl ⟨rfl, .inr ⟨rfl, 3, rfl, by decide +kernel⟩⟩
theorem i_Model_count_62 : mj_Cv y_Model_count 62 y_Model_isOpen 8 1 := ⟨by decide, rfl, mt_Model_isOpen, 82, by decide +kernel, mm_854, mm_856, mp_25⟩
theorem i_Model_count_65 : mj_If y_Model_count 65 72 (fun (a : Int32) => a = 0) := ⟨7, by decide, .inl ⟨by decide +kernel, rfl⟩⟩
theorem i_Model_count_68 : mj_Kc y_Model_count 68 1 (.int 1) := .inl ⟨1, by decide +kernel, rfl, by decide +kernel⟩
theorem i_Model_count_69 : mj_Go y_Model_count 69 73 := ⟨4, by decide, by decide +kernel⟩
theorem i_Model_count_72 : mj_Kc y_Model_count 72 1 (.int 0) := .inl ⟨0, by decide +kernel, rfl, by decide +kernel⟩
theorem i_Model_count_73 : mj_B2 y_Model_count 73 (fun (a b : Int32) => a + b) := .inl ⟨by decide +kernel, rfl⟩
theorem i_Model_count_74 : mj_St y_Model_count 74 1 2 0 := .inl ⟨rfl, .inr ⟨rfl, 2, rfl, by decide +kernel⟩⟩
theorem i_Model_count_75 : mj_In y_Model_count 75 3 1 := ⟨1, by decide +kernel, by decide +kernel⟩
theorem i_Model_count_78 : mj_Go y_Model_count 78 51 := ⟨(-27), by decide, by decide +kernel⟩
theorem i_Model_count_81 : mj_Ld y_Model_count 81 1 2 0 := .inl ⟨rfl, .inr ⟨rfl, 2, rfl, by decide +kernel⟩⟩
theorem i_Model_count_82 : decode y_Model_count.2.1 82 = .ok (.ireturn, 1) := by decide +kernel
theorem i_Model_count_83 : mj_Ld y_Model_count 83 1 0 2 := .inr (.inr ⟨rfl, .inr ⟨rfl, 0, rfl, by decide +kernel⟩⟩)
theorem i_Model_count_84 : mj_Cv y_Model_count 84 y_Model_posts 8 0 := ⟨by decide, rfl, mt_Model_posts, 74, by decide +kernel, mm_846, mm_848, mp_23⟩
theorem i_Model_count_87 : decode y_Model_count.2.1 87 = .ok (.ireturn, 1) := by decide +kernel
theorem i_Model_count_88 : mj_Ld y_Model_count 88 1 0 2 := .inr (.inr ⟨rfl, .inr ⟨rfl, 0, rfl, by decide +kernel⟩⟩)
theorem i_Model_count_89 : mj_Gf y_Model_count 89 8 4 := ⟨by decide, by decide, 77, by decide +kernel, .inl mm_736⟩
theorem i_Model_count_92 : decode y_Model_count.2.1 92 = .ok (.ireturn, 1) := by decide +kernel
theorem i_Model_count_93 : mj_Ld y_Model_count 93 1 0 2 := .inr (.inr ⟨rfl, .inr ⟨rfl, 0, rfl, by decide +kernel⟩⟩)
theorem i_Model_count_94 : mj_Gf y_Model_count 94 8 6 := ⟨by decide, by decide, 63, by decide +kernel, .inl mm_738⟩
theorem i_Model_count_97 : decode y_Model_count.2.1 97 = .ok (.ireturn, 1) := by decide +kernel
theorem i_Model_count_98 : mj_Ld y_Model_count 98 1 0 2 := .inr (.inr ⟨rfl, .inr ⟨rfl, 0, rfl, by decide +kernel⟩⟩)
theorem i_Model_count_99 : mj_Cv y_Model_count 99 y_Model_look 8 0 := ⟨by decide, rfl, mt_Model_look, 146, by decide +kernel, mm_943, mm_945, mp_32⟩
theorem i_Model_count_102 : mj_Kc y_Model_count 102 1 (.int 0) := .inl ⟨0, by decide +kernel, rfl, by decide +kernel⟩
theorem i_Model_count_103 : mj_St y_Model_count 103 1 3 0 := .inl ⟨rfl, .inr ⟨rfl, 3, rfl, by decide +kernel⟩⟩
theorem i_Model_count_104 : mj_Ld y_Model_count 104 1 3 0 := .inl ⟨rfl, .inr ⟨rfl, 3, rfl, by decide +kernel⟩⟩
theorem i_Model_count_105 : mj_Ld y_Model_count 105 1 0 2 := .inr (.inr ⟨rfl, .inr ⟨rfl, 0, rfl, by decide +kernel⟩⟩)
theorem i_Model_count_106 : mj_Cv y_Model_count 106 y_Model_cells 8 0 := ⟨by decide, rfl, mt_Model_cells, 66, by decide +kernel, mm_822, mm_824, mp_18⟩
theorem i_Model_count_109 : mj_Ic y_Model_count 109 134 (fun (a b : Int32) => b ≤ a) := ⟨25, by decide, .inr (.inr (.inr (.inl ⟨by decide +kernel, rfl⟩)))⟩
theorem i_Model_count_112 : mj_Ld y_Model_count 112 1 2 0 := .inl ⟨rfl, .inr ⟨rfl, 2, rfl, by decide +kernel⟩⟩
theorem i_Model_count_113 : mj_Ld y_Model_count 113 1 0 2 := .inr (.inr ⟨rfl, .inr ⟨rfl, 0, rfl, by decide +kernel⟩⟩)
theorem i_Model_count_114 : mj_Ld y_Model_count 114 1 3 0 := .inl ⟨rfl, .inr ⟨rfl, 3, rfl, by decide +kernel⟩⟩
theorem i_Model_count_115 : mj_Cv y_Model_count 115 y_Model_isUnseen 8 1 := ⟨by decide, rfl, mt_Model_isUnseen, 177, by decide +kernel, mm_1018, mm_1020, mp_39⟩
theorem i_Model_count_118 : mj_If y_Model_count 118 125 (fun (a : Int32) => a = 0) := ⟨7, by decide, .inl ⟨by decide +kernel, rfl⟩⟩
theorem i_Model_count_121 : mj_Kc y_Model_count 121 1 (.int 1) := .inl ⟨1, by decide +kernel, rfl, by decide +kernel⟩
theorem i_Model_count_122 : mj_Go y_Model_count 122 126 := ⟨4, by decide, by decide +kernel⟩
theorem i_Model_count_125 : mj_Kc y_Model_count 125 1 (.int 0) := .inl ⟨0, by decide +kernel, rfl, by decide +kernel⟩
theorem i_Model_count_126 : mj_B2 y_Model_count 126 (fun (a b : Int32) => a + b) := .inl ⟨by decide +kernel, rfl⟩
theorem i_Model_count_127 : mj_St y_Model_count 127 1 2 0 := .inl ⟨rfl, .inr ⟨rfl, 2, rfl, by decide +kernel⟩⟩
theorem i_Model_count_128 : mj_In y_Model_count 128 3 1 := ⟨1, by decide +kernel, by decide +kernel⟩
theorem i_Model_count_131 : mj_Go y_Model_count 131 104 := ⟨(-27), by decide, by decide +kernel⟩
theorem i_Model_count_134 : mj_Ld y_Model_count 134 1 2 0 := .inl ⟨rfl, .inr ⟨rfl, 2, rfl, by decide +kernel⟩⟩
theorem i_Model_count_135 : decode y_Model_count.2.1 135 = .ok (.ireturn, 1) := by decide +kernel
theorem i_Model_count_136 : mj_Ld y_Model_count 136 1 0 2 := .inr (.inr ⟨rfl, .inr ⟨rfl, 0, rfl, by decide +kernel⟩⟩)
theorem i_Model_count_137 : mj_Gf y_Model_count 137 8 0 := ⟨by decide, by decide, 7, by decide +kernel, .inl mm_732⟩
theorem i_Model_count_140 : decode y_Model_count.2.1 140 = .ok (.ireturn, 1) := by decide +kernel
theorem i_Model_count_141 : mj_Kc y_Model_count 141 2 (.int (-2000000001)) := .inr (.inr (.inr (.inl ⟨81, (-2000000001), by decide +kernel, rfl, rfl, mm_821⟩)))
theorem i_Model_count_143 : decode y_Model_count.2.1 143 = .ok (.ireturn, 1) := by decide +kernel
