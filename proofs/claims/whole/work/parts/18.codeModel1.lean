/-! what stands at each place of the methods: Model -/
theorem i_Model_init_0 : mj_Ld y_Model_init 0 1 0 2 := .inr (.inr ⟨rfl, .inr ⟨rfl, 0, rfl, by decide +kernel⟩⟩)
theorem i_Model_init_1 : mj_Oi y_Model_init 1 := ⟨1, by decide +kernel, mm_731⟩
theorem i_Model_init_4 : mj_Ld y_Model_init 4 1 0 2 := .inr (.inr ⟨rfl, .inr ⟨rfl, 0, rfl, by decide +kernel⟩⟩)
theorem i_Model_init_5 : mj_Kc y_Model_init 5 1 (.int 1) := .inl ⟨1, by decide +kernel, rfl, by decide +kernel⟩
theorem i_Model_init_6 : mj_Pf y_Model_init 6 8 0 (.int) := ⟨by decide, by decide, 7, by decide +kernel, mm_732, by decide +kernel, .inl rfl⟩
theorem i_Model_init_9 : mj_Ld y_Model_init 9 1 0 2 := .inr (.inr ⟨rfl, .inr ⟨rfl, 0, rfl, by decide +kernel⟩⟩)
theorem i_Model_init_10 : mj_Kc y_Model_init 10 1 (.int 1) := .inl ⟨1, by decide +kernel, rfl, by decide +kernel⟩
theorem i_Model_init_11 : mj_Pf y_Model_init 11 8 1 (.int) := ⟨by decide, by decide, 13, by decide +kernel, mm_733, by decide +kernel, .inl rfl⟩
theorem i_Model_init_14 : mj_Ld y_Model_init 14 1 0 2 := .inr (.inr ⟨rfl, .inr ⟨rfl, 0, rfl, by decide +kernel⟩⟩)
theorem i_Model_init_15 : mj_Kc y_Model_init 15 3 (.int 213) := .inr (.inr (.inl ⟨213, by decide +kernel, rfl, by decide +kernel⟩))
theorem i_Model_init_18 : mj_Na y_Model_init 18 0 := .inl ⟨rfl, by decide +kernel⟩
theorem i_Model_init_20 : mj_Pf y_Model_init 20 8 2 (.array .int) := ⟨by decide, by decide, 16, by decide +kernel, mm_734, by decide +kernel, .inr ⟨rfl, rfl, rfl⟩⟩
theorem i_Model_init_23 : mj_Ld y_Model_init 23 1 0 2 := .inr (.inr ⟨rfl, .inr ⟨rfl, 0, rfl, by decide +kernel⟩⟩)
theorem i_Model_init_24 : mj_Kc y_Model_init 24 3 (.int 2130) := .inr (.inr (.inl ⟨2130, by decide +kernel, rfl, by decide +kernel⟩))
theorem i_Model_init_27 : mj_Na y_Model_init 27 0 := .inl ⟨rfl, by decide +kernel⟩
theorem i_Model_init_29 : mj_Pf y_Model_init 29 8 3 (.array .int) := ⟨by decide, by decide, 20, by decide +kernel, mm_735, by decide +kernel, .inr ⟨rfl, rfl, rfl⟩⟩
theorem i_Model_init_32 : mj_Ld y_Model_init 32 1 0 2 := .inr (.inr ⟨rfl, .inr ⟨rfl, 0, rfl, by decide +kernel⟩⟩)
theorem i_Model_init_33 : mj_Kc y_Model_init 33 2 (.int 100) := .inr (.inl ⟨100, by decide +kernel, rfl, by decide +kernel⟩)
theorem i_Model_init_35 : mj_Na y_Model_init 35 0 := .inl ⟨rfl, by decide +kernel⟩
theorem i_Model_init_37 : mj_Pf y_Model_init 37 8 5 (.array .int) := ⟨by decide, by decide, 23, by decide +kernel, mm_737, by decide +kernel, .inr ⟨rfl, rfl, rfl⟩⟩
theorem i_Model_init_40 : mj_Ld y_Model_init 40 1 0 2 := .inr (.inr ⟨rfl, .inr ⟨rfl, 0, rfl, by decide +kernel⟩⟩)
theorem i_Model_init_41 : mj_Kc y_Model_init 41 3 (.int 601) := .inr (.inr (.inl ⟨601, by decide +kernel, rfl, by decide +kernel⟩))
theorem i_Model_init_44 : mj_Na y_Model_init 44 0 := .inl ⟨rfl, by decide +kernel⟩
theorem i_Model_init_46 : mj_Pf y_Model_init 46 8 8 (.array .int) := ⟨by decide, by decide, 26, by decide +kernel, mm_740, by decide +kernel, .inr ⟨rfl, rfl, rfl⟩⟩
theorem i_Model_init_49 : mj_Ld y_Model_init 49 1 0 2 := .inr (.inr ⟨rfl, .inr ⟨rfl, 0, rfl, by decide +kernel⟩⟩)
theorem i_Model_init_50 : mj_Kc y_Model_init 50 3 (.int 601) := .inr (.inr (.inl ⟨601, by decide +kernel, rfl, by decide +kernel⟩))
theorem i_Model_init_53 : mj_Na y_Model_init 53 0 := .inl ⟨rfl, by decide +kernel⟩
theorem i_Model_init_55 : mj_Pf y_Model_init 55 8 9 (.array .int) := ⟨by decide, by decide, 29, by decide +kernel, mm_741, by decide +kernel, .inr ⟨rfl, rfl, rfl⟩⟩
theorem i_Model_init_58 : mj_Ld y_Model_init 58 1 0 2 := .inr (.inr ⟨rfl, .inr ⟨rfl, 0, rfl, by decide +kernel⟩⟩)
theorem i_Model_init_59 : mj_Kc y_Model_init 59 3 (.int 601) := .inr (.inr (.inl ⟨601, by decide +kernel, rfl, by decide +kernel⟩))
theorem i_Model_init_62 : mj_Na y_Model_init 62 0 := .inl ⟨rfl, by decide +kernel⟩
theorem i_Model_init_64 : mj_Pf y_Model_init 64 8 10 (.array .int) := ⟨by decide, by decide, 32, by decide +kernel, mm_742, by decide +kernel, .inr ⟨rfl, rfl, rfl⟩⟩
theorem i_Model_init_67 : mj_Ld y_Model_init 67 1 0 2 := .inr (.inr ⟨rfl, .inr ⟨rfl, 0, rfl, by decide +kernel⟩⟩)
theorem i_Model_init_68 : mj_Kc y_Model_init 68 3 (.int 601) := .inr (.inr (.inl ⟨601, by decide +kernel, rfl, by decide +kernel⟩))
theorem i_Model_init_71 : mj_Na y_Model_init 71 0 := .inl ⟨rfl, by decide +kernel⟩
theorem i_Model_init_73 : mj_Pf y_Model_init 73 8 11 (.array .int) := ⟨by decide, by decide, 35, by decide +kernel, mm_743, by decide +kernel, .inr ⟨rfl, rfl, rfl⟩⟩
theorem i_Model_init_76 : mj_Ld y_Model_init 76 1 0 2 := .inr (.inr ⟨rfl, .inr ⟨rfl, 0, rfl, by decide +kernel⟩⟩)
theorem i_Model_init_77 : mj_Kc y_Model_init 77 2 (.int 100) := .inr (.inl ⟨100, by decide +kernel, rfl, by decide +kernel⟩)
theorem i_Model_init_79 : mj_Na y_Model_init 79 0 := .inl ⟨rfl, by decide +kernel⟩
theorem i_Model_init_81 : mj_Pf y_Model_init 81 8 13 (.array .int) := ⟨by decide, by decide, 38, by decide +kernel, mm_745, by decide +kernel, .inr ⟨rfl, rfl, rfl⟩⟩
theorem i_Model_init_84 : mj_Ld y_Model_init 84 1 0 2 := .inr (.inr ⟨rfl, .inr ⟨rfl, 0, rfl, by decide +kernel⟩⟩)
theorem i_Model_init_85 : mj_Kc y_Model_init 85 2 (.int 100) := .inr (.inl ⟨100, by decide +kernel, rfl, by decide +kernel⟩)
theorem i_Model_init_87 : mj_Na y_Model_init 87 0 := .inl ⟨rfl, by decide +kernel⟩
theorem i_Model_init_89 : mj_Pf y_Model_init 89 8 14 (.array .int) := ⟨by decide, by decide, 41, by decide +kernel, mm_746, by decide +kernel, .inr ⟨rfl, rfl, rfl⟩⟩
theorem i_Model_init_92 : mj_Ld y_Model_init 92 1 0 2 := .inr (.inr ⟨rfl, .inr ⟨rfl, 0, rfl, by decide +kernel⟩⟩)
theorem i_Model_init_93 : mj_Kc y_Model_init 93 2 (.int 100) := .inr (.inl ⟨100, by decide +kernel, rfl, by decide +kernel⟩)
theorem i_Model_init_95 : mj_Na y_Model_init 95 0 := .inl ⟨rfl, by decide +kernel⟩
theorem i_Model_init_97 : mj_Pf y_Model_init 97 8 18 (.array .int) := ⟨by decide, by decide, 44, by decide +kernel, mm_750, by decide +kernel, .inr ⟨rfl, rfl, rfl⟩⟩
theorem i_Model_init_100 : mj_Ld y_Model_init 100 1 0 2 := .inr (.inr ⟨rfl, .inr ⟨rfl, 0, rfl, by decide +kernel⟩⟩)
theorem i_Model_init_101 : mj_Kc y_Model_init 101 2 (.int 100) := .inr (.inl ⟨100, by decide +kernel, rfl, by decide +kernel⟩)
theorem i_Model_init_103 : mj_Na y_Model_init 103 2 := .inr (.inr ⟨rfl, by decide +kernel⟩)
theorem i_Model_init_105 : mj_Pf y_Model_init 105 8 19 (.array .boolean) := ⟨by decide, by decide, 47, by decide +kernel, mm_751, by decide +kernel, .inr ⟨rfl, rfl, rfl⟩⟩
theorem i_Model_init_108 : mj_Ld y_Model_init 108 1 0 2 := .inr (.inr ⟨rfl, .inr ⟨rfl, 0, rfl, by decide +kernel⟩⟩)
theorem i_Model_init_109 : mj_Kc y_Model_init 109 3 (.int 601) := .inr (.inr (.inl ⟨601, by decide +kernel, rfl, by decide +kernel⟩))
theorem i_Model_init_112 : mj_Na y_Model_init 112 0 := .inl ⟨rfl, by decide +kernel⟩
theorem i_Model_init_114 : mj_Pf y_Model_init 114 8 21 (.array .int) := ⟨by decide, by decide, 51, by decide +kernel, mm_753, by decide +kernel, .inr ⟨rfl, rfl, rfl⟩⟩
theorem i_Model_init_117 : mj_Ld y_Model_init 117 1 0 2 := .inr (.inr ⟨rfl, .inr ⟨rfl, 0, rfl, by decide +kernel⟩⟩)
theorem i_Model_init_118 : mj_Kc y_Model_init 118 3 (.int 601) := .inr (.inr (.inl ⟨601, by decide +kernel, rfl, by decide +kernel⟩))
theorem i_Model_init_121 : mj_Na y_Model_init 121 0 := .inl ⟨rfl, by decide +kernel⟩
theorem i_Model_init_123 : mj_Pf y_Model_init 123 8 22 (.array .int) := ⟨by decide, by decide, 54, by decide +kernel, mm_754, by decide +kernel, .inr ⟨rfl, rfl, rfl⟩⟩
theorem i_Model_init_126 : mj_Ld y_Model_init 126 1 0 2 := .inr (.inr ⟨rfl, .inr ⟨rfl, 0, rfl, by decide +kernel⟩⟩)
theorem i_Model_init_127 : mj_Kc y_Model_init 127 3 (.int 601) := .inr (.inr (.inl ⟨601, by decide +kernel, rfl, by decide +kernel⟩))
theorem i_Model_init_130 : mj_Na y_Model_init 130 0 := .inl ⟨rfl, by decide +kernel⟩
theorem i_Model_init_132 : mj_Pf y_Model_init 132 8 23 (.array .int) := ⟨by decide, by decide, 57, by decide +kernel, mm_755, by decide +kernel, .inr ⟨rfl, rfl, rfl⟩⟩
theorem i_Model_init_135 : mj_Ld y_Model_init 135 1 0 2 := .inr (.inr ⟨rfl, .inr ⟨rfl, 0, rfl, by decide +kernel⟩⟩)
theorem i_Model_init_136 : mj_Kc y_Model_init 136 3 (.int 601) := .inr (.inr (.inl ⟨601, by decide +kernel, rfl, by decide +kernel⟩))
theorem i_Model_init_139 : mj_Na y_Model_init 139 0 := .inl ⟨rfl, by decide +kernel⟩
theorem i_Model_init_141 : mj_Pf y_Model_init 141 8 24 (.array .int) := ⟨by decide, by decide, 60, by decide +kernel, mm_756, by decide +kernel, .inr ⟨rfl, rfl, rfl⟩⟩
theorem i_Model_init_144 : mj_Ld y_Model_init 144 1 0 2 := .inr (.inr ⟨rfl, .inr ⟨rfl, 0, rfl, by decide +kernel⟩⟩)
theorem i_Model_init_145 : mj_Kc y_Model_init 145 1 (.int 0) := .inl ⟨0, by decide +kernel, rfl, by decide +kernel⟩
theorem i_Model_init_146 : mj_Pf y_Model_init 146 8 6 (.int) := ⟨by decide, by decide, 63, by decide +kernel, mm_738, by decide +kernel, .inl rfl⟩
theorem i_Model_init_149 : decode y_Model_init.2.1 149 = .ok (.return_, 1) := by decide +kernel
theorem i_Model_undo_0 : mj_Ld y_Model_undo 0 1 0 2 := .inr (.inr ⟨rfl, .inr ⟨rfl, 0, rfl, by decide +kernel⟩⟩)
theorem i_Model_undo_1 : mj_Gf y_Model_undo 1 8 4 := ⟨by decide, by decide, 77, by decide +kernel, .inl mm_736⟩
theorem i_Model_undo_4 : mj_If y_Model_undo 4 10 (fun (a : Int32) => ¬ a = 0) := ⟨6, by decide, .inr (.inl ⟨by decide +kernel, rfl⟩)⟩
theorem i_Model_undo_7 : mj_Kc y_Model_undo 7 2 (.int (-2000000002)) := .inr (.inr (.inr (.inl ⟨80, (-2000000002), by decide +kernel, rfl, rfl, mm_813⟩)))
theorem i_Model_undo_9 : decode y_Model_undo.2.1 9 = .ok (.ireturn, 1) := by decide +kernel
theorem i_Model_undo_10 : mj_Ld y_Model_undo 10 1 0 2 := .inr (.inr ⟨rfl, .inr ⟨rfl, 0, rfl, by decide +kernel⟩⟩)
theorem i_Model_undo_11 : decode y_Model_undo.2.1 11 = .ok (.dup, 1) := by decide +kernel
theorem i_Model_undo_12 : mj_Gf y_Model_undo 12 8 4 := ⟨by decide, by decide, 77, by decide +kernel, .inl mm_736⟩
theorem i_Model_undo_15 : mj_Kc y_Model_undo 15 1 (.int 1) := .inl ⟨1, by decide +kernel, rfl, by decide +kernel⟩
theorem i_Model_undo_16 : mj_B2 y_Model_undo 16 (fun (a b : Int32) => a - b) := .inr (.inl ⟨by decide +kernel, rfl⟩)
theorem i_Model_undo_17 : mj_Pf y_Model_undo 17 8 4 (.int) := ⟨by decide, by decide, 77, by decide +kernel, mm_736, by decide +kernel, .inl rfl⟩
theorem i_Model_undo_20 : mj_Kc y_Model_undo 20 1 (.int 0) := .inl ⟨0, by decide +kernel, rfl, by decide +kernel⟩
theorem i_Model_undo_21 : mj_St y_Model_undo 21 1 1 0 := .inl ⟨rfl, .inr ⟨rfl, 1, rfl, by decide +kernel⟩⟩
theorem i_Model_undo_22 : mj_Ld y_Model_undo 22 1 1 0 := .inl ⟨rfl, .inr ⟨rfl, 1, rfl, by decide +kernel⟩⟩
theorem i_Model_undo_23 : mj_Kc y_Model_undo 23 3 (.int 213) := .inr (.inr (.inl ⟨213, by decide +kernel, rfl, by decide +kernel⟩))
theorem i_Model_undo_26 : mj_Ic y_Model_undo 26 56 (fun (a b : Int32) => b ≤ a) := ⟨30, by decide, .inr (.inr (.inr (.inl ⟨by decide +kernel, rfl⟩)))⟩
theorem i_Model_undo_29 : mj_Ld y_Model_undo 29 1 0 2 := .inr (.inr ⟨rfl, .inr ⟨rfl, 0, rfl, by decide +kernel⟩⟩)
theorem i_Model_undo_30 : mj_Gf y_Model_undo 30 8 2 := ⟨by decide, by decide, 16, by decide +kernel, .inl mm_734⟩
theorem i_Model_undo_33 : mj_Ld y_Model_undo 33 1 1 0 := .inl ⟨rfl, .inr ⟨rfl, 1, rfl, by decide +kernel⟩⟩
theorem i_Model_undo_34 : mj_Ld y_Model_undo 34 1 0 2 := .inr (.inr ⟨rfl, .inr ⟨rfl, 0, rfl, by decide +kernel⟩⟩)
theorem i_Model_undo_35 : mj_Gf y_Model_undo 35 8 3 := ⟨by decide, by decide, 20, by decide +kernel, .inl mm_735⟩
theorem i_Model_undo_38 : mj_Kc y_Model_undo 38 3 (.int 213) := .inr (.inr (.inl ⟨213, by decide +kernel, rfl, by decide +kernel⟩))
theorem i_Model_undo_41 : mj_Ld y_Model_undo 41 1 0 2 := .inr (.inr ⟨rfl, .inr ⟨rfl, 0, rfl, by decide +kernel⟩⟩)
theorem i_Model_undo_42 : mj_Gf y_Model_undo 42 8 4 := ⟨by decide, by decide, 77, by decide +kernel, .inl mm_736⟩
theorem i_Model_undo_45 : mj_B2 y_Model_undo 45 (fun (a b : Int32) => a * b) := .inr (.inr (.inl ⟨by decide +kernel, rfl⟩))
theorem i_Model_undo_46 : mj_Ld y_Model_undo 46 1 1 0 := .inl ⟨rfl, .inr ⟨rfl, 1, rfl, by decide +kernel⟩⟩
theorem i_Model_undo_47 : mj_B2 y_Model_undo 47 (fun (a b : Int32) => a + b) := .inl ⟨by decide +kernel, rfl⟩
theorem i_Model_undo_48 : decode y_Model_undo.2.1 48 = .ok (.iaload, 1) := by decide +kernel
theorem i_Model_undo_49 : decode y_Model_undo.2.1 49 = .ok (.iastore, 1) := by decide +kernel
theorem i_Model_undo_50 : mj_In y_Model_undo 50 1 1 := ⟨1, by decide +kernel, by decide +kernel⟩
theorem i_Model_undo_53 : mj_Go y_Model_undo 53 22 := ⟨(-31), by decide, by decide +kernel⟩
theorem i_Model_undo_56 : mj_Ld y_Model_undo 56 1 0 2 := .inr (.inr ⟨rfl, .inr ⟨rfl, 0, rfl, by decide +kernel⟩⟩)
theorem i_Model_undo_57 : mj_Kc y_Model_undo 57 1 (.int 0) := .inl ⟨0, by decide +kernel, rfl, by decide +kernel⟩
theorem i_Model_undo_58 : mj_Pf y_Model_undo 58 8 6 (.int) := ⟨by decide, by decide, 63, by decide +kernel, mm_738, by decide +kernel, .inl rfl⟩
theorem i_Model_undo_61 : mj_Ld y_Model_undo 61 1 0 2 := .inr (.inr ⟨rfl, .inr ⟨rfl, 0, rfl, by decide +kernel⟩⟩)
theorem i_Model_undo_62 : mj_Gf y_Model_undo 62 8 4 := ⟨by decide, by decide, 77, by decide +kernel, .inl mm_736⟩
theorem i_Model_undo_65 : decode y_Model_undo.2.1 65 = .ok (.ireturn, 1) := by decide +kernel
theorem i_Model_room_0 : mj_Ld y_Model_room 0 1 1 0 := .inl ⟨rfl, .inr ⟨rfl, 1, rfl, by decide +kernel⟩⟩
theorem i_Model_room_1 : mj_Kc y_Model_room 1 1 (.int 1) := .inl ⟨1, by decide +kernel, rfl, by decide +kernel⟩
theorem i_Model_room_2 : mj_Kc y_Model_room 2 2 (.int 10) := .inr (.inl ⟨10, by decide +kernel, rfl, by decide +kernel⟩)
theorem i_Model_room_4 : mj_Cs y_Model_room 4 y_Model_isIn 3 := ⟨mt_Model_isIn, 70, by decide +kernel, mm_819, .inl mm_818⟩
theorem i_Model_room_7 : mj_If y_Model_room 7 20 (fun (a : Int32) => a = 0) := ⟨13, by decide, .inl ⟨by decide +kernel, rfl⟩⟩
theorem i_Model_room_10 : mj_Ld y_Model_room 10 1 2 0 := .inl ⟨rfl, .inr ⟨rfl, 2, rfl, by decide +kernel⟩⟩
theorem i_Model_room_11 : mj_Kc y_Model_room 11 1 (.int 1) := .inl ⟨1, by decide +kernel, rfl, by decide +kernel⟩
theorem i_Model_room_12 : mj_Kc y_Model_room 12 2 (.int 10) := .inr (.inl ⟨10, by decide +kernel, rfl, by decide +kernel⟩)
theorem i_Model_room_14 : mj_Cs y_Model_room 14 y_Model_isIn 3 := ⟨mt_Model_isIn, 70, by decide +kernel, mm_819, .inl mm_818⟩
theorem i_Model_room_17 : mj_If y_Model_room 17 23 (fun (a : Int32) => ¬ a = 0) := ⟨6, by decide, .inr (.inl ⟨by decide +kernel, rfl⟩)⟩
theorem i_Model_room_20 : mj_Kc y_Model_room 20 2 (.int (-2000000001)) := .inr (.inr (.inr (.inl ⟨81, (-2000000001), by decide +kernel, rfl, rfl, mm_821⟩)))
theorem i_Model_room_22 : decode y_Model_room.2.1 22 = .ok (.ireturn, 1) := by decide +kernel
theorem i_Model_room_23 : mj_Ld y_Model_room 23 1 0 2 := .inr (.inr ⟨rfl, .inr ⟨rfl, 0, rfl, by decide +kernel⟩⟩)
theorem i_Model_room_24 : mj_Ld y_Model_room 24 1 1 0 := .inl ⟨rfl, .inr ⟨rfl, 1, rfl, by decide +kernel⟩⟩
theorem i_Model_room_25 : mj_Pf y_Model_room 25 8 0 (.int) := ⟨by decide, by decide, 7, by decide +kernel, mm_732, by decide +kernel, .inl rfl⟩
theorem i_Model_room_28 : mj_Ld y_Model_room 28 1 0 2 := .inr (.inr ⟨rfl, .inr ⟨rfl, 0, rfl, by decide +kernel⟩⟩)
theorem i_Model_room_29 : mj_Ld y_Model_room 29 1 2 0 := .inl ⟨rfl, .inr ⟨rfl, 2, rfl, by decide +kernel⟩⟩
theorem i_Model_room_30 : mj_Pf y_Model_room 30 8 1 (.int) := ⟨by decide, by decide, 13, by decide +kernel, mm_733, by decide +kernel, .inl rfl⟩
theorem i_Model_room_33 : mj_Kc y_Model_room 33 1 (.int 0) := .inl ⟨0, by decide +kernel, rfl, by decide +kernel⟩
theorem i_Model_room_34 : mj_St y_Model_room 34 1 3 0 := .inl ⟨rfl, .inr ⟨rfl, 3, rfl, by decide +kernel⟩⟩
theorem i_Model_room_35 : mj_Ld y_Model_room 35 1 3 0 := .inl ⟨rfl, .inr ⟨rfl, 3, rfl, by decide +kernel⟩⟩
theorem i_Model_room_36 : mj_Kc y_Model_room 36 3 (.int 213) := .inr (.inr (.inl ⟨213, by decide +kernel, rfl, by decide +kernel⟩))
theorem i_Model_room_39 : mj_Ic y_Model_room 39 55 (fun (a b : Int32) => b ≤ a) := ⟨16, by decide, .inr (.inr (.inr (.inl ⟨by decide +kernel, rfl⟩)))⟩
theorem i_Model_room_42 : mj_Ld y_Model_room 42 1 0 2 := .inr (.inr ⟨rfl, .inr ⟨rfl, 0, rfl, by decide +kernel⟩⟩)
theorem i_Model_room_43 : mj_Gf y_Model_room 43 8 2 := ⟨by decide, by decide, 16, by decide +kernel, .inl mm_734⟩
theorem i_Model_room_46 : mj_Ld y_Model_room 46 1 3 0 := .inl ⟨rfl, .inr ⟨rfl, 3, rfl, by decide +kernel⟩⟩
theorem i_Model_room_47 : mj_Kc y_Model_room 47 1 (.int 0) := .inl ⟨0, by decide +kernel, rfl, by decide +kernel⟩
theorem i_Model_room_48 : decode y_Model_room.2.1 48 = .ok (.iastore, 1) := by decide +kernel
theorem i_Model_room_49 : mj_In y_Model_room 49 3 1 := ⟨1, by decide +kernel, by decide +kernel⟩
theorem i_Model_room_52 : mj_Go y_Model_room 52 35 := ⟨(-17), by decide, by decide +kernel⟩
theorem i_Model_room_55 : mj_Ld y_Model_room 55 1 0 2 := .inr (.inr ⟨rfl, .inr ⟨rfl, 0, rfl, by decide +kernel⟩⟩)
theorem i_Model_room_56 : mj_Kc y_Model_room 56 1 (.int 0) := .inl ⟨0, by decide +kernel, rfl, by decide +kernel⟩
theorem i_Model_room_57 : mj_Pf y_Model_room 57 8 4 (.int) := ⟨by decide, by decide, 77, by decide +kernel, mm_736, by decide +kernel, .inl rfl⟩
theorem i_Model_room_60 : mj_Ld y_Model_room 60 1 0 2 := .inr (.inr ⟨rfl, .inr ⟨rfl, 0, rfl, by decide +kernel⟩⟩)
theorem i_Model_room_61 : mj_Kc y_Model_room 61 1 (.int 0) := .inl ⟨0, by decide +kernel, rfl, by decide +kernel⟩
theorem i_Model_room_62 : mj_Pf y_Model_room 62 8 6 (.int) := ⟨by decide, by decide, 63, by decide +kernel, mm_738, by decide +kernel, .inl rfl⟩
theorem i_Model_room_65 : mj_Ld y_Model_room 65 1 0 2 := .inr (.inr ⟨rfl, .inr ⟨rfl, 0, rfl, by decide +kernel⟩⟩)
theorem i_Model_room_66 : mj_Cv y_Model_room 66 y_Model_cells 8 0 := ⟨by decide, rfl, mt_Model_cells, 66, by decide +kernel, mm_822, mm_824, mp_18⟩
theorem i_Model_room_69 : decode y_Model_room.2.1 69 = .ok (.ireturn, 1) := by decide +kernel
theorem i_Model_isIn_0 : mj_Ld y_Model_isIn 0 1 0 0 := .inl ⟨rfl, .inr ⟨rfl, 0, rfl, by decide +kernel⟩⟩
theorem i_Model_isIn_1 : mj_Ld y_Model_isIn 1 1 1 0 := .inl ⟨rfl, .inr ⟨rfl, 1, rfl, by decide +kernel⟩⟩
theorem i_Model_isIn_2 : mj_Ic y_Model_isIn 2 14 (fun (a b : Int32) => a < b) := ⟨12, by decide, .inr (.inr (.inl ⟨by decide +kernel, rfl⟩))⟩
theorem i_Model_isIn_5 : mj_Ld y_Model_isIn 5 1 0 0 := .inl ⟨rfl, .inr ⟨rfl, 0, rfl, by decide +kernel⟩⟩
theorem i_Model_isIn_6 : mj_Ld y_Model_isIn 6 1 2 0 := .inl ⟨rfl, .inr ⟨rfl, 2, rfl, by decide +kernel⟩⟩
theorem i_Model_isIn_7 : mj_Ic y_Model_isIn 7 14 (fun (a b : Int32) => b < a) := ⟨7, by decide, .inr (.inr (.inr (.inr (.inl ⟨by decide +kernel, rfl⟩))))⟩
theorem i_Model_isIn_10 : mj_Kc y_Model_isIn 10 1 (.int 1) := .inl ⟨1, by decide +kernel, rfl, by decide +kernel⟩
theorem i_Model_isIn_11 : mj_Go y_Model_isIn 11 15 := ⟨4, by decide, by decide +kernel⟩
theorem i_Model_isIn_14 : mj_Kc y_Model_isIn 14 1 (.int 0) := .inl ⟨0, by decide +kernel, rfl, by decide +kernel⟩
theorem i_Model_isIn_15 : decode y_Model_isIn.2.1 15 = .ok (.ireturn, 1) := by decide +kernel
theorem i_Model_cells_0 : mj_Ld y_Model_cells 0 1 0 2 := .inr (.inr ⟨rfl, .inr ⟨rfl, 0, rfl, by decide +kernel⟩⟩)
theorem i_Model_cells_1 : mj_Gf y_Model_cells 1 8 0 := ⟨by decide, by decide, 7, by decide +kernel, .inl mm_732⟩
theorem i_Model_cells_4 : mj_Ld y_Model_cells 4 1 0 2 := .inr (.inr ⟨rfl, .inr ⟨rfl, 0, rfl, by decide +kernel⟩⟩)
theorem i_Model_cells_5 : mj_Gf y_Model_cells 5 8 1 := ⟨by decide, by decide, 13, by decide +kernel, .inl mm_733⟩
theorem i_Model_cells_8 : mj_B2 y_Model_cells 8 (fun (a b : Int32) => a * b) := .inr (.inr (.inl ⟨by decide +kernel, rfl⟩))
theorem i_Model_cells_9 : decode y_Model_cells.2.1 9 = .ok (.ireturn, 1) := by decide +kernel
theorem i_Model_wall_0 : mj_Ld y_Model_wall 0 1 0 2 := .inr (.inr ⟨rfl, .inr ⟨rfl, 0, rfl, by decide +kernel⟩⟩)
theorem i_Model_wall_1 : mj_Ld y_Model_wall 1 1 1 0 := .inl ⟨rfl, .inr ⟨rfl, 1, rfl, by decide +kernel⟩⟩
theorem i_Model_wall_2 : mj_Cv y_Model_wall 2 y_Model_isCell 8 1 := ⟨by decide, rfl, mt_Model_isCell, 96, by decide +kernel, mm_830, mm_832, mp_19⟩
theorem i_Model_wall_5 : mj_If y_Model_wall 5 25 (fun (a : Int32) => a = 0) := ⟨20, by decide, .inl ⟨by decide +kernel, rfl⟩⟩
theorem i_Model_wall_8 : mj_Ld y_Model_wall 8 1 0 2 := .inr (.inr ⟨rfl, .inr ⟨rfl, 0, rfl, by decide +kernel⟩⟩)
theorem i_Model_wall_9 : mj_Ld y_Model_wall 9 1 2 0 := .inl ⟨rfl, .inr ⟨rfl, 2, rfl, by decide +kernel⟩⟩
theorem i_Model_wall_10 : mj_Cv y_Model_wall 10 y_Model_isCell 8 1 := ⟨by decide, rfl, mt_Model_isCell, 96, by decide +kernel, mm_830, mm_832, mp_19⟩
theorem i_Model_wall_13 : mj_If y_Model_wall 13 25 (fun (a : Int32) => a = 0) := ⟨12, by decide, .inl ⟨by decide +kernel, rfl⟩⟩
theorem i_Model_wall_16 : mj_Ld y_Model_wall 16 1 3 0 := .inl ⟨rfl, .inr ⟨rfl, 3, rfl, by decide +kernel⟩⟩
theorem i_Model_wall_17 : mj_Kc y_Model_wall 17 1 (.int 0) := .inl ⟨0, by decide +kernel, rfl, by decide +kernel⟩
theorem i_Model_wall_18 : mj_Kc y_Model_wall 18 1 (.int 1) := .inl ⟨1, by decide +kernel, rfl, by decide +kernel⟩
theorem i_Model_wall_19 : mj_Cs y_Model_wall 19 y_Model_isIn 3 := ⟨mt_Model_isIn, 70, by decide +kernel, mm_819, .inl mm_818⟩
theorem i_Model_wall_22 : mj_If y_Model_wall 22 28 (fun (a : Int32) => ¬ a = 0) := ⟨6, by decide, .inr (.inl ⟨by decide +kernel, rfl⟩)⟩
theorem i_Model_wall_25 : mj_Kc y_Model_wall 25 2 (.int (-2000000001)) := .inr (.inr (.inr (.inl ⟨81, (-2000000001), by decide +kernel, rfl, rfl, mm_821⟩)))
theorem i_Model_wall_27 : decode y_Model_wall.2.1 27 = .ok (.ireturn, 1) := by decide +kernel
theorem i_Model_wall_28 : mj_Ld y_Model_wall 28 1 0 2 := .inr (.inr ⟨rfl, .inr ⟨rfl, 0, rfl, by decide +kernel⟩⟩)
theorem i_Model_wall_29 : mj_Cv y_Model_wall 29 y_Model_keep0 8 0 := ⟨by decide, rfl, mt_Model_keep0, 99, by decide +kernel, mm_834, mm_836, mp_20⟩
theorem i_Model_wall_32 : mj_Kc y_Model_wall 32 1 (.int 0) := .inl ⟨0, by decide +kernel, rfl, by decide +kernel⟩
theorem i_Model_wall_33 : mj_St y_Model_wall 33 2 4 0 := .inl ⟨rfl, .inl ⟨rfl, by decide +kernel⟩⟩
theorem i_Model_wall_35 : mj_Kc y_Model_wall 35 1 (.int 0) := .inl ⟨0, by decide +kernel, rfl, by decide +kernel⟩
theorem i_Model_wall_36 : mj_St y_Model_wall 36 2 5 0 := .inl ⟨rfl, .inl ⟨rfl, by decide +kernel⟩⟩
theorem i_Model_wall_38 : mj_Ld y_Model_wall 38 2 5 0 := .inl ⟨rfl, .inl ⟨rfl, by decide +kernel⟩⟩
theorem i_Model_wall_40 : mj_Ld y_Model_wall 40 1 0 2 := .inr (.inr ⟨rfl, .inr ⟨rfl, 0, rfl, by decide +kernel⟩⟩)
theorem i_Model_wall_41 : mj_Cv y_Model_wall 41 y_Model_cells 8 0 := ⟨by decide, rfl, mt_Model_cells, 66, by decide +kernel, mm_822, mm_824, mp_18⟩
theorem i_Model_wall_44 : mj_Ic y_Model_wall 44 86 (fun (a b : Int32) => b ≤ a) := ⟨42, by decide, .inr (.inr (.inr (.inl ⟨by decide +kernel, rfl⟩)))⟩
theorem i_Model_wall_47 : mj_Ld y_Model_wall 47 1 0 2 := .inr (.inr ⟨rfl, .inr ⟨rfl, 0, rfl, by decide +kernel⟩⟩)
theorem i_Model_wall_48 : mj_Ld y_Model_wall 48 2 5 0 := .inl ⟨rfl, .inl ⟨rfl, by decide +kernel⟩⟩
theorem i_Model_wall_50 : mj_Ld y_Model_wall 50 1 1 0 := .inl ⟨rfl, .inr ⟨rfl, 1, rfl, by decide +kernel⟩⟩
theorem i_Model_wall_51 : mj_Ld y_Model_wall 51 1 2 0 := .inl ⟨rfl, .inr ⟨rfl, 2, rfl, by decide +kernel⟩⟩
theorem i_Model_wall_52 : mj_Cv y_Model_wall 52 y_Model_isBetween 8 3 := ⟨by decide, rfl, mt_Model_isBetween, 102, by decide +kernel, mm_838, mm_840, mp_21⟩
theorem i_Model_wall_55 : mj_If y_Model_wall 55 80 (fun (a : Int32) => a = 0) := ⟨25, by decide, .inl ⟨by decide +kernel, rfl⟩⟩
theorem i_Model_wall_58 : mj_Ld y_Model_wall 58 1 0 2 := .inr (.inr ⟨rfl, .inr ⟨rfl, 0, rfl, by decide +kernel⟩⟩)
theorem i_Model_wall_59 : mj_Gf y_Model_wall 59 8 2 := ⟨by decide, by decide, 16, by decide +kernel, .inl mm_734⟩
theorem i_Model_wall_62 : mj_Ld y_Model_wall 62 2 5 0 := .inl ⟨rfl, .inl ⟨rfl, by decide +kernel⟩⟩
theorem i_Model_wall_64 : decode y_Model_wall.2.1 64 = .ok (.iaload, 1) := by decide +kernel
theorem i_Model_wall_65 : mj_Ld y_Model_wall 65 1 3 0 := .inl ⟨rfl, .inr ⟨rfl, 3, rfl, by decide +kernel⟩⟩
theorem i_Model_wall_66 : mj_Ic y_Model_wall 66 80 (fun (a b : Int32) => a = b) := ⟨14, by decide, .inl ⟨by decide +kernel, rfl⟩⟩
theorem i_Model_wall_69 : mj_Ld y_Model_wall 69 1 0 2 := .inr (.inr ⟨rfl, .inr ⟨rfl, 0, rfl, by decide +kernel⟩⟩)
theorem i_Model_wall_70 : mj_Gf y_Model_wall 70 8 2 := ⟨by decide, by decide, 16, by decide +kernel, .inl mm_734⟩
theorem i_Model_wall_73 : mj_Ld y_Model_wall 73 2 5 0 := .inl ⟨rfl, .inl ⟨rfl, by decide +kernel⟩⟩
theorem i_Model_wall_75 : mj_Ld y_Model_wall 75 1 3 0 := .inl ⟨rfl, .inr ⟨rfl, 3, rfl, by decide +kernel⟩⟩
theorem i_Model_wall_76 : decode y_Model_wall.2.1 76 = .ok (.iastore, 1) := by decide +kernel
theorem i_Model_wall_77 : mj_In y_Model_wall 77 4 1 := ⟨1, by decide +kernel, by decide +kernel⟩
theorem i_Model_wall_80 : mj_In y_Model_wall 80 5 1 := ⟨1, by decide +kernel, by decide +kernel⟩
theorem i_Model_wall_83 : mj_Go y_Model_wall 83 38 := ⟨(-45), by decide, by decide +kernel⟩
theorem i_Model_wall_86 : mj_Ld y_Model_wall 86 1 0 2 := .inr (.inr ⟨rfl, .inr ⟨rfl, 0, rfl, by decide +kernel⟩⟩)
theorem i_Model_wall_87 : mj_Cv y_Model_wall 87 y_Model_allStand 8 0 := ⟨by decide, rfl, mt_Model_allStand, 105, by decide +kernel, mm_842, mm_844, mp_22⟩
theorem i_Model_wall_90 : mj_If y_Model_wall 90 126 (fun (a : Int32) => ¬ a = 0) := ⟨36, by decide, .inr (.inl ⟨by decide +kernel, rfl⟩)⟩
theorem i_Model_wall_93 : mj_Kc y_Model_wall 93 1 (.int 0) := .inl ⟨0, by decide +kernel, rfl, by decide +kernel⟩
theorem i_Model_wall_94 : mj_St y_Model_wall 94 2 5 0 := .inl ⟨rfl, .inl ⟨rfl, by decide +kernel⟩⟩
theorem i_Model_wall_96 : mj_Ld y_Model_wall 96 2 5 0 := .inl ⟨rfl, .inl ⟨rfl, by decide +kernel⟩⟩
theorem i_Model_wall_98 : mj_Kc y_Model_wall 98 2 (.int 100) := .inr (.inl ⟨100, by decide +kernel, rfl, by decide +kernel⟩)
theorem i_Model_wall_100 : mj_Ic y_Model_wall 100 123 (fun (a b : Int32) => b ≤ a) := ⟨23, by decide, .inr (.inr (.inr (.inl ⟨by decide +kernel, rfl⟩)))⟩
theorem i_Model_wall_103 : mj_Ld y_Model_wall 103 1 0 2 := .inr (.inr ⟨rfl, .inr ⟨rfl, 0, rfl, by decide +kernel⟩⟩)
theorem i_Model_wall_104 : mj_Gf y_Model_wall 104 8 2 := ⟨by decide, by decide, 16, by decide +kernel, .inl mm_734⟩
theorem i_Model_wall_107 : mj_Ld y_Model_wall 107 2 5 0 := .inl ⟨rfl, .inl ⟨rfl, by decide +kernel⟩⟩
theorem i_Model_wall_109 : mj_Ld y_Model_wall 109 1 0 2 := .inr (.inr ⟨rfl, .inr ⟨rfl, 0, rfl, by decide +kernel⟩⟩)
theorem i_Model_wall_110 : mj_Gf y_Model_wall 110 8 13 := ⟨by decide, by decide, 38, by decide +kernel, .inl mm_745⟩
theorem i_Model_wall_113 : mj_Ld y_Model_wall 113 2 5 0 := .inl ⟨rfl, .inl ⟨rfl, by decide +kernel⟩⟩
theorem i_Model_wall_115 : decode y_Model_wall.2.1 115 = .ok (.iaload, 1) := by decide +kernel
theorem i_Model_wall_116 : decode y_Model_wall.2.1 116 = .ok (.iastore, 1) := by decide +kernel
theorem i_Model_wall_117 : mj_In y_Model_wall 117 5 1 := ⟨1, by decide +kernel, by decide +kernel⟩
theorem i_Model_wall_120 : mj_Go y_Model_wall 120 96 := ⟨(-24), by decide, by decide +kernel⟩
theorem i_Model_wall_123 : mj_Kc y_Model_wall 123 2 (.int (-2000000002)) := .inr (.inr (.inr (.inl ⟨80, (-2000000002), by decide +kernel, rfl, rfl, mm_813⟩)))
theorem i_Model_wall_125 : decode y_Model_wall.2.1 125 = .ok (.ireturn, 1) := by decide +kernel
theorem i_Model_wall_126 : mj_Ld y_Model_wall 126 1 0 2 := .inr (.inr ⟨rfl, .inr ⟨rfl, 0, rfl, by decide +kernel⟩⟩)
theorem i_Model_wall_127 : mj_Cv y_Model_wall 127 y_Model_swapBack 8 0 := ⟨by decide, rfl, mt_Model_swapBack, 109, by decide +kernel, mm_865, mm_867, mp_27⟩
theorem i_Model_wall_130 : mj_Ld y_Model_wall 130 2 4 0 := .inl ⟨rfl, .inl ⟨rfl, by decide +kernel⟩⟩
theorem i_Model_wall_132 : decode y_Model_wall.2.1 132 = .ok (.ireturn, 1) := by decide +kernel
theorem i_Model_isCell_0 : mj_Ld y_Model_isCell 0 1 1 0 := .inl ⟨rfl, .inr ⟨rfl, 1, rfl, by decide +kernel⟩⟩
theorem i_Model_isCell_1 : mj_Kc y_Model_isCell 1 1 (.int 0) := .inl ⟨0, by decide +kernel, rfl, by decide +kernel⟩
theorem i_Model_isCell_2 : mj_Ld y_Model_isCell 2 1 0 2 := .inr (.inr ⟨rfl, .inr ⟨rfl, 0, rfl, by decide +kernel⟩⟩)
theorem i_Model_isCell_3 : mj_Cv y_Model_isCell 3 y_Model_cells 8 0 := ⟨by decide, rfl, mt_Model_cells, 66, by decide +kernel, mm_822, mm_824, mp_18⟩
theorem i_Model_isCell_6 : mj_Kc y_Model_isCell 6 1 (.int 1) := .inl ⟨1, by decide +kernel, rfl, by decide +kernel⟩
theorem i_Model_isCell_7 : mj_B2 y_Model_isCell 7 (fun (a b : Int32) => a - b) := .inr (.inl ⟨by decide +kernel, rfl⟩)
theorem i_Model_isCell_8 : mj_Cs y_Model_isCell 8 y_Model_isIn 3 := ⟨mt_Model_isIn, 70, by decide +kernel, mm_819, .inl mm_818⟩
theorem i_Model_isCell_11 : decode y_Model_isCell.2.1 11 = .ok (.ireturn, 1) := by decide +kernel
theorem i_Model_keep0_0 : mj_Kc y_Model_keep0 0 1 (.int 0) := .inl ⟨0, by decide +kernel, rfl, by decide +kernel⟩
theorem i_Model_keep0_1 : mj_St y_Model_keep0 1 1 1 0 := .inl ⟨rfl, .inr ⟨rfl, 1, rfl, by decide +kernel⟩⟩
theorem i_Model_keep0_2 : mj_Ld y_Model_keep0 2 1 1 0 := .inl ⟨rfl, .inr ⟨rfl, 1, rfl, by decide +kernel⟩⟩
theorem i_Model_keep0_3 : mj_Kc y_Model_keep0 3 2 (.int 100) := .inr (.inl ⟨100, by decide +kernel, rfl, by decide +kernel⟩)
theorem i_Model_keep0_5 : mj_Ic y_Model_keep0 5 26 (fun (a b : Int32) => b ≤ a) := ⟨21, by decide, .inr (.inr (.inr (.inl ⟨by decide +kernel, rfl⟩)))⟩
theorem i_Model_keep0_8 : mj_Ld y_Model_keep0 8 1 0 2 := .inr (.inr ⟨rfl, .inr ⟨rfl, 0, rfl, by decide +kernel⟩⟩)
theorem i_Model_keep0_9 : mj_Gf y_Model_keep0 9 8 13 := ⟨by decide, by decide, 38, by decide +kernel, .inl mm_745⟩
theorem i_Model_keep0_12 : mj_Ld y_Model_keep0 12 1 1 0 := .inl ⟨rfl, .inr ⟨rfl, 1, rfl, by decide +kernel⟩⟩
theorem i_Model_keep0_13 : mj_Ld y_Model_keep0 13 1 0 2 := .inr (.inr ⟨rfl, .inr ⟨rfl, 0, rfl, by decide +kernel⟩⟩)
theorem i_Model_keep0_14 : mj_Gf y_Model_keep0 14 8 2 := ⟨by decide, by decide, 16, by decide +kernel, .inl mm_734⟩
theorem i_Model_keep0_17 : mj_Ld y_Model_keep0 17 1 1 0 := .inl ⟨rfl, .inr ⟨rfl, 1, rfl, by decide +kernel⟩⟩
theorem i_Model_keep0_18 : decode y_Model_keep0.2.1 18 = .ok (.iaload, 1) := by decide +kernel
theorem i_Model_keep0_19 : decode y_Model_keep0.2.1 19 = .ok (.iastore, 1) := by decide +kernel
theorem i_Model_keep0_20 : mj_In y_Model_keep0 20 1 1 := ⟨1, by decide +kernel, by decide +kernel⟩
theorem i_Model_keep0_23 : mj_Go y_Model_keep0 23 2 := ⟨(-21), by decide, by decide +kernel⟩
theorem i_Model_keep0_26 : decode y_Model_keep0.2.1 26 = .ok (.return_, 1) := by decide +kernel
theorem i_Model_isBetween_0 : mj_Ld y_Model_isBetween 0 1 1 0 := .inl ⟨rfl, .inr ⟨rfl, 1, rfl, by decide +kernel⟩⟩
theorem i_Model_isBetween_1 : mj_Ld y_Model_isBetween 1 1 0 2 := .inr (.inr ⟨rfl, .inr ⟨rfl, 0, rfl, by decide +kernel⟩⟩)
theorem i_Model_isBetween_2 : mj_Gf y_Model_isBetween 2 8 0 := ⟨by decide, by decide, 7, by decide +kernel, .inl mm_732⟩
theorem i_Model_isBetween_5 : mj_D2 y_Model_isBetween 5 (fun (a b : Int32) => a / b) := .inl ⟨by decide +kernel, rfl⟩
theorem i_Model_isBetween_6 : mj_St y_Model_isBetween 6 2 4 0 := .inl ⟨rfl, .inl ⟨rfl, by decide +kernel⟩⟩
theorem i_Model_isBetween_8 : mj_Ld y_Model_isBetween 8 1 1 0 := .inl ⟨rfl, .inr ⟨rfl, 1, rfl, by decide +kernel⟩⟩
theorem i_Model_isBetween_9 : mj_Ld y_Model_isBetween 9 1 0 2 := .inr (.inr ⟨rfl, .inr ⟨rfl, 0, rfl, by decide +kernel⟩⟩)
theorem i_Model_isBetween_10 : mj_Gf y_Model_isBetween 10 8 0 := ⟨by decide, by decide, 7, by decide +kernel, .inl mm_732⟩
theorem i_Model_isBetween_13 : mj_D2 y_Model_isBetween 13 (fun (a b : Int32) => a - a / b * b) := .inr ⟨by decide +kernel, rfl⟩
theorem i_Model_isBetween_14 : mj_St y_Model_isBetween 14 2 5 0 := .inl ⟨rfl, .inl ⟨rfl, by decide +kernel⟩⟩
theorem i_Model_isBetween_16 : mj_Ld y_Model_isBetween 16 2 4 0 := .inl ⟨rfl, .inl ⟨rfl, by decide +kernel⟩⟩
theorem i_Model_isBetween_18 : mj_Ld y_Model_isBetween 18 1 2 0 := .inl ⟨rfl, .inr ⟨rfl, 2, rfl, by decide +kernel⟩⟩
theorem i_Model_isBetween_19 : mj_Ld y_Model_isBetween 19 1 0 2 := .inr (.inr ⟨rfl, .inr ⟨rfl, 0, rfl, by decide +kernel⟩⟩)
theorem i_Model_isBetween_20 : mj_Gf y_Model_isBetween 20 8 0 := ⟨by decide, by decide, 7, by decide +kernel, .inl mm_732⟩
theorem i_Model_isBetween_23 : mj_D2 y_Model_isBetween 23 (fun (a b : Int32) => a / b) := .inl ⟨by decide +kernel, rfl⟩
theorem i_Model_isBetween_24 : mj_Ic y_Model_isBetween 24 38 (fun (a b : Int32) => a < b) := ⟨14, by decide, .inr (.inr (.inl ⟨by decide +kernel, rfl⟩))⟩
theorem i_Model_isBetween_27 : mj_Ld y_Model_isBetween 27 2 4 0 := .inl ⟨rfl, .inl ⟨rfl, by decide +kernel⟩⟩
theorem i_Model_isBetween_29 : mj_Ld y_Model_isBetween 29 1 3 0 := .inl ⟨rfl, .inr ⟨rfl, 3, rfl, by decide +kernel⟩⟩
theorem i_Model_isBetween_30 : mj_Ld y_Model_isBetween 30 1 0 2 := .inr (.inr ⟨rfl, .inr ⟨rfl, 0, rfl, by decide +kernel⟩⟩)
theorem i_Model_isBetween_31 : mj_Gf y_Model_isBetween 31 8 0 := ⟨by decide, by decide, 7, by decide +kernel, .inl mm_732⟩
theorem i_Model_isBetween_34 : mj_D2 y_Model_isBetween 34 (fun (a b : Int32) => a / b) := .inl ⟨by decide +kernel, rfl⟩
theorem i_Model_isBetween_35 : mj_Ic y_Model_isBetween 35 60 (fun (a b : Int32) => a ≤ b) := ⟨25, by decide, .inr (.inr (.inr (.inr (.inr (⟨by decide +kernel, rfl⟩)))))⟩
theorem i_Model_isBetween_38 : mj_Ld y_Model_isBetween 38 2 4 0 := .inl ⟨rfl, .inl ⟨rfl, by decide +kernel⟩⟩
theorem i_Model_isBetween_40 : mj_Ld y_Model_isBetween 40 1 3 0 := .inl ⟨rfl, .inr ⟨rfl, 3, rfl, by decide +kernel⟩⟩
theorem i_Model_isBetween_41 : mj_Ld y_Model_isBetween 41 1 0 2 := .inr (.inr ⟨rfl, .inr ⟨rfl, 0, rfl, by decide +kernel⟩⟩)
theorem i_Model_isBetween_42 : mj_Gf y_Model_isBetween 42 8 0 := ⟨by decide, by decide, 7, by decide +kernel, .inl mm_732⟩
theorem i_Model_isBetween_45 : mj_D2 y_Model_isBetween 45 (fun (a b : Int32) => a / b) := .inl ⟨by decide +kernel, rfl⟩
theorem i_Model_isBetween_46 : mj_Ic y_Model_isBetween 46 64 (fun (a b : Int32) => a < b) := ⟨18, by decide, .inr (.inr (.inl ⟨by decide +kernel, rfl⟩))⟩
theorem i_Model_isBetween_49 : mj_Ld y_Model_isBetween 49 2 4 0 := .inl ⟨rfl, .inl ⟨rfl, by decide +kernel⟩⟩
theorem i_Model_isBetween_51 : mj_Ld y_Model_isBetween 51 1 2 0 := .inl ⟨rfl, .inr ⟨rfl, 2, rfl, by decide +kernel⟩⟩
theorem i_Model_isBetween_52 : mj_Ld y_Model_isBetween 52 1 0 2 := .inr (.inr ⟨rfl, .inr ⟨rfl, 0, rfl, by decide +kernel⟩⟩)
theorem i_Model_isBetween_53 : mj_Gf y_Model_isBetween 53 8 0 := ⟨by decide, by decide, 7, by decide +kernel, .inl mm_732⟩
theorem i_Model_isBetween_56 : mj_D2 y_Model_isBetween 56 (fun (a b : Int32) => a / b) := .inl ⟨by decide +kernel, rfl⟩
theorem i_Model_isBetween_57 : mj_Ic y_Model_isBetween 57 64 (fun (a b : Int32) => b < a) := ⟨7, by decide, .inr (.inr (.inr (.inr (.inl ⟨by decide +kernel, rfl⟩))))⟩
theorem i_Model_isBetween_60 : mj_Kc y_Model_isBetween 60 1 (.int 1) := .inl ⟨1, by decide +kernel, rfl, by decide +kernel⟩
theorem i_Model_isBetween_61 : mj_Go y_Model_isBetween 61 65 := ⟨4, by decide, by decide +kernel⟩
theorem i_Model_isBetween_64 : mj_Kc y_Model_isBetween 64 1 (.int 0) := .inl ⟨0, by decide +kernel, rfl, by decide +kernel⟩
theorem i_Model_isBetween_65 : mj_St y_Model_isBetween 65 2 6 0 := .inl ⟨rfl, .inl ⟨rfl, by decide +kernel⟩⟩
theorem i_Model_isBetween_67 : mj_Ld y_Model_isBetween 67 2 6 0 := .inl ⟨rfl, .inl ⟨rfl, by decide +kernel⟩⟩
theorem i_Model_isBetween_69 : mj_If y_Model_isBetween 69 120 (fun (a : Int32) => a = 0) := ⟨51, by decide, .inl ⟨by decide +kernel, rfl⟩⟩
theorem i_Model_isBetween_72 : mj_Ld y_Model_isBetween 72 2 5 0 := .inl ⟨rfl, .inl ⟨rfl, by decide +kernel⟩⟩
theorem i_Model_isBetween_74 : mj_Ld y_Model_isBetween 74 1 2 0 := .inl ⟨rfl, .inr ⟨rfl, 2, rfl, by decide +kernel⟩⟩
theorem i_Model_isBetween_75 : mj_Ld y_Model_isBetween 75 1 0 2 := .inr (.inr ⟨rfl, .inr ⟨rfl, 0, rfl, by decide +kernel⟩⟩)
theorem i_Model_isBetween_76 : mj_Gf y_Model_isBetween 76 8 0 := ⟨by decide, by decide, 7, by decide +kernel, .inl mm_732⟩
theorem i_Model_isBetween_79 : mj_D2 y_Model_isBetween 79 (fun (a b : Int32) => a - a / b * b) := .inr ⟨by decide +kernel, rfl⟩
theorem i_Model_isBetween_80 : mj_Ic y_Model_isBetween 80 94 (fun (a b : Int32) => a < b) := ⟨14, by decide, .inr (.inr (.inl ⟨by decide +kernel, rfl⟩))⟩
theorem i_Model_isBetween_83 : mj_Ld y_Model_isBetween 83 2 5 0 := .inl ⟨rfl, .inl ⟨rfl, by decide +kernel⟩⟩
theorem i_Model_isBetween_85 : mj_Ld y_Model_isBetween 85 1 3 0 := .inl ⟨rfl, .inr ⟨rfl, 3, rfl, by decide +kernel⟩⟩
theorem i_Model_isBetween_86 : mj_Ld y_Model_isBetween 86 1 0 2 := .inr (.inr ⟨rfl, .inr ⟨rfl, 0, rfl, by decide +kernel⟩⟩)
theorem i_Model_isBetween_87 : mj_Gf y_Model_isBetween 87 8 0 := ⟨by decide, by decide, 7, by decide +kernel, .inl mm_732⟩
theorem i_Model_isBetween_90 : mj_D2 y_Model_isBetween 90 (fun (a b : Int32) => a - a / b * b) := .inr ⟨by decide +kernel, rfl⟩
theorem i_Model_isBetween_91 : mj_Ic y_Model_isBetween 91 116 (fun (a b : Int32) => a ≤ b) := ⟨25, by decide, .inr (.inr (.inr (.inr (.inr (⟨by decide +kernel, rfl⟩)))))⟩
theorem i_Model_isBetween_94 : mj_Ld y_Model_isBetween 94 2 5 0 := .inl ⟨rfl, .inl ⟨rfl, by decide +kernel⟩⟩
theorem i_Model_isBetween_96 : mj_Ld y_Model_isBetween 96 1 3 0 := .inl ⟨rfl, .inr ⟨rfl, 3, rfl, by decide +kernel⟩⟩
theorem i_Model_isBetween_97 : mj_Ld y_Model_isBetween 97 1 0 2 := .inr (.inr ⟨rfl, .inr ⟨rfl, 0, rfl, by decide +kernel⟩⟩)
theorem i_Model_isBetween_98 : mj_Gf y_Model_isBetween 98 8 0 := ⟨by decide, by decide, 7, by decide +kernel, .inl mm_732⟩
theorem i_Model_isBetween_101 : mj_D2 y_Model_isBetween 101 (fun (a b : Int32) => a - a / b * b) := .inr ⟨by decide +kernel, rfl⟩
theorem i_Model_isBetween_102 : mj_Ic y_Model_isBetween 102 120 (fun (a b : Int32) => a < b) := ⟨18, by decide, .inr (.inr (.inl ⟨by decide +kernel, rfl⟩))⟩
theorem i_Model_isBetween_105 : mj_Ld y_Model_isBetween 105 2 5 0 := .inl ⟨rfl, .inl ⟨rfl, by decide +kernel⟩⟩
theorem i_Model_isBetween_107 : mj_Ld y_Model_isBetween 107 1 2 0 := .inl ⟨rfl, .inr ⟨rfl, 2, rfl, by decide +kernel⟩⟩
theorem i_Model_isBetween_108 : mj_Ld y_Model_isBetween 108 1 0 2 := .inr (.inr ⟨rfl, .inr ⟨rfl, 0, rfl, by decide +kernel⟩⟩)
theorem i_Model_isBetween_109 : mj_Gf y_Model_isBetween 109 8 0 := ⟨by decide, by decide, 7, by decide +kernel, .inl mm_732⟩
theorem i_Model_isBetween_112 : mj_D2 y_Model_isBetween 112 (fun (a b : Int32) => a - a / b * b) := .inr ⟨by decide +kernel, rfl⟩
theorem i_Model_isBetween_113 : mj_Ic y_Model_isBetween 113 120 (fun (a b : Int32) => b < a) := ⟨7, by decide, .inr (.inr (.inr (.inr (.inl ⟨by decide +kernel, rfl⟩))))⟩
theorem i_Model_isBetween_116 : mj_Kc y_Model_isBetween 116 1 (.int 1) := .inl ⟨1, by decide +kernel, rfl, by decide +kernel⟩
theorem i_Model_isBetween_117 : mj_Go y_Model_isBetween 117 121 := ⟨4, by decide, by decide +kernel⟩
theorem i_Model_isBetween_120 : mj_Kc y_Model_isBetween 120 1 (.int 0) := .inl ⟨0, by decide +kernel, rfl, by decide +kernel⟩
theorem i_Model_isBetween_121 : decode y_Model_isBetween.2.1 121 = .ok (.ireturn, 1) := by decide +kernel
theorem i_Model_allStand_0 : mj_Kc y_Model_allStand 0 1 (.int 1) := .inl ⟨1, by decide +kernel, rfl, by decide +kernel⟩
theorem i_Model_allStand_1 : mj_St y_Model_allStand 1 1 1 0 := .inl ⟨rfl, .inr ⟨rfl, 1, rfl, by decide +kernel⟩⟩
theorem i_Model_allStand_2 : mj_Kc y_Model_allStand 2 1 (.int 0) := .inl ⟨0, by decide +kernel, rfl, by decide +kernel⟩
theorem i_Model_allStand_3 : mj_St y_Model_allStand 3 1 2 0 := .inl ⟨rfl, .inr ⟨rfl, 2, rfl, by decide +kernel⟩⟩
theorem i_Model_allStand_4 : mj_Ld y_Model_allStand 4 1 2 0 := .inl ⟨rfl, .inr ⟨rfl, 2, rfl, by decide +kernel⟩⟩
theorem i_Model_allStand_5 : mj_Ld y_Model_allStand 5 1 0 2 := .inr (.inr ⟨rfl, .inr ⟨rfl, 0, rfl, by decide +kernel⟩⟩)
theorem i_Model_allStand_6 : mj_Cv y_Model_allStand 6 y_Model_posts 8 0 := ⟨by decide, rfl, mt_Model_posts, 74, by decide +kernel, mm_846, mm_848, mp_23⟩
theorem i_Model_allStand_9 : mj_Ic y_Model_allStand 9 53 (fun (a b : Int32) => b ≤ a) := ⟨44, by decide, .inr (.inr (.inr (.inl ⟨by decide +kernel, rfl⟩)))⟩
theorem i_Model_allStand_12 : mj_Ld y_Model_allStand 12 1 1 0 := .inl ⟨rfl, .inr ⟨rfl, 1, rfl, by decide +kernel⟩⟩
theorem i_Model_allStand_13 : mj_If y_Model_allStand 13 45 (fun (a : Int32) => a = 0) := ⟨32, by decide, .inl ⟨by decide +kernel, rfl⟩⟩
theorem i_Model_allStand_16 : mj_Ld y_Model_allStand 16 1 0 2 := .inr (.inr ⟨rfl, .inr ⟨rfl, 0, rfl, by decide +kernel⟩⟩)
theorem i_Model_allStand_17 : mj_Ld y_Model_allStand 17 1 0 2 := .inr (.inr ⟨rfl, .inr ⟨rfl, 0, rfl, by decide +kernel⟩⟩)
theorem i_Model_allStand_18 : mj_Gf y_Model_allStand 18 8 2 := ⟨by decide, by decide, 16, by decide +kernel, .inl mm_734⟩
theorem i_Model_allStand_21 : mj_Kc y_Model_allStand 21 2 (.int 101) := .inr (.inl ⟨101, by decide +kernel, rfl, by decide +kernel⟩)
theorem i_Model_allStand_23 : mj_Ld y_Model_allStand 23 1 2 0 := .inl ⟨rfl, .inr ⟨rfl, 2, rfl, by decide +kernel⟩⟩
theorem i_Model_allStand_24 : mj_B2 y_Model_allStand 24 (fun (a b : Int32) => a + b) := .inl ⟨by decide +kernel, rfl⟩
theorem i_Model_allStand_25 : decode y_Model_allStand.2.1 25 = .ok (.iaload, 1) := by decide +kernel
theorem i_Model_allStand_26 : mj_Ld y_Model_allStand 26 1 0 2 := .inr (.inr ⟨rfl, .inr ⟨rfl, 0, rfl, by decide +kernel⟩⟩)
theorem i_Model_allStand_27 : mj_Gf y_Model_allStand 27 8 2 := ⟨by decide, by decide, 16, by decide +kernel, .inl mm_734⟩
theorem i_Model_allStand_30 : mj_Kc y_Model_allStand 30 2 (.int 115) := .inr (.inl ⟨115, by decide +kernel, rfl, by decide +kernel⟩)
theorem i_Model_allStand_32 : mj_Ld y_Model_allStand 32 1 2 0 := .inl ⟨rfl, .inr ⟨rfl, 2, rfl, by decide +kernel⟩⟩
theorem i_Model_allStand_33 : mj_B2 y_Model_allStand 33 (fun (a b : Int32) => a + b) := .inl ⟨by decide +kernel, rfl⟩
theorem i_Model_allStand_34 : decode y_Model_allStand.2.1 34 = .ok (.iaload, 1) := by decide +kernel
theorem i_Model_allStand_35 : mj_Cv y_Model_allStand 35 y_Model_mayStand 8 2 := ⟨by decide, rfl, mt_Model_mayStand, 92, by decide +kernel, mm_850, mm_852, mp_24⟩
theorem i_Model_allStand_38 : mj_If y_Model_allStand 38 45 (fun (a : Int32) => a = 0) := ⟨7, by decide, .inl ⟨by decide +kernel, rfl⟩⟩
theorem i_Model_allStand_41 : mj_Kc y_Model_allStand 41 1 (.int 1) := .inl ⟨1, by decide +kernel, rfl, by decide +kernel⟩
theorem i_Model_allStand_42 : mj_Go y_Model_allStand 42 46 := ⟨4, by decide, by decide +kernel⟩
theorem i_Model_allStand_45 : mj_Kc y_Model_allStand 45 1 (.int 0) := .inl ⟨0, by decide +kernel, rfl, by decide +kernel⟩
theorem i_Model_allStand_46 : mj_St y_Model_allStand 46 1 1 0 := .inl ⟨rfl, .inr ⟨rfl, 1, rfl, by decide +kernel⟩⟩
theorem i_Model_allStand_47 : mj_In y_Model_allStand 47 2 1 := ⟨1, by decide +kernel, by decide +kernel⟩
theorem i_Model_allStand_50 : mj_Go y_Model_allStand 50 4 := ⟨(-46), by decide, by decide +kernel⟩
theorem i_Model_allStand_53 : mj_Ld y_Model_allStand 53 1 1 0 := .inl ⟨rfl, .inr ⟨rfl, 1, rfl, by decide +kernel⟩⟩
theorem i_Model_allStand_54 : decode y_Model_allStand.2.1 54 = .ok (.ireturn, 1) := by decide +kernel
theorem i_Model_posts_0 : mj_Ld y_Model_posts 0 1 0 2 := .inr (.inr ⟨rfl, .inr ⟨rfl, 0, rfl, by decide +kernel⟩⟩)
theorem i_Model_posts_1 : mj_Gf y_Model_posts 1 8 2 := ⟨by decide, by decide, 16, by decide +kernel, .inl mm_734⟩
theorem i_Model_posts_4 : mj_Kc y_Model_posts 4 2 (.int 100) := .inr (.inl ⟨100, by decide +kernel, rfl, by decide +kernel⟩)
theorem i_Model_posts_6 : decode y_Model_posts.2.1 6 = .ok (.iaload, 1) := by decide +kernel
theorem i_Model_posts_7 : decode y_Model_posts.2.1 7 = .ok (.ireturn, 1) := by decide +kernel
theorem i_Model_mayStand_0 : mj_Ld y_Model_mayStand 0 1 0 2 := .inr (.inr ⟨rfl, .inr ⟨rfl, 0, rfl, by decide +kernel⟩⟩)
theorem i_Model_mayStand_1 : mj_Ld y_Model_mayStand 1 1 1 0 := .inl ⟨rfl, .inr ⟨rfl, 1, rfl, by decide +kernel⟩⟩
theorem i_Model_mayStand_2 : mj_Cv y_Model_mayStand 2 y_Model_isOpen 8 1 := ⟨by decide, rfl, mt_Model_isOpen, 82, by decide +kernel, mm_854, mm_856, mp_25⟩
theorem i_Model_mayStand_5 : mj_If y_Model_mayStand 5 27 (fun (a : Int32) => a = 0) := ⟨22, by decide, .inl ⟨by decide +kernel, rfl⟩⟩
theorem i_Model_mayStand_8 : mj_Ld y_Model_mayStand 8 1 2 0 := .inl ⟨rfl, .inr ⟨rfl, 2, rfl, by decide +kernel⟩⟩
theorem i_Model_mayStand_9 : mj_Cs y_Model_mayStand 9 y_Model_isDoor 1 := ⟨mt_Model_isDoor, 86, by decide +kernel, mm_859, .inl mm_858⟩
theorem i_Model_mayStand_12 : mj_If y_Model_mayStand 12 23 (fun (a : Int32) => a = 0) := ⟨11, by decide, .inl ⟨by decide +kernel, rfl⟩⟩
theorem i_Model_mayStand_15 : mj_Ld y_Model_mayStand 15 1 0 2 := .inr (.inr ⟨rfl, .inr ⟨rfl, 0, rfl, by decide +kernel⟩⟩)
theorem i_Model_mayStand_16 : mj_Ld y_Model_mayStand 16 1 1 0 := .inl ⟨rfl, .inr ⟨rfl, 1, rfl, by decide +kernel⟩⟩
theorem i_Model_mayStand_17 : mj_Cv y_Model_mayStand 17 y_Model_hasWall 8 1 := ⟨by decide, rfl, mt_Model_hasWall, 89, by decide +kernel, mm_861, mm_863, mp_26⟩
theorem i_Model_mayStand_20 : mj_If y_Model_mayStand 20 27 (fun (a : Int32) => a = 0) := ⟨7, by decide, .inl ⟨by decide +kernel, rfl⟩⟩
theorem i_Model_mayStand_23 : mj_Kc y_Model_mayStand 23 1 (.int 1) := .inl ⟨1, by decide +kernel, rfl, by decide +kernel⟩
theorem i_Model_mayStand_24 : mj_Go y_Model_mayStand 24 28 := ⟨4, by decide, by decide +kernel⟩
theorem i_Model_mayStand_27 : mj_Kc y_Model_mayStand 27 1 (.int 0) := .inl ⟨0, by decide +kernel, rfl, by decide +kernel⟩
theorem i_Model_mayStand_28 : decode y_Model_mayStand.2.1 28 = .ok (.ireturn, 1) := by decide +kernel
theorem i_Model_isOpen_0 : mj_Ld y_Model_isOpen 0 1 0 2 := .inr (.inr ⟨rfl, .inr ⟨rfl, 0, rfl, by decide +kernel⟩⟩)
theorem i_Model_isOpen_1 : mj_Gf y_Model_isOpen 1 8 2 := ⟨by decide, by decide, 16, by decide +kernel, .inl mm_734⟩
theorem i_Model_isOpen_4 : mj_Ld y_Model_isOpen 4 1 1 0 := .inl ⟨rfl, .inr ⟨rfl, 1, rfl, by decide +kernel⟩⟩
theorem i_Model_isOpen_5 : decode y_Model_isOpen.2.1 5 = .ok (.iaload, 1) := by decide +kernel
theorem i_Model_isOpen_6 : mj_If y_Model_isOpen 6 13 (fun (a : Int32) => ¬ a = 0) := ⟨7, by decide, .inr (.inl ⟨by decide +kernel, rfl⟩)⟩
theorem i_Model_isOpen_9 : mj_Kc y_Model_isOpen 9 1 (.int 1) := .inl ⟨1, by decide +kernel, rfl, by decide +kernel⟩
theorem i_Model_isOpen_10 : mj_Go y_Model_isOpen 10 14 := ⟨4, by decide, by decide +kernel⟩
theorem i_Model_isOpen_13 : mj_Kc y_Model_isOpen 13 1 (.int 0) := .inl ⟨0, by decide +kernel, rfl, by decide +kernel⟩
theorem i_Model_isOpen_14 : decode y_Model_isOpen.2.1 14 = .ok (.ireturn, 1) := by decide +kernel
theorem i_Model_isDoor_0 : mj_Ld y_Model_isDoor 0 1 0 0 := .inl ⟨rfl, .inr ⟨rfl, 0, rfl, by decide +kernel⟩⟩
theorem i_Model_isDoor_1 : mj_Kc y_Model_isDoor 1 1 (.int 2) := .inl ⟨2, by decide +kernel, rfl, by decide +kernel⟩
theorem i_Model_isDoor_2 : mj_Ic y_Model_isDoor 2 10 (fun (a b : Int32) => a = b) := ⟨8, by decide, .inl ⟨by decide +kernel, rfl⟩⟩
theorem i_Model_isDoor_5 : mj_Ld y_Model_isDoor 5 1 0 0 := .inl ⟨rfl, .inr ⟨rfl, 0, rfl, by decide +kernel⟩⟩
theorem i_Model_isDoor_6 : mj_Kc y_Model_isDoor 6 1 (.int 3) := .inl ⟨3, by decide +kernel, rfl, by decide +kernel⟩
theorem i_Model_isDoor_7 : mj_Ic y_Model_isDoor 7 14 (fun (a b : Int32) => ¬ a = b) := ⟨7, by decide, .inr (.inl ⟨by decide +kernel, rfl⟩)⟩
theorem i_Model_isDoor_10 : mj_Kc y_Model_isDoor 10 1 (.int 1) := .inl ⟨1, by decide +kernel, rfl, by decide +kernel⟩
theorem i_Model_isDoor_11 : mj_Go y_Model_isDoor 11 15 := ⟨4, by decide, by decide +kernel⟩
theorem i_Model_isDoor_14 : mj_Kc y_Model_isDoor 14 1 (.int 0) := .inl ⟨0, by decide +kernel, rfl, by decide +kernel⟩
theorem i_Model_isDoor_15 : decode y_Model_isDoor.2.1 15 = .ok (.ireturn, 1) := by decide +kernel
theorem i_Model_hasWall_0 : mj_Ld y_Model_hasWall 0 1 1 0 := .inl ⟨rfl, .inr ⟨rfl, 1, rfl, by decide +kernel⟩⟩
theorem i_Model_hasWall_1 : mj_Ld y_Model_hasWall 1 1 0 2 := .inr (.inr ⟨rfl, .inr ⟨rfl, 0, rfl, by decide +kernel⟩⟩)
theorem i_Model_hasWall_2 : mj_Gf y_Model_hasWall 2 8 0 := ⟨by decide, by decide, 7, by decide +kernel, .inl mm_732⟩
theorem i_Model_hasWall_5 : mj_D2 y_Model_hasWall 5 (fun (a b : Int32) => a / b) := .inl ⟨by decide +kernel, rfl⟩
theorem i_Model_hasWall_6 : mj_St y_Model_hasWall 6 1 2 0 := .inl ⟨rfl, .inr ⟨rfl, 2, rfl, by decide +kernel⟩⟩
theorem i_Model_hasWall_7 : mj_Ld y_Model_hasWall 7 1 1 0 := .inl ⟨rfl, .inr ⟨rfl, 1, rfl, by decide +kernel⟩⟩
theorem i_Model_hasWall_8 : mj_Ld y_Model_hasWall 8 1 0 2 := .inr (.inr ⟨rfl, .inr ⟨rfl, 0, rfl, by decide +kernel⟩⟩)
theorem i_Model_hasWall_9 : mj_Gf y_Model_hasWall 9 8 0 := ⟨by decide, by decide, 7, by decide +kernel, .inl mm_732⟩
theorem i_Model_hasWall_12 : mj_D2 y_Model_hasWall 12 (fun (a b : Int32) => a - a / b * b) := .inr ⟨by decide +kernel, rfl⟩
theorem i_Model_hasWall_13 : mj_St y_Model_hasWall 13 1 3 0 := .inl ⟨rfl, .inr ⟨rfl, 3, rfl, by decide +kernel⟩⟩
theorem i_Model_hasWall_14 : mj_Ld y_Model_hasWall 14 1 2 0 := .inl ⟨rfl, .inr ⟨rfl, 2, rfl, by decide +kernel⟩⟩
theorem i_Model_hasWall_15 : mj_If y_Model_hasWall 15 42 (fun (a : Int32) => a = 0) := ⟨27, by decide, .inl ⟨by decide +kernel, rfl⟩⟩
theorem i_Model_hasWall_18 : mj_Ld y_Model_hasWall 18 1 3 0 := .inl ⟨rfl, .inr ⟨rfl, 3, rfl, by decide +kernel⟩⟩
theorem i_Model_hasWall_19 : mj_If y_Model_hasWall 19 42 (fun (a : Int32) => a = 0) := ⟨23, by decide, .inl ⟨by decide +kernel, rfl⟩⟩
theorem i_Model_hasWall_22 : mj_Ld y_Model_hasWall 22 1 2 0 := .inl ⟨rfl, .inr ⟨rfl, 2, rfl, by decide +kernel⟩⟩
theorem i_Model_hasWall_23 : mj_Ld y_Model_hasWall 23 1 0 2 := .inr (.inr ⟨rfl, .inr ⟨rfl, 0, rfl, by decide +kernel⟩⟩)
theorem i_Model_hasWall_24 : mj_Gf y_Model_hasWall 24 8 1 := ⟨by decide, by decide, 13, by decide +kernel, .inl mm_733⟩
theorem i_Model_hasWall_27 : mj_Kc y_Model_hasWall 27 1 (.int 1) := .inl ⟨1, by decide +kernel, rfl, by decide +kernel⟩
theorem i_Model_hasWall_28 : mj_B2 y_Model_hasWall 28 (fun (a b : Int32) => a - b) := .inr (.inl ⟨by decide +kernel, rfl⟩)
theorem i_Model_hasWall_29 : mj_Ic y_Model_hasWall 29 42 (fun (a b : Int32) => a = b) := ⟨13, by decide, .inl ⟨by decide +kernel, rfl⟩⟩
theorem i_Model_hasWall_32 : mj_Ld y_Model_hasWall 32 1 3 0 := .inl ⟨rfl, .inr ⟨rfl, 3, rfl, by decide +kernel⟩⟩
theorem i_Model_hasWall_33 : mj_Ld y_Model_hasWall 33 1 0 2 := .inr (.inr ⟨rfl, .inr ⟨rfl, 0, rfl, by decide +kernel⟩⟩)
theorem i_Model_hasWall_34 : mj_Gf y_Model_hasWall 34 8 0 := ⟨by decide, by decide, 7, by decide +kernel, .inl mm_732⟩
theorem i_Model_hasWall_37 : mj_Kc y_Model_hasWall 37 1 (.int 1) := .inl ⟨1, by decide +kernel, rfl, by decide +kernel⟩
theorem i_Model_hasWall_38 : mj_B2 y_Model_hasWall 38 (fun (a b : Int32) => a - b) := .inr (.inl ⟨by decide +kernel, rfl⟩)
theorem i_Model_hasWall_39 : mj_Ic y_Model_hasWall 39 46 (fun (a b : Int32) => ¬ a = b) := ⟨7, by decide, .inr (.inl ⟨by decide +kernel, rfl⟩)⟩
theorem i_Model_hasWall_42 : mj_Kc y_Model_hasWall 42 1 (.int 1) := .inl ⟨1, by decide +kernel, rfl, by decide +kernel⟩
theorem i_Model_hasWall_43 : mj_Go y_Model_hasWall 43 47 := ⟨4, by decide, by decide +kernel⟩
theorem i_Model_hasWall_46 : mj_Kc y_Model_hasWall 46 1 (.int 0) := .inl ⟨0, by decide +kernel, rfl, by decide +kernel⟩
theorem i_Model_hasWall_47 : mj_St y_Model_hasWall 47 2 4 0 := .inl ⟨rfl, .inl ⟨rfl, by decide +kernel⟩⟩
theorem i_Model_hasWall_49 : mj_Ld y_Model_hasWall 49 2 4 0 := .inl ⟨rfl, .inl ⟨rfl, by decide +kernel⟩⟩
theorem i_Model_hasWall_51 : mj_If y_Model_hasWall 51 100 (fun (a : Int32) => ¬ a = 0) := ⟨49, by decide, .inr (.inl ⟨by decide +kernel, rfl⟩)⟩
theorem i_Model_hasWall_54 : mj_Ld y_Model_hasWall 54 1 0 2 := .inr (.inr ⟨rfl, .inr ⟨rfl, 0, rfl, by decide +kernel⟩⟩)
theorem i_Model_hasWall_55 : mj_Ld y_Model_hasWall 55 1 1 0 := .inl ⟨rfl, .inr ⟨rfl, 1, rfl, by decide +kernel⟩⟩
theorem i_Model_hasWall_56 : mj_Kc y_Model_hasWall 56 1 (.int 1) := .inl ⟨1, by decide +kernel, rfl, by decide +kernel⟩
theorem i_Model_hasWall_57 : mj_B2 y_Model_hasWall 57 (fun (a b : Int32) => a - b) := .inr (.inl ⟨by decide +kernel, rfl⟩)
theorem i_Model_hasWall_58 : mj_Cv y_Model_hasWall 58 y_Model_isOpen 8 1 := ⟨by decide, rfl, mt_Model_isOpen, 82, by decide +kernel, mm_854, mm_856, mp_25⟩
theorem i_Model_hasWall_61 : mj_If y_Model_hasWall 61 100 (fun (a : Int32) => a = 0) := ⟨39, by decide, .inl ⟨by decide +kernel, rfl⟩⟩
theorem i_Model_hasWall_64 : mj_Ld y_Model_hasWall 64 1 0 2 := .inr (.inr ⟨rfl, .inr ⟨rfl, 0, rfl, by decide +kernel⟩⟩)
theorem i_Model_hasWall_65 : mj_Ld y_Model_hasWall 65 1 1 0 := .inl ⟨rfl, .inr ⟨rfl, 1, rfl, by decide +kernel⟩⟩
theorem i_Model_hasWall_66 : mj_Kc y_Model_hasWall 66 1 (.int 1) := .inl ⟨1, by decide +kernel, rfl, by decide +kernel⟩
theorem i_Model_hasWall_67 : mj_B2 y_Model_hasWall 67 (fun (a b : Int32) => a + b) := .inl ⟨by decide +kernel, rfl⟩
theorem i_Model_hasWall_68 : mj_Cv y_Model_hasWall 68 y_Model_isOpen 8 1 := ⟨by decide, rfl, mt_Model_isOpen, 82, by decide +kernel, mm_854, mm_856, mp_25⟩
theorem i_Model_hasWall_71 : mj_If y_Model_hasWall 71 100 (fun (a : Int32) => a = 0) := ⟨29, by decide, .inl ⟨by decide +kernel, rfl⟩⟩
theorem i_Model_hasWall_74 : mj_Ld y_Model_hasWall 74 1 0 2 := .inr (.inr ⟨rfl, .inr ⟨rfl, 0, rfl, by decide +kernel⟩⟩)
theorem i_Model_hasWall_75 : mj_Ld y_Model_hasWall 75 1 1 0 := .inl ⟨rfl, .inr ⟨rfl, 1, rfl, by decide +kernel⟩⟩
theorem i_Model_hasWall_76 : mj_Ld y_Model_hasWall 76 1 0 2 := .inr (.inr ⟨rfl, .inr ⟨rfl, 0, rfl, by decide +kernel⟩⟩)
theorem i_Model_hasWall_77 : mj_Gf y_Model_hasWall 77 8 0 := ⟨by decide, by decide, 7, by decide +kernel, .inl mm_732⟩
theorem i_Model_hasWall_80 : mj_B2 y_Model_hasWall 80 (fun (a b : Int32) => a - b) := .inr (.inl ⟨by decide +kernel, rfl⟩)
theorem i_Model_hasWall_81 : mj_Cv y_Model_hasWall 81 y_Model_isOpen 8 1 := ⟨by decide, rfl, mt_Model_isOpen, 82, by decide +kernel, mm_854, mm_856, mp_25⟩
theorem i_Model_hasWall_84 : mj_If y_Model_hasWall 84 100 (fun (a : Int32) => a = 0) := ⟨16, by decide, .inl ⟨by decide +kernel, rfl⟩⟩
theorem i_Model_hasWall_87 : mj_Ld y_Model_hasWall 87 1 0 2 := .inr (.inr ⟨rfl, .inr ⟨rfl, 0, rfl, by decide +kernel⟩⟩)
theorem i_Model_hasWall_88 : mj_Ld y_Model_hasWall 88 1 1 0 := .inl ⟨rfl, .inr ⟨rfl, 1, rfl, by decide +kernel⟩⟩
theorem i_Model_hasWall_89 : mj_Ld y_Model_hasWall 89 1 0 2 := .inr (.inr ⟨rfl, .inr ⟨rfl, 0, rfl, by decide +kernel⟩⟩)
theorem i_Model_hasWall_90 : mj_Gf y_Model_hasWall 90 8 0 := ⟨by decide, by decide, 7, by decide +kernel, .inl mm_732⟩
theorem i_Model_hasWall_93 : mj_B2 y_Model_hasWall 93 (fun (a b : Int32) => a + b) := .inl ⟨by decide +kernel, rfl⟩
theorem i_Model_hasWall_94 : mj_Cv y_Model_hasWall 94 y_Model_isOpen 8 1 := ⟨by decide, rfl, mt_Model_isOpen, 82, by decide +kernel, mm_854, mm_856, mp_25⟩
theorem i_Model_hasWall_97 : mj_If y_Model_hasWall 97 104 (fun (a : Int32) => ¬ a = 0) := ⟨7, by decide, .inr (.inl ⟨by decide +kernel, rfl⟩)⟩
theorem i_Model_hasWall_100 : mj_Kc y_Model_hasWall 100 1 (.int 1) := .inl ⟨1, by decide +kernel, rfl, by decide +kernel⟩
theorem i_Model_hasWall_101 : mj_Go y_Model_hasWall 101 105 := ⟨4, by decide, by decide +kernel⟩
theorem i_Model_hasWall_104 : mj_Kc y_Model_hasWall 104 1 (.int 0) := .inl ⟨0, by decide +kernel, rfl, by decide +kernel⟩
theorem i_Model_hasWall_105 : decode y_Model_hasWall.2.1 105 = .ok (.ireturn, 1) := by decide +kernel
theorem i_Model_swapBack_0 : mj_Kc y_Model_swapBack 0 1 (.int 0) := .inl ⟨0, by decide +kernel, rfl, by decide +kernel⟩
theorem i_Model_swapBack_1 : mj_St y_Model_swapBack 1 1 1 0 := .inl ⟨rfl, .inr ⟨rfl, 1, rfl, by decide +kernel⟩⟩
theorem i_Model_swapBack_2 : mj_Ld y_Model_swapBack 2 1 1 0 := .inl ⟨rfl, .inr ⟨rfl, 1, rfl, by decide +kernel⟩⟩
theorem i_Model_swapBack_3 : mj_Kc y_Model_swapBack 3 2 (.int 100) := .inr (.inl ⟨100, by decide +kernel, rfl, by decide +kernel⟩)
theorem i_Model_swapBack_5 : mj_Ic y_Model_swapBack 5 38 (fun (a b : Int32) => b ≤ a) := ⟨33, by decide, .inr (.inr (.inr (.inl ⟨by decide +kernel, rfl⟩)))⟩
theorem i_Model_swapBack_8 : mj_Ld y_Model_swapBack 8 1 0 2 := .inr (.inr ⟨rfl, .inr ⟨rfl, 0, rfl, by decide +kernel⟩⟩)
theorem i_Model_swapBack_9 : mj_Gf y_Model_swapBack 9 8 14 := ⟨by decide, by decide, 41, by decide +kernel, .inl mm_746⟩
theorem i_Model_swapBack_12 : mj_Ld y_Model_swapBack 12 1 1 0 := .inl ⟨rfl, .inr ⟨rfl, 1, rfl, by decide +kernel⟩⟩
theorem i_Model_swapBack_13 : mj_Ld y_Model_swapBack 13 1 0 2 := .inr (.inr ⟨rfl, .inr ⟨rfl, 0, rfl, by decide +kernel⟩⟩)
theorem i_Model_swapBack_14 : mj_Gf y_Model_swapBack 14 8 2 := ⟨by decide, by decide, 16, by decide +kernel, .inl mm_734⟩
theorem i_Model_swapBack_17 : mj_Ld y_Model_swapBack 17 1 1 0 := .inl ⟨rfl, .inr ⟨rfl, 1, rfl, by decide +kernel⟩⟩
theorem i_Model_swapBack_18 : decode y_Model_swapBack.2.1 18 = .ok (.iaload, 1) := by decide +kernel
theorem i_Model_swapBack_19 : decode y_Model_swapBack.2.1 19 = .ok (.iastore, 1) := by decide +kernel
theorem i_Model_swapBack_20 : mj_Ld y_Model_swapBack 20 1 0 2 := .inr (.inr ⟨rfl, .inr ⟨rfl, 0, rfl, by decide +kernel⟩⟩)
theorem i_Model_swapBack_21 : mj_Gf y_Model_swapBack 21 8 2 := ⟨by decide, by decide, 16, by decide +kernel, .inl mm_734⟩
theorem i_Model_swapBack_24 : mj_Ld y_Model_swapBack 24 1 1 0 := .inl ⟨rfl, .inr ⟨rfl, 1, rfl, by decide +kernel⟩⟩
theorem i_Model_swapBack_25 : mj_Ld y_Model_swapBack 25 1 0 2 := .inr (.inr ⟨rfl, .inr ⟨rfl, 0, rfl, by decide +kernel⟩⟩)
theorem i_Model_swapBack_26 : mj_Gf y_Model_swapBack 26 8 13 := ⟨by decide, by decide, 38, by decide +kernel, .inl mm_745⟩
theorem i_Model_swapBack_29 : mj_Ld y_Model_swapBack 29 1 1 0 := .inl ⟨rfl, .inr ⟨rfl, 1, rfl, by decide +kernel⟩⟩
theorem i_Model_swapBack_30 : decode y_Model_swapBack.2.1 30 = .ok (.iaload, 1) := by decide +kernel
theorem i_Model_swapBack_31 : decode y_Model_swapBack.2.1 31 = .ok (.iastore, 1) := by decide +kernel
theorem i_Model_swapBack_32 : mj_In y_Model_swapBack 32 1 1 := ⟨1, by decide +kernel, by decide +kernel⟩
theorem i_Model_swapBack_35 : mj_Go y_Model_swapBack 35 2 := ⟨(-33), by decide, by decide +kernel⟩
theorem i_Model_swapBack_38 : mj_Ld y_Model_swapBack 38 1 0 2 := .inr (.inr ⟨rfl, .inr ⟨rfl, 0, rfl, by decide +kernel⟩⟩)
theorem i_Model_swapBack_39 : mj_Cv y_Model_swapBack 39 y_Model_keep 8 0 := ⟨by decide, rfl, mt_Model_keep, 112, by decide +kernel, mm_869, mm_871, mp_28⟩
theorem i_Model_swapBack_42 : mj_Kc y_Model_swapBack 42 1 (.int 0) := .inl ⟨0, by decide +kernel, rfl, by decide +kernel⟩
theorem i_Model_swapBack_43 : mj_St y_Model_swapBack 43 1 1 0 := .inl ⟨rfl, .inr ⟨rfl, 1, rfl, by decide +kernel⟩⟩
theorem i_Model_swapBack_44 : mj_Ld y_Model_swapBack 44 1 1 0 := .inl ⟨rfl, .inr ⟨rfl, 1, rfl, by decide +kernel⟩⟩
theorem i_Model_swapBack_45 : mj_Kc y_Model_swapBack 45 2 (.int 100) := .inr (.inl ⟨100, by decide +kernel, rfl, by decide +kernel⟩)
theorem i_Model_swapBack_47 : mj_Ic y_Model_swapBack 47 68 (fun (a b : Int32) => b ≤ a) := ⟨21, by decide, .inr (.inr (.inr (.inl ⟨by decide +kernel, rfl⟩)))⟩
theorem i_Model_swapBack_50 : mj_Ld y_Model_swapBack 50 1 0 2 := .inr (.inr ⟨rfl, .inr ⟨rfl, 0, rfl, by decide +kernel⟩⟩)
theorem i_Model_swapBack_51 : mj_Gf y_Model_swapBack 51 8 2 := ⟨by decide, by decide, 16, by decide +kernel, .inl mm_734⟩
theorem i_Model_swapBack_54 : mj_Ld y_Model_swapBack 54 1 1 0 := .inl ⟨rfl, .inr ⟨rfl, 1, rfl, by decide +kernel⟩⟩
theorem i_Model_swapBack_55 : mj_Ld y_Model_swapBack 55 1 0 2 := .inr (.inr ⟨rfl, .inr ⟨rfl, 0, rfl, by decide +kernel⟩⟩)
theorem i_Model_swapBack_56 : mj_Gf y_Model_swapBack 56 8 14 := ⟨by decide, by decide, 41, by decide +kernel, .inl mm_746⟩
theorem i_Model_swapBack_59 : mj_Ld y_Model_swapBack 59 1 1 0 := .inl ⟨rfl, .inr ⟨rfl, 1, rfl, by decide +kernel⟩⟩
theorem i_Model_swapBack_60 : decode y_Model_swapBack.2.1 60 = .ok (.iaload, 1) := by decide +kernel
theorem i_Model_swapBack_61 : decode y_Model_swapBack.2.1 61 = .ok (.iastore, 1) := by decide +kernel
theorem i_Model_swapBack_62 : mj_In y_Model_swapBack 62 1 1 := ⟨1, by decide +kernel, by decide +kernel⟩
theorem i_Model_swapBack_65 : mj_Go y_Model_swapBack 65 44 := ⟨(-21), by decide, by decide +kernel⟩
theorem i_Model_swapBack_68 : decode y_Model_swapBack.2.1 68 = .ok (.return_, 1) := by decide +kernel
theorem i_Model_keep_0 : mj_Ld y_Model_keep 0 1 0 2 := .inr (.inr ⟨rfl, .inr ⟨rfl, 0, rfl, by decide +kernel⟩⟩)
theorem i_Model_keep_1 : mj_Gf y_Model_keep 1 8 4 := ⟨by decide, by decide, 77, by decide +kernel, .inl mm_736⟩
theorem i_Model_keep_4 : mj_Kc y_Model_keep 4 2 (.int 10) := .inr (.inl ⟨10, by decide +kernel, rfl, by decide +kernel⟩)
theorem i_Model_keep_6 : mj_Ic y_Model_keep 6 50 (fun (a b : Int32) => ¬ a = b) := ⟨44, by decide, .inr (.inl ⟨by decide +kernel, rfl⟩)⟩
theorem i_Model_keep_9 : mj_Kc y_Model_keep 9 1 (.int 0) := .inl ⟨0, by decide +kernel, rfl, by decide +kernel⟩
theorem i_Model_keep_10 : mj_St y_Model_keep 10 1 1 0 := .inl ⟨rfl, .inr ⟨rfl, 1, rfl, by decide +kernel⟩⟩
theorem i_Model_keep_11 : mj_Ld y_Model_keep 11 1 1 0 := .inl ⟨rfl, .inr ⟨rfl, 1, rfl, by decide +kernel⟩⟩
theorem i_Model_keep_12 : mj_Kc y_Model_keep 12 3 (.int 1917) := .inr (.inr (.inl ⟨1917, by decide +kernel, rfl, by decide +kernel⟩))
theorem i_Model_keep_15 : mj_Ic y_Model_keep 15 40 (fun (a b : Int32) => b ≤ a) := ⟨25, by decide, .inr (.inr (.inr (.inl ⟨by decide +kernel, rfl⟩)))⟩
theorem i_Model_keep_18 : mj_Ld y_Model_keep 18 1 0 2 := .inr (.inr ⟨rfl, .inr ⟨rfl, 0, rfl, by decide +kernel⟩⟩)
theorem i_Model_keep_19 : mj_Gf y_Model_keep 19 8 3 := ⟨by decide, by decide, 20, by decide +kernel, .inl mm_735⟩
theorem i_Model_keep_22 : mj_Ld y_Model_keep 22 1 1 0 := .inl ⟨rfl, .inr ⟨rfl, 1, rfl, by decide +kernel⟩⟩
theorem i_Model_keep_23 : mj_Ld y_Model_keep 23 1 0 2 := .inr (.inr ⟨rfl, .inr ⟨rfl, 0, rfl, by decide +kernel⟩⟩)
theorem i_Model_keep_24 : mj_Gf y_Model_keep 24 8 3 := ⟨by decide, by decide, 20, by decide +kernel, .inl mm_735⟩
theorem i_Model_keep_27 : mj_Ld y_Model_keep 27 1 1 0 := .inl ⟨rfl, .inr ⟨rfl, 1, rfl, by decide +kernel⟩⟩
theorem i_Model_keep_28 : mj_Kc y_Model_keep 28 3 (.int 213) := .inr (.inr (.inl ⟨213, by decide +kernel, rfl, by decide +kernel⟩))
theorem i_Model_keep_31 : mj_B2 y_Model_keep 31 (fun (a b : Int32) => a + b) := .inl ⟨by decide +kernel, rfl⟩
theorem i_Model_keep_32 : decode y_Model_keep.2.1 32 = .ok (.iaload, 1) := by decide +kernel
theorem i_Model_keep_33 : decode y_Model_keep.2.1 33 = .ok (.iastore, 1) := by decide +kernel
theorem i_Model_keep_34 : mj_In y_Model_keep 34 1 1 := ⟨1, by decide +kernel, by decide +kernel⟩
theorem i_Model_keep_37 : mj_Go y_Model_keep 37 11 := ⟨(-26), by decide, by decide +kernel⟩
theorem i_Model_keep_40 : mj_Ld y_Model_keep 40 1 0 2 := .inr (.inr ⟨rfl, .inr ⟨rfl, 0, rfl, by decide +kernel⟩⟩)
theorem i_Model_keep_41 : decode y_Model_keep.2.1 41 = .ok (.dup, 1) := by decide +kernel
theorem i_Model_keep_42 : mj_Gf y_Model_keep 42 8 4 := ⟨by decide, by decide, 77, by decide +kernel, .inl mm_736⟩
theorem i_Model_keep_45 : mj_Kc y_Model_keep 45 1 (.int 1) := .inl ⟨1, by decide +kernel, rfl, by decide +kernel⟩
theorem i_Model_keep_46 : mj_B2 y_Model_keep 46 (fun (a b : Int32) => a - b) := .inr (.inl ⟨by decide +kernel, rfl⟩)
theorem i_Model_keep_47 : mj_Pf y_Model_keep 47 8 4 (.int) := ⟨by decide, by decide, 77, by decide +kernel, mm_736, by decide +kernel, .inl rfl⟩
theorem i_Model_keep_50 : mj_Kc y_Model_keep 50 1 (.int 0) := .inl ⟨0, by decide +kernel, rfl, by decide +kernel⟩
theorem i_Model_keep_51 : mj_St y_Model_keep 51 1 1 0 := .inl ⟨rfl, .inr ⟨rfl, 1, rfl, by decide +kernel⟩⟩
theorem i_Model_keep_52 : mj_Ld y_Model_keep 52 1 1 0 := .inl ⟨rfl, .inr ⟨rfl, 1, rfl, by decide +kernel⟩⟩
theorem i_Model_keep_53 : mj_Kc y_Model_keep 53 3 (.int 213) := .inr (.inr (.inl ⟨213, by decide +kernel, rfl, by decide +kernel⟩))
theorem i_Model_keep_56 : mj_Ic y_Model_keep 56 86 (fun (a b : Int32) => b ≤ a) := ⟨30, by decide, .inr (.inr (.inr (.inl ⟨by decide +kernel, rfl⟩)))⟩
theorem i_Model_keep_59 : mj_Ld y_Model_keep 59 1 0 2 := .inr (.inr ⟨rfl, .inr ⟨rfl, 0, rfl, by decide +kernel⟩⟩)
theorem i_Model_keep_60 : mj_Gf y_Model_keep 60 8 3 := ⟨by decide, by decide, 20, by decide +kernel, .inl mm_735⟩
theorem i_Model_keep_63 : mj_Kc y_Model_keep 63 3 (.int 213) := .inr (.inr (.inl ⟨213, by decide +kernel, rfl, by decide +kernel⟩))
theorem i_Model_keep_66 : mj_Ld y_Model_keep 66 1 0 2 := .inr (.inr ⟨rfl, .inr ⟨rfl, 0, rfl, by decide +kernel⟩⟩)
theorem i_Model_keep_67 : mj_Gf y_Model_keep 67 8 4 := ⟨by decide, by decide, 77, by decide +kernel, .inl mm_736⟩
theorem i_Model_keep_70 : mj_B2 y_Model_keep 70 (fun (a b : Int32) => a * b) := .inr (.inr (.inl ⟨by decide +kernel, rfl⟩))
theorem i_Model_keep_71 : mj_Ld y_Model_keep 71 1 1 0 := .inl ⟨rfl, .inr ⟨rfl, 1, rfl, by decide +kernel⟩⟩
theorem i_Model_keep_72 : mj_B2 y_Model_keep 72 (fun (a b : Int32) => a + b) := .inl ⟨by decide +kernel, rfl⟩
theorem i_Model_keep_73 : mj_Ld y_Model_keep 73 1 0 2 := .inr (.inr ⟨rfl, .inr ⟨rfl, 0, rfl, by decide +kernel⟩⟩)
theorem i_Model_keep_74 : mj_Gf y_Model_keep 74 8 2 := ⟨by decide, by decide, 16, by decide +kernel, .inl mm_734⟩
theorem i_Model_keep_77 : mj_Ld y_Model_keep 77 1 1 0 := .inl ⟨rfl, .inr ⟨rfl, 1, rfl, by decide +kernel⟩⟩
theorem i_Model_keep_78 : decode y_Model_keep.2.1 78 = .ok (.iaload, 1) := by decide +kernel
theorem i_Model_keep_79 : decode y_Model_keep.2.1 79 = .ok (.iastore, 1) := by decide +kernel
theorem i_Model_keep_80 : mj_In y_Model_keep 80 1 1 := ⟨1, by decide +kernel, by decide +kernel⟩
theorem i_Model_keep_83 : mj_Go y_Model_keep 83 52 := ⟨(-31), by decide, by decide +kernel⟩
theorem i_Model_keep_86 : mj_Ld y_Model_keep 86 1 0 2 := .inr (.inr ⟨rfl, .inr ⟨rfl, 0, rfl, by decide +kernel⟩⟩)
theorem i_Model_keep_87 : decode y_Model_keep.2.1 87 = .ok (.dup, 1) := by decide +kernel
theorem i_Model_keep_88 : mj_Gf y_Model_keep 88 8 4 := ⟨by decide, by decide, 77, by decide +kernel, .inl mm_736⟩
theorem i_Model_keep_91 : mj_Kc y_Model_keep 91 1 (.int 1) := .inl ⟨1, by decide +kernel, rfl, by decide +kernel⟩
theorem i_Model_keep_92 : mj_B2 y_Model_keep 92 (fun (a b : Int32) => a + b) := .inl ⟨by decide +kernel, rfl⟩
theorem i_Model_keep_93 : mj_Pf y_Model_keep 93 8 4 (.int) := ⟨by decide, by decide, 77, by decide +kernel, mm_736, by decide +kernel, .inl rfl⟩
theorem i_Model_keep_96 : mj_Ld y_Model_keep 96 1 0 2 := .inr (.inr ⟨rfl, .inr ⟨rfl, 0, rfl, by decide +kernel⟩⟩)
theorem i_Model_keep_97 : mj_Kc y_Model_keep 97 1 (.int 0) := .inl ⟨0, by decide +kernel, rfl, by decide +kernel⟩
theorem i_Model_keep_98 : mj_Pf y_Model_keep 98 8 6 (.int) := ⟨by decide, by decide, 63, by decide +kernel, mm_738, by decide +kernel, .inl rfl⟩
theorem i_Model_keep_101 : decode y_Model_keep.2.1 101 = .ok (.return_, 1) := by decide +kernel
theorem i_Model_isWall_0 : mj_Ld y_Model_isWall 0 1 0 2 := .inr (.inr ⟨rfl, .inr ⟨rfl, 0, rfl, by decide +kernel⟩⟩)
theorem i_Model_isWall_1 : mj_Ld y_Model_isWall 1 1 1 0 := .inl ⟨rfl, .inr ⟨rfl, 1, rfl, by decide +kernel⟩⟩
theorem i_Model_isWall_2 : mj_Cv y_Model_isWall 2 y_Model_isCell 8 1 := ⟨by decide, rfl, mt_Model_isCell, 96, by decide +kernel, mm_830, mm_832, mp_19⟩
theorem i_Model_isWall_5 : mj_If y_Model_isWall 5 17 (fun (a : Int32) => a = 0) := ⟨12, by decide, .inl ⟨by decide +kernel, rfl⟩⟩
theorem i_Model_isWall_8 : mj_Ld y_Model_isWall 8 1 0 2 := .inr (.inr ⟨rfl, .inr ⟨rfl, 0, rfl, by decide +kernel⟩⟩)
theorem i_Model_isWall_9 : mj_Gf y_Model_isWall 9 8 2 := ⟨by decide, by decide, 16, by decide +kernel, .inl mm_734⟩
theorem i_Model_isWall_12 : mj_Ld y_Model_isWall 12 1 1 0 := .inl ⟨rfl, .inr ⟨rfl, 1, rfl, by decide +kernel⟩⟩
theorem i_Model_isWall_13 : decode y_Model_isWall.2.1 13 = .ok (.iaload, 1) := by decide +kernel
theorem i_Model_isWall_14 : mj_Go y_Model_isWall 14 19 := ⟨5, by decide, by decide +kernel⟩
theorem i_Model_isWall_17 : mj_Kc y_Model_isWall 17 2 (.int (-2000000001)) := .inr (.inr (.inr (.inl ⟨81, (-2000000001), by decide +kernel, rfl, rfl, mm_821⟩)))
theorem i_Model_isWall_19 : decode y_Model_isWall.2.1 19 = .ok (.ireturn, 1) := by decide +kernel
theorem i_Model_sight_0 : mj_Ld y_Model_sight 0 1 0 2 := .inr (.inr ⟨rfl, .inr ⟨rfl, 0, rfl, by decide +kernel⟩⟩)
theorem i_Model_sight_1 : mj_Ld y_Model_sight 1 1 1 0 := .inl ⟨rfl, .inr ⟨rfl, 1, rfl, by decide +kernel⟩⟩
theorem i_Model_sight_2 : mj_Cv y_Model_sight 2 y_Model_isCell 8 1 := ⟨by decide, rfl, mt_Model_isCell, 96, by decide +kernel, mm_830, mm_832, mp_19⟩
theorem i_Model_sight_5 : mj_If y_Model_sight 5 16 (fun (a : Int32) => a = 0) := ⟨11, by decide, .inl ⟨by decide +kernel, rfl⟩⟩
theorem i_Model_sight_8 : mj_Ld y_Model_sight 8 1 0 2 := .inr (.inr ⟨rfl, .inr ⟨rfl, 0, rfl, by decide +kernel⟩⟩)
theorem i_Model_sight_9 : mj_Ld y_Model_sight 9 1 2 0 := .inl ⟨rfl, .inr ⟨rfl, 2, rfl, by decide +kernel⟩⟩
theorem i_Model_sight_10 : mj_Cv y_Model_sight 10 y_Model_isCell 8 1 := ⟨by decide, rfl, mt_Model_isCell, 96, by decide +kernel, mm_830, mm_832, mp_19⟩
theorem i_Model_sight_13 : mj_If y_Model_sight 13 19 (fun (a : Int32) => ¬ a = 0) := ⟨6, by decide, .inr (.inl ⟨by decide +kernel, rfl⟩)⟩
theorem i_Model_sight_16 : mj_Kc y_Model_sight 16 2 (.int (-2000000001)) := .inr (.inr (.inr (.inl ⟨81, (-2000000001), by decide +kernel, rfl, rfl, mm_821⟩)))
theorem i_Model_sight_18 : decode y_Model_sight.2.1 18 = .ok (.ireturn, 1) := by decide +kernel
theorem i_Model_sight_19 : mj_Ld y_Model_sight 19 1 0 2 := .inr (.inr ⟨rfl, .inr ⟨rfl, 0, rfl, by decide +kernel⟩⟩)
theorem i_Model_sight_20 : mj_Ld y_Model_sight 20 1 1 0 := .inl ⟨rfl, .inr ⟨rfl, 1, rfl, by decide +kernel⟩⟩
theorem i_Model_sight_21 : mj_Ld y_Model_sight 21 1 2 0 := .inl ⟨rfl, .inr ⟨rfl, 2, rfl, by decide +kernel⟩⟩
theorem i_Model_sight_22 : mj_Cv y_Model_sight 22 y_Model_inSight 8 2 := ⟨by decide, rfl, mt_Model_inSight, 122, by decide +kernel, mm_881, mm_883, mp_29⟩
theorem i_Model_sight_25 : mj_If y_Model_sight 25 32 (fun (a : Int32) => a = 0) := ⟨7, by decide, .inl ⟨by decide +kernel, rfl⟩⟩
theorem i_Model_sight_28 : mj_Kc y_Model_sight 28 1 (.int 1) := .inl ⟨1, by decide +kernel, rfl, by decide +kernel⟩
theorem i_Model_sight_29 : mj_Go y_Model_sight 29 33 := ⟨4, by decide, by decide +kernel⟩
theorem i_Model_sight_32 : mj_Kc y_Model_sight 32 1 (.int 0) := .inl ⟨0, by decide +kernel, rfl, by decide +kernel⟩
theorem i_Model_sight_33 : decode y_Model_sight.2.1 33 = .ok (.ireturn, 1) := by decide +kernel
theorem i_Model_inSight_0 : mj_Ld y_Model_inSight 0 1 0 2 := .inr (.inr ⟨rfl, .inr ⟨rfl, 0, rfl, by decide +kernel⟩⟩)
theorem i_Model_inSight_1 : mj_Ld y_Model_inSight 1 1 1 0 := .inl ⟨rfl, .inr ⟨rfl, 1, rfl, by decide +kernel⟩⟩
theorem i_Model_inSight_2 : mj_Cv y_Model_inSight 2 y_Model_isOpen 8 1 := ⟨by decide, rfl, mt_Model_isOpen, 82, by decide +kernel, mm_854, mm_856, mp_25⟩
theorem i_Model_inSight_5 : mj_If y_Model_inSight 5 16 (fun (a : Int32) => a = 0) := ⟨11, by decide, .inl ⟨by decide +kernel, rfl⟩⟩
theorem i_Model_inSight_8 : mj_Ld y_Model_inSight 8 1 0 2 := .inr (.inr ⟨rfl, .inr ⟨rfl, 0, rfl, by decide +kernel⟩⟩)
theorem i_Model_inSight_9 : mj_Ld y_Model_inSight 9 1 2 0 := .inl ⟨rfl, .inr ⟨rfl, 2, rfl, by decide +kernel⟩⟩
theorem i_Model_inSight_10 : mj_Cv y_Model_inSight 10 y_Model_isOpen 8 1 := ⟨by decide, rfl, mt_Model_isOpen, 82, by decide +kernel, mm_854, mm_856, mp_25⟩
theorem i_Model_inSight_13 : mj_If y_Model_inSight 13 18 (fun (a : Int32) => ¬ a = 0) := ⟨5, by decide, .inr (.inl ⟨by decide +kernel, rfl⟩)⟩
theorem i_Model_inSight_16 : mj_Kc y_Model_inSight 16 1 (.int 0) := .inl ⟨0, by decide +kernel, rfl, by decide +kernel⟩
theorem i_Model_inSight_17 : decode y_Model_inSight.2.1 17 = .ok (.ireturn, 1) := by decide +kernel
theorem i_Model_inSight_18 : mj_Kc y_Model_inSight 18 1 (.int 1) := .inl ⟨1, by decide +kernel, rfl, by decide +kernel⟩
theorem i_Model_inSight_19 : mj_St y_Model_inSight 19 1 3 0 := .inl ⟨rfl, .inr ⟨rfl, 3, rfl, by decide +kernel⟩⟩
theorem i_Model_inSight_20 : mj_Kc y_Model_inSight 20 1 (.int 0) := .inl ⟨0, by decide +kernel, rfl, by decide +kernel⟩
theorem i_Model_inSight_21 : mj_St y_Model_inSight 21 2 4 0 := .inl ⟨rfl, .inl ⟨rfl, by decide +kernel⟩⟩
theorem i_Model_inSight_23 : mj_Ld y_Model_inSight 23 2 4 0 := .inl ⟨rfl, .inl ⟨rfl, by decide +kernel⟩⟩
theorem i_Model_inSight_25 : mj_Ld y_Model_inSight 25 1 0 2 := .inr (.inr ⟨rfl, .inr ⟨rfl, 0, rfl, by decide +kernel⟩⟩)
theorem i_Model_inSight_26 : mj_Cv y_Model_inSight 26 y_Model_cells 8 0 := ⟨by decide, rfl, mt_Model_cells, 66, by decide +kernel, mm_822, mm_824, mp_18⟩
theorem i_Model_inSight_29 : mj_Ic y_Model_inSight 29 68 (fun (a b : Int32) => b ≤ a) := ⟨39, by decide, .inr (.inr (.inr (.inl ⟨by decide +kernel, rfl⟩)))⟩
theorem i_Model_inSight_32 : mj_Ld y_Model_inSight 32 1 3 0 := .inl ⟨rfl, .inr ⟨rfl, 3, rfl, by decide +kernel⟩⟩
theorem i_Model_inSight_33 : mj_If y_Model_inSight 33 68 (fun (a : Int32) => a = 0) := ⟨35, by decide, .inl ⟨by decide +kernel, rfl⟩⟩
theorem i_Model_inSight_36 : mj_Ld y_Model_inSight 36 1 0 2 := .inr (.inr ⟨rfl, .inr ⟨rfl, 0, rfl, by decide +kernel⟩⟩)
theorem i_Model_inSight_37 : mj_Ld y_Model_inSight 37 2 4 0 := .inl ⟨rfl, .inl ⟨rfl, by decide +kernel⟩⟩
theorem i_Model_inSight_39 : mj_Cv y_Model_inSight 39 y_Model_isOpen 8 1 := ⟨by decide, rfl, mt_Model_isOpen, 82, by decide +kernel, mm_854, mm_856, mp_25⟩
theorem i_Model_inSight_42 : mj_If y_Model_inSight 42 56 (fun (a : Int32) => ¬ a = 0) := ⟨14, by decide, .inr (.inl ⟨by decide +kernel, rfl⟩)⟩
theorem i_Model_inSight_45 : mj_Ld y_Model_inSight 45 1 0 2 := .inr (.inr ⟨rfl, .inr ⟨rfl, 0, rfl, by decide +kernel⟩⟩)
theorem i_Model_inSight_46 : mj_Ld y_Model_inSight 46 1 1 0 := .inl ⟨rfl, .inr ⟨rfl, 1, rfl, by decide +kernel⟩⟩
theorem i_Model_inSight_47 : mj_Ld y_Model_inSight 47 1 2 0 := .inl ⟨rfl, .inr ⟨rfl, 2, rfl, by decide +kernel⟩⟩
theorem i_Model_inSight_48 : mj_Ld y_Model_inSight 48 2 4 0 := .inl ⟨rfl, .inl ⟨rfl, by decide +kernel⟩⟩
theorem i_Model_inSight_50 : mj_Cv y_Model_inSight 50 y_Model_cuts 8 3 := ⟨by decide, rfl, mt_Model_cuts, 119, by decide +kernel, mm_885, mm_887, mp_30⟩
theorem i_Model_inSight_53 : mj_If y_Model_inSight 53 60 (fun (a : Int32) => ¬ a = 0) := ⟨7, by decide, .inr (.inl ⟨by decide +kernel, rfl⟩)⟩
theorem i_Model_inSight_56 : mj_Kc y_Model_inSight 56 1 (.int 1) := .inl ⟨1, by decide +kernel, rfl, by decide +kernel⟩
theorem i_Model_inSight_57 : mj_Go y_Model_inSight 57 61 := ⟨4, by decide, by decide +kernel⟩
theorem i_Model_inSight_60 : mj_Kc y_Model_inSight 60 1 (.int 0) := .inl ⟨0, by decide +kernel, rfl, by decide +kernel⟩
theorem i_Model_inSight_61 : mj_St y_Model_inSight 61 1 3 0 := .inl ⟨rfl, .inr ⟨rfl, 3, rfl, by decide +kernel⟩⟩
theorem i_Model_inSight_62 : mj_In y_Model_inSight 62 4 1 := ⟨1, by decide +kernel, by decide +kernel⟩
theorem i_Model_inSight_65 : mj_Go y_Model_inSight 65 23 := ⟨(-42), by decide, by decide +kernel⟩
theorem i_Model_inSight_68 : mj_Ld y_Model_inSight 68 1 3 0 := .inl ⟨rfl, .inr ⟨rfl, 3, rfl, by decide +kernel⟩⟩
theorem i_Model_inSight_69 : decode y_Model_inSight.2.1 69 = .ok (.ireturn, 1) := by decide +kernel
theorem i_Model_cuts_0 : mj_Kc y_Model_cuts 0 1 (.int 2) := .inl ⟨2, by decide +kernel, rfl, by decide +kernel⟩
theorem i_Model_cuts_1 : mj_Ld y_Model_cuts 1 1 1 0 := .inl ⟨rfl, .inr ⟨rfl, 1, rfl, by decide +kernel⟩⟩
theorem i_Model_cuts_2 : mj_Ld y_Model_cuts 2 1 0 2 := .inr (.inr ⟨rfl, .inr ⟨rfl, 0, rfl, by decide +kernel⟩⟩)
theorem i_Model_cuts_3 : mj_Gf y_Model_cuts 3 8 0 := ⟨by decide, by decide, 7, by decide +kernel, .inl mm_732⟩
theorem i_Model_cuts_6 : mj_D2 y_Model_cuts 6 (fun (a b : Int32) => a - a / b * b) := .inr ⟨by decide +kernel, rfl⟩
theorem i_Model_cuts_7 : mj_B2 y_Model_cuts 7 (fun (a b : Int32) => a * b) := .inr (.inr (.inl ⟨by decide +kernel, rfl⟩))
theorem i_Model_cuts_8 : mj_Kc y_Model_cuts 8 1 (.int 1) := .inl ⟨1, by decide +kernel, rfl, by decide +kernel⟩
theorem i_Model_cuts_9 : mj_B2 y_Model_cuts 9 (fun (a b : Int32) => a + b) := .inl ⟨by decide +kernel, rfl⟩
theorem i_Model_cuts_10 : mj_St y_Model_cuts 10 2 4 0 := .inl ⟨rfl, .inl ⟨rfl, by decide +kernel⟩⟩
theorem i_Model_cuts_12 : mj_Kc y_Model_cuts 12 1 (.int 2) := .inl ⟨2, by decide +kernel, rfl, by decide +kernel⟩
theorem i_Model_cuts_13 : mj_Ld y_Model_cuts 13 1 1 0 := .inl ⟨rfl, .inr ⟨rfl, 1, rfl, by decide +kernel⟩⟩
theorem i_Model_cuts_14 : mj_Ld y_Model_cuts 14 1 0 2 := .inr (.inr ⟨rfl, .inr ⟨rfl, 0, rfl, by decide +kernel⟩⟩)
theorem i_Model_cuts_15 : mj_Gf y_Model_cuts 15 8 0 := ⟨by decide, by decide, 7, by decide +kernel, .inl mm_732⟩
theorem i_Model_cuts_18 : mj_D2 y_Model_cuts 18 (fun (a b : Int32) => a / b) := .inl ⟨by decide +kernel, rfl⟩
theorem i_Model_cuts_19 : mj_B2 y_Model_cuts 19 (fun (a b : Int32) => a * b) := .inr (.inr (.inl ⟨by decide +kernel, rfl⟩))
theorem i_Model_cuts_20 : mj_Kc y_Model_cuts 20 1 (.int 1) := .inl ⟨1, by decide +kernel, rfl, by decide +kernel⟩
theorem i_Model_cuts_21 : mj_B2 y_Model_cuts 21 (fun (a b : Int32) => a + b) := .inl ⟨by decide +kernel, rfl⟩
theorem i_Model_cuts_22 : mj_St y_Model_cuts 22 2 5 0 := .inl ⟨rfl, .inl ⟨rfl, by decide +kernel⟩⟩
theorem i_Model_cuts_24 : mj_Kc y_Model_cuts 24 1 (.int 2) := .inl ⟨2, by decide +kernel, rfl, by decide +kernel⟩
theorem i_Model_cuts_25 : mj_Ld y_Model_cuts 25 1 2 0 := .inl ⟨rfl, .inr ⟨rfl, 2, rfl, by decide +kernel⟩⟩
theorem i_Model_cuts_26 : mj_Ld y_Model_cuts 26 1 0 2 := .inr (.inr ⟨rfl, .inr ⟨rfl, 0, rfl, by decide +kernel⟩⟩)
theorem i_Model_cuts_27 : mj_Gf y_Model_cuts 27 8 0 := ⟨by decide, by decide, 7, by decide +kernel, .inl mm_732⟩
theorem i_Model_cuts_30 : mj_D2 y_Model_cuts 30 (fun (a b : Int32) => a - a / b * b) := .inr ⟨by decide +kernel, rfl⟩
theorem i_Model_cuts_31 : mj_B2 y_Model_cuts 31 (fun (a b : Int32) => a * b) := .inr (.inr (.inl ⟨by decide +kernel, rfl⟩))
theorem i_Model_cuts_32 : mj_Kc y_Model_cuts 32 1 (.int 1) := .inl ⟨1, by decide +kernel, rfl, by decide +kernel⟩
theorem i_Model_cuts_33 : mj_B2 y_Model_cuts 33 (fun (a b : Int32) => a + b) := .inl ⟨by decide +kernel, rfl⟩
theorem i_Model_cuts_34 : mj_St y_Model_cuts 34 2 6 0 := .inl ⟨rfl, .inl ⟨rfl, by decide +kernel⟩⟩
theorem i_Model_cuts_36 : mj_Kc y_Model_cuts 36 1 (.int 2) := .inl ⟨2, by decide +kernel, rfl, by decide +kernel⟩
theorem i_Model_cuts_37 : mj_Ld y_Model_cuts 37 1 2 0 := .inl ⟨rfl, .inr ⟨rfl, 2, rfl, by decide +kernel⟩⟩
theorem i_Model_cuts_38 : mj_Ld y_Model_cuts 38 1 0 2 := .inr (.inr ⟨rfl, .inr ⟨rfl, 0, rfl, by decide +kernel⟩⟩)
theorem i_Model_cuts_39 : mj_Gf y_Model_cuts 39 8 0 := ⟨by decide, by decide, 7, by decide +kernel, .inl mm_732⟩
theorem i_Model_cuts_42 : mj_D2 y_Model_cuts 42 (fun (a b : Int32) => a / b) := .inl ⟨by decide +kernel, rfl⟩
