/-! what stands at each place of the methods: Shade View Choice Proof -/
theorem i_Choice_gatherOpen_42 : mj_Pf y_Choice_gatherOpen 42 0 5 (.long) := ⟨by decide, by decide, 53, by decide +kernel, mm_97, by decide +kernel, .inl rfl⟩
theorem i_Choice_gatherOpen_45 : mj_Ld y_Choice_gatherOpen 45 1 0 2 := .inr (.inr ⟨rfl, .inr ⟨rfl, 0, rfl, by decide +kernel⟩⟩)
theorem i_Choice_gatherOpen_46 : decode y_Choice_gatherOpen.2.1 46 = .ok (.dup, 1) := by decide +kernel
theorem i_Choice_gatherOpen_47 : mj_Gf y_Choice_gatherOpen 47 0 6 := ⟨by decide, by decide, 57, by decide +kernel, .inl mm_98⟩
theorem i_Choice_gatherOpen_50 : mj_Ld y_Choice_gatherOpen 50 1 1 0 := .inl ⟨rfl, .inr ⟨rfl, 1, rfl, by decide +kernel⟩⟩
theorem i_Choice_gatherOpen_51 : mj_Cs y_Choice_gatherOpen 51 y_Choice_highBit 1 := ⟨mt_Choice_highBit, 76, by decide +kernel, mm_556, .inl mm_555⟩
theorem i_Choice_gatherOpen_54 : mj_BL y_Choice_gatherOpen 54 (fun (a b : Int64) => a ||| b) := .inl ⟨by decide +kernel, rfl⟩
theorem i_Choice_gatherOpen_55 : mj_Pf y_Choice_gatherOpen 55 0 6 (.long) := ⟨by decide, by decide, 57, by decide +kernel, mm_98, by decide +kernel, .inl rfl⟩
theorem i_Choice_gatherOpen_58 : mj_In y_Choice_gatherOpen 58 1 1 := ⟨1, by decide +kernel, by decide +kernel⟩
theorem i_Choice_gatherOpen_61 : mj_Go y_Choice_gatherOpen 61 12 := ⟨(-49), by decide, by decide +kernel⟩
theorem i_Choice_gatherOpen_64 : decode y_Choice_gatherOpen.2.1 64 = .ok (.return_, 1) := by decide +kernel
theorem i_Choice_lowBit_0 : mj_Ld y_Choice_lowBit 0 1 0 0 := .inl ⟨rfl, .inr ⟨rfl, 0, rfl, by decide +kernel⟩⟩
theorem i_Choice_lowBit_1 : mj_Kc y_Choice_lowBit 1 2 (.int 64) := .inr (.inl ⟨64, by decide +kernel, rfl, by decide +kernel⟩)
theorem i_Choice_lowBit_3 : mj_Ic y_Choice_lowBit 3 12 (fun (a b : Int32) => b ≤ a) := ⟨9, by decide, .inr (.inr (.inr (.inl ⟨by decide +kernel, rfl⟩)))⟩
theorem i_Choice_lowBit_6 : mj_Kc y_Choice_lowBit 6 1 (.long 1) := .inr (.inr (.inr (.inr (.inr (.inl ⟨1, by decide +kernel, rfl, by decide +kernel⟩)))))
theorem i_Choice_lowBit_7 : mj_Ld y_Choice_lowBit 7 1 0 0 := .inl ⟨rfl, .inr ⟨rfl, 0, rfl, by decide +kernel⟩⟩
theorem i_Choice_lowBit_8 : decode y_Choice_lowBit.2.1 8 = .ok (.lshl, 1) := by decide +kernel
theorem i_Choice_lowBit_9 : mj_Go y_Choice_lowBit 9 13 := ⟨4, by decide, by decide +kernel⟩
theorem i_Choice_lowBit_12 : mj_Kc y_Choice_lowBit 12 1 (.long 0) := .inr (.inr (.inr (.inr (.inr (.inl ⟨0, by decide +kernel, rfl, by decide +kernel⟩)))))
theorem i_Choice_lowBit_13 : decode y_Choice_lowBit.2.1 13 = .ok (.lreturn, 1) := by decide +kernel
theorem i_Choice_highBit_0 : mj_Ld y_Choice_highBit 0 1 0 0 := .inl ⟨rfl, .inr ⟨rfl, 0, rfl, by decide +kernel⟩⟩
theorem i_Choice_highBit_1 : mj_Kc y_Choice_highBit 1 2 (.int 64) := .inr (.inl ⟨64, by decide +kernel, rfl, by decide +kernel⟩)
theorem i_Choice_highBit_3 : mj_Ic y_Choice_highBit 3 10 (fun (a b : Int32) => b ≤ a) := ⟨7, by decide, .inr (.inr (.inr (.inl ⟨by decide +kernel, rfl⟩)))⟩
theorem i_Choice_highBit_6 : mj_Kc y_Choice_highBit 6 1 (.long 0) := .inr (.inr (.inr (.inr (.inr (.inl ⟨0, by decide +kernel, rfl, by decide +kernel⟩)))))
theorem i_Choice_highBit_7 : mj_Go y_Choice_highBit 7 16 := ⟨9, by decide, by decide +kernel⟩
theorem i_Choice_highBit_10 : mj_Kc y_Choice_highBit 10 1 (.long 1) := .inr (.inr (.inr (.inr (.inr (.inl ⟨1, by decide +kernel, rfl, by decide +kernel⟩)))))
theorem i_Choice_highBit_11 : mj_Ld y_Choice_highBit 11 1 0 0 := .inl ⟨rfl, .inr ⟨rfl, 0, rfl, by decide +kernel⟩⟩
theorem i_Choice_highBit_12 : mj_Kc y_Choice_highBit 12 2 (.int 64) := .inr (.inl ⟨64, by decide +kernel, rfl, by decide +kernel⟩)
theorem i_Choice_highBit_14 : mj_B2 y_Choice_highBit 14 (fun (a b : Int32) => a - b) := .inr (.inl ⟨by decide +kernel, rfl⟩)
theorem i_Choice_highBit_15 : decode y_Choice_highBit.2.1 15 = .ok (.lshl, 1) := by decide +kernel
theorem i_Choice_highBit_16 : decode y_Choice_highBit.2.1 16 = .ok (.lreturn, 1) := by decide +kernel
theorem i_Choice_gatherSeen_0 : mj_Kc y_Choice_gatherSeen 0 1 (.long 0) := .inr (.inr (.inr (.inr (.inr (.inl ⟨0, by decide +kernel, rfl, by decide +kernel⟩)))))
theorem i_Choice_gatherSeen_1 : mj_St y_Choice_gatherSeen 1 1 1 1 := .inr (.inl ⟨rfl, .inr ⟨rfl, 1, rfl, by decide +kernel⟩⟩)
theorem i_Choice_gatherSeen_2 : mj_Kc y_Choice_gatherSeen 2 1 (.long 0) := .inr (.inr (.inr (.inr (.inr (.inl ⟨0, by decide +kernel, rfl, by decide +kernel⟩)))))
theorem i_Choice_gatherSeen_3 : mj_St y_Choice_gatherSeen 3 1 3 1 := .inr (.inl ⟨rfl, .inr ⟨rfl, 3, rfl, by decide +kernel⟩⟩)
theorem i_Choice_gatherSeen_4 : mj_Kc y_Choice_gatherSeen 4 2 (.int 13) := .inr (.inl ⟨13, by decide +kernel, rfl, by decide +kernel⟩)
theorem i_Choice_gatherSeen_6 : mj_St y_Choice_gatherSeen 6 2 5 0 := .inl ⟨rfl, .inl ⟨rfl, by decide +kernel⟩⟩
theorem i_Choice_gatherSeen_8 : mj_Ld y_Choice_gatherSeen 8 2 5 0 := .inl ⟨rfl, .inl ⟨rfl, by decide +kernel⟩⟩
theorem i_Choice_gatherSeen_10 : mj_If y_Choice_gatherSeen 10 135 (fun (a : Int32) => a < 0) := ⟨125, by decide, .inr (.inr (.inl ⟨by decide +kernel, rfl⟩))⟩
theorem i_Choice_gatherSeen_13 : mj_Ld y_Choice_gatherSeen 13 1 0 2 := .inr (.inr ⟨rfl, .inr ⟨rfl, 0, rfl, by decide +kernel⟩⟩)
theorem i_Choice_gatherSeen_14 : mj_Gf y_Choice_gatherSeen 14 0 1 := ⟨by decide, by decide, 9, by decide +kernel, .inl mm_93⟩
theorem i_Choice_gatherSeen_17 : mj_Ld y_Choice_gatherSeen 17 2 5 0 := .inl ⟨rfl, .inl ⟨rfl, by decide +kernel⟩⟩
theorem i_Choice_gatherSeen_19 : mj_Kc y_Choice_gatherSeen 19 1 (.long 0) := .inr (.inr (.inr (.inr (.inr (.inl ⟨0, by decide +kernel, rfl, by decide +kernel⟩)))))
theorem i_Choice_gatherSeen_20 : decode y_Choice_gatherSeen.2.1 20 = .ok (.lastore, 1) := by decide +kernel
theorem i_Choice_gatherSeen_21 : mj_Ld y_Choice_gatherSeen 21 1 0 2 := .inr (.inr ⟨rfl, .inr ⟨rfl, 0, rfl, by decide +kernel⟩⟩)
theorem i_Choice_gatherSeen_22 : mj_Gf y_Choice_gatherSeen 22 0 2 := ⟨by decide, by decide, 15, by decide +kernel, .inl mm_94⟩
theorem i_Choice_gatherSeen_25 : mj_Ld y_Choice_gatherSeen 25 2 5 0 := .inl ⟨rfl, .inl ⟨rfl, by decide +kernel⟩⟩
theorem i_Choice_gatherSeen_27 : mj_Kc y_Choice_gatherSeen 27 1 (.long 0) := .inr (.inr (.inr (.inr (.inr (.inl ⟨0, by decide +kernel, rfl, by decide +kernel⟩)))))
theorem i_Choice_gatherSeen_28 : decode y_Choice_gatherSeen.2.1 28 = .ok (.lastore, 1) := by decide +kernel
theorem i_Choice_gatherSeen_29 : mj_Kc y_Choice_gatherSeen 29 1 (.int 0) := .inl ⟨0, by decide +kernel, rfl, by decide +kernel⟩
theorem i_Choice_gatherSeen_30 : mj_St y_Choice_gatherSeen 30 2 6 0 := .inl ⟨rfl, .inl ⟨rfl, by decide +kernel⟩⟩
theorem i_Choice_gatherSeen_32 : mj_Ld y_Choice_gatherSeen 32 2 6 0 := .inl ⟨rfl, .inl ⟨rfl, by decide +kernel⟩⟩
theorem i_Choice_gatherSeen_34 : mj_Kc y_Choice_gatherSeen 34 2 (.int 100) := .inr (.inl ⟨100, by decide +kernel, rfl, by decide +kernel⟩)
theorem i_Choice_gatherSeen_36 : mj_Ic y_Choice_gatherSeen 36 93 (fun (a b : Int32) => b ≤ a) := ⟨57, by decide, .inr (.inr (.inr (.inl ⟨by decide +kernel, rfl⟩)))⟩
theorem i_Choice_gatherSeen_39 : mj_Ld y_Choice_gatherSeen 39 1 0 2 := .inr (.inr ⟨rfl, .inr ⟨rfl, 0, rfl, by decide +kernel⟩⟩)
theorem i_Choice_gatherSeen_40 : mj_Gf y_Choice_gatherSeen 40 0 0 := ⟨by decide, by decide, 24, by decide +kernel, .inl mm_92⟩
theorem i_Choice_gatherSeen_43 : mj_Ld y_Choice_gatherSeen 43 2 6 0 := .inl ⟨rfl, .inl ⟨rfl, by decide +kernel⟩⟩
theorem i_Choice_gatherSeen_45 : mj_Cv y_Choice_gatherSeen 45 y_View_watchersOf 6 1 := ⟨by decide, rfl, mt_View_watchersOf, 79, by decide +kernel, mm_562, mm_491, mm_492⟩
theorem i_Choice_gatherSeen_48 : mj_Ld y_Choice_gatherSeen 48 2 5 0 := .inl ⟨rfl, .inl ⟨rfl, by decide +kernel⟩⟩
theorem i_Choice_gatherSeen_50 : mj_B2 y_Choice_gatherSeen 50 (fun (a b : Int32) => a >>> (b &&& 31)) := .inr (.inr (.inr (.inr (.inr (.inr (.inr (.inl ⟨by decide +kernel, rfl⟩)))))))
theorem i_Choice_gatherSeen_51 : mj_Kc y_Choice_gatherSeen 51 1 (.int 1) := .inl ⟨1, by decide +kernel, rfl, by decide +kernel⟩
theorem i_Choice_gatherSeen_52 : mj_B2 y_Choice_gatherSeen 52 (fun (a b : Int32) => a &&& b) := .inr (.inr (.inr (.inl ⟨by decide +kernel, rfl⟩)))
theorem i_Choice_gatherSeen_53 : mj_Kc y_Choice_gatherSeen 53 1 (.int 1) := .inl ⟨1, by decide +kernel, rfl, by decide +kernel⟩
theorem i_Choice_gatherSeen_54 : mj_Ic y_Choice_gatherSeen 54 87 (fun (a b : Int32) => ¬ a = b) := ⟨33, by decide, .inr (.inl ⟨by decide +kernel, rfl⟩)⟩
theorem i_Choice_gatherSeen_57 : mj_Ld y_Choice_gatherSeen 57 1 0 2 := .inr (.inr ⟨rfl, .inr ⟨rfl, 0, rfl, by decide +kernel⟩⟩)
theorem i_Choice_gatherSeen_58 : mj_Gf y_Choice_gatherSeen 58 0 1 := ⟨by decide, by decide, 9, by decide +kernel, .inl mm_93⟩
theorem i_Choice_gatherSeen_61 : mj_Ld y_Choice_gatherSeen 61 2 5 0 := .inl ⟨rfl, .inl ⟨rfl, by decide +kernel⟩⟩
theorem i_Choice_gatherSeen_63 : decode y_Choice_gatherSeen.2.1 63 = .ok (.dup2, 1) := by decide +kernel
theorem i_Choice_gatherSeen_64 : decode y_Choice_gatherSeen.2.1 64 = .ok (.laload, 1) := by decide +kernel
theorem i_Choice_gatherSeen_65 : mj_Ld y_Choice_gatherSeen 65 2 6 0 := .inl ⟨rfl, .inl ⟨rfl, by decide +kernel⟩⟩
theorem i_Choice_gatherSeen_67 : mj_Cs y_Choice_gatherSeen 67 y_Choice_lowBit 1 := ⟨mt_Choice_lowBit, 72, by decide +kernel, mm_553, .inl mm_552⟩
theorem i_Choice_gatherSeen_70 : mj_BL y_Choice_gatherSeen 70 (fun (a b : Int64) => a ||| b) := .inl ⟨by decide +kernel, rfl⟩
theorem i_Choice_gatherSeen_71 : decode y_Choice_gatherSeen.2.1 71 = .ok (.lastore, 1) := by decide +kernel
theorem i_Choice_gatherSeen_72 : mj_Ld y_Choice_gatherSeen 72 1 0 2 := .inr (.inr ⟨rfl, .inr ⟨rfl, 0, rfl, by decide +kernel⟩⟩)
theorem i_Choice_gatherSeen_73 : mj_Gf y_Choice_gatherSeen 73 0 2 := ⟨by decide, by decide, 15, by decide +kernel, .inl mm_94⟩
theorem i_Choice_gatherSeen_76 : mj_Ld y_Choice_gatherSeen 76 2 5 0 := .inl ⟨rfl, .inl ⟨rfl, by decide +kernel⟩⟩
theorem i_Choice_gatherSeen_78 : decode y_Choice_gatherSeen.2.1 78 = .ok (.dup2, 1) := by decide +kernel
theorem i_Choice_gatherSeen_79 : decode y_Choice_gatherSeen.2.1 79 = .ok (.laload, 1) := by decide +kernel
theorem i_Choice_gatherSeen_80 : mj_Ld y_Choice_gatherSeen 80 2 6 0 := .inl ⟨rfl, .inl ⟨rfl, by decide +kernel⟩⟩
theorem i_Choice_gatherSeen_82 : mj_Cs y_Choice_gatherSeen 82 y_Choice_highBit 1 := ⟨mt_Choice_highBit, 76, by decide +kernel, mm_556, .inl mm_555⟩
theorem i_Choice_gatherSeen_85 : mj_BL y_Choice_gatherSeen 85 (fun (a b : Int64) => a ||| b) := .inl ⟨by decide +kernel, rfl⟩
theorem i_Choice_gatherSeen_86 : decode y_Choice_gatherSeen.2.1 86 = .ok (.lastore, 1) := by decide +kernel
theorem i_Choice_gatherSeen_87 : mj_In y_Choice_gatherSeen 87 6 1 := ⟨1, by decide +kernel, by decide +kernel⟩
theorem i_Choice_gatherSeen_90 : mj_Go y_Choice_gatherSeen 90 32 := ⟨(-58), by decide, by decide +kernel⟩
theorem i_Choice_gatherSeen_93 : mj_Ld y_Choice_gatherSeen 93 1 1 1 := .inr (.inl ⟨rfl, .inr ⟨rfl, 1, rfl, by decide +kernel⟩⟩)
theorem i_Choice_gatherSeen_94 : mj_Ld y_Choice_gatherSeen 94 1 0 2 := .inr (.inr ⟨rfl, .inr ⟨rfl, 0, rfl, by decide +kernel⟩⟩)
theorem i_Choice_gatherSeen_95 : mj_Gf y_Choice_gatherSeen 95 0 1 := ⟨by decide, by decide, 9, by decide +kernel, .inl mm_93⟩
theorem i_Choice_gatherSeen_98 : mj_Ld y_Choice_gatherSeen 98 2 5 0 := .inl ⟨rfl, .inl ⟨rfl, by decide +kernel⟩⟩
theorem i_Choice_gatherSeen_100 : decode y_Choice_gatherSeen.2.1 100 = .ok (.laload, 1) := by decide +kernel
theorem i_Choice_gatherSeen_101 : mj_BL y_Choice_gatherSeen 101 (fun (a b : Int64) => a ||| b) := .inl ⟨by decide +kernel, rfl⟩
theorem i_Choice_gatherSeen_102 : mj_St y_Choice_gatherSeen 102 1 1 1 := .inr (.inl ⟨rfl, .inr ⟨rfl, 1, rfl, by decide +kernel⟩⟩)
theorem i_Choice_gatherSeen_103 : mj_Ld y_Choice_gatherSeen 103 1 3 1 := .inr (.inl ⟨rfl, .inr ⟨rfl, 3, rfl, by decide +kernel⟩⟩)
theorem i_Choice_gatherSeen_104 : mj_Ld y_Choice_gatherSeen 104 1 0 2 := .inr (.inr ⟨rfl, .inr ⟨rfl, 0, rfl, by decide +kernel⟩⟩)
theorem i_Choice_gatherSeen_105 : mj_Gf y_Choice_gatherSeen 105 0 2 := ⟨by decide, by decide, 15, by decide +kernel, .inl mm_94⟩
theorem i_Choice_gatherSeen_108 : mj_Ld y_Choice_gatherSeen 108 2 5 0 := .inl ⟨rfl, .inl ⟨rfl, by decide +kernel⟩⟩
theorem i_Choice_gatherSeen_110 : decode y_Choice_gatherSeen.2.1 110 = .ok (.laload, 1) := by decide +kernel
theorem i_Choice_gatherSeen_111 : mj_BL y_Choice_gatherSeen 111 (fun (a b : Int64) => a ||| b) := .inl ⟨by decide +kernel, rfl⟩
theorem i_Choice_gatherSeen_112 : mj_St y_Choice_gatherSeen 112 1 3 1 := .inr (.inl ⟨rfl, .inr ⟨rfl, 3, rfl, by decide +kernel⟩⟩)
theorem i_Choice_gatherSeen_113 : mj_Ld y_Choice_gatherSeen 113 1 0 2 := .inr (.inr ⟨rfl, .inr ⟨rfl, 0, rfl, by decide +kernel⟩⟩)
theorem i_Choice_gatherSeen_114 : mj_Gf y_Choice_gatherSeen 114 0 3 := ⟨by decide, by decide, 18, by decide +kernel, .inl mm_95⟩
theorem i_Choice_gatherSeen_117 : mj_Ld y_Choice_gatherSeen 117 2 5 0 := .inl ⟨rfl, .inl ⟨rfl, by decide +kernel⟩⟩
theorem i_Choice_gatherSeen_119 : mj_Ld y_Choice_gatherSeen 119 1 1 1 := .inr (.inl ⟨rfl, .inr ⟨rfl, 1, rfl, by decide +kernel⟩⟩)
theorem i_Choice_gatherSeen_120 : decode y_Choice_gatherSeen.2.1 120 = .ok (.lastore, 1) := by decide +kernel
theorem i_Choice_gatherSeen_121 : mj_Ld y_Choice_gatherSeen 121 1 0 2 := .inr (.inr ⟨rfl, .inr ⟨rfl, 0, rfl, by decide +kernel⟩⟩)
theorem i_Choice_gatherSeen_122 : mj_Gf y_Choice_gatherSeen 122 0 4 := ⟨by decide, by decide, 21, by decide +kernel, .inl mm_96⟩
theorem i_Choice_gatherSeen_125 : mj_Ld y_Choice_gatherSeen 125 2 5 0 := .inl ⟨rfl, .inl ⟨rfl, by decide +kernel⟩⟩
theorem i_Choice_gatherSeen_127 : mj_Ld y_Choice_gatherSeen 127 1 3 1 := .inr (.inl ⟨rfl, .inr ⟨rfl, 3, rfl, by decide +kernel⟩⟩)
theorem i_Choice_gatherSeen_128 : decode y_Choice_gatherSeen.2.1 128 = .ok (.lastore, 1) := by decide +kernel
theorem i_Choice_gatherSeen_129 : mj_In y_Choice_gatherSeen 129 5 (-1) := ⟨(-1), by decide +kernel, by decide +kernel⟩
theorem i_Choice_gatherSeen_132 : mj_Go y_Choice_gatherSeen 132 8 := ⟨(-124), by decide, by decide +kernel⟩
theorem i_Choice_gatherSeen_135 : decode y_Choice_gatherSeen.2.1 135 = .ok (.return_, 1) := by decide +kernel
theorem i_Choice_extend_0 : mj_Ld y_Choice_extend 0 1 1 0 := .inl ⟨rfl, .inr ⟨rfl, 1, rfl, by decide +kernel⟩⟩
theorem i_Choice_extend_1 : mj_If y_Choice_extend 1 45 (fun (a : Int32) => 0 < a) := ⟨44, by decide, .inr (.inr (.inr (.inr (.inl ⟨by decide +kernel, rfl⟩))))⟩
theorem i_Choice_extend_4 : mj_Ld y_Choice_extend 4 1 0 2 := .inr (.inr ⟨rfl, .inr ⟨rfl, 0, rfl, by decide +kernel⟩⟩)
theorem i_Choice_extend_5 : mj_Ld y_Choice_extend 5 2 4 1 := .inr (.inl ⟨rfl, .inl ⟨rfl, by decide +kernel⟩⟩)
theorem i_Choice_extend_7 : mj_Ld y_Choice_extend 7 2 6 1 := .inr (.inl ⟨rfl, .inl ⟨rfl, by decide +kernel⟩⟩)
theorem i_Choice_extend_9 : mj_Cv y_Choice_extend 9 y_Choice_isAll 0 2 := ⟨by decide, rfl, mt_Choice_isAll, 85, by decide +kernel, mm_568, mm_570, mp_10⟩
theorem i_Choice_extend_12 : mj_If y_Choice_extend 12 44 (fun (a : Int32) => a = 0) := ⟨32, by decide, .inl ⟨by decide +kernel, rfl⟩⟩
theorem i_Choice_extend_15 : mj_Ld y_Choice_extend 15 1 0 2 := .inr (.inr ⟨rfl, .inr ⟨rfl, 0, rfl, by decide +kernel⟩⟩)
theorem i_Choice_extend_16 : mj_Ld y_Choice_extend 16 1 0 2 := .inr (.inr ⟨rfl, .inr ⟨rfl, 0, rfl, by decide +kernel⟩⟩)
theorem i_Choice_extend_17 : mj_Gf y_Choice_extend 17 0 10 := ⟨by decide, by decide, 46, by decide +kernel, .inl mm_104⟩
theorem i_Choice_extend_20 : mj_If y_Choice_extend 20 27 (fun (a : Int32) => ¬ a = 0) := ⟨7, by decide, .inr (.inl ⟨by decide +kernel, rfl⟩)⟩
theorem i_Choice_extend_23 : mj_Ld y_Choice_extend 23 1 3 0 := .inl ⟨rfl, .inr ⟨rfl, 3, rfl, by decide +kernel⟩⟩
theorem i_Choice_extend_24 : mj_Go y_Choice_extend 24 31 := ⟨7, by decide, by decide +kernel⟩
theorem i_Choice_extend_27 : mj_Ld y_Choice_extend 27 1 0 2 := .inr (.inr ⟨rfl, .inr ⟨rfl, 0, rfl, by decide +kernel⟩⟩)
theorem i_Choice_extend_28 : mj_Gf y_Choice_extend 28 0 9 := ⟨by decide, by decide, 43, by decide +kernel, .inl mm_102⟩
theorem i_Choice_extend_31 : mj_Pf y_Choice_extend 31 0 9 (.int) := ⟨by decide, by decide, 43, by decide +kernel, mm_102, by decide +kernel, .inl rfl⟩
theorem i_Choice_extend_34 : mj_Ld y_Choice_extend 34 1 0 2 := .inr (.inr ⟨rfl, .inr ⟨rfl, 0, rfl, by decide +kernel⟩⟩)
theorem i_Choice_extend_35 : decode y_Choice_extend.2.1 35 = .ok (.dup, 1) := by decide +kernel
theorem i_Choice_extend_36 : mj_Gf y_Choice_extend 36 0 10 := ⟨by decide, by decide, 46, by decide +kernel, .inl mm_104⟩
theorem i_Choice_extend_39 : mj_Kc y_Choice_extend 39 1 (.int 1) := .inl ⟨1, by decide +kernel, rfl, by decide +kernel⟩
theorem i_Choice_extend_40 : mj_B2 y_Choice_extend 40 (fun (a b : Int32) => a + b) := .inl ⟨by decide +kernel, rfl⟩
theorem i_Choice_extend_41 : mj_Pf y_Choice_extend 41 0 10 (.int) := ⟨by decide, by decide, 46, by decide +kernel, mm_104, by decide +kernel, .inl rfl⟩
theorem i_Choice_extend_44 : decode y_Choice_extend.2.1 44 = .ok (.return_, 1) := by decide +kernel
theorem i_Choice_extend_45 : mj_Ld y_Choice_extend 45 1 2 0 := .inl ⟨rfl, .inr ⟨rfl, 2, rfl, by decide +kernel⟩⟩
theorem i_Choice_extend_46 : mj_St y_Choice_extend 46 2 8 0 := .inl ⟨rfl, .inl ⟨rfl, by decide +kernel⟩⟩
theorem i_Choice_extend_48 : mj_Ld y_Choice_extend 48 2 8 0 := .inl ⟨rfl, .inl ⟨rfl, by decide +kernel⟩⟩
theorem i_Choice_extend_50 : mj_If y_Choice_extend 50 148 (fun (a : Int32) => a < 0) := ⟨98, by decide, .inr (.inr (.inl ⟨by decide +kernel, rfl⟩))⟩
theorem i_Choice_extend_53 : mj_Ld y_Choice_extend 53 2 8 0 := .inl ⟨rfl, .inl ⟨rfl, by decide +kernel⟩⟩
theorem i_Choice_extend_55 : mj_Ld y_Choice_extend 55 1 1 0 := .inl ⟨rfl, .inr ⟨rfl, 1, rfl, by decide +kernel⟩⟩
theorem i_Choice_extend_56 : mj_B2 y_Choice_extend 56 (fun (a b : Int32) => a + b) := .inl ⟨by decide +kernel, rfl⟩
theorem i_Choice_extend_57 : mj_Ld y_Choice_extend 57 1 0 2 := .inr (.inr ⟨rfl, .inr ⟨rfl, 0, rfl, by decide +kernel⟩⟩)
theorem i_Choice_extend_58 : mj_Gf y_Choice_extend 58 0 0 := ⟨by decide, by decide, 24, by decide +kernel, .inl mm_92⟩
theorem i_Choice_extend_61 : mj_Gf y_Choice_extend 61 6 0 := ⟨by decide, by decide, 60, by decide +kernel, .inr ⟨"GalleryWatch", mm_55⟩⟩
theorem i_Choice_extend_64 : mj_Cv y_Choice_extend 64 y_Room_posts 4 0 := ⟨by decide, rfl, mt_Room_posts, 89, by decide +kernel, mm_573, mm_344, mm_345⟩
theorem i_Choice_extend_67 : mj_Ic y_Choice_extend 67 148 (fun (a b : Int32) => b < a) := ⟨81, by decide, .inr (.inr (.inr (.inr (.inl ⟨by decide +kernel, rfl⟩))))⟩
theorem i_Choice_extend_70 : mj_Ld y_Choice_extend 70 2 8 0 := .inl ⟨rfl, .inl ⟨rfl, by decide +kernel⟩⟩
theorem i_Choice_extend_72 : mj_Kc y_Choice_extend 72 2 (.int 14) := .inr (.inl ⟨14, by decide +kernel, rfl, by decide +kernel⟩)
theorem i_Choice_extend_74 : mj_Ic y_Choice_extend 74 148 (fun (a b : Int32) => b ≤ a) := ⟨74, by decide, .inr (.inr (.inr (.inl ⟨by decide +kernel, rfl⟩)))⟩
theorem i_Choice_extend_77 : mj_Ld y_Choice_extend 77 1 0 2 := .inr (.inr ⟨rfl, .inr ⟨rfl, 0, rfl, by decide +kernel⟩⟩)
theorem i_Choice_extend_78 : mj_Ld y_Choice_extend 78 2 4 1 := .inr (.inl ⟨rfl, .inl ⟨rfl, by decide +kernel⟩⟩)
theorem i_Choice_extend_80 : mj_Ld y_Choice_extend 80 1 0 2 := .inr (.inr ⟨rfl, .inr ⟨rfl, 0, rfl, by decide +kernel⟩⟩)
theorem i_Choice_extend_81 : mj_Gf y_Choice_extend 81 0 3 := ⟨by decide, by decide, 18, by decide +kernel, .inl mm_95⟩
theorem i_Choice_extend_84 : mj_Ld y_Choice_extend 84 2 8 0 := .inl ⟨rfl, .inl ⟨rfl, by decide +kernel⟩⟩
theorem i_Choice_extend_86 : decode y_Choice_extend.2.1 86 = .ok (.laload, 1) := by decide +kernel
theorem i_Choice_extend_87 : mj_BL y_Choice_extend 87 (fun (a b : Int64) => a ||| b) := .inl ⟨by decide +kernel, rfl⟩
theorem i_Choice_extend_88 : mj_Ld y_Choice_extend 88 2 6 1 := .inr (.inl ⟨rfl, .inl ⟨rfl, by decide +kernel⟩⟩)
theorem i_Choice_extend_90 : mj_Ld y_Choice_extend 90 1 0 2 := .inr (.inr ⟨rfl, .inr ⟨rfl, 0, rfl, by decide +kernel⟩⟩)
theorem i_Choice_extend_91 : mj_Gf y_Choice_extend 91 0 4 := ⟨by decide, by decide, 21, by decide +kernel, .inl mm_96⟩
theorem i_Choice_extend_94 : mj_Ld y_Choice_extend 94 2 8 0 := .inl ⟨rfl, .inl ⟨rfl, by decide +kernel⟩⟩
theorem i_Choice_extend_96 : decode y_Choice_extend.2.1 96 = .ok (.laload, 1) := by decide +kernel
theorem i_Choice_extend_97 : mj_BL y_Choice_extend 97 (fun (a b : Int64) => a ||| b) := .inl ⟨by decide +kernel, rfl⟩
theorem i_Choice_extend_98 : mj_Cv y_Choice_extend 98 y_Choice_isAll 0 2 := ⟨by decide, rfl, mt_Choice_isAll, 85, by decide +kernel, mm_568, mm_570, mp_10⟩
theorem i_Choice_extend_101 : mj_If y_Choice_extend 101 105 (fun (a : Int32) => ¬ a = 0) := ⟨4, by decide, .inr (.inl ⟨by decide +kernel, rfl⟩)⟩
theorem i_Choice_extend_104 : decode y_Choice_extend.2.1 104 = .ok (.return_, 1) := by decide +kernel
theorem i_Choice_extend_105 : mj_Ld y_Choice_extend 105 1 0 2 := .inr (.inr ⟨rfl, .inr ⟨rfl, 0, rfl, by decide +kernel⟩⟩)
theorem i_Choice_extend_106 : mj_Ld y_Choice_extend 106 1 1 0 := .inl ⟨rfl, .inr ⟨rfl, 1, rfl, by decide +kernel⟩⟩
theorem i_Choice_extend_107 : mj_Kc y_Choice_extend 107 1 (.int 1) := .inl ⟨1, by decide +kernel, rfl, by decide +kernel⟩
theorem i_Choice_extend_108 : mj_B2 y_Choice_extend 108 (fun (a b : Int32) => a - b) := .inr (.inl ⟨by decide +kernel, rfl⟩)
theorem i_Choice_extend_109 : mj_Ld y_Choice_extend 109 2 8 0 := .inl ⟨rfl, .inl ⟨rfl, by decide +kernel⟩⟩
theorem i_Choice_extend_111 : mj_Kc y_Choice_extend 111 1 (.int 1) := .inl ⟨1, by decide +kernel, rfl, by decide +kernel⟩
theorem i_Choice_extend_112 : mj_B2 y_Choice_extend 112 (fun (a b : Int32) => a + b) := .inl ⟨by decide +kernel, rfl⟩
theorem i_Choice_extend_113 : mj_Ld y_Choice_extend 113 1 3 0 := .inl ⟨rfl, .inr ⟨rfl, 3, rfl, by decide +kernel⟩⟩
theorem i_Choice_extend_114 : mj_Kc y_Choice_extend 114 1 (.int 1) := .inl ⟨1, by decide +kernel, rfl, by decide +kernel⟩
theorem i_Choice_extend_115 : mj_Ld y_Choice_extend 115 2 8 0 := .inl ⟨rfl, .inl ⟨rfl, by decide +kernel⟩⟩
theorem i_Choice_extend_117 : mj_B2 y_Choice_extend 117 (fun (a b : Int32) => a <<< (b &&& 31)) := .inr (.inr (.inr (.inr (.inr (.inr (.inl ⟨by decide +kernel, rfl⟩))))))
theorem i_Choice_extend_118 : mj_B2 y_Choice_extend 118 (fun (a b : Int32) => a ||| b) := .inr (.inr (.inr (.inr (.inl ⟨by decide +kernel, rfl⟩))))
theorem i_Choice_extend_119 : mj_Ld y_Choice_extend 119 2 4 1 := .inr (.inl ⟨rfl, .inl ⟨rfl, by decide +kernel⟩⟩)
theorem i_Choice_extend_121 : mj_Ld y_Choice_extend 121 1 0 2 := .inr (.inr ⟨rfl, .inr ⟨rfl, 0, rfl, by decide +kernel⟩⟩)
theorem i_Choice_extend_122 : mj_Gf y_Choice_extend 122 0 1 := ⟨by decide, by decide, 9, by decide +kernel, .inl mm_93⟩
theorem i_Choice_extend_125 : mj_Ld y_Choice_extend 125 2 8 0 := .inl ⟨rfl, .inl ⟨rfl, by decide +kernel⟩⟩
theorem i_Choice_extend_127 : decode y_Choice_extend.2.1 127 = .ok (.laload, 1) := by decide +kernel
theorem i_Choice_extend_128 : mj_BL y_Choice_extend 128 (fun (a b : Int64) => a ||| b) := .inl ⟨by decide +kernel, rfl⟩
theorem i_Choice_extend_129 : mj_Ld y_Choice_extend 129 2 6 1 := .inr (.inl ⟨rfl, .inl ⟨rfl, by decide +kernel⟩⟩)
theorem i_Choice_extend_131 : mj_Ld y_Choice_extend 131 1 0 2 := .inr (.inr ⟨rfl, .inr ⟨rfl, 0, rfl, by decide +kernel⟩⟩)
theorem i_Choice_extend_132 : mj_Gf y_Choice_extend 132 0 2 := ⟨by decide, by decide, 15, by decide +kernel, .inl mm_94⟩
theorem i_Choice_extend_135 : mj_Ld y_Choice_extend 135 2 8 0 := .inl ⟨rfl, .inl ⟨rfl, by decide +kernel⟩⟩
theorem i_Choice_extend_137 : decode y_Choice_extend.2.1 137 = .ok (.laload, 1) := by decide +kernel
theorem i_Choice_extend_138 : mj_BL y_Choice_extend 138 (fun (a b : Int64) => a ||| b) := .inl ⟨by decide +kernel, rfl⟩
theorem i_Choice_extend_139 : mj_Cv y_Choice_extend 139 y_Choice_extend 0 5 := ⟨by decide, rfl, mt_Choice_extend, 49, by decide +kernel, mm_564, mm_566, mp_9⟩
theorem i_Choice_extend_142 : mj_In y_Choice_extend 142 8 1 := ⟨1, by decide +kernel, by decide +kernel⟩
theorem i_Choice_extend_145 : mj_Go y_Choice_extend 145 48 := ⟨(-97), by decide, by decide +kernel⟩
theorem i_Choice_extend_148 : decode y_Choice_extend.2.1 148 = .ok (.return_, 1) := by decide +kernel
theorem i_Choice_isAll_0 : mj_Ld y_Choice_isAll 0 1 0 2 := .inr (.inr ⟨rfl, .inr ⟨rfl, 0, rfl, by decide +kernel⟩⟩)
theorem i_Choice_isAll_1 : mj_Gf y_Choice_isAll 1 0 5 := ⟨by decide, by decide, 53, by decide +kernel, .inl mm_97⟩
theorem i_Choice_isAll_4 : mj_Ld y_Choice_isAll 4 1 1 1 := .inr (.inl ⟨rfl, .inr ⟨rfl, 1, rfl, by decide +kernel⟩⟩)
theorem i_Choice_isAll_5 : mj_Kc y_Choice_isAll 5 3 (.long (-1)) := .inr (.inr (.inr (.inr (.inr (.inr (.inl ⟨83, (-1), by decide +kernel, rfl, rfl, mm_572⟩))))))
theorem i_Choice_isAll_8 : mj_BL y_Choice_isAll 8 (fun (a b : Int64) => a ^^^ b) := .inr (.inr ⟨by decide +kernel, rfl⟩)
theorem i_Choice_isAll_9 : mj_BL y_Choice_isAll 9 (fun (a b : Int64) => a &&& b) := .inr (.inl ⟨by decide +kernel, rfl⟩)
theorem i_Choice_isAll_10 : mj_Kc y_Choice_isAll 10 1 (.long 0) := .inr (.inr (.inr (.inr (.inr (.inl ⟨0, by decide +kernel, rfl, by decide +kernel⟩)))))
theorem i_Choice_isAll_11 : decode y_Choice_isAll.2.1 11 = .ok (.lcmp, 1) := by decide +kernel
theorem i_Choice_isAll_12 : mj_If y_Choice_isAll 12 34 (fun (a : Int32) => ¬ a = 0) := ⟨22, by decide, .inr (.inl ⟨by decide +kernel, rfl⟩)⟩
theorem i_Choice_isAll_15 : mj_Ld y_Choice_isAll 15 1 0 2 := .inr (.inr ⟨rfl, .inr ⟨rfl, 0, rfl, by decide +kernel⟩⟩)
theorem i_Choice_isAll_16 : mj_Gf y_Choice_isAll 16 0 6 := ⟨by decide, by decide, 57, by decide +kernel, .inl mm_98⟩
theorem i_Choice_isAll_19 : mj_Ld y_Choice_isAll 19 1 3 1 := .inr (.inl ⟨rfl, .inr ⟨rfl, 3, rfl, by decide +kernel⟩⟩)
theorem i_Choice_isAll_20 : mj_Kc y_Choice_isAll 20 3 (.long (-1)) := .inr (.inr (.inr (.inr (.inr (.inr (.inl ⟨83, (-1), by decide +kernel, rfl, rfl, mm_572⟩))))))
theorem i_Choice_isAll_23 : mj_BL y_Choice_isAll 23 (fun (a b : Int64) => a ^^^ b) := .inr (.inr ⟨by decide +kernel, rfl⟩)
theorem i_Choice_isAll_24 : mj_BL y_Choice_isAll 24 (fun (a b : Int64) => a &&& b) := .inr (.inl ⟨by decide +kernel, rfl⟩)
theorem i_Choice_isAll_25 : mj_Kc y_Choice_isAll 25 1 (.long 0) := .inr (.inr (.inr (.inr (.inr (.inl ⟨0, by decide +kernel, rfl, by decide +kernel⟩)))))
theorem i_Choice_isAll_26 : decode y_Choice_isAll.2.1 26 = .ok (.lcmp, 1) := by decide +kernel
theorem i_Choice_isAll_27 : mj_If y_Choice_isAll 27 34 (fun (a : Int32) => ¬ a = 0) := ⟨7, by decide, .inr (.inl ⟨by decide +kernel, rfl⟩)⟩
theorem i_Choice_isAll_30 : mj_Kc y_Choice_isAll 30 1 (.int 1) := .inl ⟨1, by decide +kernel, rfl, by decide +kernel⟩
theorem i_Choice_isAll_31 : mj_Go y_Choice_isAll 31 35 := ⟨4, by decide, by decide +kernel⟩
theorem i_Choice_isAll_34 : mj_Kc y_Choice_isAll 34 1 (.int 0) := .inl ⟨0, by decide +kernel, rfl, by decide +kernel⟩
theorem i_Choice_isAll_35 : decode y_Choice_isAll.2.1 35 = .ok (.ireturn, 1) := by decide +kernel
theorem i_Proof_init_0 : mj_Ld y_Proof_init 0 1 0 2 := .inr (.inr ⟨rfl, .inr ⟨rfl, 0, rfl, by decide +kernel⟩⟩)
theorem i_Proof_init_1 : mj_Oi y_Proof_init 1 := ⟨3, by decide +kernel, mm_151⟩
theorem i_Proof_init_4 : mj_Ld y_Proof_init 4 1 0 2 := .inr (.inr ⟨rfl, .inr ⟨rfl, 0, rfl, by decide +kernel⟩⟩)
theorem i_Proof_init_5 : mj_Kc y_Proof_init 5 3 (.int 600) := .inr (.inr (.inl ⟨600, by decide +kernel, rfl, by decide +kernel⟩))
theorem i_Proof_init_8 : mj_Na y_Proof_init 8 0 := .inl ⟨rfl, by decide +kernel⟩
theorem i_Proof_init_10 : mj_Pf y_Proof_init 10 3 1 (.array .int) := ⟨by decide, by decide, 9, by decide +kernel, mm_153, by decide +kernel, .inr ⟨rfl, rfl, rfl⟩⟩
theorem i_Proof_init_13 : mj_Ld y_Proof_init 13 1 0 2 := .inr (.inr ⟨rfl, .inr ⟨rfl, 0, rfl, by decide +kernel⟩⟩)
theorem i_Proof_init_14 : mj_Kc y_Proof_init 14 3 (.int 600) := .inr (.inr (.inl ⟨600, by decide +kernel, rfl, by decide +kernel⟩))
theorem i_Proof_init_17 : mj_Na y_Proof_init 17 0 := .inl ⟨rfl, by decide +kernel⟩
theorem i_Proof_init_19 : mj_Pf y_Proof_init 19 3 2 (.array .int) := ⟨by decide, by decide, 15, by decide +kernel, mm_154, by decide +kernel, .inr ⟨rfl, rfl, rfl⟩⟩
theorem i_Proof_init_22 : mj_Ld y_Proof_init 22 1 0 2 := .inr (.inr ⟨rfl, .inr ⟨rfl, 0, rfl, by decide +kernel⟩⟩)
theorem i_Proof_init_23 : mj_Kc y_Proof_init 23 3 (.int 600) := .inr (.inr (.inl ⟨600, by decide +kernel, rfl, by decide +kernel⟩))
theorem i_Proof_init_26 : mj_Na y_Proof_init 26 0 := .inl ⟨rfl, by decide +kernel⟩
theorem i_Proof_init_28 : mj_Pf y_Proof_init 28 3 3 (.array .int) := ⟨by decide, by decide, 18, by decide +kernel, mm_155, by decide +kernel, .inr ⟨rfl, rfl, rfl⟩⟩
theorem i_Proof_init_31 : mj_Ld y_Proof_init 31 1 0 2 := .inr (.inr ⟨rfl, .inr ⟨rfl, 0, rfl, by decide +kernel⟩⟩)
theorem i_Proof_init_32 : mj_Kc y_Proof_init 32 3 (.int 600) := .inr (.inr (.inl ⟨600, by decide +kernel, rfl, by decide +kernel⟩))
theorem i_Proof_init_35 : mj_Na y_Proof_init 35 0 := .inl ⟨rfl, by decide +kernel⟩
theorem i_Proof_init_37 : mj_Pf y_Proof_init 37 3 4 (.array .int) := ⟨by decide, by decide, 21, by decide +kernel, mm_156, by decide +kernel, .inr ⟨rfl, rfl, rfl⟩⟩
theorem i_Proof_init_40 : mj_Ld y_Proof_init 40 1 0 2 := .inr (.inr ⟨rfl, .inr ⟨rfl, 0, rfl, by decide +kernel⟩⟩)
theorem i_Proof_init_41 : mj_Kc y_Proof_init 41 3 (.int 600) := .inr (.inr (.inl ⟨600, by decide +kernel, rfl, by decide +kernel⟩))
theorem i_Proof_init_44 : mj_Na y_Proof_init 44 0 := .inl ⟨rfl, by decide +kernel⟩
theorem i_Proof_init_46 : mj_Pf y_Proof_init 46 3 5 (.array .int) := ⟨by decide, by decide, 24, by decide +kernel, mm_157, by decide +kernel, .inr ⟨rfl, rfl, rfl⟩⟩
theorem i_Proof_init_49 : mj_Ld y_Proof_init 49 1 0 2 := .inr (.inr ⟨rfl, .inr ⟨rfl, 0, rfl, by decide +kernel⟩⟩)
theorem i_Proof_init_50 : mj_Ld y_Proof_init 50 1 1 2 := .inr (.inr ⟨rfl, .inr ⟨rfl, 1, rfl, by decide +kernel⟩⟩)
theorem i_Proof_init_51 : mj_Pf y_Proof_init 51 3 0 (.object "GalleryWatch$View") := ⟨by decide, by decide, 27, by decide +kernel, mm_152, by decide +kernel, .inr ⟨rfl, rfl, rfl⟩⟩
theorem i_Proof_init_54 : decode y_Proof_init.2.1 54 = .ok (.return_, 1) := by decide +kernel
theorem i_Proof_end_0 : mj_Ld y_Proof_end 0 1 0 2 := .inr (.inr ⟨rfl, .inr ⟨rfl, 0, rfl, by decide +kernel⟩⟩)
theorem i_Proof_end_1 : mj_Kc y_Proof_end 1 1 (.int 0) := .inl ⟨0, by decide +kernel, rfl, by decide +kernel⟩
theorem i_Proof_end_2 : mj_Pf y_Proof_end 2 3 6 (.int) := ⟨by decide, by decide, 31, by decide +kernel, mm_158, by decide +kernel, .inl rfl⟩
theorem i_Proof_end_5 : decode y_Proof_end.2.1 5 = .ok (.return_, 1) := by decide +kernel
theorem i_Proof_make_0 : mj_Ld y_Proof_make 0 1 0 2 := .inr (.inr ⟨rfl, .inr ⟨rfl, 0, rfl, by decide +kernel⟩⟩)
theorem i_Proof_make_1 : mj_Kc y_Proof_make 1 1 (.int 0) := .inl ⟨0, by decide +kernel, rfl, by decide +kernel⟩
theorem i_Proof_make_2 : mj_Ld y_Proof_make 2 1 1 0 := .inl ⟨rfl, .inr ⟨rfl, 1, rfl, by decide +kernel⟩⟩
theorem i_Proof_make_3 : mj_Cv y_Proof_make 3 y_Proof_rowsNeeded 3 2 := ⟨by decide, rfl, mt_Proof_rowsNeeded, 49, by decide +kernel, mm_643, mm_645, mp_15⟩
theorem i_Proof_make_6 : mj_Kc y_Proof_make 6 3 (.int 600) := .inr (.inr (.inl ⟨600, by decide +kernel, rfl, by decide +kernel⟩))
theorem i_Proof_make_9 : mj_Ic y_Proof_make 9 15 (fun (a b : Int32) => a ≤ b) := ⟨6, by decide, .inr (.inr (.inr (.inr (.inr (⟨by decide +kernel, rfl⟩)))))⟩
theorem i_Proof_make_12 : mj_Kc y_Proof_make 12 2 (.int (-2000000003)) := .inr (.inr (.inr (.inl ⟨53, (-2000000003), by decide +kernel, rfl, rfl, mm_649⟩)))
theorem i_Proof_make_14 : decode y_Proof_make.2.1 14 = .ok (.ireturn, 1) := by decide +kernel
theorem i_Proof_make_15 : mj_Ld y_Proof_make 15 1 0 2 := .inr (.inr ⟨rfl, .inr ⟨rfl, 0, rfl, by decide +kernel⟩⟩)
theorem i_Proof_make_16 : mj_Kc y_Proof_make 16 1 (.int 0) := .inl ⟨0, by decide +kernel, rfl, by decide +kernel⟩
theorem i_Proof_make_17 : mj_Pf y_Proof_make 17 3 6 (.int) := ⟨by decide, by decide, 31, by decide +kernel, mm_158, by decide +kernel, .inl rfl⟩
theorem i_Proof_make_20 : mj_Ld y_Proof_make 20 1 0 2 := .inr (.inr ⟨rfl, .inr ⟨rfl, 0, rfl, by decide +kernel⟩⟩)
theorem i_Proof_make_21 : mj_Ld y_Proof_make 21 1 1 0 := .inl ⟨rfl, .inr ⟨rfl, 1, rfl, by decide +kernel⟩⟩
theorem i_Proof_make_22 : mj_Pf y_Proof_make 22 3 7 (.int) := ⟨by decide, by decide, 54, by decide +kernel, mm_159, by decide +kernel, .inl rfl⟩
theorem i_Proof_make_25 : mj_Ld y_Proof_make 25 1 0 2 := .inr (.inr ⟨rfl, .inr ⟨rfl, 0, rfl, by decide +kernel⟩⟩)
theorem i_Proof_make_26 : mj_Kc y_Proof_make 26 2 (.int (-2000000005)) := .inr (.inr (.inr (.inl ⟨39, (-2000000005), by decide +kernel, rfl, rfl, mm_650⟩)))
theorem i_Proof_make_28 : mj_Kc y_Proof_make 28 2 (.int (-2000000005)) := .inr (.inr (.inr (.inl ⟨39, (-2000000005), by decide +kernel, rfl, rfl, mm_650⟩)))
theorem i_Proof_make_30 : mj_Kc y_Proof_make 30 1 (.int 0) := .inl ⟨0, by decide +kernel, rfl, by decide +kernel⟩
theorem i_Proof_make_31 : mj_Ld y_Proof_make 31 1 1 0 := .inl ⟨rfl, .inr ⟨rfl, 1, rfl, by decide +kernel⟩⟩
theorem i_Proof_make_32 : mj_Cv y_Proof_make 32 y_Proof_grow 3 4 := ⟨by decide, rfl, mt_Proof_grow, 57, by decide +kernel, mm_651, mm_653, mp_16⟩
theorem i_Proof_make_35 : mj_Ld y_Proof_make 35 1 0 2 := .inr (.inr ⟨rfl, .inr ⟨rfl, 0, rfl, by decide +kernel⟩⟩)
theorem i_Proof_make_36 : mj_Gf y_Proof_make 36 3 6 := ⟨by decide, by decide, 31, by decide +kernel, .inl mm_158⟩
theorem i_Proof_make_39 : decode y_Proof_make.2.1 39 = .ok (.ireturn, 1) := by decide +kernel
theorem i_Proof_rowsNeeded_0 : mj_Ld y_Proof_rowsNeeded 0 1 2 0 := .inl ⟨rfl, .inr ⟨rfl, 2, rfl, by decide +kernel⟩⟩
theorem i_Proof_rowsNeeded_1 : mj_If y_Proof_rowsNeeded 1 6 (fun (a : Int32) => 0 < a) := ⟨5, by decide, .inr (.inr (.inr (.inr (.inl ⟨by decide +kernel, rfl⟩))))⟩
theorem i_Proof_rowsNeeded_4 : mj_Kc y_Proof_rowsNeeded 4 1 (.int 1) := .inl ⟨1, by decide +kernel, rfl, by decide +kernel⟩
theorem i_Proof_rowsNeeded_5 : decode y_Proof_rowsNeeded.2.1 5 = .ok (.ireturn, 1) := by decide +kernel
theorem i_Proof_rowsNeeded_6 : mj_Ld y_Proof_rowsNeeded 6 1 0 2 := .inr (.inr ⟨rfl, .inr ⟨rfl, 0, rfl, by decide +kernel⟩⟩)
theorem i_Proof_rowsNeeded_7 : mj_Gf y_Proof_rowsNeeded 7 3 0 := ⟨by decide, by decide, 27, by decide +kernel, .inl mm_152⟩
theorem i_Proof_rowsNeeded_10 : mj_Ld y_Proof_rowsNeeded 10 1 0 2 := .inr (.inr ⟨rfl, .inr ⟨rfl, 0, rfl, by decide +kernel⟩⟩)
theorem i_Proof_rowsNeeded_11 : mj_Gf y_Proof_rowsNeeded 11 3 0 := ⟨by decide, by decide, 27, by decide +kernel, .inl mm_152⟩
theorem i_Proof_rowsNeeded_14 : mj_Ld y_Proof_rowsNeeded 14 1 1 0 := .inl ⟨rfl, .inr ⟨rfl, 1, rfl, by decide +kernel⟩⟩
theorem i_Proof_rowsNeeded_15 : mj_Cv y_Proof_rowsNeeded 15 y_View_leastUnwatched 6 1 := ⟨by decide, rfl, mt_View_leastUnwatched, 61, by decide +kernel, mm_647, mm_522, mm_523⟩
theorem i_Proof_rowsNeeded_18 : mj_Cv y_Proof_rowsNeeded 18 y_View_watchersOf 6 1 := ⟨by decide, rfl, mt_View_watchersOf, 66, by decide +kernel, mm_648, mm_491, mm_492⟩
theorem i_Proof_rowsNeeded_21 : mj_St y_Proof_rowsNeeded 21 1 3 0 := .inl ⟨rfl, .inr ⟨rfl, 3, rfl, by decide +kernel⟩⟩
theorem i_Proof_rowsNeeded_22 : mj_Kc y_Proof_rowsNeeded 22 1 (.int 1) := .inl ⟨1, by decide +kernel, rfl, by decide +kernel⟩
theorem i_Proof_rowsNeeded_23 : mj_St y_Proof_rowsNeeded 23 2 4 0 := .inl ⟨rfl, .inl ⟨rfl, by decide +kernel⟩⟩
theorem i_Proof_rowsNeeded_25 : mj_Kc y_Proof_rowsNeeded 25 1 (.int 0) := .inl ⟨0, by decide +kernel, rfl, by decide +kernel⟩
theorem i_Proof_rowsNeeded_26 : mj_St y_Proof_rowsNeeded 26 2 5 0 := .inl ⟨rfl, .inl ⟨rfl, by decide +kernel⟩⟩
theorem i_Proof_rowsNeeded_28 : mj_Ld y_Proof_rowsNeeded 28 2 5 0 := .inl ⟨rfl, .inl ⟨rfl, by decide +kernel⟩⟩
theorem i_Proof_rowsNeeded_30 : mj_Kc y_Proof_rowsNeeded 30 2 (.int 14) := .inr (.inl ⟨14, by decide +kernel, rfl, by decide +kernel⟩)
theorem i_Proof_rowsNeeded_32 : mj_Ic y_Proof_rowsNeeded 32 77 (fun (a b : Int32) => b ≤ a) := ⟨45, by decide, .inr (.inr (.inr (.inl ⟨by decide +kernel, rfl⟩)))⟩
theorem i_Proof_rowsNeeded_35 : mj_Ld y_Proof_rowsNeeded 35 2 4 0 := .inl ⟨rfl, .inl ⟨rfl, by decide +kernel⟩⟩
theorem i_Proof_rowsNeeded_37 : mj_Kc y_Proof_rowsNeeded 37 3 (.int 600) := .inr (.inr (.inl ⟨600, by decide +kernel, rfl, by decide +kernel⟩))
theorem i_Proof_rowsNeeded_40 : mj_Ic y_Proof_rowsNeeded 40 77 (fun (a b : Int32) => b < a) := ⟨37, by decide, .inr (.inr (.inr (.inr (.inl ⟨by decide +kernel, rfl⟩))))⟩
theorem i_Proof_rowsNeeded_43 : mj_Ld y_Proof_rowsNeeded 43 1 3 0 := .inl ⟨rfl, .inr ⟨rfl, 3, rfl, by decide +kernel⟩⟩
theorem i_Proof_rowsNeeded_44 : mj_Ld y_Proof_rowsNeeded 44 2 5 0 := .inl ⟨rfl, .inl ⟨rfl, by decide +kernel⟩⟩
theorem i_Proof_rowsNeeded_46 : mj_B2 y_Proof_rowsNeeded 46 (fun (a b : Int32) => a >>> (b &&& 31)) := .inr (.inr (.inr (.inr (.inr (.inr (.inr (.inl ⟨by decide +kernel, rfl⟩)))))))
theorem i_Proof_rowsNeeded_47 : mj_Kc y_Proof_rowsNeeded 47 1 (.int 1) := .inl ⟨1, by decide +kernel, rfl, by decide +kernel⟩
theorem i_Proof_rowsNeeded_48 : mj_B2 y_Proof_rowsNeeded 48 (fun (a b : Int32) => a &&& b) := .inr (.inr (.inr (.inl ⟨by decide +kernel, rfl⟩)))
theorem i_Proof_rowsNeeded_49 : mj_Kc y_Proof_rowsNeeded 49 1 (.int 1) := .inl ⟨1, by decide +kernel, rfl, by decide +kernel⟩
theorem i_Proof_rowsNeeded_50 : mj_Ic y_Proof_rowsNeeded 50 71 (fun (a b : Int32) => ¬ a = b) := ⟨21, by decide, .inr (.inl ⟨by decide +kernel, rfl⟩)⟩
theorem i_Proof_rowsNeeded_53 : mj_Ld y_Proof_rowsNeeded 53 2 4 0 := .inl ⟨rfl, .inl ⟨rfl, by decide +kernel⟩⟩
theorem i_Proof_rowsNeeded_55 : mj_Ld y_Proof_rowsNeeded 55 1 0 2 := .inr (.inr ⟨rfl, .inr ⟨rfl, 0, rfl, by decide +kernel⟩⟩)
theorem i_Proof_rowsNeeded_56 : mj_Ld y_Proof_rowsNeeded 56 1 1 0 := .inl ⟨rfl, .inr ⟨rfl, 1, rfl, by decide +kernel⟩⟩
theorem i_Proof_rowsNeeded_57 : mj_Kc y_Proof_rowsNeeded 57 1 (.int 1) := .inl ⟨1, by decide +kernel, rfl, by decide +kernel⟩
theorem i_Proof_rowsNeeded_58 : mj_Ld y_Proof_rowsNeeded 58 2 5 0 := .inl ⟨rfl, .inl ⟨rfl, by decide +kernel⟩⟩
theorem i_Proof_rowsNeeded_60 : mj_B2 y_Proof_rowsNeeded 60 (fun (a b : Int32) => a <<< (b &&& 31)) := .inr (.inr (.inr (.inr (.inr (.inr (.inl ⟨by decide +kernel, rfl⟩))))))
theorem i_Proof_rowsNeeded_61 : mj_B2 y_Proof_rowsNeeded 61 (fun (a b : Int32) => a ||| b) := .inr (.inr (.inr (.inr (.inl ⟨by decide +kernel, rfl⟩))))
theorem i_Proof_rowsNeeded_62 : mj_Ld y_Proof_rowsNeeded 62 1 2 0 := .inl ⟨rfl, .inr ⟨rfl, 2, rfl, by decide +kernel⟩⟩
theorem i_Proof_rowsNeeded_63 : mj_Kc y_Proof_rowsNeeded 63 1 (.int 1) := .inl ⟨1, by decide +kernel, rfl, by decide +kernel⟩
theorem i_Proof_rowsNeeded_64 : mj_B2 y_Proof_rowsNeeded 64 (fun (a b : Int32) => a - b) := .inr (.inl ⟨by decide +kernel, rfl⟩)
theorem i_Proof_rowsNeeded_65 : mj_Cv y_Proof_rowsNeeded 65 y_Proof_rowsNeeded 3 2 := ⟨by decide, rfl, mt_Proof_rowsNeeded, 49, by decide +kernel, mm_643, mm_645, mp_15⟩
theorem i_Proof_rowsNeeded_68 : mj_B2 y_Proof_rowsNeeded 68 (fun (a b : Int32) => a + b) := .inl ⟨by decide +kernel, rfl⟩
theorem i_Proof_rowsNeeded_69 : mj_St y_Proof_rowsNeeded 69 2 4 0 := .inl ⟨rfl, .inl ⟨rfl, by decide +kernel⟩⟩
theorem i_Proof_rowsNeeded_71 : mj_In y_Proof_rowsNeeded 71 5 1 := ⟨1, by decide +kernel, by decide +kernel⟩
theorem i_Proof_rowsNeeded_74 : mj_Go y_Proof_rowsNeeded 74 28 := ⟨(-46), by decide, by decide +kernel⟩
theorem i_Proof_rowsNeeded_77 : mj_Ld y_Proof_rowsNeeded 77 2 4 0 := .inl ⟨rfl, .inl ⟨rfl, by decide +kernel⟩⟩
theorem i_Proof_rowsNeeded_79 : decode y_Proof_rowsNeeded.2.1 79 = .ok (.ireturn, 1) := by decide +kernel
theorem i_Proof_grow_0 : mj_Ld y_Proof_grow 0 1 0 2 := .inr (.inr ⟨rfl, .inr ⟨rfl, 0, rfl, by decide +kernel⟩⟩)
theorem i_Proof_grow_1 : mj_Gf y_Proof_grow 1 3 6 := ⟨by decide, by decide, 31, by decide +kernel, .inl mm_158⟩
theorem i_Proof_grow_4 : mj_Kc y_Proof_grow 4 3 (.int 600) := .inr (.inr (.inl ⟨600, by decide +kernel, rfl, by decide +kernel⟩))
theorem i_Proof_grow_7 : mj_Ic y_Proof_grow 7 15 (fun (a b : Int32) => b ≤ a) := ⟨8, by decide, .inr (.inr (.inr (.inl ⟨by decide +kernel, rfl⟩)))⟩
theorem i_Proof_grow_10 : mj_Ld y_Proof_grow 10 2 4 0 := .inl ⟨rfl, .inl ⟨rfl, by decide +kernel⟩⟩
theorem i_Proof_grow_12 : mj_If y_Proof_grow 12 16 (fun (a : Int32) => 0 ≤ a) := ⟨4, by decide, .inr (.inr (.inr (.inl ⟨by decide +kernel, rfl⟩)))⟩
theorem i_Proof_grow_15 : decode y_Proof_grow.2.1 15 = .ok (.return_, 1) := by decide +kernel
theorem i_Proof_grow_16 : mj_Ld y_Proof_grow 16 1 0 2 := .inr (.inr ⟨rfl, .inr ⟨rfl, 0, rfl, by decide +kernel⟩⟩)
theorem i_Proof_grow_17 : mj_Gf y_Proof_grow 17 3 6 := ⟨by decide, by decide, 31, by decide +kernel, .inl mm_158⟩
theorem i_Proof_grow_20 : mj_St y_Proof_grow 20 2 5 0 := .inl ⟨rfl, .inl ⟨rfl, by decide +kernel⟩⟩
theorem i_Proof_grow_22 : mj_Ld y_Proof_grow 22 1 0 2 := .inr (.inr ⟨rfl, .inr ⟨rfl, 0, rfl, by decide +kernel⟩⟩)
theorem i_Proof_grow_23 : decode y_Proof_grow.2.1 23 = .ok (.dup, 1) := by decide +kernel
theorem i_Proof_grow_24 : mj_Gf y_Proof_grow 24 3 6 := ⟨by decide, by decide, 31, by decide +kernel, .inl mm_158⟩
theorem i_Proof_grow_27 : mj_Kc y_Proof_grow 27 1 (.int 1) := .inl ⟨1, by decide +kernel, rfl, by decide +kernel⟩
theorem i_Proof_grow_28 : mj_B2 y_Proof_grow 28 (fun (a b : Int32) => a + b) := .inl ⟨by decide +kernel, rfl⟩
theorem i_Proof_grow_29 : mj_Pf y_Proof_grow 29 3 6 (.int) := ⟨by decide, by decide, 31, by decide +kernel, mm_158, by decide +kernel, .inl rfl⟩
theorem i_Proof_grow_32 : mj_Ld y_Proof_grow 32 1 0 2 := .inr (.inr ⟨rfl, .inr ⟨rfl, 0, rfl, by decide +kernel⟩⟩)
theorem i_Proof_grow_33 : mj_Gf y_Proof_grow 33 3 0 := ⟨by decide, by decide, 27, by decide +kernel, .inl mm_152⟩
theorem i_Proof_grow_36 : mj_Ld y_Proof_grow 36 1 3 0 := .inl ⟨rfl, .inr ⟨rfl, 3, rfl, by decide +kernel⟩⟩
theorem i_Proof_grow_37 : mj_Cv y_Proof_grow 37 y_View_leastUnwatched 6 1 := ⟨by decide, rfl, mt_View_leastUnwatched, 61, by decide +kernel, mm_647, mm_522, mm_523⟩
theorem i_Proof_grow_40 : mj_St y_Proof_grow 40 2 6 0 := .inl ⟨rfl, .inl ⟨rfl, by decide +kernel⟩⟩
theorem i_Proof_grow_42 : mj_Ld y_Proof_grow 42 2 4 0 := .inl ⟨rfl, .inl ⟨rfl, by decide +kernel⟩⟩
theorem i_Proof_grow_44 : mj_If y_Proof_grow 44 59 (fun (a : Int32) => a ≤ 0) := ⟨15, by decide, .inr (.inr (.inr (.inr (.inr (⟨by decide +kernel, rfl⟩)))))⟩
theorem i_Proof_grow_47 : mj_Ld y_Proof_grow 47 1 0 2 := .inr (.inr ⟨rfl, .inr ⟨rfl, 0, rfl, by decide +kernel⟩⟩)
theorem i_Proof_grow_48 : mj_Gf y_Proof_grow 48 3 0 := ⟨by decide, by decide, 27, by decide +kernel, .inl mm_152⟩
theorem i_Proof_grow_51 : mj_Ld y_Proof_grow 51 2 6 0 := .inl ⟨rfl, .inl ⟨rfl, by decide +kernel⟩⟩
theorem i_Proof_grow_53 : mj_Cv y_Proof_grow 53 y_View_watchersOf 6 1 := ⟨by decide, rfl, mt_View_watchersOf, 66, by decide +kernel, mm_648, mm_491, mm_492⟩
theorem i_Proof_grow_56 : mj_Go y_Proof_grow 56 60 := ⟨4, by decide, by decide +kernel⟩
theorem i_Proof_grow_59 : mj_Kc y_Proof_grow 59 1 (.int 0) := .inl ⟨0, by decide +kernel, rfl, by decide +kernel⟩
theorem i_Proof_grow_60 : mj_St y_Proof_grow 60 2 7 0 := .inl ⟨rfl, .inl ⟨rfl, by decide +kernel⟩⟩
theorem i_Proof_grow_62 : mj_Ld y_Proof_grow 62 1 0 2 := .inr (.inr ⟨rfl, .inr ⟨rfl, 0, rfl, by decide +kernel⟩⟩)
theorem i_Proof_grow_63 : mj_Gf y_Proof_grow 63 3 1 := ⟨by decide, by decide, 9, by decide +kernel, .inl mm_153⟩
theorem i_Proof_grow_66 : mj_Ld y_Proof_grow 66 2 5 0 := .inl ⟨rfl, .inl ⟨rfl, by decide +kernel⟩⟩
theorem i_Proof_grow_68 : mj_Ld y_Proof_grow 68 2 6 0 := .inl ⟨rfl, .inl ⟨rfl, by decide +kernel⟩⟩
theorem i_Proof_grow_70 : decode y_Proof_grow.2.1 70 = .ok (.iastore, 1) := by decide +kernel
theorem i_Proof_grow_71 : mj_Ld y_Proof_grow 71 1 0 2 := .inr (.inr ⟨rfl, .inr ⟨rfl, 0, rfl, by decide +kernel⟩⟩)
theorem i_Proof_grow_72 : mj_Gf y_Proof_grow 72 3 2 := ⟨by decide, by decide, 15, by decide +kernel, .inl mm_154⟩
theorem i_Proof_grow_75 : mj_Ld y_Proof_grow 75 2 5 0 := .inl ⟨rfl, .inl ⟨rfl, by decide +kernel⟩⟩
theorem i_Proof_grow_77 : mj_Ld y_Proof_grow 77 1 1 0 := .inl ⟨rfl, .inr ⟨rfl, 1, rfl, by decide +kernel⟩⟩
theorem i_Proof_grow_78 : decode y_Proof_grow.2.1 78 = .ok (.iastore, 1) := by decide +kernel
theorem i_Proof_grow_79 : mj_Ld y_Proof_grow 79 1 0 2 := .inr (.inr ⟨rfl, .inr ⟨rfl, 0, rfl, by decide +kernel⟩⟩)
theorem i_Proof_grow_80 : mj_Gf y_Proof_grow 80 3 3 := ⟨by decide, by decide, 18, by decide +kernel, .inl mm_155⟩
theorem i_Proof_grow_83 : mj_Ld y_Proof_grow 83 2 5 0 := .inl ⟨rfl, .inl ⟨rfl, by decide +kernel⟩⟩
theorem i_Proof_grow_85 : mj_Ld y_Proof_grow 85 1 2 0 := .inl ⟨rfl, .inr ⟨rfl, 2, rfl, by decide +kernel⟩⟩
theorem i_Proof_grow_86 : decode y_Proof_grow.2.1 86 = .ok (.iastore, 1) := by decide +kernel
theorem i_Proof_grow_87 : mj_Ld y_Proof_grow 87 1 0 2 := .inr (.inr ⟨rfl, .inr ⟨rfl, 0, rfl, by decide +kernel⟩⟩)
theorem i_Proof_grow_88 : mj_Gf y_Proof_grow 88 3 4 := ⟨by decide, by decide, 21, by decide +kernel, .inl mm_156⟩
theorem i_Proof_grow_91 : mj_Ld y_Proof_grow 91 2 5 0 := .inl ⟨rfl, .inl ⟨rfl, by decide +kernel⟩⟩
theorem i_Proof_grow_93 : mj_Ld y_Proof_grow 93 1 3 0 := .inl ⟨rfl, .inr ⟨rfl, 3, rfl, by decide +kernel⟩⟩
theorem i_Proof_grow_94 : decode y_Proof_grow.2.1 94 = .ok (.iastore, 1) := by decide +kernel
theorem i_Proof_grow_95 : mj_Ld y_Proof_grow 95 1 0 2 := .inr (.inr ⟨rfl, .inr ⟨rfl, 0, rfl, by decide +kernel⟩⟩)
theorem i_Proof_grow_96 : mj_Gf y_Proof_grow 96 3 5 := ⟨by decide, by decide, 24, by decide +kernel, .inl mm_157⟩
theorem i_Proof_grow_99 : mj_Ld y_Proof_grow 99 2 5 0 := .inl ⟨rfl, .inl ⟨rfl, by decide +kernel⟩⟩
theorem i_Proof_grow_101 : mj_Ld y_Proof_grow 101 2 7 0 := .inl ⟨rfl, .inl ⟨rfl, by decide +kernel⟩⟩
theorem i_Proof_grow_103 : decode y_Proof_grow.2.1 103 = .ok (.iastore, 1) := by decide +kernel
theorem i_Proof_grow_104 : mj_Kc y_Proof_grow 104 1 (.int 0) := .inl ⟨0, by decide +kernel, rfl, by decide +kernel⟩
theorem i_Proof_grow_105 : mj_St y_Proof_grow 105 2 8 0 := .inl ⟨rfl, .inl ⟨rfl, by decide +kernel⟩⟩
theorem i_Proof_grow_107 : mj_Ld y_Proof_grow 107 2 8 0 := .inl ⟨rfl, .inl ⟨rfl, by decide +kernel⟩⟩
theorem i_Proof_grow_109 : mj_Kc y_Proof_grow 109 2 (.int 14) := .inr (.inl ⟨14, by decide +kernel, rfl, by decide +kernel⟩)
theorem i_Proof_grow_111 : mj_Ic y_Proof_grow 111 149 (fun (a b : Int32) => b ≤ a) := ⟨38, by decide, .inr (.inr (.inr (.inl ⟨by decide +kernel, rfl⟩)))⟩
theorem i_Proof_grow_114 : mj_Ld y_Proof_grow 114 2 7 0 := .inl ⟨rfl, .inl ⟨rfl, by decide +kernel⟩⟩
theorem i_Proof_grow_116 : mj_Ld y_Proof_grow 116 2 8 0 := .inl ⟨rfl, .inl ⟨rfl, by decide +kernel⟩⟩
theorem i_Proof_grow_118 : mj_B2 y_Proof_grow 118 (fun (a b : Int32) => a >>> (b &&& 31)) := .inr (.inr (.inr (.inr (.inr (.inr (.inr (.inl ⟨by decide +kernel, rfl⟩)))))))
theorem i_Proof_grow_119 : mj_Kc y_Proof_grow 119 1 (.int 1) := .inl ⟨1, by decide +kernel, rfl, by decide +kernel⟩
theorem i_Proof_grow_120 : mj_B2 y_Proof_grow 120 (fun (a b : Int32) => a &&& b) := .inr (.inr (.inr (.inl ⟨by decide +kernel, rfl⟩)))
theorem i_Proof_grow_121 : mj_Kc y_Proof_grow 121 1 (.int 1) := .inl ⟨1, by decide +kernel, rfl, by decide +kernel⟩
theorem i_Proof_grow_122 : mj_Ic y_Proof_grow 122 143 (fun (a b : Int32) => ¬ a = b) := ⟨21, by decide, .inr (.inl ⟨by decide +kernel, rfl⟩)⟩
theorem i_Proof_grow_125 : mj_Ld y_Proof_grow 125 1 0 2 := .inr (.inr ⟨rfl, .inr ⟨rfl, 0, rfl, by decide +kernel⟩⟩)
theorem i_Proof_grow_126 : mj_Ld y_Proof_grow 126 2 5 0 := .inl ⟨rfl, .inl ⟨rfl, by decide +kernel⟩⟩
theorem i_Proof_grow_128 : mj_Ld y_Proof_grow 128 2 8 0 := .inl ⟨rfl, .inl ⟨rfl, by decide +kernel⟩⟩
theorem i_Proof_grow_130 : mj_Ld y_Proof_grow 130 1 3 0 := .inl ⟨rfl, .inr ⟨rfl, 3, rfl, by decide +kernel⟩⟩
theorem i_Proof_grow_131 : mj_Kc y_Proof_grow 131 1 (.int 1) := .inl ⟨1, by decide +kernel, rfl, by decide +kernel⟩
theorem i_Proof_grow_132 : mj_Ld y_Proof_grow 132 2 8 0 := .inl ⟨rfl, .inl ⟨rfl, by decide +kernel⟩⟩
theorem i_Proof_grow_134 : mj_B2 y_Proof_grow 134 (fun (a b : Int32) => a <<< (b &&& 31)) := .inr (.inr (.inr (.inr (.inr (.inr (.inl ⟨by decide +kernel, rfl⟩))))))
theorem i_Proof_grow_135 : mj_B2 y_Proof_grow 135 (fun (a b : Int32) => a ||| b) := .inr (.inr (.inr (.inr (.inl ⟨by decide +kernel, rfl⟩))))
theorem i_Proof_grow_136 : mj_Ld y_Proof_grow 136 2 4 0 := .inl ⟨rfl, .inl ⟨rfl, by decide +kernel⟩⟩
theorem i_Proof_grow_138 : mj_Kc y_Proof_grow 138 1 (.int 1) := .inl ⟨1, by decide +kernel, rfl, by decide +kernel⟩
theorem i_Proof_grow_139 : mj_B2 y_Proof_grow 139 (fun (a b : Int32) => a - b) := .inr (.inl ⟨by decide +kernel, rfl⟩)
theorem i_Proof_grow_140 : mj_Cv y_Proof_grow 140 y_Proof_grow 3 4 := ⟨by decide, rfl, mt_Proof_grow, 57, by decide +kernel, mm_651, mm_653, mp_16⟩
theorem i_Proof_grow_143 : mj_In y_Proof_grow 143 8 1 := ⟨1, by decide +kernel, by decide +kernel⟩
theorem i_Proof_grow_146 : mj_Go y_Proof_grow 146 107 := ⟨(-39), by decide, by decide +kernel⟩
theorem i_Proof_grow_149 : decode y_Proof_grow.2.1 149 = .ok (.return_, 1) := by decide +kernel
theorem i_Proof_rows_0 : mj_Ld y_Proof_rows 0 1 0 2 := .inr (.inr ⟨rfl, .inr ⟨rfl, 0, rfl, by decide +kernel⟩⟩)
theorem i_Proof_rows_1 : mj_Gf y_Proof_rows 1 3 6 := ⟨by decide, by decide, 31, by decide +kernel, .inl mm_158⟩
theorem i_Proof_rows_4 : decode y_Proof_rows.2.1 4 = .ok (.ireturn, 1) := by decide +kernel
theorem i_Proof_hasRow_0 : mj_Ld y_Proof_hasRow 0 1 1 0 := .inl ⟨rfl, .inr ⟨rfl, 1, rfl, by decide +kernel⟩⟩
theorem i_Proof_hasRow_1 : mj_If y_Proof_hasRow 1 23 (fun (a : Int32) => a < 0) := ⟨22, by decide, .inr (.inr (.inl ⟨by decide +kernel, rfl⟩))⟩
theorem i_Proof_hasRow_4 : mj_Ld y_Proof_hasRow 4 1 1 0 := .inl ⟨rfl, .inr ⟨rfl, 1, rfl, by decide +kernel⟩⟩
theorem i_Proof_hasRow_5 : mj_Ld y_Proof_hasRow 5 1 0 2 := .inr (.inr ⟨rfl, .inr ⟨rfl, 0, rfl, by decide +kernel⟩⟩)
theorem i_Proof_hasRow_6 : mj_Gf y_Proof_hasRow 6 3 6 := ⟨by decide, by decide, 31, by decide +kernel, .inl mm_158⟩
theorem i_Proof_hasRow_9 : mj_Ic y_Proof_hasRow 9 23 (fun (a b : Int32) => b ≤ a) := ⟨14, by decide, .inr (.inr (.inr (.inl ⟨by decide +kernel, rfl⟩)))⟩
theorem i_Proof_hasRow_12 : mj_Ld y_Proof_hasRow 12 1 1 0 := .inl ⟨rfl, .inr ⟨rfl, 1, rfl, by decide +kernel⟩⟩
theorem i_Proof_hasRow_13 : mj_Kc y_Proof_hasRow 13 3 (.int 600) := .inr (.inr (.inl ⟨600, by decide +kernel, rfl, by decide +kernel⟩))
theorem i_Proof_hasRow_16 : mj_Ic y_Proof_hasRow 16 23 (fun (a b : Int32) => b ≤ a) := ⟨7, by decide, .inr (.inr (.inr (.inl ⟨by decide +kernel, rfl⟩)))⟩
theorem i_Proof_hasRow_19 : mj_Kc y_Proof_hasRow 19 1 (.int 1) := .inl ⟨1, by decide +kernel, rfl, by decide +kernel⟩
theorem i_Proof_hasRow_20 : mj_Go y_Proof_hasRow 20 24 := ⟨4, by decide, by decide +kernel⟩
theorem i_Proof_hasRow_23 : mj_Kc y_Proof_hasRow 23 1 (.int 0) := .inl ⟨0, by decide +kernel, rfl, by decide +kernel⟩
theorem i_Proof_hasRow_24 : decode y_Proof_hasRow.2.1 24 = .ok (.ireturn, 1) := by decide +kernel
theorem i_Proof_cellOf_0 : mj_Ld y_Proof_cellOf 0 1 0 2 := .inr (.inr ⟨rfl, .inr ⟨rfl, 0, rfl, by decide +kernel⟩⟩)
theorem i_Proof_cellOf_1 : mj_Ld y_Proof_cellOf 1 1 1 0 := .inl ⟨rfl, .inr ⟨rfl, 1, rfl, by decide +kernel⟩⟩
theorem i_Proof_cellOf_2 : mj_Cv y_Proof_cellOf 2 y_Proof_hasRow 3 1 := ⟨by decide, rfl, mt_Proof_hasRow, 35, by decide +kernel, mm_671, mm_664, mm_665⟩
theorem i_Proof_cellOf_5 : mj_If y_Proof_cellOf 5 17 (fun (a : Int32) => a = 0) := ⟨12, by decide, .inl ⟨by decide +kernel, rfl⟩⟩
theorem i_Proof_cellOf_8 : mj_Ld y_Proof_cellOf 8 1 0 2 := .inr (.inr ⟨rfl, .inr ⟨rfl, 0, rfl, by decide +kernel⟩⟩)
theorem i_Proof_cellOf_9 : mj_Gf y_Proof_cellOf 9 3 1 := ⟨by decide, by decide, 9, by decide +kernel, .inl mm_153⟩
theorem i_Proof_cellOf_12 : mj_Ld y_Proof_cellOf 12 1 1 0 := .inl ⟨rfl, .inr ⟨rfl, 1, rfl, by decide +kernel⟩⟩
theorem i_Proof_cellOf_13 : decode y_Proof_cellOf.2.1 13 = .ok (.iaload, 1) := by decide +kernel
theorem i_Proof_cellOf_14 : mj_Go y_Proof_cellOf 14 19 := ⟨5, by decide, by decide +kernel⟩
theorem i_Proof_cellOf_17 : mj_Kc y_Proof_cellOf 17 2 (.int (-2000000005)) := .inr (.inr (.inr (.inl ⟨39, (-2000000005), by decide +kernel, rfl, rfl, mm_650⟩)))
theorem i_Proof_cellOf_19 : decode y_Proof_cellOf.2.1 19 = .ok (.ireturn, 1) := by decide +kernel
theorem i_Proof_aboveOf_0 : mj_Ld y_Proof_aboveOf 0 1 0 2 := .inr (.inr ⟨rfl, .inr ⟨rfl, 0, rfl, by decide +kernel⟩⟩)
theorem i_Proof_aboveOf_1 : mj_Ld y_Proof_aboveOf 1 1 1 0 := .inl ⟨rfl, .inr ⟨rfl, 1, rfl, by decide +kernel⟩⟩
theorem i_Proof_aboveOf_2 : mj_Cv y_Proof_aboveOf 2 y_Proof_hasRow 3 1 := ⟨by decide, rfl, mt_Proof_hasRow, 35, by decide +kernel, mm_671, mm_664, mm_665⟩
theorem i_Proof_aboveOf_5 : mj_If y_Proof_aboveOf 5 17 (fun (a : Int32) => a = 0) := ⟨12, by decide, .inl ⟨by decide +kernel, rfl⟩⟩
theorem i_Proof_aboveOf_8 : mj_Ld y_Proof_aboveOf 8 1 0 2 := .inr (.inr ⟨rfl, .inr ⟨rfl, 0, rfl, by decide +kernel⟩⟩)
theorem i_Proof_aboveOf_9 : mj_Gf y_Proof_aboveOf 9 3 2 := ⟨by decide, by decide, 15, by decide +kernel, .inl mm_154⟩
theorem i_Proof_aboveOf_12 : mj_Ld y_Proof_aboveOf 12 1 1 0 := .inl ⟨rfl, .inr ⟨rfl, 1, rfl, by decide +kernel⟩⟩
theorem i_Proof_aboveOf_13 : decode y_Proof_aboveOf.2.1 13 = .ok (.iaload, 1) := by decide +kernel
theorem i_Proof_aboveOf_14 : mj_Go y_Proof_aboveOf 14 19 := ⟨5, by decide, by decide +kernel⟩
theorem i_Proof_aboveOf_17 : mj_Kc y_Proof_aboveOf 17 2 (.int (-2000000005)) := .inr (.inr (.inr (.inl ⟨39, (-2000000005), by decide +kernel, rfl, rfl, mm_650⟩)))
theorem i_Proof_aboveOf_19 : decode y_Proof_aboveOf.2.1 19 = .ok (.ireturn, 1) := by decide +kernel
theorem i_Proof_comerOf_0 : mj_Ld y_Proof_comerOf 0 1 0 2 := .inr (.inr ⟨rfl, .inr ⟨rfl, 0, rfl, by decide +kernel⟩⟩)
theorem i_Proof_comerOf_1 : mj_Ld y_Proof_comerOf 1 1 1 0 := .inl ⟨rfl, .inr ⟨rfl, 1, rfl, by decide +kernel⟩⟩
theorem i_Proof_comerOf_2 : mj_Cv y_Proof_comerOf 2 y_Proof_hasRow 3 1 := ⟨by decide, rfl, mt_Proof_hasRow, 35, by decide +kernel, mm_671, mm_664, mm_665⟩
theorem i_Proof_comerOf_5 : mj_If y_Proof_comerOf 5 17 (fun (a : Int32) => a = 0) := ⟨12, by decide, .inl ⟨by decide +kernel, rfl⟩⟩
theorem i_Proof_comerOf_8 : mj_Ld y_Proof_comerOf 8 1 0 2 := .inr (.inr ⟨rfl, .inr ⟨rfl, 0, rfl, by decide +kernel⟩⟩)
theorem i_Proof_comerOf_9 : mj_Gf y_Proof_comerOf 9 3 3 := ⟨by decide, by decide, 18, by decide +kernel, .inl mm_155⟩
theorem i_Proof_comerOf_12 : mj_Ld y_Proof_comerOf 12 1 1 0 := .inl ⟨rfl, .inr ⟨rfl, 1, rfl, by decide +kernel⟩⟩
theorem i_Proof_comerOf_13 : decode y_Proof_comerOf.2.1 13 = .ok (.iaload, 1) := by decide +kernel
theorem i_Proof_comerOf_14 : mj_Go y_Proof_comerOf 14 19 := ⟨5, by decide, by decide +kernel⟩
theorem i_Proof_comerOf_17 : mj_Kc y_Proof_comerOf 17 2 (.int (-2000000005)) := .inr (.inr (.inr (.inl ⟨39, (-2000000005), by decide +kernel, rfl, rfl, mm_650⟩)))
theorem i_Proof_comerOf_19 : decode y_Proof_comerOf.2.1 19 = .ok (.ireturn, 1) := by decide +kernel
theorem i_Proof_rowsBelow_0 : mj_Ld y_Proof_rowsBelow 0 1 0 2 := .inr (.inr ⟨rfl, .inr ⟨rfl, 0, rfl, by decide +kernel⟩⟩)
theorem i_Proof_rowsBelow_1 : mj_Ld y_Proof_rowsBelow 1 1 1 0 := .inl ⟨rfl, .inr ⟨rfl, 1, rfl, by decide +kernel⟩⟩
theorem i_Proof_rowsBelow_2 : mj_Cv y_Proof_rowsBelow 2 y_Proof_hasRow 3 1 := ⟨by decide, rfl, mt_Proof_hasRow, 35, by decide +kernel, mm_671, mm_664, mm_665⟩
theorem i_Proof_rowsBelow_5 : mj_If y_Proof_rowsBelow 5 20 (fun (a : Int32) => a = 0) := ⟨15, by decide, .inl ⟨by decide +kernel, rfl⟩⟩
theorem i_Proof_rowsBelow_8 : mj_Ld y_Proof_rowsBelow 8 1 0 2 := .inr (.inr ⟨rfl, .inr ⟨rfl, 0, rfl, by decide +kernel⟩⟩)
theorem i_Proof_rowsBelow_9 : mj_Gf y_Proof_rowsBelow 9 3 5 := ⟨by decide, by decide, 24, by decide +kernel, .inl mm_157⟩
theorem i_Proof_rowsBelow_12 : mj_Ld y_Proof_rowsBelow 12 1 1 0 := .inl ⟨rfl, .inr ⟨rfl, 1, rfl, by decide +kernel⟩⟩
theorem i_Proof_rowsBelow_13 : decode y_Proof_rowsBelow.2.1 13 = .ok (.iaload, 1) := by decide +kernel
theorem i_Proof_rowsBelow_14 : mj_Cs y_Proof_rowsBelow 14 y_Integer_bitCount 1 := ⟨mt_Integer_bitCount, 40, by decide +kernel, mm_685, .inl mm_684⟩
theorem i_Proof_rowsBelow_17 : mj_Go y_Proof_rowsBelow 17 21 := ⟨4, by decide, by decide +kernel⟩
theorem i_Proof_rowsBelow_20 : mj_Kc y_Proof_rowsBelow 20 1 (.int 0) := .inl ⟨0, by decide +kernel, rfl, by decide +kernel⟩
theorem i_Proof_rowsBelow_21 : decode y_Proof_rowsBelow.2.1 21 = .ok (.ireturn, 1) := by decide +kernel
theorem i_Proof_replaceCell_0 : mj_Ld y_Proof_replaceCell 0 1 0 2 := .inr (.inr ⟨rfl, .inr ⟨rfl, 0, rfl, by decide +kernel⟩⟩)
theorem i_Proof_replaceCell_1 : mj_Ld y_Proof_replaceCell 1 1 1 0 := .inl ⟨rfl, .inr ⟨rfl, 1, rfl, by decide +kernel⟩⟩
theorem i_Proof_replaceCell_2 : mj_Cv y_Proof_replaceCell 2 y_Proof_cellOf 3 1 := ⟨by decide, rfl, mt_Proof_cellOf, 46, by decide +kernel, mm_698, mm_668, mm_669⟩
theorem i_Proof_replaceCell_5 : mj_St y_Proof_replaceCell 5 1 3 0 := .inl ⟨rfl, .inr ⟨rfl, 3, rfl, by decide +kernel⟩⟩
theorem i_Proof_replaceCell_6 : mj_Ld y_Proof_replaceCell 6 1 0 2 := .inr (.inr ⟨rfl, .inr ⟨rfl, 0, rfl, by decide +kernel⟩⟩)
theorem i_Proof_replaceCell_7 : mj_Ld y_Proof_replaceCell 7 1 1 0 := .inl ⟨rfl, .inr ⟨rfl, 1, rfl, by decide +kernel⟩⟩
theorem i_Proof_replaceCell_8 : mj_Cv y_Proof_replaceCell 8 y_Proof_hasRow 3 1 := ⟨by decide, rfl, mt_Proof_hasRow, 35, by decide +kernel, mm_671, mm_664, mm_665⟩
theorem i_Proof_replaceCell_11 : mj_If y_Proof_replaceCell 11 21 (fun (a : Int32) => a = 0) := ⟨10, by decide, .inl ⟨by decide +kernel, rfl⟩⟩
theorem i_Proof_replaceCell_14 : mj_Ld y_Proof_replaceCell 14 1 0 2 := .inr (.inr ⟨rfl, .inr ⟨rfl, 0, rfl, by decide +kernel⟩⟩)
theorem i_Proof_replaceCell_15 : mj_Gf y_Proof_replaceCell 15 3 1 := ⟨by decide, by decide, 9, by decide +kernel, .inl mm_153⟩
theorem i_Proof_replaceCell_18 : mj_Ld y_Proof_replaceCell 18 1 1 0 := .inl ⟨rfl, .inr ⟨rfl, 1, rfl, by decide +kernel⟩⟩
theorem i_Proof_replaceCell_19 : mj_Ld y_Proof_replaceCell 19 1 2 0 := .inl ⟨rfl, .inr ⟨rfl, 2, rfl, by decide +kernel⟩⟩
theorem i_Proof_replaceCell_20 : decode y_Proof_replaceCell.2.1 20 = .ok (.iastore, 1) := by decide +kernel
theorem i_Proof_replaceCell_21 : mj_Ld y_Proof_replaceCell 21 1 3 0 := .inl ⟨rfl, .inr ⟨rfl, 3, rfl, by decide +kernel⟩⟩
theorem i_Proof_replaceCell_22 : decode y_Proof_replaceCell.2.1 22 = .ok (.ireturn, 1) := by decide +kernel
theorem i_Proof_firstWrongRow_0 : mj_Kc y_Proof_firstWrongRow 0 1 (.int 0) := .inl ⟨0, by decide +kernel, rfl, by decide +kernel⟩
theorem i_Proof_firstWrongRow_1 : mj_St y_Proof_firstWrongRow 1 1 1 0 := .inl ⟨rfl, .inr ⟨rfl, 1, rfl, by decide +kernel⟩⟩
theorem i_Proof_firstWrongRow_2 : mj_Ld y_Proof_firstWrongRow 2 1 1 0 := .inl ⟨rfl, .inr ⟨rfl, 1, rfl, by decide +kernel⟩⟩
theorem i_Proof_firstWrongRow_3 : mj_Ld y_Proof_firstWrongRow 3 1 0 2 := .inr (.inr ⟨rfl, .inr ⟨rfl, 0, rfl, by decide +kernel⟩⟩)
theorem i_Proof_firstWrongRow_4 : mj_Gf y_Proof_firstWrongRow 4 3 6 := ⟨by decide, by decide, 31, by decide +kernel, .inl mm_158⟩
theorem i_Proof_firstWrongRow_7 : mj_Ic y_Proof_firstWrongRow 7 33 (fun (a b : Int32) => b ≤ a) := ⟨26, by decide, .inr (.inr (.inr (.inl ⟨by decide +kernel, rfl⟩)))⟩
theorem i_Proof_firstWrongRow_10 : mj_Ld y_Proof_firstWrongRow 10 1 1 0 := .inl ⟨rfl, .inr ⟨rfl, 1, rfl, by decide +kernel⟩⟩
theorem i_Proof_firstWrongRow_11 : mj_Kc y_Proof_firstWrongRow 11 3 (.int 600) := .inr (.inr (.inl ⟨600, by decide +kernel, rfl, by decide +kernel⟩))
theorem i_Proof_firstWrongRow_14 : mj_Ic y_Proof_firstWrongRow 14 33 (fun (a b : Int32) => b ≤ a) := ⟨19, by decide, .inr (.inr (.inr (.inl ⟨by decide +kernel, rfl⟩)))⟩
theorem i_Proof_firstWrongRow_17 : mj_Ld y_Proof_firstWrongRow 17 1 0 2 := .inr (.inr ⟨rfl, .inr ⟨rfl, 0, rfl, by decide +kernel⟩⟩)
theorem i_Proof_firstWrongRow_18 : mj_Ld y_Proof_firstWrongRow 18 1 1 0 := .inl ⟨rfl, .inr ⟨rfl, 1, rfl, by decide +kernel⟩⟩
theorem i_Proof_firstWrongRow_19 : mj_Cv y_Proof_firstWrongRow 19 y_Proof_isRight 3 1 := ⟨by decide, rfl, mt_Proof_isRight, 69, by decide +kernel, mm_707, mm_709, mp_17⟩
theorem i_Proof_firstWrongRow_22 : mj_If y_Proof_firstWrongRow 22 27 (fun (a : Int32) => ¬ a = 0) := ⟨5, by decide, .inr (.inl ⟨by decide +kernel, rfl⟩)⟩
theorem i_Proof_firstWrongRow_25 : mj_Ld y_Proof_firstWrongRow 25 1 1 0 := .inl ⟨rfl, .inr ⟨rfl, 1, rfl, by decide +kernel⟩⟩
theorem i_Proof_firstWrongRow_26 : decode y_Proof_firstWrongRow.2.1 26 = .ok (.ireturn, 1) := by decide +kernel
theorem i_Proof_firstWrongRow_27 : mj_In y_Proof_firstWrongRow 27 1 1 := ⟨1, by decide +kernel, by decide +kernel⟩
theorem i_Proof_firstWrongRow_30 : mj_Go y_Proof_firstWrongRow 30 2 := ⟨(-28), by decide, by decide +kernel⟩
theorem i_Proof_firstWrongRow_33 : mj_Kc y_Proof_firstWrongRow 33 2 (.int (-2000000005)) := .inr (.inr (.inr (.inl ⟨39, (-2000000005), by decide +kernel, rfl, rfl, mm_650⟩)))
theorem i_Proof_firstWrongRow_35 : decode y_Proof_firstWrongRow.2.1 35 = .ok (.ireturn, 1) := by decide +kernel
theorem i_Proof_isRight_0 : mj_Ld y_Proof_isRight 0 1 0 2 := .inr (.inr ⟨rfl, .inr ⟨rfl, 0, rfl, by decide +kernel⟩⟩)
theorem i_Proof_isRight_1 : mj_Gf y_Proof_isRight 1 3 0 := ⟨by decide, by decide, 27, by decide +kernel, .inl mm_152⟩
theorem i_Proof_isRight_4 : mj_Ld y_Proof_isRight 4 1 0 2 := .inr (.inr ⟨rfl, .inr ⟨rfl, 0, rfl, by decide +kernel⟩⟩)
theorem i_Proof_isRight_5 : mj_Gf y_Proof_isRight 5 3 1 := ⟨by decide, by decide, 9, by decide +kernel, .inl mm_153⟩
theorem i_Proof_isRight_8 : mj_Ld y_Proof_isRight 8 1 1 0 := .inl ⟨rfl, .inr ⟨rfl, 1, rfl, by decide +kernel⟩⟩
theorem i_Proof_isRight_9 : decode y_Proof_isRight.2.1 9 = .ok (.iaload, 1) := by decide +kernel
theorem i_Proof_isRight_10 : mj_Cv y_Proof_isRight 10 y_View_watchersOf 6 1 := ⟨by decide, rfl, mt_View_watchersOf, 66, by decide +kernel, mm_648, mm_491, mm_492⟩
theorem i_Proof_isRight_13 : mj_St y_Proof_isRight 13 1 2 0 := .inl ⟨rfl, .inr ⟨rfl, 2, rfl, by decide +kernel⟩⟩
theorem i_Proof_isRight_14 : mj_Ld y_Proof_isRight 14 1 0 2 := .inr (.inr ⟨rfl, .inr ⟨rfl, 0, rfl, by decide +kernel⟩⟩)
theorem i_Proof_isRight_15 : mj_Gf y_Proof_isRight 15 3 4 := ⟨by decide, by decide, 21, by decide +kernel, .inl mm_156⟩
theorem i_Proof_isRight_18 : mj_Ld y_Proof_isRight 18 1 1 0 := .inl ⟨rfl, .inr ⟨rfl, 1, rfl, by decide +kernel⟩⟩
theorem i_Proof_isRight_19 : decode y_Proof_isRight.2.1 19 = .ok (.iaload, 1) := by decide +kernel
theorem i_Proof_isRight_20 : mj_St y_Proof_isRight 20 1 3 0 := .inl ⟨rfl, .inr ⟨rfl, 3, rfl, by decide +kernel⟩⟩
theorem i_Proof_isRight_21 : mj_Ld y_Proof_isRight 21 1 0 2 := .inr (.inr ⟨rfl, .inr ⟨rfl, 0, rfl, by decide +kernel⟩⟩)
theorem i_Proof_isRight_22 : mj_Gf y_Proof_isRight 22 3 0 := ⟨by decide, by decide, 27, by decide +kernel, .inl mm_152⟩
theorem i_Proof_isRight_25 : mj_Gf y_Proof_isRight 25 6 0 := ⟨by decide, by decide, 72, by decide +kernel, .inr ⟨"GalleryWatch", mm_57⟩⟩
theorem i_Proof_isRight_28 : mj_Ld y_Proof_isRight 28 1 0 2 := .inr (.inr ⟨rfl, .inr ⟨rfl, 0, rfl, by decide +kernel⟩⟩)
theorem i_Proof_isRight_29 : mj_Gf y_Proof_isRight 29 3 1 := ⟨by decide, by decide, 9, by decide +kernel, .inl mm_153⟩
theorem i_Proof_isRight_32 : mj_Ld y_Proof_isRight 32 1 1 0 := .inl ⟨rfl, .inr ⟨rfl, 1, rfl, by decide +kernel⟩⟩
theorem i_Proof_isRight_33 : decode y_Proof_isRight.2.1 33 = .ok (.iaload, 1) := by decide +kernel
theorem i_Proof_isRight_34 : mj_Cv y_Proof_isRight 34 y_Room_isOpen 4 1 := ⟨by decide, rfl, mt_Room_isOpen, 76, by decide +kernel, mm_711, mm_285, mm_286⟩
theorem i_Proof_isRight_37 : mj_If y_Proof_isRight 37 46 (fun (a : Int32) => a = 0) := ⟨9, by decide, .inl ⟨by decide +kernel, rfl⟩⟩
theorem i_Proof_isRight_40 : mj_Ld y_Proof_isRight 40 1 2 0 := .inl ⟨rfl, .inr ⟨rfl, 2, rfl, by decide +kernel⟩⟩
theorem i_Proof_isRight_41 : mj_Ld y_Proof_isRight 41 1 3 0 := .inl ⟨rfl, .inr ⟨rfl, 3, rfl, by decide +kernel⟩⟩
theorem i_Proof_isRight_42 : mj_B2 y_Proof_isRight 42 (fun (a b : Int32) => a &&& b) := .inr (.inr (.inr (.inl ⟨by decide +kernel, rfl⟩)))
theorem i_Proof_isRight_43 : mj_If y_Proof_isRight 43 48 (fun (a : Int32) => a = 0) := ⟨5, by decide, .inl ⟨by decide +kernel, rfl⟩⟩
theorem i_Proof_isRight_46 : mj_Kc y_Proof_isRight 46 1 (.int 0) := .inl ⟨0, by decide +kernel, rfl, by decide +kernel⟩
theorem i_Proof_isRight_47 : decode y_Proof_isRight.2.1 47 = .ok (.ireturn, 1) := by decide +kernel
theorem i_Proof_isRight_48 : mj_Ld y_Proof_isRight 48 1 3 0 := .inl ⟨rfl, .inr ⟨rfl, 3, rfl, by decide +kernel⟩⟩
theorem i_Proof_isRight_49 : mj_Cs y_Proof_isRight 49 y_Integer_bitCount 1 := ⟨mt_Integer_bitCount, 40, by decide +kernel, mm_685, .inl mm_684⟩
theorem i_Proof_isRight_52 : mj_Ld y_Proof_isRight 52 1 0 2 := .inr (.inr ⟨rfl, .inr ⟨rfl, 0, rfl, by decide +kernel⟩⟩)
theorem i_Proof_isRight_53 : mj_Gf y_Proof_isRight 53 3 7 := ⟨by decide, by decide, 54, by decide +kernel, .inl mm_159⟩
theorem i_Proof_isRight_56 : mj_Ic y_Proof_isRight 56 69 (fun (a b : Int32) => b ≤ a) := ⟨13, by decide, .inr (.inr (.inr (.inl ⟨by decide +kernel, rfl⟩)))⟩
theorem i_Proof_isRight_59 : mj_Ld y_Proof_isRight 59 1 0 2 := .inr (.inr ⟨rfl, .inr ⟨rfl, 0, rfl, by decide +kernel⟩⟩)
theorem i_Proof_isRight_60 : mj_Gf y_Proof_isRight 60 3 5 := ⟨by decide, by decide, 24, by decide +kernel, .inl mm_157⟩
theorem i_Proof_isRight_63 : mj_Ld y_Proof_isRight 63 1 1 0 := .inl ⟨rfl, .inr ⟨rfl, 1, rfl, by decide +kernel⟩⟩
theorem i_Proof_isRight_64 : decode y_Proof_isRight.2.1 64 = .ok (.iaload, 1) := by decide +kernel
theorem i_Proof_isRight_65 : mj_Ld y_Proof_isRight 65 1 2 0 := .inl ⟨rfl, .inr ⟨rfl, 2, rfl, by decide +kernel⟩⟩
theorem i_Proof_isRight_66 : mj_Ic y_Proof_isRight 66 73 (fun (a b : Int32) => ¬ a = b) := ⟨7, by decide, .inr (.inl ⟨by decide +kernel, rfl⟩)⟩
theorem i_Proof_isRight_69 : mj_Kc y_Proof_isRight 69 1 (.int 1) := .inl ⟨1, by decide +kernel, rfl, by decide +kernel⟩
theorem i_Proof_isRight_70 : mj_Go y_Proof_isRight 70 74 := ⟨4, by decide, by decide +kernel⟩
theorem i_Proof_isRight_73 : mj_Kc y_Proof_isRight 73 1 (.int 0) := .inl ⟨0, by decide +kernel, rfl, by decide +kernel⟩
theorem i_Proof_isRight_74 : decode y_Proof_isRight.2.1 74 = .ok (.ireturn, 1) := by decide +kernel
