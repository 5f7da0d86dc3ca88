/-! what stands at each place of the methods: Shade View Choice Proof -/
theorem i_Shade_init_0 : mj_Ld y_Shade_init 0 1 0 2 := .inr (.inr ⟨rfl, .inr ⟨rfl, 0, rfl, by decide +kernel⟩⟩)
theorem i_Shade_init_1 : mj_Oi y_Shade_init 1 := ⟨3, by decide +kernel, mm_135⟩
theorem i_Shade_init_4 : mj_Ld y_Shade_init 4 1 0 2 := .inr (.inr ⟨rfl, .inr ⟨rfl, 0, rfl, by decide +kernel⟩⟩)
theorem i_Shade_init_5 : mj_Kc y_Shade_init 5 2 (.int 100) := .inr (.inl ⟨100, by decide +kernel, rfl, by decide +kernel⟩)
theorem i_Shade_init_7 : mj_Na y_Shade_init 7 0 := .inl ⟨rfl, by decide +kernel⟩
theorem i_Shade_init_9 : mj_Pf y_Shade_init 9 5 1 (.array .int) := ⟨by decide, by decide, 9, by decide +kernel, mm_137, by decide +kernel, .inr ⟨rfl, rfl, rfl⟩⟩
theorem i_Shade_init_12 : mj_Ld y_Shade_init 12 1 0 2 := .inr (.inr ⟨rfl, .inr ⟨rfl, 0, rfl, by decide +kernel⟩⟩)
theorem i_Shade_init_13 : mj_Kc y_Shade_init 13 2 (.int 100) := .inr (.inl ⟨100, by decide +kernel, rfl, by decide +kernel⟩)
theorem i_Shade_init_15 : mj_Na y_Shade_init 15 0 := .inl ⟨rfl, by decide +kernel⟩
theorem i_Shade_init_17 : mj_Pf y_Shade_init 17 5 2 (.array .int) := ⟨by decide, by decide, 15, by decide +kernel, mm_138, by decide +kernel, .inr ⟨rfl, rfl, rfl⟩⟩
theorem i_Shade_init_20 : mj_Ld y_Shade_init 20 1 0 2 := .inr (.inr ⟨rfl, .inr ⟨rfl, 0, rfl, by decide +kernel⟩⟩)
theorem i_Shade_init_21 : mj_Ld y_Shade_init 21 1 1 2 := .inr (.inr ⟨rfl, .inr ⟨rfl, 1, rfl, by decide +kernel⟩⟩)
theorem i_Shade_init_22 : mj_Pf y_Shade_init 22 5 0 (.object "GalleryWatch$View") := ⟨by decide, by decide, 18, by decide +kernel, mm_136, by decide +kernel, .inr ⟨rfl, rfl, rfl⟩⟩
theorem i_Shade_init_25 : decode y_Shade_init.2.1 25 = .ok (.return_, 1) := by decide +kernel
theorem i_Shade_stepsBetween_0 : mj_Ld y_Shade_stepsBetween 0 1 0 2 := .inr (.inr ⟨rfl, .inr ⟨rfl, 0, rfl, by decide +kernel⟩⟩)
theorem i_Shade_stepsBetween_1 : mj_Gf y_Shade_stepsBetween 1 5 1 := ⟨by decide, by decide, 9, by decide +kernel, .inl mm_137⟩
theorem i_Shade_stepsBetween_4 : mj_Kc y_Shade_stepsBetween 4 1 (.int (-1)) := .inl ⟨(-1), by decide +kernel, rfl, by decide +kernel⟩
theorem i_Shade_stepsBetween_5 : mj_Cs y_Shade_stepsBetween 5 y_Arrays_fill 2 := ⟨mt_Arrays_fill, 22, by decide +kernel, mm_212, .inl mm_595⟩
theorem i_Shade_stepsBetween_8 : mj_Ld y_Shade_stepsBetween 8 1 0 2 := .inr (.inr ⟨rfl, .inr ⟨rfl, 0, rfl, by decide +kernel⟩⟩)
theorem i_Shade_stepsBetween_9 : mj_Ld y_Shade_stepsBetween 9 1 2 0 := .inl ⟨rfl, .inr ⟨rfl, 2, rfl, by decide +kernel⟩⟩
theorem i_Shade_stepsBetween_10 : mj_Cv y_Shade_stepsBetween 10 y_Shade_spread 5 1 := ⟨by decide, rfl, mt_Shade_spread, 28, by decide +kernel, mm_596, mm_598, mp_11⟩
theorem i_Shade_stepsBetween_13 : mj_Ld y_Shade_stepsBetween 13 1 0 2 := .inr (.inr ⟨rfl, .inr ⟨rfl, 0, rfl, by decide +kernel⟩⟩)
theorem i_Shade_stepsBetween_14 : mj_Ld y_Shade_stepsBetween 14 1 1 0 := .inl ⟨rfl, .inr ⟨rfl, 1, rfl, by decide +kernel⟩⟩
theorem i_Shade_stepsBetween_15 : mj_Cv y_Shade_stepsBetween 15 y_Shade_stepsOf 5 1 := ⟨by decide, rfl, mt_Shade_stepsOf, 32, by decide +kernel, mm_608, mm_610, mp_13⟩
theorem i_Shade_stepsBetween_18 : mj_St y_Shade_stepsBetween 18 1 3 0 := .inl ⟨rfl, .inr ⟨rfl, 3, rfl, by decide +kernel⟩⟩
theorem i_Shade_stepsBetween_19 : mj_Ld y_Shade_stepsBetween 19 1 3 0 := .inl ⟨rfl, .inr ⟨rfl, 3, rfl, by decide +kernel⟩⟩
theorem i_Shade_stepsBetween_20 : mj_Kc y_Shade_stepsBetween 20 1 (.int (-1)) := .inl ⟨(-1), by decide +kernel, rfl, by decide +kernel⟩
theorem i_Shade_stepsBetween_21 : mj_Ic y_Shade_stepsBetween 21 29 (fun (a b : Int32) => ¬ a = b) := ⟨8, by decide, .inr (.inl ⟨by decide +kernel, rfl⟩)⟩
theorem i_Shade_stepsBetween_24 : mj_Kc y_Shade_stepsBetween 24 2 (.int (-2000000005)) := .inr (.inr (.inr (.inl ⟨36, (-2000000005), by decide +kernel, rfl, rfl, mm_613⟩)))
theorem i_Shade_stepsBetween_26 : mj_Go y_Shade_stepsBetween 26 30 := ⟨4, by decide, by decide +kernel⟩
theorem i_Shade_stepsBetween_29 : mj_Ld y_Shade_stepsBetween 29 1 3 0 := .inl ⟨rfl, .inr ⟨rfl, 3, rfl, by decide +kernel⟩⟩
theorem i_Shade_stepsBetween_30 : decode y_Shade_stepsBetween.2.1 30 = .ok (.ireturn, 1) := by decide +kernel
theorem i_Shade_spread_0 : mj_Ld y_Shade_spread 0 1 0 2 := .inr (.inr ⟨rfl, .inr ⟨rfl, 0, rfl, by decide +kernel⟩⟩)
theorem i_Shade_spread_1 : mj_Ld y_Shade_spread 1 1 1 0 := .inl ⟨rfl, .inr ⟨rfl, 1, rfl, by decide +kernel⟩⟩
theorem i_Shade_spread_2 : mj_Kc y_Shade_spread 2 1 (.int 0) := .inl ⟨0, by decide +kernel, rfl, by decide +kernel⟩
theorem i_Shade_spread_3 : mj_Kc y_Shade_spread 3 1 (.int 0) := .inl ⟨0, by decide +kernel, rfl, by decide +kernel⟩
theorem i_Shade_spread_4 : mj_Cv y_Shade_spread 4 y_Shade_enter 5 3 := ⟨by decide, rfl, mt_Shade_enter, 50, by decide +kernel, mm_600, mm_602, mp_12⟩
theorem i_Shade_spread_7 : mj_St y_Shade_spread 7 1 2 0 := .inl ⟨rfl, .inr ⟨rfl, 2, rfl, by decide +kernel⟩⟩
theorem i_Shade_spread_8 : mj_Kc y_Shade_spread 8 1 (.int 0) := .inl ⟨0, by decide +kernel, rfl, by decide +kernel⟩
theorem i_Shade_spread_9 : mj_St y_Shade_spread 9 1 3 0 := .inl ⟨rfl, .inr ⟨rfl, 3, rfl, by decide +kernel⟩⟩
theorem i_Shade_spread_10 : mj_Ld y_Shade_spread 10 1 3 0 := .inl ⟨rfl, .inr ⟨rfl, 3, rfl, by decide +kernel⟩⟩
theorem i_Shade_spread_11 : mj_Ld y_Shade_spread 11 1 2 0 := .inl ⟨rfl, .inr ⟨rfl, 2, rfl, by decide +kernel⟩⟩
theorem i_Shade_spread_12 : mj_Ic y_Shade_spread 12 78 (fun (a b : Int32) => b ≤ a) := ⟨66, by decide, .inr (.inr (.inr (.inl ⟨by decide +kernel, rfl⟩)))⟩
theorem i_Shade_spread_15 : mj_Ld y_Shade_spread 15 1 3 0 := .inl ⟨rfl, .inr ⟨rfl, 3, rfl, by decide +kernel⟩⟩
theorem i_Shade_spread_16 : mj_Kc y_Shade_spread 16 2 (.int 100) := .inr (.inl ⟨100, by decide +kernel, rfl, by decide +kernel⟩)
theorem i_Shade_spread_18 : mj_Ic y_Shade_spread 18 78 (fun (a b : Int32) => b ≤ a) := ⟨60, by decide, .inr (.inr (.inr (.inl ⟨by decide +kernel, rfl⟩)))⟩
theorem i_Shade_spread_21 : mj_Ld y_Shade_spread 21 1 0 2 := .inr (.inr ⟨rfl, .inr ⟨rfl, 0, rfl, by decide +kernel⟩⟩)
theorem i_Shade_spread_22 : mj_Gf y_Shade_spread 22 5 2 := ⟨by decide, by decide, 15, by decide +kernel, .inl mm_138⟩
theorem i_Shade_spread_25 : mj_Ld y_Shade_spread 25 1 3 0 := .inl ⟨rfl, .inr ⟨rfl, 3, rfl, by decide +kernel⟩⟩
theorem i_Shade_spread_26 : decode y_Shade_spread.2.1 26 = .ok (.iaload, 1) := by decide +kernel
theorem i_Shade_spread_27 : mj_St y_Shade_spread 27 2 4 0 := .inl ⟨rfl, .inl ⟨rfl, by decide +kernel⟩⟩
theorem i_Shade_spread_29 : mj_Kc y_Shade_spread 29 1 (.int 0) := .inl ⟨0, by decide +kernel, rfl, by decide +kernel⟩
theorem i_Shade_spread_30 : mj_St y_Shade_spread 30 2 5 0 := .inl ⟨rfl, .inl ⟨rfl, by decide +kernel⟩⟩
theorem i_Shade_spread_32 : mj_Ld y_Shade_spread 32 2 5 0 := .inl ⟨rfl, .inl ⟨rfl, by decide +kernel⟩⟩
theorem i_Shade_spread_34 : mj_Kc y_Shade_spread 34 1 (.int 4) := .inl ⟨4, by decide +kernel, rfl, by decide +kernel⟩
theorem i_Shade_spread_35 : mj_Ic y_Shade_spread 35 72 (fun (a b : Int32) => b ≤ a) := ⟨37, by decide, .inr (.inr (.inr (.inl ⟨by decide +kernel, rfl⟩)))⟩
theorem i_Shade_spread_38 : mj_Ld y_Shade_spread 38 1 0 2 := .inr (.inr ⟨rfl, .inr ⟨rfl, 0, rfl, by decide +kernel⟩⟩)
theorem i_Shade_spread_39 : mj_Ld y_Shade_spread 39 1 0 2 := .inr (.inr ⟨rfl, .inr ⟨rfl, 0, rfl, by decide +kernel⟩⟩)
theorem i_Shade_spread_40 : mj_Gf y_Shade_spread 40 5 0 := ⟨by decide, by decide, 18, by decide +kernel, .inl mm_136⟩
theorem i_Shade_spread_43 : mj_Gf y_Shade_spread 43 6 0 := ⟨by decide, by decide, 54, by decide +kernel, .inr ⟨"GalleryWatch", mm_56⟩⟩
theorem i_Shade_spread_46 : mj_Ld y_Shade_spread 46 2 4 0 := .inl ⟨rfl, .inl ⟨rfl, by decide +kernel⟩⟩
theorem i_Shade_spread_48 : mj_Ld y_Shade_spread 48 2 5 0 := .inl ⟨rfl, .inl ⟨rfl, by decide +kernel⟩⟩
theorem i_Shade_spread_50 : mj_Cv y_Shade_spread 50 y_Room_beside 4 2 := ⟨by decide, rfl, mt_Room_beside, 58, by decide +kernel, mm_612, mm_301, mm_302⟩
theorem i_Shade_spread_53 : mj_Ld y_Shade_spread 53 1 0 2 := .inr (.inr ⟨rfl, .inr ⟨rfl, 0, rfl, by decide +kernel⟩⟩)
theorem i_Shade_spread_54 : mj_Ld y_Shade_spread 54 2 4 0 := .inl ⟨rfl, .inl ⟨rfl, by decide +kernel⟩⟩
theorem i_Shade_spread_56 : mj_Cv y_Shade_spread 56 y_Shade_stepsOf 5 1 := ⟨by decide, rfl, mt_Shade_stepsOf, 32, by decide +kernel, mm_608, mm_610, mp_13⟩
theorem i_Shade_spread_59 : mj_Kc y_Shade_spread 59 1 (.int 1) := .inl ⟨1, by decide +kernel, rfl, by decide +kernel⟩
theorem i_Shade_spread_60 : mj_B2 y_Shade_spread 60 (fun (a b : Int32) => a + b) := .inl ⟨by decide +kernel, rfl⟩
theorem i_Shade_spread_61 : mj_Ld y_Shade_spread 61 1 2 0 := .inl ⟨rfl, .inr ⟨rfl, 2, rfl, by decide +kernel⟩⟩
theorem i_Shade_spread_62 : mj_Cv y_Shade_spread 62 y_Shade_enter 5 3 := ⟨by decide, rfl, mt_Shade_enter, 50, by decide +kernel, mm_600, mm_602, mp_12⟩
theorem i_Shade_spread_65 : mj_St y_Shade_spread 65 1 2 0 := .inl ⟨rfl, .inr ⟨rfl, 2, rfl, by decide +kernel⟩⟩
theorem i_Shade_spread_66 : mj_In y_Shade_spread 66 5 1 := ⟨1, by decide +kernel, by decide +kernel⟩
theorem i_Shade_spread_69 : mj_Go y_Shade_spread 69 32 := ⟨(-37), by decide, by decide +kernel⟩
theorem i_Shade_spread_72 : mj_In y_Shade_spread 72 3 1 := ⟨1, by decide +kernel, by decide +kernel⟩
theorem i_Shade_spread_75 : mj_Go y_Shade_spread 75 10 := ⟨(-65), by decide, by decide +kernel⟩
theorem i_Shade_spread_78 : decode y_Shade_spread.2.1 78 = .ok (.return_, 1) := by decide +kernel
theorem i_Shade_enter_0 : mj_Ld y_Shade_enter 0 1 0 2 := .inr (.inr ⟨rfl, .inr ⟨rfl, 0, rfl, by decide +kernel⟩⟩)
theorem i_Shade_enter_1 : mj_Gf y_Shade_enter 1 5 0 := ⟨by decide, by decide, 18, by decide +kernel, .inl mm_136⟩
theorem i_Shade_enter_4 : mj_Ld y_Shade_enter 4 1 1 0 := .inl ⟨rfl, .inr ⟨rfl, 1, rfl, by decide +kernel⟩⟩
theorem i_Shade_enter_5 : mj_Cv y_Shade_enter 5 y_View_isUnseen 6 1 := ⟨by decide, rfl, mt_View_isUnseen, 44, by decide +kernel, mm_604, mm_605, mm_606⟩
theorem i_Shade_enter_8 : mj_If y_Shade_enter 8 26 (fun (a : Int32) => a = 0) := ⟨18, by decide, .inl ⟨by decide +kernel, rfl⟩⟩
theorem i_Shade_enter_11 : mj_Ld y_Shade_enter 11 1 0 2 := .inr (.inr ⟨rfl, .inr ⟨rfl, 0, rfl, by decide +kernel⟩⟩)
theorem i_Shade_enter_12 : mj_Ld y_Shade_enter 12 1 1 0 := .inl ⟨rfl, .inr ⟨rfl, 1, rfl, by decide +kernel⟩⟩
theorem i_Shade_enter_13 : mj_Cv y_Shade_enter 13 y_Shade_stepsOf 5 1 := ⟨by decide, rfl, mt_Shade_stepsOf, 32, by decide +kernel, mm_608, mm_610, mp_13⟩
theorem i_Shade_enter_16 : mj_Kc y_Shade_enter 16 1 (.int (-1)) := .inl ⟨(-1), by decide +kernel, rfl, by decide +kernel⟩
theorem i_Shade_enter_17 : mj_Ic y_Shade_enter 17 26 (fun (a b : Int32) => ¬ a = b) := ⟨9, by decide, .inr (.inl ⟨by decide +kernel, rfl⟩)⟩
theorem i_Shade_enter_20 : mj_Ld y_Shade_enter 20 1 3 0 := .inl ⟨rfl, .inr ⟨rfl, 3, rfl, by decide +kernel⟩⟩
theorem i_Shade_enter_21 : mj_Kc y_Shade_enter 21 2 (.int 100) := .inr (.inl ⟨100, by decide +kernel, rfl, by decide +kernel⟩)
theorem i_Shade_enter_23 : mj_Ic y_Shade_enter 23 28 (fun (a b : Int32) => a < b) := ⟨5, by decide, .inr (.inr (.inl ⟨by decide +kernel, rfl⟩))⟩
theorem i_Shade_enter_26 : mj_Ld y_Shade_enter 26 1 3 0 := .inl ⟨rfl, .inr ⟨rfl, 3, rfl, by decide +kernel⟩⟩
theorem i_Shade_enter_27 : decode y_Shade_enter.2.1 27 = .ok (.ireturn, 1) := by decide +kernel
theorem i_Shade_enter_28 : mj_Ld y_Shade_enter 28 1 0 2 := .inr (.inr ⟨rfl, .inr ⟨rfl, 0, rfl, by decide +kernel⟩⟩)
theorem i_Shade_enter_29 : mj_Gf y_Shade_enter 29 5 1 := ⟨by decide, by decide, 9, by decide +kernel, .inl mm_137⟩
theorem i_Shade_enter_32 : mj_Ld y_Shade_enter 32 1 1 0 := .inl ⟨rfl, .inr ⟨rfl, 1, rfl, by decide +kernel⟩⟩
theorem i_Shade_enter_33 : mj_Ld y_Shade_enter 33 1 2 0 := .inl ⟨rfl, .inr ⟨rfl, 2, rfl, by decide +kernel⟩⟩
theorem i_Shade_enter_34 : decode y_Shade_enter.2.1 34 = .ok (.iastore, 1) := by decide +kernel
theorem i_Shade_enter_35 : mj_Ld y_Shade_enter 35 1 0 2 := .inr (.inr ⟨rfl, .inr ⟨rfl, 0, rfl, by decide +kernel⟩⟩)
theorem i_Shade_enter_36 : mj_Gf y_Shade_enter 36 5 2 := ⟨by decide, by decide, 15, by decide +kernel, .inl mm_138⟩
theorem i_Shade_enter_39 : mj_Ld y_Shade_enter 39 1 3 0 := .inl ⟨rfl, .inr ⟨rfl, 3, rfl, by decide +kernel⟩⟩
theorem i_Shade_enter_40 : mj_Ld y_Shade_enter 40 1 1 0 := .inl ⟨rfl, .inr ⟨rfl, 1, rfl, by decide +kernel⟩⟩
theorem i_Shade_enter_41 : decode y_Shade_enter.2.1 41 = .ok (.iastore, 1) := by decide +kernel
theorem i_Shade_enter_42 : mj_Ld y_Shade_enter 42 1 3 0 := .inl ⟨rfl, .inr ⟨rfl, 3, rfl, by decide +kernel⟩⟩
theorem i_Shade_enter_43 : mj_Kc y_Shade_enter 43 1 (.int 1) := .inl ⟨1, by decide +kernel, rfl, by decide +kernel⟩
theorem i_Shade_enter_44 : mj_B2 y_Shade_enter 44 (fun (a b : Int32) => a + b) := .inl ⟨by decide +kernel, rfl⟩
theorem i_Shade_enter_45 : decode y_Shade_enter.2.1 45 = .ok (.ireturn, 1) := by decide +kernel
theorem i_Shade_stepsOf_0 : mj_Ld y_Shade_stepsOf 0 1 1 0 := .inl ⟨rfl, .inr ⟨rfl, 1, rfl, by decide +kernel⟩⟩
theorem i_Shade_stepsOf_1 : mj_If y_Shade_stepsOf 1 19 (fun (a : Int32) => a < 0) := ⟨18, by decide, .inr (.inr (.inl ⟨by decide +kernel, rfl⟩))⟩
theorem i_Shade_stepsOf_4 : mj_Ld y_Shade_stepsOf 4 1 1 0 := .inl ⟨rfl, .inr ⟨rfl, 1, rfl, by decide +kernel⟩⟩
theorem i_Shade_stepsOf_5 : mj_Kc y_Shade_stepsOf 5 2 (.int 100) := .inr (.inl ⟨100, by decide +kernel, rfl, by decide +kernel⟩)
theorem i_Shade_stepsOf_7 : mj_Ic y_Shade_stepsOf 7 19 (fun (a b : Int32) => b ≤ a) := ⟨12, by decide, .inr (.inr (.inr (.inl ⟨by decide +kernel, rfl⟩)))⟩
theorem i_Shade_stepsOf_10 : mj_Ld y_Shade_stepsOf 10 1 0 2 := .inr (.inr ⟨rfl, .inr ⟨rfl, 0, rfl, by decide +kernel⟩⟩)
theorem i_Shade_stepsOf_11 : mj_Gf y_Shade_stepsOf 11 5 1 := ⟨by decide, by decide, 9, by decide +kernel, .inl mm_137⟩
theorem i_Shade_stepsOf_14 : mj_Ld y_Shade_stepsOf 14 1 1 0 := .inl ⟨rfl, .inr ⟨rfl, 1, rfl, by decide +kernel⟩⟩
theorem i_Shade_stepsOf_15 : decode y_Shade_stepsOf.2.1 15 = .ok (.iaload, 1) := by decide +kernel
theorem i_Shade_stepsOf_16 : mj_Go y_Shade_stepsOf 16 20 := ⟨4, by decide, by decide +kernel⟩
theorem i_Shade_stepsOf_19 : mj_Kc y_Shade_stepsOf 19 1 (.int (-1)) := .inl ⟨(-1), by decide +kernel, rfl, by decide +kernel⟩
theorem i_Shade_stepsOf_20 : decode y_Shade_stepsOf.2.1 20 = .ok (.ireturn, 1) := by decide +kernel
theorem i_Shade_cellOnWay_0 : mj_Ld y_Shade_cellOnWay 0 1 0 2 := .inr (.inr ⟨rfl, .inr ⟨rfl, 0, rfl, by decide +kernel⟩⟩)
theorem i_Shade_cellOnWay_1 : mj_Ld y_Shade_cellOnWay 1 1 1 0 := .inl ⟨rfl, .inr ⟨rfl, 1, rfl, by decide +kernel⟩⟩
theorem i_Shade_cellOnWay_2 : mj_Ld y_Shade_cellOnWay 2 1 2 0 := .inl ⟨rfl, .inr ⟨rfl, 2, rfl, by decide +kernel⟩⟩
theorem i_Shade_cellOnWay_3 : mj_Cv y_Shade_cellOnWay 3 y_Shade_stepsBetween 5 2 := ⟨by decide, rfl, mt_Shade_stepsBetween, 37, by decide +kernel, mm_622, mm_592, mm_593⟩
theorem i_Shade_cellOnWay_6 : mj_St y_Shade_cellOnWay 6 2 4 0 := .inl ⟨rfl, .inl ⟨rfl, by decide +kernel⟩⟩
theorem i_Shade_cellOnWay_8 : mj_Ld y_Shade_cellOnWay 8 2 4 0 := .inl ⟨rfl, .inl ⟨rfl, by decide +kernel⟩⟩
theorem i_Shade_cellOnWay_10 : mj_Kc y_Shade_cellOnWay 10 2 (.int (-2000000005)) := .inr (.inr (.inr (.inl ⟨36, (-2000000005), by decide +kernel, rfl, rfl, mm_613⟩)))
theorem i_Shade_cellOnWay_12 : mj_Ic y_Shade_cellOnWay 12 21 (fun (a b : Int32) => a = b) := ⟨9, by decide, .inl ⟨by decide +kernel, rfl⟩⟩
theorem i_Shade_cellOnWay_15 : mj_Ld y_Shade_cellOnWay 15 1 3 0 := .inl ⟨rfl, .inr ⟨rfl, 3, rfl, by decide +kernel⟩⟩
theorem i_Shade_cellOnWay_16 : mj_Ld y_Shade_cellOnWay 16 2 4 0 := .inl ⟨rfl, .inl ⟨rfl, by decide +kernel⟩⟩
theorem i_Shade_cellOnWay_18 : mj_Ic y_Shade_cellOnWay 18 24 (fun (a b : Int32) => a ≤ b) := ⟨6, by decide, .inr (.inr (.inr (.inr (.inr (⟨by decide +kernel, rfl⟩)))))⟩
theorem i_Shade_cellOnWay_21 : mj_Kc y_Shade_cellOnWay 21 2 (.int (-2000000005)) := .inr (.inr (.inr (.inl ⟨36, (-2000000005), by decide +kernel, rfl, rfl, mm_613⟩)))
theorem i_Shade_cellOnWay_23 : decode y_Shade_cellOnWay.2.1 23 = .ok (.ireturn, 1) := by decide +kernel
theorem i_Shade_cellOnWay_24 : mj_Ld y_Shade_cellOnWay 24 1 1 0 := .inl ⟨rfl, .inr ⟨rfl, 1, rfl, by decide +kernel⟩⟩
theorem i_Shade_cellOnWay_25 : mj_St y_Shade_cellOnWay 25 2 5 0 := .inl ⟨rfl, .inl ⟨rfl, by decide +kernel⟩⟩
theorem i_Shade_cellOnWay_27 : mj_Kc y_Shade_cellOnWay 27 1 (.int 0) := .inl ⟨0, by decide +kernel, rfl, by decide +kernel⟩
theorem i_Shade_cellOnWay_28 : mj_St y_Shade_cellOnWay 28 2 6 0 := .inl ⟨rfl, .inl ⟨rfl, by decide +kernel⟩⟩
theorem i_Shade_cellOnWay_30 : mj_Ld y_Shade_cellOnWay 30 2 6 0 := .inl ⟨rfl, .inl ⟨rfl, by decide +kernel⟩⟩
theorem i_Shade_cellOnWay_32 : mj_Ld y_Shade_cellOnWay 32 1 3 0 := .inl ⟨rfl, .inr ⟨rfl, 3, rfl, by decide +kernel⟩⟩
theorem i_Shade_cellOnWay_33 : mj_Ic y_Shade_cellOnWay 33 57 (fun (a b : Int32) => b ≤ a) := ⟨24, by decide, .inr (.inr (.inr (.inl ⟨by decide +kernel, rfl⟩)))⟩
theorem i_Shade_cellOnWay_36 : mj_Ld y_Shade_cellOnWay 36 2 6 0 := .inl ⟨rfl, .inl ⟨rfl, by decide +kernel⟩⟩
theorem i_Shade_cellOnWay_38 : mj_Kc y_Shade_cellOnWay 38 2 (.int 100) := .inr (.inl ⟨100, by decide +kernel, rfl, by decide +kernel⟩)
theorem i_Shade_cellOnWay_40 : mj_Ic y_Shade_cellOnWay 40 57 (fun (a b : Int32) => b ≤ a) := ⟨17, by decide, .inr (.inr (.inr (.inl ⟨by decide +kernel, rfl⟩)))⟩
theorem i_Shade_cellOnWay_43 : mj_Ld y_Shade_cellOnWay 43 1 0 2 := .inr (.inr ⟨rfl, .inr ⟨rfl, 0, rfl, by decide +kernel⟩⟩)
theorem i_Shade_cellOnWay_44 : mj_Ld y_Shade_cellOnWay 44 2 5 0 := .inl ⟨rfl, .inl ⟨rfl, by decide +kernel⟩⟩
theorem i_Shade_cellOnWay_46 : mj_Cv y_Shade_cellOnWay 46 y_Shade_leastNearer 5 1 := ⟨by decide, rfl, mt_Shade_leastNearer, 41, by decide +kernel, mm_623, mm_625, mp_14⟩
theorem i_Shade_cellOnWay_49 : mj_St y_Shade_cellOnWay 49 2 5 0 := .inl ⟨rfl, .inl ⟨rfl, by decide +kernel⟩⟩
theorem i_Shade_cellOnWay_51 : mj_In y_Shade_cellOnWay 51 6 1 := ⟨1, by decide +kernel, by decide +kernel⟩
theorem i_Shade_cellOnWay_54 : mj_Go y_Shade_cellOnWay 54 30 := ⟨(-24), by decide, by decide +kernel⟩
theorem i_Shade_cellOnWay_57 : mj_Ld y_Shade_cellOnWay 57 2 5 0 := .inl ⟨rfl, .inl ⟨rfl, by decide +kernel⟩⟩
theorem i_Shade_cellOnWay_59 : decode y_Shade_cellOnWay.2.1 59 = .ok (.ireturn, 1) := by decide +kernel
theorem i_Shade_leastNearer_0 : mj_Kc y_Shade_leastNearer 0 1 (.int 0) := .inl ⟨0, by decide +kernel, rfl, by decide +kernel⟩
theorem i_Shade_leastNearer_1 : mj_St y_Shade_leastNearer 1 1 2 0 := .inl ⟨rfl, .inr ⟨rfl, 2, rfl, by decide +kernel⟩⟩
theorem i_Shade_leastNearer_2 : mj_Ld y_Shade_leastNearer 2 1 2 0 := .inl ⟨rfl, .inr ⟨rfl, 2, rfl, by decide +kernel⟩⟩
theorem i_Shade_leastNearer_3 : mj_Kc y_Shade_leastNearer 3 1 (.int 4) := .inl ⟨4, by decide +kernel, rfl, by decide +kernel⟩
theorem i_Shade_leastNearer_4 : mj_Ic y_Shade_leastNearer 4 50 (fun (a b : Int32) => b ≤ a) := ⟨46, by decide, .inr (.inr (.inr (.inl ⟨by decide +kernel, rfl⟩)))⟩
theorem i_Shade_leastNearer_7 : mj_Ld y_Shade_leastNearer 7 1 0 2 := .inr (.inr ⟨rfl, .inr ⟨rfl, 0, rfl, by decide +kernel⟩⟩)
theorem i_Shade_leastNearer_8 : mj_Gf y_Shade_leastNearer 8 5 0 := ⟨by decide, by decide, 18, by decide +kernel, .inl mm_136⟩
theorem i_Shade_leastNearer_11 : mj_Gf y_Shade_leastNearer 11 6 0 := ⟨by decide, by decide, 54, by decide +kernel, .inr ⟨"GalleryWatch", mm_56⟩⟩
theorem i_Shade_leastNearer_14 : mj_Ld y_Shade_leastNearer 14 1 1 0 := .inl ⟨rfl, .inr ⟨rfl, 1, rfl, by decide +kernel⟩⟩
theorem i_Shade_leastNearer_15 : mj_Ld y_Shade_leastNearer 15 1 2 0 := .inl ⟨rfl, .inr ⟨rfl, 2, rfl, by decide +kernel⟩⟩
theorem i_Shade_leastNearer_16 : mj_Cv y_Shade_leastNearer 16 y_Room_beside 4 2 := ⟨by decide, rfl, mt_Room_beside, 58, by decide +kernel, mm_612, mm_301, mm_302⟩
theorem i_Shade_leastNearer_19 : mj_St y_Shade_leastNearer 19 1 3 0 := .inl ⟨rfl, .inr ⟨rfl, 3, rfl, by decide +kernel⟩⟩
theorem i_Shade_leastNearer_20 : mj_Ld y_Shade_leastNearer 20 1 0 2 := .inr (.inr ⟨rfl, .inr ⟨rfl, 0, rfl, by decide +kernel⟩⟩)
theorem i_Shade_leastNearer_21 : mj_Ld y_Shade_leastNearer 21 1 3 0 := .inl ⟨rfl, .inr ⟨rfl, 3, rfl, by decide +kernel⟩⟩
theorem i_Shade_leastNearer_22 : mj_Cv y_Shade_leastNearer 22 y_Shade_stepsOf 5 1 := ⟨by decide, rfl, mt_Shade_stepsOf, 32, by decide +kernel, mm_608, mm_610, mp_13⟩
theorem i_Shade_leastNearer_25 : mj_Kc y_Shade_leastNearer 25 1 (.int (-1)) := .inl ⟨(-1), by decide +kernel, rfl, by decide +kernel⟩
theorem i_Shade_leastNearer_26 : mj_Ic y_Shade_leastNearer 26 44 (fun (a b : Int32) => a = b) := ⟨18, by decide, .inl ⟨by decide +kernel, rfl⟩⟩
theorem i_Shade_leastNearer_29 : mj_Ld y_Shade_leastNearer 29 1 0 2 := .inr (.inr ⟨rfl, .inr ⟨rfl, 0, rfl, by decide +kernel⟩⟩)
theorem i_Shade_leastNearer_30 : mj_Ld y_Shade_leastNearer 30 1 3 0 := .inl ⟨rfl, .inr ⟨rfl, 3, rfl, by decide +kernel⟩⟩
theorem i_Shade_leastNearer_31 : mj_Cv y_Shade_leastNearer 31 y_Shade_stepsOf 5 1 := ⟨by decide, rfl, mt_Shade_stepsOf, 32, by decide +kernel, mm_608, mm_610, mp_13⟩
theorem i_Shade_leastNearer_34 : mj_Ld y_Shade_leastNearer 34 1 0 2 := .inr (.inr ⟨rfl, .inr ⟨rfl, 0, rfl, by decide +kernel⟩⟩)
theorem i_Shade_leastNearer_35 : mj_Ld y_Shade_leastNearer 35 1 1 0 := .inl ⟨rfl, .inr ⟨rfl, 1, rfl, by decide +kernel⟩⟩
theorem i_Shade_leastNearer_36 : mj_Cv y_Shade_leastNearer 36 y_Shade_stepsOf 5 1 := ⟨by decide, rfl, mt_Shade_stepsOf, 32, by decide +kernel, mm_608, mm_610, mp_13⟩
theorem i_Shade_leastNearer_39 : mj_Ic y_Shade_leastNearer 39 44 (fun (a b : Int32) => b ≤ a) := ⟨5, by decide, .inr (.inr (.inr (.inl ⟨by decide +kernel, rfl⟩)))⟩
theorem i_Shade_leastNearer_42 : mj_Ld y_Shade_leastNearer 42 1 3 0 := .inl ⟨rfl, .inr ⟨rfl, 3, rfl, by decide +kernel⟩⟩
theorem i_Shade_leastNearer_43 : decode y_Shade_leastNearer.2.1 43 = .ok (.ireturn, 1) := by decide +kernel
theorem i_Shade_leastNearer_44 : mj_In y_Shade_leastNearer 44 2 1 := ⟨1, by decide +kernel, by decide +kernel⟩
theorem i_Shade_leastNearer_47 : mj_Go y_Shade_leastNearer 47 2 := ⟨(-45), by decide, by decide +kernel⟩
theorem i_Shade_leastNearer_50 : mj_Ld y_Shade_leastNearer 50 1 1 0 := .inl ⟨rfl, .inr ⟨rfl, 1, rfl, by decide +kernel⟩⟩
theorem i_Shade_leastNearer_51 : decode y_Shade_leastNearer.2.1 51 = .ok (.ireturn, 1) := by decide +kernel
theorem i_Shade_parts_0 : mj_Ld y_Shade_parts 0 1 0 2 := .inr (.inr ⟨rfl, .inr ⟨rfl, 0, rfl, by decide +kernel⟩⟩)
theorem i_Shade_parts_1 : mj_Gf y_Shade_parts 1 5 1 := ⟨by decide, by decide, 9, by decide +kernel, .inl mm_137⟩
theorem i_Shade_parts_4 : mj_Kc y_Shade_parts 4 1 (.int (-1)) := .inl ⟨(-1), by decide +kernel, rfl, by decide +kernel⟩
theorem i_Shade_parts_5 : mj_Cs y_Shade_parts 5 y_Arrays_fill 2 := ⟨mt_Arrays_fill, 22, by decide +kernel, mm_212, .inl mm_595⟩
theorem i_Shade_parts_8 : mj_Kc y_Shade_parts 8 1 (.int 0) := .inl ⟨0, by decide +kernel, rfl, by decide +kernel⟩
theorem i_Shade_parts_9 : mj_St y_Shade_parts 9 1 1 0 := .inl ⟨rfl, .inr ⟨rfl, 1, rfl, by decide +kernel⟩⟩
theorem i_Shade_parts_10 : mj_Kc y_Shade_parts 10 1 (.int 0) := .inl ⟨0, by decide +kernel, rfl, by decide +kernel⟩
theorem i_Shade_parts_11 : mj_St y_Shade_parts 11 1 2 0 := .inl ⟨rfl, .inr ⟨rfl, 2, rfl, by decide +kernel⟩⟩
theorem i_Shade_parts_12 : mj_Ld y_Shade_parts 12 1 2 0 := .inl ⟨rfl, .inr ⟨rfl, 2, rfl, by decide +kernel⟩⟩
theorem i_Shade_parts_13 : mj_Kc y_Shade_parts 13 2 (.int 100) := .inr (.inl ⟨100, by decide +kernel, rfl, by decide +kernel⟩)
theorem i_Shade_parts_15 : mj_Ic y_Shade_parts 15 53 (fun (a b : Int32) => b ≤ a) := ⟨38, by decide, .inr (.inr (.inr (.inl ⟨by decide +kernel, rfl⟩)))⟩
theorem i_Shade_parts_18 : mj_Ld y_Shade_parts 18 1 0 2 := .inr (.inr ⟨rfl, .inr ⟨rfl, 0, rfl, by decide +kernel⟩⟩)
theorem i_Shade_parts_19 : mj_Gf y_Shade_parts 19 5 0 := ⟨by decide, by decide, 18, by decide +kernel, .inl mm_136⟩
theorem i_Shade_parts_22 : mj_Ld y_Shade_parts 22 1 2 0 := .inl ⟨rfl, .inr ⟨rfl, 2, rfl, by decide +kernel⟩⟩
theorem i_Shade_parts_23 : mj_Cv y_Shade_parts 23 y_View_isUnseen 6 1 := ⟨by decide, rfl, mt_View_isUnseen, 44, by decide +kernel, mm_604, mm_605, mm_606⟩
theorem i_Shade_parts_26 : mj_If y_Shade_parts 26 47 (fun (a : Int32) => a = 0) := ⟨21, by decide, .inl ⟨by decide +kernel, rfl⟩⟩
theorem i_Shade_parts_29 : mj_Ld y_Shade_parts 29 1 0 2 := .inr (.inr ⟨rfl, .inr ⟨rfl, 0, rfl, by decide +kernel⟩⟩)
theorem i_Shade_parts_30 : mj_Gf y_Shade_parts 30 5 1 := ⟨by decide, by decide, 9, by decide +kernel, .inl mm_137⟩
theorem i_Shade_parts_33 : mj_Ld y_Shade_parts 33 1 2 0 := .inl ⟨rfl, .inr ⟨rfl, 2, rfl, by decide +kernel⟩⟩
theorem i_Shade_parts_34 : decode y_Shade_parts.2.1 34 = .ok (.iaload, 1) := by decide +kernel
theorem i_Shade_parts_35 : mj_Kc y_Shade_parts 35 1 (.int (-1)) := .inl ⟨(-1), by decide +kernel, rfl, by decide +kernel⟩
theorem i_Shade_parts_36 : mj_Ic y_Shade_parts 36 47 (fun (a b : Int32) => ¬ a = b) := ⟨11, by decide, .inr (.inl ⟨by decide +kernel, rfl⟩)⟩
theorem i_Shade_parts_39 : mj_Ld y_Shade_parts 39 1 0 2 := .inr (.inr ⟨rfl, .inr ⟨rfl, 0, rfl, by decide +kernel⟩⟩)
theorem i_Shade_parts_40 : mj_Ld y_Shade_parts 40 1 2 0 := .inl ⟨rfl, .inr ⟨rfl, 2, rfl, by decide +kernel⟩⟩
theorem i_Shade_parts_41 : mj_Cv y_Shade_parts 41 y_Shade_spread 5 1 := ⟨by decide, rfl, mt_Shade_spread, 28, by decide +kernel, mm_596, mm_598, mp_11⟩
theorem i_Shade_parts_44 : mj_In y_Shade_parts 44 1 1 := ⟨1, by decide +kernel, by decide +kernel⟩
theorem i_Shade_parts_47 : mj_In y_Shade_parts 47 2 1 := ⟨1, by decide +kernel, by decide +kernel⟩
theorem i_Shade_parts_50 : mj_Go y_Shade_parts 50 12 := ⟨(-38), by decide, by decide +kernel⟩
theorem i_Shade_parts_53 : mj_Ld y_Shade_parts 53 1 1 0 := .inl ⟨rfl, .inr ⟨rfl, 1, rfl, by decide +kernel⟩⟩
theorem i_Shade_parts_54 : decode y_Shade_parts.2.1 54 = .ok (.ireturn, 1) := by decide +kernel
theorem i_View_init_0 : mj_Ld y_View_init 0 1 0 2 := .inr (.inr ⟨rfl, .inr ⟨rfl, 0, rfl, by decide +kernel⟩⟩)
theorem i_View_init_1 : mj_Oi y_View_init 1 := ⟨3, by decide +kernel, mm_53⟩
theorem i_View_init_4 : mj_Ld y_View_init 4 1 0 2 := .inr (.inr ⟨rfl, .inr ⟨rfl, 0, rfl, by decide +kernel⟩⟩)
theorem i_View_init_5 : mj_Kc y_View_init 5 2 (.int 100) := .inr (.inl ⟨100, by decide +kernel, rfl, by decide +kernel⟩)
theorem i_View_init_7 : mj_Na y_View_init 7 0 := .inl ⟨rfl, by decide +kernel⟩
theorem i_View_init_9 : mj_Pf y_View_init 9 6 1 (.array .int) := ⟨by decide, by decide, 9, by decide +kernel, mm_58, by decide +kernel, .inr ⟨rfl, rfl, rfl⟩⟩
theorem i_View_init_12 : mj_Ld y_View_init 12 1 0 2 := .inr (.inr ⟨rfl, .inr ⟨rfl, 0, rfl, by decide +kernel⟩⟩)
theorem i_View_init_13 : mj_Ld y_View_init 13 1 1 2 := .inr (.inr ⟨rfl, .inr ⟨rfl, 1, rfl, by decide +kernel⟩⟩)
theorem i_View_init_14 : mj_Pf y_View_init 14 6 0 (.object "GalleryWatch$Room") := ⟨by decide, by decide, 15, by decide +kernel, mm_54, by decide +kernel, .inr ⟨rfl, rfl, rfl⟩⟩
theorem i_View_init_17 : decode y_View_init.2.1 17 = .ok (.return_, 1) := by decide +kernel
theorem i_View_outdate_0 : mj_Ld y_View_outdate 0 1 0 2 := .inr (.inr ⟨rfl, .inr ⟨rfl, 0, rfl, by decide +kernel⟩⟩)
theorem i_View_outdate_1 : mj_Kc y_View_outdate 1 1 (.int 0) := .inl ⟨0, by decide +kernel, rfl, by decide +kernel⟩
theorem i_View_outdate_2 : mj_Pf y_View_outdate 2 6 2 (.boolean) := ⟨by decide, by decide, 19, by decide +kernel, mm_59, by decide +kernel, .inl rfl⟩
theorem i_View_outdate_5 : decode y_View_outdate.2.1 5 = .ok (.return_, 1) := by decide +kernel
theorem i_View_refresh_0 : mj_Ld y_View_refresh 0 1 0 2 := .inr (.inr ⟨rfl, .inr ⟨rfl, 0, rfl, by decide +kernel⟩⟩)
theorem i_View_refresh_1 : mj_Gf y_View_refresh 1 6 2 := ⟨by decide, by decide, 19, by decide +kernel, .inl mm_59⟩
theorem i_View_refresh_4 : mj_If y_View_refresh 4 8 (fun (a : Int32) => a = 0) := ⟨4, by decide, .inl ⟨by decide +kernel, rfl⟩⟩
theorem i_View_refresh_7 : decode y_View_refresh.2.1 7 = .ok (.return_, 1) := by decide +kernel
theorem i_View_refresh_8 : mj_Kc y_View_refresh 8 1 (.int 0) := .inl ⟨0, by decide +kernel, rfl, by decide +kernel⟩
theorem i_View_refresh_9 : mj_St y_View_refresh 9 1 1 0 := .inl ⟨rfl, .inr ⟨rfl, 1, rfl, by decide +kernel⟩⟩
theorem i_View_refresh_10 : mj_Ld y_View_refresh 10 1 1 0 := .inl ⟨rfl, .inr ⟨rfl, 1, rfl, by decide +kernel⟩⟩
theorem i_View_refresh_11 : mj_Kc y_View_refresh 11 2 (.int 100) := .inr (.inl ⟨100, by decide +kernel, rfl, by decide +kernel⟩)
theorem i_View_refresh_13 : mj_Ic y_View_refresh 13 48 (fun (a b : Int32) => b ≤ a) := ⟨35, by decide, .inr (.inr (.inr (.inl ⟨by decide +kernel, rfl⟩)))⟩
theorem i_View_refresh_16 : mj_Ld y_View_refresh 16 1 0 2 := .inr (.inr ⟨rfl, .inr ⟨rfl, 0, rfl, by decide +kernel⟩⟩)
theorem i_View_refresh_17 : mj_Gf y_View_refresh 17 6 1 := ⟨by decide, by decide, 9, by decide +kernel, .inl mm_58⟩
theorem i_View_refresh_20 : mj_Ld y_View_refresh 20 1 1 0 := .inl ⟨rfl, .inr ⟨rfl, 1, rfl, by decide +kernel⟩⟩
theorem i_View_refresh_21 : mj_Ld y_View_refresh 21 1 0 2 := .inr (.inr ⟨rfl, .inr ⟨rfl, 0, rfl, by decide +kernel⟩⟩)
theorem i_View_refresh_22 : mj_Gf y_View_refresh 22 6 0 := ⟨by decide, by decide, 15, by decide +kernel, .inl mm_54⟩
theorem i_View_refresh_25 : mj_Ld y_View_refresh 25 1 1 0 := .inl ⟨rfl, .inr ⟨rfl, 1, rfl, by decide +kernel⟩⟩
theorem i_View_refresh_26 : mj_Cv y_View_refresh 26 y_Room_isOpen 4 1 := ⟨by decide, rfl, mt_Room_isOpen, 23, by decide +kernel, mm_464, mm_285, mm_286⟩
theorem i_View_refresh_29 : mj_If y_View_refresh 29 40 (fun (a : Int32) => a = 0) := ⟨11, by decide, .inl ⟨by decide +kernel, rfl⟩⟩
theorem i_View_refresh_32 : mj_Ld y_View_refresh 32 1 0 2 := .inr (.inr ⟨rfl, .inr ⟨rfl, 0, rfl, by decide +kernel⟩⟩)
theorem i_View_refresh_33 : mj_Ld y_View_refresh 33 1 1 0 := .inl ⟨rfl, .inr ⟨rfl, 1, rfl, by decide +kernel⟩⟩
theorem i_View_refresh_34 : mj_Cv y_View_refresh 34 y_View_lookedUp 6 1 := ⟨by decide, rfl, mt_View_lookedUp, 29, by decide +kernel, mm_465, mm_467, mp_4⟩
theorem i_View_refresh_37 : mj_Go y_View_refresh 37 41 := ⟨4, by decide, by decide +kernel⟩
theorem i_View_refresh_40 : mj_Kc y_View_refresh 40 1 (.int 0) := .inl ⟨0, by decide +kernel, rfl, by decide +kernel⟩
theorem i_View_refresh_41 : decode y_View_refresh.2.1 41 = .ok (.iastore, 1) := by decide +kernel
theorem i_View_refresh_42 : mj_In y_View_refresh 42 1 1 := ⟨1, by decide +kernel, by decide +kernel⟩
theorem i_View_refresh_45 : mj_Go y_View_refresh 45 10 := ⟨(-35), by decide, by decide +kernel⟩
theorem i_View_refresh_48 : mj_Ld y_View_refresh 48 1 0 2 := .inr (.inr ⟨rfl, .inr ⟨rfl, 0, rfl, by decide +kernel⟩⟩)
theorem i_View_refresh_49 : mj_Kc y_View_refresh 49 1 (.int 1) := .inl ⟨1, by decide +kernel, rfl, by decide +kernel⟩
theorem i_View_refresh_50 : mj_Pf y_View_refresh 50 6 2 (.boolean) := ⟨by decide, by decide, 19, by decide +kernel, mm_59, by decide +kernel, .inl rfl⟩
theorem i_View_refresh_53 : decode y_View_refresh.2.1 53 = .ok (.return_, 1) := by decide +kernel
theorem i_View_lookedUp_0 : mj_Kc y_View_lookedUp 0 1 (.int 0) := .inl ⟨0, by decide +kernel, rfl, by decide +kernel⟩
theorem i_View_lookedUp_1 : mj_St y_View_lookedUp 1 1 2 0 := .inl ⟨rfl, .inr ⟨rfl, 2, rfl, by decide +kernel⟩⟩
theorem i_View_lookedUp_2 : mj_Kc y_View_lookedUp 2 1 (.int 0) := .inl ⟨0, by decide +kernel, rfl, by decide +kernel⟩
theorem i_View_lookedUp_3 : mj_St y_View_lookedUp 3 1 3 0 := .inl ⟨rfl, .inr ⟨rfl, 3, rfl, by decide +kernel⟩⟩
theorem i_View_lookedUp_4 : mj_Ld y_View_lookedUp 4 1 3 0 := .inl ⟨rfl, .inr ⟨rfl, 3, rfl, by decide +kernel⟩⟩
theorem i_View_lookedUp_5 : mj_Kc y_View_lookedUp 5 2 (.int 14) := .inr (.inl ⟨14, by decide +kernel, rfl, by decide +kernel⟩)
theorem i_View_lookedUp_7 : mj_Ic y_View_lookedUp 7 47 (fun (a b : Int32) => b ≤ a) := ⟨40, by decide, .inr (.inr (.inr (.inl ⟨by decide +kernel, rfl⟩)))⟩
theorem i_View_lookedUp_10 : mj_Ld y_View_lookedUp 10 1 0 2 := .inr (.inr ⟨rfl, .inr ⟨rfl, 0, rfl, by decide +kernel⟩⟩)
theorem i_View_lookedUp_11 : mj_Gf y_View_lookedUp 11 6 0 := ⟨by decide, by decide, 15, by decide +kernel, .inl mm_54⟩
theorem i_View_lookedUp_14 : mj_Ld y_View_lookedUp 14 1 3 0 := .inl ⟨rfl, .inr ⟨rfl, 3, rfl, by decide +kernel⟩⟩
theorem i_View_lookedUp_15 : mj_Cv y_View_lookedUp 15 y_Room_postAt 4 1 := ⟨by decide, rfl, mt_Room_postAt, 33, by decide +kernel, mm_469, mm_277, mm_278⟩
theorem i_View_lookedUp_18 : mj_St y_View_lookedUp 18 2 4 2 := .inr (.inr ⟨rfl, .inl ⟨rfl, by decide +kernel⟩⟩)
theorem i_View_lookedUp_20 : mj_Ld y_View_lookedUp 20 2 4 2 := .inr (.inr ⟨rfl, .inl ⟨rfl, by decide +kernel⟩⟩)
theorem i_View_lookedUp_22 : mj_Nu y_View_lookedUp 22 41 true := ⟨19, by decide, .inl ⟨rfl, by decide +kernel⟩⟩
theorem i_View_lookedUp_25 : mj_Ld y_View_lookedUp 25 1 0 2 := .inr (.inr ⟨rfl, .inr ⟨rfl, 0, rfl, by decide +kernel⟩⟩)
theorem i_View_lookedUp_26 : mj_Ld y_View_lookedUp 26 2 4 2 := .inr (.inr ⟨rfl, .inl ⟨rfl, by decide +kernel⟩⟩)
theorem i_View_lookedUp_28 : mj_Ld y_View_lookedUp 28 1 1 0 := .inl ⟨rfl, .inr ⟨rfl, 1, rfl, by decide +kernel⟩⟩
theorem i_View_lookedUp_29 : mj_Cv y_View_lookedUp 29 y_View_isSeenFrom 6 2 := ⟨by decide, rfl, mt_View_isSeenFrom, 37, by decide +kernel, mm_470, mm_472, mp_5⟩
theorem i_View_lookedUp_32 : mj_If y_View_lookedUp 32 41 (fun (a : Int32) => a = 0) := ⟨9, by decide, .inl ⟨by decide +kernel, rfl⟩⟩
theorem i_View_lookedUp_35 : mj_Ld y_View_lookedUp 35 1 2 0 := .inl ⟨rfl, .inr ⟨rfl, 2, rfl, by decide +kernel⟩⟩
theorem i_View_lookedUp_36 : mj_Kc y_View_lookedUp 36 1 (.int 1) := .inl ⟨1, by decide +kernel, rfl, by decide +kernel⟩
theorem i_View_lookedUp_37 : mj_Ld y_View_lookedUp 37 1 3 0 := .inl ⟨rfl, .inr ⟨rfl, 3, rfl, by decide +kernel⟩⟩
theorem i_View_lookedUp_38 : mj_B2 y_View_lookedUp 38 (fun (a b : Int32) => a <<< (b &&& 31)) := .inr (.inr (.inr (.inr (.inr (.inr (.inl ⟨by decide +kernel, rfl⟩))))))
theorem i_View_lookedUp_39 : mj_B2 y_View_lookedUp 39 (fun (a b : Int32) => a ||| b) := .inr (.inr (.inr (.inr (.inl ⟨by decide +kernel, rfl⟩))))
theorem i_View_lookedUp_40 : mj_St y_View_lookedUp 40 1 2 0 := .inl ⟨rfl, .inr ⟨rfl, 2, rfl, by decide +kernel⟩⟩
theorem i_View_lookedUp_41 : mj_In y_View_lookedUp 41 3 1 := ⟨1, by decide +kernel, by decide +kernel⟩
theorem i_View_lookedUp_44 : mj_Go y_View_lookedUp 44 4 := ⟨(-40), by decide, by decide +kernel⟩
theorem i_View_lookedUp_47 : mj_Ld y_View_lookedUp 47 1 2 0 := .inl ⟨rfl, .inr ⟨rfl, 2, rfl, by decide +kernel⟩⟩
theorem i_View_lookedUp_48 : decode y_View_lookedUp.2.1 48 = .ok (.ireturn, 1) := by decide +kernel
theorem i_View_isSeenFrom_0 : mj_Ld y_View_isSeenFrom 0 1 0 2 := .inr (.inr ⟨rfl, .inr ⟨rfl, 0, rfl, by decide +kernel⟩⟩)
theorem i_View_isSeenFrom_1 : mj_Gf y_View_isSeenFrom 1 6 0 := ⟨by decide, by decide, 15, by decide +kernel, .inl mm_54⟩
theorem i_View_isSeenFrom_4 : mj_Ld y_View_isSeenFrom 4 1 2 0 := .inl ⟨rfl, .inr ⟨rfl, 2, rfl, by decide +kernel⟩⟩
theorem i_View_isSeenFrom_5 : mj_Cv y_View_isSeenFrom 5 y_Room_columnOf 4 1 := ⟨by decide, rfl, mt_Room_columnOf, 41, by decide +kernel, mm_474, mm_268, mm_269⟩
theorem i_View_isSeenFrom_8 : mj_Ld y_View_isSeenFrom 8 1 0 2 := .inr (.inr ⟨rfl, .inr ⟨rfl, 0, rfl, by decide +kernel⟩⟩)
theorem i_View_isSeenFrom_9 : mj_Gf y_View_isSeenFrom 9 6 0 := ⟨by decide, by decide, 15, by decide +kernel, .inl mm_54⟩
theorem i_View_isSeenFrom_12 : mj_Ld y_View_isSeenFrom 12 1 1 2 := .inr (.inr ⟨rfl, .inr ⟨rfl, 1, rfl, by decide +kernel⟩⟩)
theorem i_View_isSeenFrom_13 : mj_Gf y_View_isSeenFrom 13 2 0 := ⟨by decide, by decide, 44, by decide +kernel, .inr ⟨"GalleryWatch", mm_363⟩⟩
theorem i_View_isSeenFrom_16 : mj_Cv y_View_isSeenFrom 16 y_Room_columnOf 4 1 := ⟨by decide, rfl, mt_Room_columnOf, 41, by decide +kernel, mm_474, mm_268, mm_269⟩
theorem i_View_isSeenFrom_19 : mj_B2 y_View_isSeenFrom 19 (fun (a b : Int32) => a - b) := .inr (.inl ⟨by decide +kernel, rfl⟩)
theorem i_View_isSeenFrom_20 : mj_St y_View_isSeenFrom 20 1 3 0 := .inl ⟨rfl, .inr ⟨rfl, 3, rfl, by decide +kernel⟩⟩
theorem i_View_isSeenFrom_21 : mj_Ld y_View_isSeenFrom 21 1 0 2 := .inr (.inr ⟨rfl, .inr ⟨rfl, 0, rfl, by decide +kernel⟩⟩)
theorem i_View_isSeenFrom_22 : mj_Gf y_View_isSeenFrom 22 6 0 := ⟨by decide, by decide, 15, by decide +kernel, .inl mm_54⟩
theorem i_View_isSeenFrom_25 : mj_Ld y_View_isSeenFrom 25 1 2 0 := .inl ⟨rfl, .inr ⟨rfl, 2, rfl, by decide +kernel⟩⟩
theorem i_View_isSeenFrom_26 : mj_Cv y_View_isSeenFrom 26 y_Room_rowOf 4 1 := ⟨by decide, rfl, mt_Room_rowOf, 50, by decide +kernel, mm_475, mm_258, mm_259⟩
theorem i_View_isSeenFrom_29 : mj_Ld y_View_isSeenFrom 29 1 0 2 := .inr (.inr ⟨rfl, .inr ⟨rfl, 0, rfl, by decide +kernel⟩⟩)
theorem i_View_isSeenFrom_30 : mj_Gf y_View_isSeenFrom 30 6 0 := ⟨by decide, by decide, 15, by decide +kernel, .inl mm_54⟩
theorem i_View_isSeenFrom_33 : mj_Ld y_View_isSeenFrom 33 1 1 2 := .inr (.inr ⟨rfl, .inr ⟨rfl, 1, rfl, by decide +kernel⟩⟩)
theorem i_View_isSeenFrom_34 : mj_Gf y_View_isSeenFrom 34 2 0 := ⟨by decide, by decide, 44, by decide +kernel, .inr ⟨"GalleryWatch", mm_363⟩⟩
theorem i_View_isSeenFrom_37 : mj_Cv y_View_isSeenFrom 37 y_Room_rowOf 4 1 := ⟨by decide, rfl, mt_Room_rowOf, 50, by decide +kernel, mm_475, mm_258, mm_259⟩
theorem i_View_isSeenFrom_40 : mj_B2 y_View_isSeenFrom 40 (fun (a b : Int32) => a - b) := .inr (.inl ⟨by decide +kernel, rfl⟩)
theorem i_View_isSeenFrom_41 : mj_St y_View_isSeenFrom 41 2 4 0 := .inl ⟨rfl, .inl ⟨rfl, by decide +kernel⟩⟩
theorem i_View_isSeenFrom_43 : mj_Ld y_View_isSeenFrom 43 1 1 2 := .inr (.inr ⟨rfl, .inr ⟨rfl, 1, rfl, by decide +kernel⟩⟩)
theorem i_View_isSeenFrom_44 : mj_Ld y_View_isSeenFrom 44 1 3 0 := .inl ⟨rfl, .inr ⟨rfl, 3, rfl, by decide +kernel⟩⟩
theorem i_View_isSeenFrom_45 : mj_Ld y_View_isSeenFrom 45 2 4 0 := .inl ⟨rfl, .inl ⟨rfl, by decide +kernel⟩⟩
theorem i_View_isSeenFrom_47 : mj_Cv y_View_isSeenFrom 47 y_Post_lets 2 2 := ⟨by decide, rfl, mt_Post_lets, 53, by decide +kernel, mm_476, mm_477, mm_478⟩
theorem i_View_isSeenFrom_50 : mj_If y_View_isSeenFrom 50 72 (fun (a : Int32) => a = 0) := ⟨22, by decide, .inl ⟨by decide +kernel, rfl⟩⟩
theorem i_View_isSeenFrom_53 : mj_Ld y_View_isSeenFrom 53 1 0 2 := .inr (.inr ⟨rfl, .inr ⟨rfl, 0, rfl, by decide +kernel⟩⟩)
theorem i_View_isSeenFrom_54 : mj_Gf y_View_isSeenFrom 54 6 0 := ⟨by decide, by decide, 15, by decide +kernel, .inl mm_54⟩
theorem i_View_isSeenFrom_57 : mj_Ld y_View_isSeenFrom 57 1 1 2 := .inr (.inr ⟨rfl, .inr ⟨rfl, 1, rfl, by decide +kernel⟩⟩)
theorem i_View_isSeenFrom_58 : mj_Gf y_View_isSeenFrom 58 2 0 := ⟨by decide, by decide, 44, by decide +kernel, .inr ⟨"GalleryWatch", mm_363⟩⟩
theorem i_View_isSeenFrom_61 : mj_Ld y_View_isSeenFrom 61 1 2 0 := .inl ⟨rfl, .inr ⟨rfl, 2, rfl, by decide +kernel⟩⟩
theorem i_View_isSeenFrom_62 : mj_Cv y_View_isSeenFrom 62 y_Room_inSight 4 2 := ⟨by decide, rfl, mt_Room_inSight, 57, by decide +kernel, mm_489, mm_332, mm_333⟩
theorem i_View_isSeenFrom_65 : mj_If y_View_isSeenFrom 65 72 (fun (a : Int32) => a = 0) := ⟨7, by decide, .inl ⟨by decide +kernel, rfl⟩⟩
theorem i_View_isSeenFrom_68 : mj_Kc y_View_isSeenFrom 68 1 (.int 1) := .inl ⟨1, by decide +kernel, rfl, by decide +kernel⟩
theorem i_View_isSeenFrom_69 : mj_Go y_View_isSeenFrom 69 73 := ⟨4, by decide, by decide +kernel⟩
theorem i_View_isSeenFrom_72 : mj_Kc y_View_isSeenFrom 72 1 (.int 0) := .inl ⟨0, by decide +kernel, rfl, by decide +kernel⟩
theorem i_View_isSeenFrom_73 : decode y_View_isSeenFrom.2.1 73 = .ok (.ireturn, 1) := by decide +kernel
theorem i_View_watchersOf_0 : mj_Ld y_View_watchersOf 0 1 0 2 := .inr (.inr ⟨rfl, .inr ⟨rfl, 0, rfl, by decide +kernel⟩⟩)
theorem i_View_watchersOf_1 : mj_Gf y_View_watchersOf 1 6 0 := ⟨by decide, by decide, 15, by decide +kernel, .inl mm_54⟩
theorem i_View_watchersOf_4 : mj_Ld y_View_watchersOf 4 1 1 0 := .inl ⟨rfl, .inr ⟨rfl, 1, rfl, by decide +kernel⟩⟩
theorem i_View_watchersOf_5 : mj_Cv y_View_watchersOf 5 y_Room_hasCell 4 1 := ⟨by decide, rfl, mt_Room_hasCell, 60, by decide +kernel, mm_494, mm_243, mm_244⟩
theorem i_View_watchersOf_8 : mj_If y_View_watchersOf 8 20 (fun (a : Int32) => a = 0) := ⟨12, by decide, .inl ⟨by decide +kernel, rfl⟩⟩
theorem i_View_watchersOf_11 : mj_Ld y_View_watchersOf 11 1 0 2 := .inr (.inr ⟨rfl, .inr ⟨rfl, 0, rfl, by decide +kernel⟩⟩)
theorem i_View_watchersOf_12 : mj_Gf y_View_watchersOf 12 6 1 := ⟨by decide, by decide, 9, by decide +kernel, .inl mm_58⟩
theorem i_View_watchersOf_15 : mj_Ld y_View_watchersOf 15 1 1 0 := .inl ⟨rfl, .inr ⟨rfl, 1, rfl, by decide +kernel⟩⟩
theorem i_View_watchersOf_16 : decode y_View_watchersOf.2.1 16 = .ok (.iaload, 1) := by decide +kernel
theorem i_View_watchersOf_17 : mj_Go y_View_watchersOf 17 21 := ⟨4, by decide, by decide +kernel⟩
theorem i_View_watchersOf_20 : mj_Kc y_View_watchersOf 20 1 (.int 0) := .inl ⟨0, by decide +kernel, rfl, by decide +kernel⟩
theorem i_View_watchersOf_21 : decode y_View_watchersOf.2.1 21 = .ok (.ireturn, 1) := by decide +kernel
theorem i_View_cellsSeenBy_0 : mj_Kc y_View_cellsSeenBy 0 1 (.int 0) := .inl ⟨0, by decide +kernel, rfl, by decide +kernel⟩
theorem i_View_cellsSeenBy_1 : mj_St y_View_cellsSeenBy 1 1 2 0 := .inl ⟨rfl, .inr ⟨rfl, 2, rfl, by decide +kernel⟩⟩
theorem i_View_cellsSeenBy_2 : mj_Kc y_View_cellsSeenBy 2 1 (.int 0) := .inl ⟨0, by decide +kernel, rfl, by decide +kernel⟩
theorem i_View_cellsSeenBy_3 : mj_St y_View_cellsSeenBy 3 1 3 0 := .inl ⟨rfl, .inr ⟨rfl, 3, rfl, by decide +kernel⟩⟩
theorem i_View_cellsSeenBy_4 : mj_Ld y_View_cellsSeenBy 4 1 3 0 := .inl ⟨rfl, .inr ⟨rfl, 3, rfl, by decide +kernel⟩⟩
theorem i_View_cellsSeenBy_5 : mj_Kc y_View_cellsSeenBy 5 2 (.int 100) := .inr (.inl ⟨100, by decide +kernel, rfl, by decide +kernel⟩)
theorem i_View_cellsSeenBy_7 : mj_Ic y_View_cellsSeenBy 7 37 (fun (a b : Int32) => b ≤ a) := ⟨30, by decide, .inr (.inr (.inr (.inl ⟨by decide +kernel, rfl⟩)))⟩
theorem i_View_cellsSeenBy_10 : mj_Ld y_View_cellsSeenBy 10 1 2 0 := .inl ⟨rfl, .inr ⟨rfl, 2, rfl, by decide +kernel⟩⟩
theorem i_View_cellsSeenBy_11 : mj_Ld y_View_cellsSeenBy 11 1 0 2 := .inr (.inr ⟨rfl, .inr ⟨rfl, 0, rfl, by decide +kernel⟩⟩)
theorem i_View_cellsSeenBy_12 : mj_Ld y_View_cellsSeenBy 12 1 3 0 := .inl ⟨rfl, .inr ⟨rfl, 3, rfl, by decide +kernel⟩⟩
theorem i_View_cellsSeenBy_13 : mj_Cv y_View_cellsSeenBy 13 y_View_watchersOf 6 1 := ⟨by decide, rfl, mt_View_watchersOf, 63, by decide +kernel, mm_503, mm_491, mm_492⟩
theorem i_View_cellsSeenBy_16 : mj_Ld y_View_cellsSeenBy 16 1 1 0 := .inl ⟨rfl, .inr ⟨rfl, 1, rfl, by decide +kernel⟩⟩
theorem i_View_cellsSeenBy_17 : mj_B2 y_View_cellsSeenBy 17 (fun (a b : Int32) => a &&& b) := .inr (.inr (.inr (.inl ⟨by decide +kernel, rfl⟩)))
theorem i_View_cellsSeenBy_18 : mj_If y_View_cellsSeenBy 18 25 (fun (a : Int32) => a = 0) := ⟨7, by decide, .inl ⟨by decide +kernel, rfl⟩⟩
theorem i_View_cellsSeenBy_21 : mj_Kc y_View_cellsSeenBy 21 1 (.int 1) := .inl ⟨1, by decide +kernel, rfl, by decide +kernel⟩
theorem i_View_cellsSeenBy_22 : mj_Go y_View_cellsSeenBy 22 26 := ⟨4, by decide, by decide +kernel⟩
theorem i_View_cellsSeenBy_25 : mj_Kc y_View_cellsSeenBy 25 1 (.int 0) := .inl ⟨0, by decide +kernel, rfl, by decide +kernel⟩
theorem i_View_cellsSeenBy_26 : mj_Cs y_View_cellsSeenBy 26 y_GW_bit 1 := ⟨mt_GW_bit, 69, by decide +kernel, mm_325, .inr ⟨"GalleryWatch", mm_504⟩⟩
theorem i_View_cellsSeenBy_29 : mj_B2 y_View_cellsSeenBy 29 (fun (a b : Int32) => a + b) := .inl ⟨by decide +kernel, rfl⟩
theorem i_View_cellsSeenBy_30 : mj_St y_View_cellsSeenBy 30 1 2 0 := .inl ⟨rfl, .inr ⟨rfl, 2, rfl, by decide +kernel⟩⟩
theorem i_View_cellsSeenBy_31 : mj_In y_View_cellsSeenBy 31 3 1 := ⟨1, by decide +kernel, by decide +kernel⟩
theorem i_View_cellsSeenBy_34 : mj_Go y_View_cellsSeenBy 34 4 := ⟨(-30), by decide, by decide +kernel⟩
theorem i_View_cellsSeenBy_37 : mj_Ld y_View_cellsSeenBy 37 1 2 0 := .inl ⟨rfl, .inr ⟨rfl, 2, rfl, by decide +kernel⟩⟩
theorem i_View_cellsSeenBy_38 : decode y_View_cellsSeenBy.2.1 38 = .ok (.ireturn, 1) := by decide +kernel
theorem i_View_leastUnwatched_0 : mj_Kc y_View_leastUnwatched 0 1 (.int 0) := .inl ⟨0, by decide +kernel, rfl, by decide +kernel⟩
theorem i_View_leastUnwatched_1 : mj_St y_View_leastUnwatched 1 1 2 0 := .inl ⟨rfl, .inr ⟨rfl, 2, rfl, by decide +kernel⟩⟩
theorem i_View_leastUnwatched_2 : mj_Ld y_View_leastUnwatched 2 1 2 0 := .inl ⟨rfl, .inr ⟨rfl, 2, rfl, by decide +kernel⟩⟩
theorem i_View_leastUnwatched_3 : mj_Kc y_View_leastUnwatched 3 2 (.int 100) := .inr (.inl ⟨100, by decide +kernel, rfl, by decide +kernel⟩)
theorem i_View_leastUnwatched_5 : mj_Ic y_View_leastUnwatched 5 37 (fun (a b : Int32) => b ≤ a) := ⟨32, by decide, .inr (.inr (.inr (.inl ⟨by decide +kernel, rfl⟩)))⟩
theorem i_View_leastUnwatched_8 : mj_Ld y_View_leastUnwatched 8 1 0 2 := .inr (.inr ⟨rfl, .inr ⟨rfl, 0, rfl, by decide +kernel⟩⟩)
theorem i_View_leastUnwatched_9 : mj_Gf y_View_leastUnwatched 9 6 0 := ⟨by decide, by decide, 15, by decide +kernel, .inl mm_54⟩
theorem i_View_leastUnwatched_12 : mj_Ld y_View_leastUnwatched 12 1 2 0 := .inl ⟨rfl, .inr ⟨rfl, 2, rfl, by decide +kernel⟩⟩
theorem i_View_leastUnwatched_13 : mj_Cv y_View_leastUnwatched 13 y_Room_isOpen 4 1 := ⟨by decide, rfl, mt_Room_isOpen, 23, by decide +kernel, mm_464, mm_285, mm_286⟩
theorem i_View_leastUnwatched_16 : mj_If y_View_leastUnwatched 16 31 (fun (a : Int32) => a = 0) := ⟨15, by decide, .inl ⟨by decide +kernel, rfl⟩⟩
theorem i_View_leastUnwatched_19 : mj_Ld y_View_leastUnwatched 19 1 0 2 := .inr (.inr ⟨rfl, .inr ⟨rfl, 0, rfl, by decide +kernel⟩⟩)
theorem i_View_leastUnwatched_20 : mj_Ld y_View_leastUnwatched 20 1 2 0 := .inl ⟨rfl, .inr ⟨rfl, 2, rfl, by decide +kernel⟩⟩
theorem i_View_leastUnwatched_21 : mj_Cv y_View_leastUnwatched 21 y_View_watchersOf 6 1 := ⟨by decide, rfl, mt_View_watchersOf, 63, by decide +kernel, mm_503, mm_491, mm_492⟩
theorem i_View_leastUnwatched_24 : mj_Ld y_View_leastUnwatched 24 1 1 0 := .inl ⟨rfl, .inr ⟨rfl, 1, rfl, by decide +kernel⟩⟩
theorem i_View_leastUnwatched_25 : mj_B2 y_View_leastUnwatched 25 (fun (a b : Int32) => a &&& b) := .inr (.inr (.inr (.inl ⟨by decide +kernel, rfl⟩)))
theorem i_View_leastUnwatched_26 : mj_If y_View_leastUnwatched 26 31 (fun (a : Int32) => ¬ a = 0) := ⟨5, by decide, .inr (.inl ⟨by decide +kernel, rfl⟩)⟩
theorem i_View_leastUnwatched_29 : mj_Ld y_View_leastUnwatched 29 1 2 0 := .inl ⟨rfl, .inr ⟨rfl, 2, rfl, by decide +kernel⟩⟩
theorem i_View_leastUnwatched_30 : decode y_View_leastUnwatched.2.1 30 = .ok (.ireturn, 1) := by decide +kernel
theorem i_View_leastUnwatched_31 : mj_In y_View_leastUnwatched 31 2 1 := ⟨1, by decide +kernel, by decide +kernel⟩
theorem i_View_leastUnwatched_34 : mj_Go y_View_leastUnwatched 34 2 := ⟨(-32), by decide, by decide +kernel⟩
theorem i_View_leastUnwatched_37 : mj_Kc y_View_leastUnwatched 37 2 (.int (-2000000005)) := .inr (.inr (.inr (.inl ⟨73, (-2000000005), by decide +kernel, rfl, rfl, mm_525⟩)))
theorem i_View_leastUnwatched_39 : decode y_View_leastUnwatched.2.1 39 = .ok (.ireturn, 1) := by decide +kernel
theorem i_View_sparedOf_0 : mj_Kc y_View_sparedOf 0 1 (.int 0) := .inl ⟨0, by decide +kernel, rfl, by decide +kernel⟩
theorem i_View_sparedOf_1 : mj_St y_View_sparedOf 1 1 2 0 := .inl ⟨rfl, .inr ⟨rfl, 2, rfl, by decide +kernel⟩⟩
theorem i_View_sparedOf_2 : mj_Kc y_View_sparedOf 2 1 (.int 0) := .inl ⟨0, by decide +kernel, rfl, by decide +kernel⟩
theorem i_View_sparedOf_3 : mj_St y_View_sparedOf 3 1 3 0 := .inl ⟨rfl, .inr ⟨rfl, 3, rfl, by decide +kernel⟩⟩
theorem i_View_sparedOf_4 : mj_Ld y_View_sparedOf 4 1 3 0 := .inl ⟨rfl, .inr ⟨rfl, 3, rfl, by decide +kernel⟩⟩
theorem i_View_sparedOf_5 : mj_Kc y_View_sparedOf 5 2 (.int 14) := .inr (.inl ⟨14, by decide +kernel, rfl, by decide +kernel⟩)
theorem i_View_sparedOf_7 : mj_Ic y_View_sparedOf 7 48 (fun (a b : Int32) => b ≤ a) := ⟨41, by decide, .inr (.inr (.inr (.inl ⟨by decide +kernel, rfl⟩)))⟩
theorem i_View_sparedOf_10 : mj_Kc y_View_sparedOf 10 1 (.int 1) := .inl ⟨1, by decide +kernel, rfl, by decide +kernel⟩
theorem i_View_sparedOf_11 : mj_Ld y_View_sparedOf 11 1 3 0 := .inl ⟨rfl, .inr ⟨rfl, 3, rfl, by decide +kernel⟩⟩
theorem i_View_sparedOf_12 : mj_B2 y_View_sparedOf 12 (fun (a b : Int32) => a <<< (b &&& 31)) := .inr (.inr (.inr (.inr (.inr (.inr (.inl ⟨by decide +kernel, rfl⟩))))))
theorem i_View_sparedOf_13 : mj_St y_View_sparedOf 13 2 4 0 := .inl ⟨rfl, .inl ⟨rfl, by decide +kernel⟩⟩
theorem i_View_sparedOf_15 : mj_Ld y_View_sparedOf 15 1 1 0 := .inl ⟨rfl, .inr ⟨rfl, 1, rfl, by decide +kernel⟩⟩
theorem i_View_sparedOf_16 : mj_Ld y_View_sparedOf 16 2 4 0 := .inl ⟨rfl, .inl ⟨rfl, by decide +kernel⟩⟩
theorem i_View_sparedOf_18 : mj_B2 y_View_sparedOf 18 (fun (a b : Int32) => a &&& b) := .inr (.inr (.inr (.inl ⟨by decide +kernel, rfl⟩)))
theorem i_View_sparedOf_19 : mj_If y_View_sparedOf 19 42 (fun (a : Int32) => a = 0) := ⟨23, by decide, .inl ⟨by decide +kernel, rfl⟩⟩
theorem i_View_sparedOf_22 : mj_Ld y_View_sparedOf 22 1 0 2 := .inr (.inr ⟨rfl, .inr ⟨rfl, 0, rfl, by decide +kernel⟩⟩)
theorem i_View_sparedOf_23 : mj_Ld y_View_sparedOf 23 1 1 0 := .inl ⟨rfl, .inr ⟨rfl, 1, rfl, by decide +kernel⟩⟩
theorem i_View_sparedOf_24 : mj_Ld y_View_sparedOf 24 2 4 0 := .inl ⟨rfl, .inl ⟨rfl, by decide +kernel⟩⟩
theorem i_View_sparedOf_26 : mj_Kc y_View_sparedOf 26 1 (.int (-1)) := .inl ⟨(-1), by decide +kernel, rfl, by decide +kernel⟩
theorem i_View_sparedOf_27 : mj_B2 y_View_sparedOf 27 (fun (a b : Int32) => a ^^^ b) := .inr (.inr (.inr (.inr (.inr (.inl ⟨by decide +kernel, rfl⟩)))))
theorem i_View_sparedOf_28 : mj_B2 y_View_sparedOf 28 (fun (a b : Int32) => a &&& b) := .inr (.inr (.inr (.inl ⟨by decide +kernel, rfl⟩)))
theorem i_View_sparedOf_29 : mj_Cv y_View_sparedOf 29 y_View_leastUnwatched 6 1 := ⟨by decide, rfl, mt_View_leastUnwatched, 74, by decide +kernel, mm_538, mm_522, mm_523⟩
theorem i_View_sparedOf_32 : mj_Kc y_View_sparedOf 32 2 (.int (-2000000005)) := .inr (.inr (.inr (.inl ⟨73, (-2000000005), by decide +kernel, rfl, rfl, mm_525⟩)))
theorem i_View_sparedOf_34 : mj_Ic y_View_sparedOf 34 42 (fun (a b : Int32) => ¬ a = b) := ⟨8, by decide, .inr (.inl ⟨by decide +kernel, rfl⟩)⟩
theorem i_View_sparedOf_37 : mj_Ld y_View_sparedOf 37 1 2 0 := .inl ⟨rfl, .inr ⟨rfl, 2, rfl, by decide +kernel⟩⟩
theorem i_View_sparedOf_38 : mj_Ld y_View_sparedOf 38 2 4 0 := .inl ⟨rfl, .inl ⟨rfl, by decide +kernel⟩⟩
theorem i_View_sparedOf_40 : mj_B2 y_View_sparedOf 40 (fun (a b : Int32) => a ||| b) := .inr (.inr (.inr (.inr (.inl ⟨by decide +kernel, rfl⟩))))
theorem i_View_sparedOf_41 : mj_St y_View_sparedOf 41 1 2 0 := .inl ⟨rfl, .inr ⟨rfl, 2, rfl, by decide +kernel⟩⟩
theorem i_View_sparedOf_42 : mj_In y_View_sparedOf 42 3 1 := ⟨1, by decide +kernel, by decide +kernel⟩
theorem i_View_sparedOf_45 : mj_Go y_View_sparedOf 45 4 := ⟨(-41), by decide, by decide +kernel⟩
theorem i_View_sparedOf_48 : mj_Ld y_View_sparedOf 48 1 2 0 := .inl ⟨rfl, .inr ⟨rfl, 2, rfl, by decide +kernel⟩⟩
theorem i_View_sparedOf_49 : decode y_View_sparedOf.2.1 49 = .ok (.ireturn, 1) := by decide +kernel
theorem i_View_isUnseen_0 : mj_Ld y_View_isUnseen 0 1 0 2 := .inr (.inr ⟨rfl, .inr ⟨rfl, 0, rfl, by decide +kernel⟩⟩)
theorem i_View_isUnseen_1 : mj_Gf y_View_isUnseen 1 6 0 := ⟨by decide, by decide, 15, by decide +kernel, .inl mm_54⟩
theorem i_View_isUnseen_4 : mj_Ld y_View_isUnseen 4 1 1 0 := .inl ⟨rfl, .inr ⟨rfl, 1, rfl, by decide +kernel⟩⟩
theorem i_View_isUnseen_5 : mj_Cv y_View_isUnseen 5 y_Room_isOpen 4 1 := ⟨by decide, rfl, mt_Room_isOpen, 23, by decide +kernel, mm_464, mm_285, mm_286⟩
theorem i_View_isUnseen_8 : mj_If y_View_isUnseen 8 23 (fun (a : Int32) => a = 0) := ⟨15, by decide, .inl ⟨by decide +kernel, rfl⟩⟩
theorem i_View_isUnseen_11 : mj_Ld y_View_isUnseen 11 1 0 2 := .inr (.inr ⟨rfl, .inr ⟨rfl, 0, rfl, by decide +kernel⟩⟩)
theorem i_View_isUnseen_12 : mj_Ld y_View_isUnseen 12 1 1 0 := .inl ⟨rfl, .inr ⟨rfl, 1, rfl, by decide +kernel⟩⟩
theorem i_View_isUnseen_13 : mj_Cv y_View_isUnseen 13 y_View_watchersOf 6 1 := ⟨by decide, rfl, mt_View_watchersOf, 63, by decide +kernel, mm_503, mm_491, mm_492⟩
theorem i_View_isUnseen_16 : mj_If y_View_isUnseen 16 23 (fun (a : Int32) => ¬ a = 0) := ⟨7, by decide, .inr (.inl ⟨by decide +kernel, rfl⟩)⟩
theorem i_View_isUnseen_19 : mj_Kc y_View_isUnseen 19 1 (.int 1) := .inl ⟨1, by decide +kernel, rfl, by decide +kernel⟩
theorem i_View_isUnseen_20 : mj_Go y_View_isUnseen 20 24 := ⟨4, by decide, by decide +kernel⟩
theorem i_View_isUnseen_23 : mj_Kc y_View_isUnseen 23 1 (.int 0) := .inl ⟨0, by decide +kernel, rfl, by decide +kernel⟩
theorem i_View_isUnseen_24 : decode y_View_isUnseen.2.1 24 = .ok (.ireturn, 1) := by decide +kernel
theorem i_View_unseenCells_0 : mj_Kc y_View_unseenCells 0 1 (.int 0) := .inl ⟨0, by decide +kernel, rfl, by decide +kernel⟩
theorem i_View_unseenCells_1 : mj_St y_View_unseenCells 1 1 1 0 := .inl ⟨rfl, .inr ⟨rfl, 1, rfl, by decide +kernel⟩⟩
theorem i_View_unseenCells_2 : mj_Kc y_View_unseenCells 2 1 (.int 0) := .inl ⟨0, by decide +kernel, rfl, by decide +kernel⟩
theorem i_View_unseenCells_3 : mj_St y_View_unseenCells 3 1 2 0 := .inl ⟨rfl, .inr ⟨rfl, 2, rfl, by decide +kernel⟩⟩
theorem i_View_unseenCells_4 : mj_Ld y_View_unseenCells 4 1 2 0 := .inl ⟨rfl, .inr ⟨rfl, 2, rfl, by decide +kernel⟩⟩
theorem i_View_unseenCells_5 : mj_Kc y_View_unseenCells 5 2 (.int 100) := .inr (.inl ⟨100, by decide +kernel, rfl, by decide +kernel⟩)
theorem i_View_unseenCells_7 : mj_Ic y_View_unseenCells 7 27 (fun (a b : Int32) => b ≤ a) := ⟨20, by decide, .inr (.inr (.inr (.inl ⟨by decide +kernel, rfl⟩)))⟩
theorem i_View_unseenCells_10 : mj_Ld y_View_unseenCells 10 1 1 0 := .inl ⟨rfl, .inr ⟨rfl, 1, rfl, by decide +kernel⟩⟩
theorem i_View_unseenCells_11 : mj_Ld y_View_unseenCells 11 1 0 2 := .inr (.inr ⟨rfl, .inr ⟨rfl, 0, rfl, by decide +kernel⟩⟩)
theorem i_View_unseenCells_12 : mj_Ld y_View_unseenCells 12 1 2 0 := .inl ⟨rfl, .inr ⟨rfl, 2, rfl, by decide +kernel⟩⟩
theorem i_View_unseenCells_13 : mj_Cv y_View_unseenCells 13 y_View_isUnseen 6 1 := ⟨by decide, rfl, mt_View_isUnseen, 66, by decide +kernel, mm_725, mm_605, mm_606⟩
theorem i_View_unseenCells_16 : mj_Cs y_View_unseenCells 16 y_GW_bit 1 := ⟨mt_GW_bit, 69, by decide +kernel, mm_325, .inr ⟨"GalleryWatch", mm_504⟩⟩
theorem i_View_unseenCells_19 : mj_B2 y_View_unseenCells 19 (fun (a b : Int32) => a + b) := .inl ⟨by decide +kernel, rfl⟩
theorem i_View_unseenCells_20 : mj_St y_View_unseenCells 20 1 1 0 := .inl ⟨rfl, .inr ⟨rfl, 1, rfl, by decide +kernel⟩⟩
theorem i_View_unseenCells_21 : mj_In y_View_unseenCells 21 2 1 := ⟨1, by decide +kernel, by decide +kernel⟩
theorem i_View_unseenCells_24 : mj_Go y_View_unseenCells 24 4 := ⟨(-20), by decide, by decide +kernel⟩
theorem i_View_unseenCells_27 : mj_Ld y_View_unseenCells 27 1 1 0 := .inl ⟨rfl, .inr ⟨rfl, 1, rfl, by decide +kernel⟩⟩
theorem i_View_unseenCells_28 : decode y_View_unseenCells.2.1 28 = .ok (.ireturn, 1) := by decide +kernel
theorem i_Choice_init_0 : mj_Ld y_Choice_init 0 1 0 2 := .inr (.inr ⟨rfl, .inr ⟨rfl, 0, rfl, by decide +kernel⟩⟩)
theorem i_Choice_init_1 : mj_Oi y_Choice_init 1 := ⟨3, by decide +kernel, mm_91⟩
theorem i_Choice_init_4 : mj_Ld y_Choice_init 4 1 0 2 := .inr (.inr ⟨rfl, .inr ⟨rfl, 0, rfl, by decide +kernel⟩⟩)
theorem i_Choice_init_5 : mj_Kc y_Choice_init 5 2 (.int 14) := .inr (.inl ⟨14, by decide +kernel, rfl, by decide +kernel⟩)
theorem i_Choice_init_7 : mj_Na y_Choice_init 7 1 := .inr (.inl ⟨rfl, by decide +kernel⟩)
theorem i_Choice_init_9 : mj_Pf y_Choice_init 9 0 1 (.array .long) := ⟨by decide, by decide, 9, by decide +kernel, mm_93, by decide +kernel, .inr ⟨rfl, rfl, rfl⟩⟩
theorem i_Choice_init_12 : mj_Ld y_Choice_init 12 1 0 2 := .inr (.inr ⟨rfl, .inr ⟨rfl, 0, rfl, by decide +kernel⟩⟩)
theorem i_Choice_init_13 : mj_Kc y_Choice_init 13 2 (.int 14) := .inr (.inl ⟨14, by decide +kernel, rfl, by decide +kernel⟩)
theorem i_Choice_init_15 : mj_Na y_Choice_init 15 1 := .inr (.inl ⟨rfl, by decide +kernel⟩)
theorem i_Choice_init_17 : mj_Pf y_Choice_init 17 0 2 (.array .long) := ⟨by decide, by decide, 15, by decide +kernel, mm_94, by decide +kernel, .inr ⟨rfl, rfl, rfl⟩⟩
theorem i_Choice_init_20 : mj_Ld y_Choice_init 20 1 0 2 := .inr (.inr ⟨rfl, .inr ⟨rfl, 0, rfl, by decide +kernel⟩⟩)
theorem i_Choice_init_21 : mj_Kc y_Choice_init 21 2 (.int 14) := .inr (.inl ⟨14, by decide +kernel, rfl, by decide +kernel⟩)
theorem i_Choice_init_23 : mj_Na y_Choice_init 23 1 := .inr (.inl ⟨rfl, by decide +kernel⟩)
theorem i_Choice_init_25 : mj_Pf y_Choice_init 25 0 3 (.array .long) := ⟨by decide, by decide, 18, by decide +kernel, mm_95, by decide +kernel, .inr ⟨rfl, rfl, rfl⟩⟩
theorem i_Choice_init_28 : mj_Ld y_Choice_init 28 1 0 2 := .inr (.inr ⟨rfl, .inr ⟨rfl, 0, rfl, by decide +kernel⟩⟩)
theorem i_Choice_init_29 : mj_Kc y_Choice_init 29 2 (.int 14) := .inr (.inl ⟨14, by decide +kernel, rfl, by decide +kernel⟩)
theorem i_Choice_init_31 : mj_Na y_Choice_init 31 1 := .inr (.inl ⟨rfl, by decide +kernel⟩)
theorem i_Choice_init_33 : mj_Pf y_Choice_init 33 0 4 (.array .long) := ⟨by decide, by decide, 21, by decide +kernel, mm_96, by decide +kernel, .inr ⟨rfl, rfl, rfl⟩⟩
theorem i_Choice_init_36 : mj_Ld y_Choice_init 36 1 0 2 := .inr (.inr ⟨rfl, .inr ⟨rfl, 0, rfl, by decide +kernel⟩⟩)
theorem i_Choice_init_37 : mj_Ld y_Choice_init 37 1 1 2 := .inr (.inr ⟨rfl, .inr ⟨rfl, 1, rfl, by decide +kernel⟩⟩)
theorem i_Choice_init_38 : mj_Pf y_Choice_init 38 0 0 (.object "GalleryWatch$View") := ⟨by decide, by decide, 24, by decide +kernel, mm_92, by decide +kernel, .inr ⟨rfl, rfl, rfl⟩⟩
theorem i_Choice_init_41 : decode y_Choice_init.2.1 41 = .ok (.return_, 1) := by decide +kernel
theorem i_Choice_outdate_0 : mj_Ld y_Choice_outdate 0 1 0 2 := .inr (.inr ⟨rfl, .inr ⟨rfl, 0, rfl, by decide +kernel⟩⟩)
theorem i_Choice_outdate_1 : mj_Kc y_Choice_outdate 1 1 (.int 0) := .inl ⟨0, by decide +kernel, rfl, by decide +kernel⟩
theorem i_Choice_outdate_2 : mj_Pf y_Choice_outdate 2 0 7 (.boolean) := ⟨by decide, by decide, 28, by decide +kernel, mm_99, by decide +kernel, .inl rfl⟩
theorem i_Choice_outdate_5 : decode y_Choice_outdate.2.1 5 = .ok (.return_, 1) := by decide +kernel
theorem i_Choice_solve_0 : mj_Ld y_Choice_solve 0 1 0 2 := .inr (.inr ⟨rfl, .inr ⟨rfl, 0, rfl, by decide +kernel⟩⟩)
theorem i_Choice_solve_1 : mj_Gf y_Choice_solve 1 0 7 := ⟨by decide, by decide, 28, by decide +kernel, .inl mm_99⟩
theorem i_Choice_solve_4 : mj_If y_Choice_solve 4 8 (fun (a : Int32) => a = 0) := ⟨4, by decide, .inl ⟨by decide +kernel, rfl⟩⟩
theorem i_Choice_solve_7 : decode y_Choice_solve.2.1 7 = .ok (.return_, 1) := by decide +kernel
theorem i_Choice_solve_8 : mj_Ld y_Choice_solve 8 1 0 2 := .inr (.inr ⟨rfl, .inr ⟨rfl, 0, rfl, by decide +kernel⟩⟩)
theorem i_Choice_solve_9 : mj_Cv y_Choice_solve 9 y_Choice_gatherOpen 0 0 := ⟨by decide, rfl, mt_Choice_gatherOpen, 32, by decide +kernel, mm_547, mm_549, mp_7⟩
theorem i_Choice_solve_12 : mj_Ld y_Choice_solve 12 1 0 2 := .inr (.inr ⟨rfl, .inr ⟨rfl, 0, rfl, by decide +kernel⟩⟩)
theorem i_Choice_solve_13 : mj_Cv y_Choice_solve 13 y_Choice_gatherSeen 0 0 := ⟨by decide, rfl, mt_Choice_gatherSeen, 35, by decide +kernel, mm_558, mm_560, mp_8⟩
theorem i_Choice_solve_16 : mj_Ld y_Choice_solve 16 1 0 2 := .inr (.inr ⟨rfl, .inr ⟨rfl, 0, rfl, by decide +kernel⟩⟩)
theorem i_Choice_solve_17 : mj_Kc y_Choice_solve 17 2 (.int (-2000000005)) := .inr (.inr (.inr (.inl ⟨38, (-2000000005), by decide +kernel, rfl, rfl, mm_563⟩)))
theorem i_Choice_solve_19 : mj_Pf y_Choice_solve 19 0 8 (.int) := ⟨by decide, by decide, 39, by decide +kernel, mm_100, by decide +kernel, .inl rfl⟩
theorem i_Choice_solve_22 : mj_Ld y_Choice_solve 22 1 0 2 := .inr (.inr ⟨rfl, .inr ⟨rfl, 0, rfl, by decide +kernel⟩⟩)
theorem i_Choice_solve_23 : mj_Kc y_Choice_solve 23 2 (.int (-2000000005)) := .inr (.inr (.inr (.inl ⟨38, (-2000000005), by decide +kernel, rfl, rfl, mm_563⟩)))
theorem i_Choice_solve_25 : mj_Pf y_Choice_solve 25 0 9 (.int) := ⟨by decide, by decide, 43, by decide +kernel, mm_102, by decide +kernel, .inl rfl⟩
theorem i_Choice_solve_28 : mj_Ld y_Choice_solve 28 1 0 2 := .inr (.inr ⟨rfl, .inr ⟨rfl, 0, rfl, by decide +kernel⟩⟩)
theorem i_Choice_solve_29 : mj_Kc y_Choice_solve 29 1 (.int 0) := .inl ⟨0, by decide +kernel, rfl, by decide +kernel⟩
theorem i_Choice_solve_30 : mj_Pf y_Choice_solve 30 0 10 (.int) := ⟨by decide, by decide, 46, by decide +kernel, mm_104, by decide +kernel, .inl rfl⟩
theorem i_Choice_solve_33 : mj_Kc y_Choice_solve 33 1 (.int 0) := .inl ⟨0, by decide +kernel, rfl, by decide +kernel⟩
theorem i_Choice_solve_34 : mj_St y_Choice_solve 34 1 1 0 := .inl ⟨rfl, .inr ⟨rfl, 1, rfl, by decide +kernel⟩⟩
theorem i_Choice_solve_35 : mj_Ld y_Choice_solve 35 1 1 0 := .inl ⟨rfl, .inr ⟨rfl, 1, rfl, by decide +kernel⟩⟩
theorem i_Choice_solve_36 : mj_Kc y_Choice_solve 36 2 (.int 14) := .inr (.inl ⟨14, by decide +kernel, rfl, by decide +kernel⟩)
theorem i_Choice_solve_38 : mj_Ic y_Choice_solve 38 80 (fun (a b : Int32) => b < a) := ⟨42, by decide, .inr (.inr (.inr (.inr (.inl ⟨by decide +kernel, rfl⟩))))⟩
theorem i_Choice_solve_41 : mj_Ld y_Choice_solve 41 1 0 2 := .inr (.inr ⟨rfl, .inr ⟨rfl, 0, rfl, by decide +kernel⟩⟩)
theorem i_Choice_solve_42 : mj_Gf y_Choice_solve 42 0 10 := ⟨by decide, by decide, 46, by decide +kernel, .inl mm_104⟩
theorem i_Choice_solve_45 : mj_If y_Choice_solve 45 80 (fun (a : Int32) => ¬ a = 0) := ⟨35, by decide, .inr (.inl ⟨by decide +kernel, rfl⟩)⟩
theorem i_Choice_solve_48 : mj_Ld y_Choice_solve 48 1 0 2 := .inr (.inr ⟨rfl, .inr ⟨rfl, 0, rfl, by decide +kernel⟩⟩)
theorem i_Choice_solve_49 : mj_Ld y_Choice_solve 49 1 1 0 := .inl ⟨rfl, .inr ⟨rfl, 1, rfl, by decide +kernel⟩⟩
theorem i_Choice_solve_50 : mj_Kc y_Choice_solve 50 1 (.int 0) := .inl ⟨0, by decide +kernel, rfl, by decide +kernel⟩
theorem i_Choice_solve_51 : mj_Kc y_Choice_solve 51 1 (.int 0) := .inl ⟨0, by decide +kernel, rfl, by decide +kernel⟩
theorem i_Choice_solve_52 : mj_Kc y_Choice_solve 52 1 (.long 0) := .inr (.inr (.inr (.inr (.inr (.inl ⟨0, by decide +kernel, rfl, by decide +kernel⟩)))))
theorem i_Choice_solve_53 : mj_Kc y_Choice_solve 53 1 (.long 0) := .inr (.inr (.inr (.inr (.inr (.inl ⟨0, by decide +kernel, rfl, by decide +kernel⟩)))))
theorem i_Choice_solve_54 : mj_Cv y_Choice_solve 54 y_Choice_extend 0 5 := ⟨by decide, rfl, mt_Choice_extend, 49, by decide +kernel, mm_564, mm_566, mp_9⟩
theorem i_Choice_solve_57 : mj_Ld y_Choice_solve 57 1 0 2 := .inr (.inr ⟨rfl, .inr ⟨rfl, 0, rfl, by decide +kernel⟩⟩)
theorem i_Choice_solve_58 : mj_Ld y_Choice_solve 58 1 0 2 := .inr (.inr ⟨rfl, .inr ⟨rfl, 0, rfl, by decide +kernel⟩⟩)
theorem i_Choice_solve_59 : mj_Gf y_Choice_solve 59 0 10 := ⟨by decide, by decide, 46, by decide +kernel, .inl mm_104⟩
theorem i_Choice_solve_62 : mj_If y_Choice_solve 62 69 (fun (a : Int32) => a ≤ 0) := ⟨7, by decide, .inr (.inr (.inr (.inr (.inr (⟨by decide +kernel, rfl⟩)))))⟩
theorem i_Choice_solve_65 : mj_Ld y_Choice_solve 65 1 1 0 := .inl ⟨rfl, .inr ⟨rfl, 1, rfl, by decide +kernel⟩⟩
theorem i_Choice_solve_66 : mj_Go y_Choice_solve 66 71 := ⟨5, by decide, by decide +kernel⟩
theorem i_Choice_solve_69 : mj_Kc y_Choice_solve 69 2 (.int (-2000000005)) := .inr (.inr (.inr (.inl ⟨38, (-2000000005), by decide +kernel, rfl, rfl, mm_563⟩)))
theorem i_Choice_solve_71 : mj_Pf y_Choice_solve 71 0 8 (.int) := ⟨by decide, by decide, 39, by decide +kernel, mm_100, by decide +kernel, .inl rfl⟩
theorem i_Choice_solve_74 : mj_In y_Choice_solve 74 1 1 := ⟨1, by decide +kernel, by decide +kernel⟩
theorem i_Choice_solve_77 : mj_Go y_Choice_solve 77 35 := ⟨(-42), by decide, by decide +kernel⟩
theorem i_Choice_solve_80 : mj_Ld y_Choice_solve 80 1 0 2 := .inr (.inr ⟨rfl, .inr ⟨rfl, 0, rfl, by decide +kernel⟩⟩)
theorem i_Choice_solve_81 : mj_Kc y_Choice_solve 81 1 (.int 1) := .inl ⟨1, by decide +kernel, rfl, by decide +kernel⟩
theorem i_Choice_solve_82 : mj_Pf y_Choice_solve 82 0 7 (.boolean) := ⟨by decide, by decide, 28, by decide +kernel, mm_99, by decide +kernel, .inl rfl⟩
theorem i_Choice_solve_85 : decode y_Choice_solve.2.1 85 = .ok (.return_, 1) := by decide +kernel
theorem i_Choice_gatherOpen_0 : mj_Ld y_Choice_gatherOpen 0 1 0 2 := .inr (.inr ⟨rfl, .inr ⟨rfl, 0, rfl, by decide +kernel⟩⟩)
theorem i_Choice_gatherOpen_1 : mj_Kc y_Choice_gatherOpen 1 1 (.long 0) := .inr (.inr (.inr (.inr (.inr (.inl ⟨0, by decide +kernel, rfl, by decide +kernel⟩)))))
theorem i_Choice_gatherOpen_2 : mj_Pf y_Choice_gatherOpen 2 0 5 (.long) := ⟨by decide, by decide, 53, by decide +kernel, mm_97, by decide +kernel, .inl rfl⟩
theorem i_Choice_gatherOpen_5 : mj_Ld y_Choice_gatherOpen 5 1 0 2 := .inr (.inr ⟨rfl, .inr ⟨rfl, 0, rfl, by decide +kernel⟩⟩)
theorem i_Choice_gatherOpen_6 : mj_Kc y_Choice_gatherOpen 6 1 (.long 0) := .inr (.inr (.inr (.inr (.inr (.inl ⟨0, by decide +kernel, rfl, by decide +kernel⟩)))))
theorem i_Choice_gatherOpen_7 : mj_Pf y_Choice_gatherOpen 7 0 6 (.long) := ⟨by decide, by decide, 57, by decide +kernel, mm_98, by decide +kernel, .inl rfl⟩
theorem i_Choice_gatherOpen_10 : mj_Kc y_Choice_gatherOpen 10 1 (.int 0) := .inl ⟨0, by decide +kernel, rfl, by decide +kernel⟩
theorem i_Choice_gatherOpen_11 : mj_St y_Choice_gatherOpen 11 1 1 0 := .inl ⟨rfl, .inr ⟨rfl, 1, rfl, by decide +kernel⟩⟩
theorem i_Choice_gatherOpen_12 : mj_Ld y_Choice_gatherOpen 12 1 1 0 := .inl ⟨rfl, .inr ⟨rfl, 1, rfl, by decide +kernel⟩⟩
theorem i_Choice_gatherOpen_13 : mj_Kc y_Choice_gatherOpen 13 2 (.int 100) := .inr (.inl ⟨100, by decide +kernel, rfl, by decide +kernel⟩)
theorem i_Choice_gatherOpen_15 : mj_Ic y_Choice_gatherOpen 15 64 (fun (a b : Int32) => b ≤ a) := ⟨49, by decide, .inr (.inr (.inr (.inl ⟨by decide +kernel, rfl⟩)))⟩
theorem i_Choice_gatherOpen_18 : mj_Ld y_Choice_gatherOpen 18 1 0 2 := .inr (.inr ⟨rfl, .inr ⟨rfl, 0, rfl, by decide +kernel⟩⟩)
theorem i_Choice_gatherOpen_19 : mj_Gf y_Choice_gatherOpen 19 0 0 := ⟨by decide, by decide, 24, by decide +kernel, .inl mm_92⟩
theorem i_Choice_gatherOpen_22 : mj_Gf y_Choice_gatherOpen 22 6 0 := ⟨by decide, by decide, 60, by decide +kernel, .inr ⟨"GalleryWatch", mm_55⟩⟩
theorem i_Choice_gatherOpen_25 : mj_Ld y_Choice_gatherOpen 25 1 1 0 := .inl ⟨rfl, .inr ⟨rfl, 1, rfl, by decide +kernel⟩⟩
theorem i_Choice_gatherOpen_26 : mj_Cv y_Choice_gatherOpen 26 y_Room_isOpen 4 1 := ⟨by decide, rfl, mt_Room_isOpen, 66, by decide +kernel, mm_551, mm_285, mm_286⟩
theorem i_Choice_gatherOpen_29 : mj_If y_Choice_gatherOpen 29 58 (fun (a : Int32) => a = 0) := ⟨29, by decide, .inl ⟨by decide +kernel, rfl⟩⟩
theorem i_Choice_gatherOpen_32 : mj_Ld y_Choice_gatherOpen 32 1 0 2 := .inr (.inr ⟨rfl, .inr ⟨rfl, 0, rfl, by decide +kernel⟩⟩)
theorem i_Choice_gatherOpen_33 : decode y_Choice_gatherOpen.2.1 33 = .ok (.dup, 1) := by decide +kernel
theorem i_Choice_gatherOpen_34 : mj_Gf y_Choice_gatherOpen 34 0 5 := ⟨by decide, by decide, 53, by decide +kernel, .inl mm_97⟩
theorem i_Choice_gatherOpen_37 : mj_Ld y_Choice_gatherOpen 37 1 1 0 := .inl ⟨rfl, .inr ⟨rfl, 1, rfl, by decide +kernel⟩⟩
theorem i_Choice_gatherOpen_38 : mj_Cs y_Choice_gatherOpen 38 y_Choice_lowBit 1 := ⟨mt_Choice_lowBit, 72, by decide +kernel, mm_553, .inl mm_552⟩
theorem i_Choice_gatherOpen_41 : mj_BL y_Choice_gatherOpen 41 (fun (a b : Int64) => a ||| b) := .inl ⟨by decide +kernel, rfl⟩
