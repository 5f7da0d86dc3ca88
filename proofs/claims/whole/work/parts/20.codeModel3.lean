/-! what stands at each place of the methods: Model -/
theorem i_Model_isOf_53 : mj_Ic y_Model_isOf 53 67 (fun (a b : Int32) => ¬ a = b) := ⟨14, by decide, .inr (.inl ⟨by decide +kernel, rfl⟩)⟩
theorem i_Model_isOf_56 : mj_Ld y_Model_isOf 56 1 3 0 := .inl ⟨rfl, .inr ⟨rfl, 3, rfl, by decide +kernel⟩⟩
theorem i_Model_isOf_57 : mj_Cs y_Model_isOf 57 y_Model_isDoor 1 := ⟨mt_Model_isDoor, 86, by decide +kernel, mm_859, .inl mm_858⟩
theorem i_Model_isOf_60 : mj_If y_Model_isOf 60 67 (fun (a : Int32) => a = 0) := ⟨7, by decide, .inl ⟨by decide +kernel, rfl⟩⟩
theorem i_Model_isOf_63 : mj_Kc y_Model_isOf 63 1 (.int 1) := .inl ⟨1, by decide +kernel, rfl, by decide +kernel⟩
theorem i_Model_isOf_64 : mj_Go y_Model_isOf 64 68 := ⟨4, by decide, by decide +kernel⟩
theorem i_Model_isOf_67 : mj_Kc y_Model_isOf 67 1 (.int 0) := .inl ⟨0, by decide +kernel, rfl, by decide +kernel⟩
theorem i_Model_isOf_68 : mj_St y_Model_isOf 68 2 4 0 := .inl ⟨rfl, .inl ⟨rfl, by decide +kernel⟩⟩
theorem i_Model_isOf_70 : mj_Ld y_Model_isOf 70 2 4 0 := .inl ⟨rfl, .inl ⟨rfl, by decide +kernel⟩⟩
theorem i_Model_isOf_72 : mj_If y_Model_isOf 72 79 (fun (a : Int32) => a = 0) := ⟨7, by decide, .inl ⟨by decide +kernel, rfl⟩⟩
theorem i_Model_isOf_75 : mj_Kc y_Model_isOf 75 1 (.int 1) := .inl ⟨1, by decide +kernel, rfl, by decide +kernel⟩
theorem i_Model_isOf_76 : mj_Go y_Model_isOf 76 80 := ⟨4, by decide, by decide +kernel⟩
theorem i_Model_isOf_79 : mj_Kc y_Model_isOf 79 1 (.int 0) := .inl ⟨0, by decide +kernel, rfl, by decide +kernel⟩
theorem i_Model_isOf_80 : decode y_Model_isOf.2.1 80 = .ok (.ireturn, 1) := by decide +kernel
theorem i_Model_sees_0 : mj_Ld y_Model_sees 0 1 0 2 := .inr (.inr ⟨rfl, .inr ⟨rfl, 0, rfl, by decide +kernel⟩⟩)
theorem i_Model_sees_1 : mj_Ld y_Model_sees 1 1 1 0 := .inl ⟨rfl, .inr ⟨rfl, 1, rfl, by decide +kernel⟩⟩
theorem i_Model_sees_2 : mj_Cv y_Model_sees 2 y_Model_isPost 8 1 := ⟨by decide, rfl, mt_Model_isPost, 126, by decide +kernel, mm_901, mm_903, mp_31⟩
theorem i_Model_sees_5 : mj_If y_Model_sees 5 16 (fun (a : Int32) => a = 0) := ⟨11, by decide, .inl ⟨by decide +kernel, rfl⟩⟩
theorem i_Model_sees_8 : mj_Ld y_Model_sees 8 1 0 2 := .inr (.inr ⟨rfl, .inr ⟨rfl, 0, rfl, by decide +kernel⟩⟩)
theorem i_Model_sees_9 : mj_Ld y_Model_sees 9 1 2 0 := .inl ⟨rfl, .inr ⟨rfl, 2, rfl, by decide +kernel⟩⟩
theorem i_Model_sees_10 : mj_Cv y_Model_sees 10 y_Model_isCell 8 1 := ⟨by decide, rfl, mt_Model_isCell, 96, by decide +kernel, mm_830, mm_832, mp_19⟩
theorem i_Model_sees_13 : mj_If y_Model_sees 13 19 (fun (a : Int32) => ¬ a = 0) := ⟨6, by decide, .inr (.inl ⟨by decide +kernel, rfl⟩)⟩
theorem i_Model_sees_16 : mj_Kc y_Model_sees 16 2 (.int (-2000000001)) := .inr (.inr (.inr (.inl ⟨81, (-2000000001), by decide +kernel, rfl, rfl, mm_821⟩)))
theorem i_Model_sees_18 : decode y_Model_sees.2.1 18 = .ok (.ireturn, 1) := by decide +kernel
theorem i_Model_sees_19 : mj_Ld y_Model_sees 19 1 0 2 := .inr (.inr ⟨rfl, .inr ⟨rfl, 0, rfl, by decide +kernel⟩⟩)
theorem i_Model_sees_20 : mj_Cv y_Model_sees 20 y_Model_look 8 0 := ⟨by decide, rfl, mt_Model_look, 146, by decide +kernel, mm_943, mm_945, mp_32⟩
theorem i_Model_sees_23 : mj_Ld y_Model_sees 23 1 0 2 := .inr (.inr ⟨rfl, .inr ⟨rfl, 0, rfl, by decide +kernel⟩⟩)
theorem i_Model_sees_24 : mj_Gf y_Model_sees 24 8 5 := ⟨by decide, by decide, 23, by decide +kernel, .inl mm_737⟩
theorem i_Model_sees_27 : mj_Ld y_Model_sees 27 1 2 0 := .inl ⟨rfl, .inr ⟨rfl, 2, rfl, by decide +kernel⟩⟩
theorem i_Model_sees_28 : decode y_Model_sees.2.1 28 = .ok (.iaload, 1) := by decide +kernel
theorem i_Model_sees_29 : mj_Ld y_Model_sees 29 1 1 0 := .inl ⟨rfl, .inr ⟨rfl, 1, rfl, by decide +kernel⟩⟩
theorem i_Model_sees_30 : mj_B2 y_Model_sees 30 (fun (a b : Int32) => a >>> (b &&& 31)) := .inr (.inr (.inr (.inr (.inr (.inr (.inr (.inl ⟨by decide +kernel, rfl⟩)))))))
theorem i_Model_sees_31 : mj_Kc y_Model_sees 31 1 (.int 1) := .inl ⟨1, by decide +kernel, rfl, by decide +kernel⟩
theorem i_Model_sees_32 : mj_B2 y_Model_sees 32 (fun (a b : Int32) => a &&& b) := .inr (.inr (.inr (.inl ⟨by decide +kernel, rfl⟩)))
theorem i_Model_sees_33 : decode y_Model_sees.2.1 33 = .ok (.ireturn, 1) := by decide +kernel
theorem i_Model_look_0 : mj_Kc y_Model_look 0 1 (.int 0) := .inl ⟨0, by decide +kernel, rfl, by decide +kernel⟩
theorem i_Model_look_1 : mj_St y_Model_look 1 1 1 0 := .inl ⟨rfl, .inr ⟨rfl, 1, rfl, by decide +kernel⟩⟩
theorem i_Model_look_2 : mj_Ld y_Model_look 2 1 1 0 := .inl ⟨rfl, .inr ⟨rfl, 1, rfl, by decide +kernel⟩⟩
theorem i_Model_look_3 : mj_Ld y_Model_look 3 1 0 2 := .inr (.inr ⟨rfl, .inr ⟨rfl, 0, rfl, by decide +kernel⟩⟩)
theorem i_Model_look_4 : mj_Cv y_Model_look 4 y_Model_cells 8 0 := ⟨by decide, rfl, mt_Model_cells, 66, by decide +kernel, mm_822, mm_824, mp_18⟩
theorem i_Model_look_7 : mj_Ic y_Model_look 7 81 (fun (a b : Int32) => b ≤ a) := ⟨74, by decide, .inr (.inr (.inr (.inl ⟨by decide +kernel, rfl⟩)))⟩
theorem i_Model_look_10 : mj_Ld y_Model_look 10 1 0 2 := .inr (.inr ⟨rfl, .inr ⟨rfl, 0, rfl, by decide +kernel⟩⟩)
theorem i_Model_look_11 : mj_Gf y_Model_look 11 8 5 := ⟨by decide, by decide, 23, by decide +kernel, .inl mm_737⟩
theorem i_Model_look_14 : mj_Ld y_Model_look 14 1 1 0 := .inl ⟨rfl, .inr ⟨rfl, 1, rfl, by decide +kernel⟩⟩
theorem i_Model_look_15 : mj_Kc y_Model_look 15 1 (.int 0) := .inl ⟨0, by decide +kernel, rfl, by decide +kernel⟩
theorem i_Model_look_16 : decode y_Model_look.2.1 16 = .ok (.iastore, 1) := by decide +kernel
theorem i_Model_look_17 : mj_Kc y_Model_look 17 1 (.int 0) := .inl ⟨0, by decide +kernel, rfl, by decide +kernel⟩
theorem i_Model_look_18 : mj_St y_Model_look 18 1 2 0 := .inl ⟨rfl, .inr ⟨rfl, 2, rfl, by decide +kernel⟩⟩
theorem i_Model_look_19 : mj_Ld y_Model_look 19 1 2 0 := .inl ⟨rfl, .inr ⟨rfl, 2, rfl, by decide +kernel⟩⟩
theorem i_Model_look_20 : mj_Ld y_Model_look 20 1 0 2 := .inr (.inr ⟨rfl, .inr ⟨rfl, 0, rfl, by decide +kernel⟩⟩)
theorem i_Model_look_21 : mj_Cv y_Model_look 21 y_Model_posts 8 0 := ⟨by decide, rfl, mt_Model_posts, 74, by decide +kernel, mm_846, mm_848, mp_23⟩
theorem i_Model_look_24 : mj_Ic y_Model_look 24 75 (fun (a b : Int32) => b ≤ a) := ⟨51, by decide, .inr (.inr (.inr (.inl ⟨by decide +kernel, rfl⟩)))⟩
theorem i_Model_look_27 : mj_Ld y_Model_look 27 1 0 2 := .inr (.inr ⟨rfl, .inr ⟨rfl, 0, rfl, by decide +kernel⟩⟩)
theorem i_Model_look_28 : mj_Gf y_Model_look 28 8 5 := ⟨by decide, by decide, 23, by decide +kernel, .inl mm_737⟩
theorem i_Model_look_31 : mj_Ld y_Model_look 31 1 1 0 := .inl ⟨rfl, .inr ⟨rfl, 1, rfl, by decide +kernel⟩⟩
theorem i_Model_look_32 : decode y_Model_look.2.1 32 = .ok (.dup2, 1) := by decide +kernel
theorem i_Model_look_33 : decode y_Model_look.2.1 33 = .ok (.iaload, 1) := by decide +kernel
theorem i_Model_look_34 : mj_Ld y_Model_look 34 1 0 2 := .inr (.inr ⟨rfl, .inr ⟨rfl, 0, rfl, by decide +kernel⟩⟩)
theorem i_Model_look_35 : mj_Ld y_Model_look 35 1 2 0 := .inl ⟨rfl, .inr ⟨rfl, 2, rfl, by decide +kernel⟩⟩
theorem i_Model_look_36 : mj_Ld y_Model_look 36 1 1 0 := .inl ⟨rfl, .inr ⟨rfl, 1, rfl, by decide +kernel⟩⟩
theorem i_Model_look_37 : mj_Cv y_Model_look 37 y_Model_letsSee 8 2 := ⟨by decide, rfl, mt_Model_letsSee, 143, by decide +kernel, mm_947, mm_949, mp_33⟩
theorem i_Model_look_40 : mj_If y_Model_look 40 66 (fun (a : Int32) => a = 0) := ⟨26, by decide, .inl ⟨by decide +kernel, rfl⟩⟩
theorem i_Model_look_43 : mj_Ld y_Model_look 43 1 0 2 := .inr (.inr ⟨rfl, .inr ⟨rfl, 0, rfl, by decide +kernel⟩⟩)
theorem i_Model_look_44 : mj_Ld y_Model_look 44 1 0 2 := .inr (.inr ⟨rfl, .inr ⟨rfl, 0, rfl, by decide +kernel⟩⟩)
theorem i_Model_look_45 : mj_Gf y_Model_look 45 8 2 := ⟨by decide, by decide, 16, by decide +kernel, .inl mm_734⟩
theorem i_Model_look_48 : mj_Kc y_Model_look 48 2 (.int 101) := .inr (.inl ⟨101, by decide +kernel, rfl, by decide +kernel⟩)
theorem i_Model_look_50 : mj_Ld y_Model_look 50 1 2 0 := .inl ⟨rfl, .inr ⟨rfl, 2, rfl, by decide +kernel⟩⟩
theorem i_Model_look_51 : mj_B2 y_Model_look 51 (fun (a b : Int32) => a + b) := .inl ⟨by decide +kernel, rfl⟩
theorem i_Model_look_52 : decode y_Model_look.2.1 52 = .ok (.iaload, 1) := by decide +kernel
theorem i_Model_look_53 : mj_Ld y_Model_look 53 1 1 0 := .inl ⟨rfl, .inr ⟨rfl, 1, rfl, by decide +kernel⟩⟩
theorem i_Model_look_54 : mj_Cv y_Model_look 54 y_Model_inSight 8 2 := ⟨by decide, rfl, mt_Model_inSight, 122, by decide +kernel, mm_881, mm_883, mp_29⟩
theorem i_Model_look_57 : mj_If y_Model_look 57 66 (fun (a : Int32) => a = 0) := ⟨9, by decide, .inl ⟨by decide +kernel, rfl⟩⟩
theorem i_Model_look_60 : mj_Kc y_Model_look 60 1 (.int 1) := .inl ⟨1, by decide +kernel, rfl, by decide +kernel⟩
theorem i_Model_look_61 : mj_Ld y_Model_look 61 1 2 0 := .inl ⟨rfl, .inr ⟨rfl, 2, rfl, by decide +kernel⟩⟩
theorem i_Model_look_62 : mj_B2 y_Model_look 62 (fun (a b : Int32) => a <<< (b &&& 31)) := .inr (.inr (.inr (.inr (.inr (.inr (.inl ⟨by decide +kernel, rfl⟩))))))
theorem i_Model_look_63 : mj_Go y_Model_look 63 67 := ⟨4, by decide, by decide +kernel⟩
theorem i_Model_look_66 : mj_Kc y_Model_look 66 1 (.int 0) := .inl ⟨0, by decide +kernel, rfl, by decide +kernel⟩
theorem i_Model_look_67 : mj_B2 y_Model_look 67 (fun (a b : Int32) => a ||| b) := .inr (.inr (.inr (.inr (.inl ⟨by decide +kernel, rfl⟩))))
theorem i_Model_look_68 : decode y_Model_look.2.1 68 = .ok (.iastore, 1) := by decide +kernel
theorem i_Model_look_69 : mj_In y_Model_look 69 2 1 := ⟨1, by decide +kernel, by decide +kernel⟩
theorem i_Model_look_72 : mj_Go y_Model_look 72 19 := ⟨(-53), by decide, by decide +kernel⟩
theorem i_Model_look_75 : mj_In y_Model_look 75 1 1 := ⟨1, by decide +kernel, by decide +kernel⟩
theorem i_Model_look_78 : mj_Go y_Model_look 78 2 := ⟨(-76), by decide, by decide +kernel⟩
theorem i_Model_look_81 : decode y_Model_look.2.1 81 = .ok (.return_, 1) := by decide +kernel
theorem i_Model_letsSee_0 : mj_Ld y_Model_letsSee 0 1 0 2 := .inr (.inr ⟨rfl, .inr ⟨rfl, 0, rfl, by decide +kernel⟩⟩)
theorem i_Model_letsSee_1 : mj_Gf y_Model_letsSee 1 8 2 := ⟨by decide, by decide, 16, by decide +kernel, .inl mm_734⟩
theorem i_Model_letsSee_4 : mj_Kc y_Model_letsSee 4 2 (.int 115) := .inr (.inl ⟨115, by decide +kernel, rfl, by decide +kernel⟩)
theorem i_Model_letsSee_6 : mj_Ld y_Model_letsSee 6 1 1 0 := .inl ⟨rfl, .inr ⟨rfl, 1, rfl, by decide +kernel⟩⟩
theorem i_Model_letsSee_7 : mj_B2 y_Model_letsSee 7 (fun (a b : Int32) => a + b) := .inl ⟨by decide +kernel, rfl⟩
theorem i_Model_letsSee_8 : decode y_Model_letsSee.2.1 8 = .ok (.iaload, 1) := by decide +kernel
theorem i_Model_letsSee_9 : mj_St y_Model_letsSee 9 1 3 0 := .inl ⟨rfl, .inr ⟨rfl, 3, rfl, by decide +kernel⟩⟩
theorem i_Model_letsSee_10 : mj_Ld y_Model_letsSee 10 1 2 0 := .inl ⟨rfl, .inr ⟨rfl, 2, rfl, by decide +kernel⟩⟩
theorem i_Model_letsSee_11 : mj_Ld y_Model_letsSee 11 1 0 2 := .inr (.inr ⟨rfl, .inr ⟨rfl, 0, rfl, by decide +kernel⟩⟩)
theorem i_Model_letsSee_12 : mj_Gf y_Model_letsSee 12 8 0 := ⟨by decide, by decide, 7, by decide +kernel, .inl mm_732⟩
theorem i_Model_letsSee_15 : mj_D2 y_Model_letsSee 15 (fun (a b : Int32) => a - a / b * b) := .inr ⟨by decide +kernel, rfl⟩
theorem i_Model_letsSee_16 : mj_Ld y_Model_letsSee 16 1 0 2 := .inr (.inr ⟨rfl, .inr ⟨rfl, 0, rfl, by decide +kernel⟩⟩)
theorem i_Model_letsSee_17 : mj_Gf y_Model_letsSee 17 8 2 := ⟨by decide, by decide, 16, by decide +kernel, .inl mm_734⟩
theorem i_Model_letsSee_20 : mj_Kc y_Model_letsSee 20 2 (.int 101) := .inr (.inl ⟨101, by decide +kernel, rfl, by decide +kernel⟩)
theorem i_Model_letsSee_22 : mj_Ld y_Model_letsSee 22 1 1 0 := .inl ⟨rfl, .inr ⟨rfl, 1, rfl, by decide +kernel⟩⟩
theorem i_Model_letsSee_23 : mj_B2 y_Model_letsSee 23 (fun (a b : Int32) => a + b) := .inl ⟨by decide +kernel, rfl⟩
theorem i_Model_letsSee_24 : decode y_Model_letsSee.2.1 24 = .ok (.iaload, 1) := by decide +kernel
theorem i_Model_letsSee_25 : mj_Ld y_Model_letsSee 25 1 0 2 := .inr (.inr ⟨rfl, .inr ⟨rfl, 0, rfl, by decide +kernel⟩⟩)
theorem i_Model_letsSee_26 : mj_Gf y_Model_letsSee 26 8 0 := ⟨by decide, by decide, 7, by decide +kernel, .inl mm_732⟩
theorem i_Model_letsSee_29 : mj_D2 y_Model_letsSee 29 (fun (a b : Int32) => a - a / b * b) := .inr ⟨by decide +kernel, rfl⟩
theorem i_Model_letsSee_30 : mj_B2 y_Model_letsSee 30 (fun (a b : Int32) => a - b) := .inr (.inl ⟨by decide +kernel, rfl⟩)
theorem i_Model_letsSee_31 : mj_St y_Model_letsSee 31 2 4 0 := .inl ⟨rfl, .inl ⟨rfl, by decide +kernel⟩⟩
theorem i_Model_letsSee_33 : mj_Ld y_Model_letsSee 33 1 2 0 := .inl ⟨rfl, .inr ⟨rfl, 2, rfl, by decide +kernel⟩⟩
theorem i_Model_letsSee_34 : mj_Ld y_Model_letsSee 34 1 0 2 := .inr (.inr ⟨rfl, .inr ⟨rfl, 0, rfl, by decide +kernel⟩⟩)
theorem i_Model_letsSee_35 : mj_Gf y_Model_letsSee 35 8 0 := ⟨by decide, by decide, 7, by decide +kernel, .inl mm_732⟩
theorem i_Model_letsSee_38 : mj_D2 y_Model_letsSee 38 (fun (a b : Int32) => a / b) := .inl ⟨by decide +kernel, rfl⟩
theorem i_Model_letsSee_39 : mj_Ld y_Model_letsSee 39 1 0 2 := .inr (.inr ⟨rfl, .inr ⟨rfl, 0, rfl, by decide +kernel⟩⟩)
theorem i_Model_letsSee_40 : mj_Gf y_Model_letsSee 40 8 2 := ⟨by decide, by decide, 16, by decide +kernel, .inl mm_734⟩
theorem i_Model_letsSee_43 : mj_Kc y_Model_letsSee 43 2 (.int 101) := .inr (.inl ⟨101, by decide +kernel, rfl, by decide +kernel⟩)
theorem i_Model_letsSee_45 : mj_Ld y_Model_letsSee 45 1 1 0 := .inl ⟨rfl, .inr ⟨rfl, 1, rfl, by decide +kernel⟩⟩
theorem i_Model_letsSee_46 : mj_B2 y_Model_letsSee 46 (fun (a b : Int32) => a + b) := .inl ⟨by decide +kernel, rfl⟩
theorem i_Model_letsSee_47 : decode y_Model_letsSee.2.1 47 = .ok (.iaload, 1) := by decide +kernel
theorem i_Model_letsSee_48 : mj_Ld y_Model_letsSee 48 1 0 2 := .inr (.inr ⟨rfl, .inr ⟨rfl, 0, rfl, by decide +kernel⟩⟩)
theorem i_Model_letsSee_49 : mj_Gf y_Model_letsSee 49 8 0 := ⟨by decide, by decide, 7, by decide +kernel, .inl mm_732⟩
theorem i_Model_letsSee_52 : mj_D2 y_Model_letsSee 52 (fun (a b : Int32) => a / b) := .inl ⟨by decide +kernel, rfl⟩
theorem i_Model_letsSee_53 : mj_B2 y_Model_letsSee 53 (fun (a b : Int32) => a - b) := .inr (.inl ⟨by decide +kernel, rfl⟩)
theorem i_Model_letsSee_54 : mj_St y_Model_letsSee 54 2 5 0 := .inl ⟨rfl, .inl ⟨rfl, by decide +kernel⟩⟩
theorem i_Model_letsSee_56 : mj_Ld y_Model_letsSee 56 1 3 0 := .inl ⟨rfl, .inr ⟨rfl, 3, rfl, by decide +kernel⟩⟩
theorem i_Model_letsSee_57 : mj_Kc y_Model_letsSee 57 1 (.int 3) := .inl ⟨3, by decide +kernel, rfl, by decide +kernel⟩
theorem i_Model_letsSee_58 : mj_Ic y_Model_letsSee 58 81 (fun (a b : Int32) => ¬ a = b) := ⟨23, by decide, .inr (.inl ⟨by decide +kernel, rfl⟩)⟩
theorem i_Model_letsSee_61 : mj_Ld y_Model_letsSee 61 1 0 2 := .inr (.inr ⟨rfl, .inr ⟨rfl, 0, rfl, by decide +kernel⟩⟩)
theorem i_Model_letsSee_62 : mj_Gf y_Model_letsSee 62 8 2 := ⟨by decide, by decide, 16, by decide +kernel, .inl mm_734⟩
theorem i_Model_letsSee_65 : mj_Kc y_Model_letsSee 65 3 (.int 199) := .inr (.inr (.inl ⟨199, by decide +kernel, rfl, by decide +kernel⟩))
theorem i_Model_letsSee_68 : mj_Ld y_Model_letsSee 68 1 1 0 := .inl ⟨rfl, .inr ⟨rfl, 1, rfl, by decide +kernel⟩⟩
theorem i_Model_letsSee_69 : mj_B2 y_Model_letsSee 69 (fun (a b : Int32) => a + b) := .inl ⟨by decide +kernel, rfl⟩
theorem i_Model_letsSee_70 : decode y_Model_letsSee.2.1 70 = .ok (.iaload, 1) := by decide +kernel
theorem i_Model_letsSee_71 : mj_Kc y_Model_letsSee 71 1 (.int 1) := .inl ⟨1, by decide +kernel, rfl, by decide +kernel⟩
theorem i_Model_letsSee_72 : mj_Ic y_Model_letsSee 72 79 (fun (a b : Int32) => ¬ a = b) := ⟨7, by decide, .inr (.inl ⟨by decide +kernel, rfl⟩)⟩
theorem i_Model_letsSee_75 : mj_Kc y_Model_letsSee 75 1 (.int 1) := .inl ⟨1, by decide +kernel, rfl, by decide +kernel⟩
theorem i_Model_letsSee_76 : mj_Go y_Model_letsSee 76 80 := ⟨4, by decide, by decide +kernel⟩
theorem i_Model_letsSee_79 : mj_Kc y_Model_letsSee 79 1 (.int 0) := .inl ⟨0, by decide +kernel, rfl, by decide +kernel⟩
theorem i_Model_letsSee_80 : decode y_Model_letsSee.2.1 80 = .ok (.ireturn, 1) := by decide +kernel
theorem i_Model_letsSee_81 : mj_Ld y_Model_letsSee 81 1 3 0 := .inl ⟨rfl, .inr ⟨rfl, 3, rfl, by decide +kernel⟩⟩
theorem i_Model_letsSee_82 : mj_Kc y_Model_letsSee 82 1 (.int 4) := .inl ⟨4, by decide +kernel, rfl, by decide +kernel⟩
theorem i_Model_letsSee_83 : mj_Ic y_Model_letsSee 83 146 (fun (a b : Int32) => ¬ a = b) := ⟨63, by decide, .inr (.inl ⟨by decide +kernel, rfl⟩)⟩
theorem i_Model_letsSee_86 : mj_Ld y_Model_letsSee 86 2 4 0 := .inl ⟨rfl, .inl ⟨rfl, by decide +kernel⟩⟩
theorem i_Model_letsSee_88 : mj_Ld y_Model_letsSee 88 1 0 2 := .inr (.inr ⟨rfl, .inr ⟨rfl, 0, rfl, by decide +kernel⟩⟩)
theorem i_Model_letsSee_89 : mj_Gf y_Model_letsSee 89 8 2 := ⟨by decide, by decide, 16, by decide +kernel, .inl mm_734⟩
theorem i_Model_letsSee_92 : mj_Kc y_Model_letsSee 92 3 (.int 185) := .inr (.inr (.inl ⟨185, by decide +kernel, rfl, by decide +kernel⟩))
theorem i_Model_letsSee_95 : mj_Ld y_Model_letsSee 95 1 1 0 := .inl ⟨rfl, .inr ⟨rfl, 1, rfl, by decide +kernel⟩⟩
theorem i_Model_letsSee_96 : mj_B2 y_Model_letsSee 96 (fun (a b : Int32) => a + b) := .inl ⟨by decide +kernel, rfl⟩
theorem i_Model_letsSee_97 : decode y_Model_letsSee.2.1 97 = .ok (.iaload, 1) := by decide +kernel
theorem i_Model_letsSee_98 : decode y_Model_letsSee.2.1 98 = .ok (.ineg, 1) := by decide +kernel
theorem i_Model_letsSee_99 : mj_Ld y_Model_letsSee 99 1 0 2 := .inr (.inr ⟨rfl, .inr ⟨rfl, 0, rfl, by decide +kernel⟩⟩)
theorem i_Model_letsSee_100 : mj_Gf y_Model_letsSee 100 8 2 := ⟨by decide, by decide, 16, by decide +kernel, .inl mm_734⟩
theorem i_Model_letsSee_103 : mj_Kc y_Model_letsSee 103 3 (.int 185) := .inr (.inr (.inl ⟨185, by decide +kernel, rfl, by decide +kernel⟩))
theorem i_Model_letsSee_106 : mj_Ld y_Model_letsSee 106 1 1 0 := .inl ⟨rfl, .inr ⟨rfl, 1, rfl, by decide +kernel⟩⟩
theorem i_Model_letsSee_107 : mj_B2 y_Model_letsSee 107 (fun (a b : Int32) => a + b) := .inl ⟨by decide +kernel, rfl⟩
theorem i_Model_letsSee_108 : decode y_Model_letsSee.2.1 108 = .ok (.iaload, 1) := by decide +kernel
theorem i_Model_letsSee_109 : mj_Cs y_Model_letsSee 109 y_Model_isIn 3 := ⟨mt_Model_isIn, 70, by decide +kernel, mm_819, .inl mm_818⟩
theorem i_Model_letsSee_112 : mj_If y_Model_letsSee 112 144 (fun (a : Int32) => a = 0) := ⟨32, by decide, .inl ⟨by decide +kernel, rfl⟩⟩
theorem i_Model_letsSee_115 : mj_Ld y_Model_letsSee 115 2 5 0 := .inl ⟨rfl, .inl ⟨rfl, by decide +kernel⟩⟩
theorem i_Model_letsSee_117 : mj_Ld y_Model_letsSee 117 1 0 2 := .inr (.inr ⟨rfl, .inr ⟨rfl, 0, rfl, by decide +kernel⟩⟩)
theorem i_Model_letsSee_118 : mj_Gf y_Model_letsSee 118 8 2 := ⟨by decide, by decide, 16, by decide +kernel, .inl mm_734⟩
theorem i_Model_letsSee_121 : mj_Kc y_Model_letsSee 121 3 (.int 185) := .inr (.inr (.inl ⟨185, by decide +kernel, rfl, by decide +kernel⟩))
theorem i_Model_letsSee_124 : mj_Ld y_Model_letsSee 124 1 1 0 := .inl ⟨rfl, .inr ⟨rfl, 1, rfl, by decide +kernel⟩⟩
theorem i_Model_letsSee_125 : mj_B2 y_Model_letsSee 125 (fun (a b : Int32) => a + b) := .inl ⟨by decide +kernel, rfl⟩
theorem i_Model_letsSee_126 : decode y_Model_letsSee.2.1 126 = .ok (.iaload, 1) := by decide +kernel
theorem i_Model_letsSee_127 : decode y_Model_letsSee.2.1 127 = .ok (.ineg, 1) := by decide +kernel
theorem i_Model_letsSee_128 : mj_Ld y_Model_letsSee 128 1 0 2 := .inr (.inr ⟨rfl, .inr ⟨rfl, 0, rfl, by decide +kernel⟩⟩)
theorem i_Model_letsSee_129 : mj_Gf y_Model_letsSee 129 8 2 := ⟨by decide, by decide, 16, by decide +kernel, .inl mm_734⟩
theorem i_Model_letsSee_132 : mj_Kc y_Model_letsSee 132 3 (.int 185) := .inr (.inr (.inl ⟨185, by decide +kernel, rfl, by decide +kernel⟩))
theorem i_Model_letsSee_135 : mj_Ld y_Model_letsSee 135 1 1 0 := .inl ⟨rfl, .inr ⟨rfl, 1, rfl, by decide +kernel⟩⟩
theorem i_Model_letsSee_136 : mj_B2 y_Model_letsSee 136 (fun (a b : Int32) => a + b) := .inl ⟨by decide +kernel, rfl⟩
theorem i_Model_letsSee_137 : decode y_Model_letsSee.2.1 137 = .ok (.iaload, 1) := by decide +kernel
theorem i_Model_letsSee_138 : mj_Cs y_Model_letsSee 138 y_Model_isIn 3 := ⟨mt_Model_isIn, 70, by decide +kernel, mm_819, .inl mm_818⟩
theorem i_Model_letsSee_141 : mj_If y_Model_letsSee 141 146 (fun (a : Int32) => ¬ a = 0) := ⟨5, by decide, .inr (.inl ⟨by decide +kernel, rfl⟩)⟩
theorem i_Model_letsSee_144 : mj_Kc y_Model_letsSee 144 1 (.int 0) := .inl ⟨0, by decide +kernel, rfl, by decide +kernel⟩
theorem i_Model_letsSee_145 : decode y_Model_letsSee.2.1 145 = .ok (.ireturn, 1) := by decide +kernel
theorem i_Model_letsSee_146 : mj_Ld y_Model_letsSee 146 1 3 0 := .inl ⟨rfl, .inr ⟨rfl, 3, rfl, by decide +kernel⟩⟩
theorem i_Model_letsSee_147 : mj_Cs y_Model_letsSee 147 y_Model_isWedge 1 := ⟨mt_Model_isWedge, 132, by decide +kernel, mm_909, .inl mm_908⟩
theorem i_Model_letsSee_150 : mj_If y_Model_letsSee 150 165 (fun (a : Int32) => a = 0) := ⟨15, by decide, .inl ⟨by decide +kernel, rfl⟩⟩
theorem i_Model_letsSee_153 : mj_Ld y_Model_letsSee 153 1 0 2 := .inr (.inr ⟨rfl, .inr ⟨rfl, 0, rfl, by decide +kernel⟩⟩)
theorem i_Model_letsSee_154 : mj_Ld y_Model_letsSee 154 1 1 0 := .inl ⟨rfl, .inr ⟨rfl, 1, rfl, by decide +kernel⟩⟩
theorem i_Model_letsSee_155 : mj_Ld y_Model_letsSee 155 2 4 0 := .inl ⟨rfl, .inl ⟨rfl, by decide +kernel⟩⟩
theorem i_Model_letsSee_157 : mj_Ld y_Model_letsSee 157 2 5 0 := .inl ⟨rfl, .inl ⟨rfl, by decide +kernel⟩⟩
theorem i_Model_letsSee_159 : mj_Cv y_Model_letsSee 159 y_Model_looks 8 3 := ⟨by decide, rfl, mt_Model_looks, 140, by decide +kernel, mm_951, mm_953, mp_34⟩
theorem i_Model_letsSee_162 : mj_If y_Model_letsSee 162 169 (fun (a : Int32) => a = 0) := ⟨7, by decide, .inl ⟨by decide +kernel, rfl⟩⟩
theorem i_Model_letsSee_165 : mj_Kc y_Model_letsSee 165 1 (.int 1) := .inl ⟨1, by decide +kernel, rfl, by decide +kernel⟩
theorem i_Model_letsSee_166 : mj_Go y_Model_letsSee 166 170 := ⟨4, by decide, by decide +kernel⟩
theorem i_Model_letsSee_169 : mj_Kc y_Model_letsSee 169 1 (.int 0) := .inl ⟨0, by decide +kernel, rfl, by decide +kernel⟩
theorem i_Model_letsSee_170 : decode y_Model_letsSee.2.1 170 = .ok (.ireturn, 1) := by decide +kernel
theorem i_Model_looks_0 : mj_Ld y_Model_looks 0 1 2 0 := .inl ⟨rfl, .inr ⟨rfl, 2, rfl, by decide +kernel⟩⟩
theorem i_Model_looks_1 : mj_If y_Model_looks 1 10 (fun (a : Int32) => ¬ a = 0) := ⟨9, by decide, .inr (.inl ⟨by decide +kernel, rfl⟩)⟩
theorem i_Model_looks_4 : mj_Ld y_Model_looks 4 1 3 0 := .inl ⟨rfl, .inr ⟨rfl, 3, rfl, by decide +kernel⟩⟩
theorem i_Model_looks_5 : mj_If y_Model_looks 5 10 (fun (a : Int32) => ¬ a = 0) := ⟨5, by decide, .inr (.inl ⟨by decide +kernel, rfl⟩)⟩
theorem i_Model_looks_8 : mj_Kc y_Model_looks 8 1 (.int 1) := .inl ⟨1, by decide +kernel, rfl, by decide +kernel⟩
theorem i_Model_looks_9 : decode y_Model_looks.2.1 9 = .ok (.ireturn, 1) := by decide +kernel
theorem i_Model_looks_10 : mj_Ld y_Model_looks 10 1 0 2 := .inr (.inr ⟨rfl, .inr ⟨rfl, 0, rfl, by decide +kernel⟩⟩)
theorem i_Model_looks_11 : mj_Gf y_Model_looks 11 8 2 := ⟨by decide, by decide, 16, by decide +kernel, .inl mm_734⟩
theorem i_Model_looks_14 : mj_Kc y_Model_looks 14 3 (.int 129) := .inr (.inr (.inl ⟨129, by decide +kernel, rfl, by decide +kernel⟩))
theorem i_Model_looks_17 : mj_Ld y_Model_looks 17 1 1 0 := .inl ⟨rfl, .inr ⟨rfl, 1, rfl, by decide +kernel⟩⟩
theorem i_Model_looks_18 : mj_B2 y_Model_looks 18 (fun (a b : Int32) => a + b) := .inl ⟨by decide +kernel, rfl⟩
theorem i_Model_looks_19 : decode y_Model_looks.2.1 19 = .ok (.iaload, 1) := by decide +kernel
theorem i_Model_looks_20 : mj_St y_Model_looks 20 2 4 0 := .inl ⟨rfl, .inl ⟨rfl, by decide +kernel⟩⟩
theorem i_Model_looks_22 : mj_Ld y_Model_looks 22 1 0 2 := .inr (.inr ⟨rfl, .inr ⟨rfl, 0, rfl, by decide +kernel⟩⟩)
theorem i_Model_looks_23 : mj_Gf y_Model_looks 23 8 2 := ⟨by decide, by decide, 16, by decide +kernel, .inl mm_734⟩
theorem i_Model_looks_26 : mj_Kc y_Model_looks 26 3 (.int 143) := .inr (.inr (.inl ⟨143, by decide +kernel, rfl, by decide +kernel⟩))
theorem i_Model_looks_29 : mj_Ld y_Model_looks 29 1 1 0 := .inl ⟨rfl, .inr ⟨rfl, 1, rfl, by decide +kernel⟩⟩
theorem i_Model_looks_30 : mj_B2 y_Model_looks 30 (fun (a b : Int32) => a + b) := .inl ⟨by decide +kernel, rfl⟩
theorem i_Model_looks_31 : decode y_Model_looks.2.1 31 = .ok (.iaload, 1) := by decide +kernel
theorem i_Model_looks_32 : mj_St y_Model_looks 32 2 5 0 := .inl ⟨rfl, .inl ⟨rfl, by decide +kernel⟩⟩
theorem i_Model_looks_34 : mj_Ld y_Model_looks 34 1 0 2 := .inr (.inr ⟨rfl, .inr ⟨rfl, 0, rfl, by decide +kernel⟩⟩)
theorem i_Model_looks_35 : mj_Gf y_Model_looks 35 8 2 := ⟨by decide, by decide, 16, by decide +kernel, .inl mm_734⟩
theorem i_Model_looks_38 : mj_Kc y_Model_looks 38 3 (.int 157) := .inr (.inr (.inl ⟨157, by decide +kernel, rfl, by decide +kernel⟩))
theorem i_Model_looks_41 : mj_Ld y_Model_looks 41 1 1 0 := .inl ⟨rfl, .inr ⟨rfl, 1, rfl, by decide +kernel⟩⟩
theorem i_Model_looks_42 : mj_B2 y_Model_looks 42 (fun (a b : Int32) => a + b) := .inl ⟨by decide +kernel, rfl⟩
theorem i_Model_looks_43 : decode y_Model_looks.2.1 43 = .ok (.iaload, 1) := by decide +kernel
theorem i_Model_looks_44 : mj_St y_Model_looks 44 2 6 0 := .inl ⟨rfl, .inl ⟨rfl, by decide +kernel⟩⟩
theorem i_Model_looks_46 : mj_Ld y_Model_looks 46 1 0 2 := .inr (.inr ⟨rfl, .inr ⟨rfl, 0, rfl, by decide +kernel⟩⟩)
theorem i_Model_looks_47 : mj_Gf y_Model_looks 47 8 2 := ⟨by decide, by decide, 16, by decide +kernel, .inl mm_734⟩
theorem i_Model_looks_50 : mj_Kc y_Model_looks 50 3 (.int 171) := .inr (.inr (.inl ⟨171, by decide +kernel, rfl, by decide +kernel⟩))
theorem i_Model_looks_53 : mj_Ld y_Model_looks 53 1 1 0 := .inl ⟨rfl, .inr ⟨rfl, 1, rfl, by decide +kernel⟩⟩
theorem i_Model_looks_54 : mj_B2 y_Model_looks 54 (fun (a b : Int32) => a + b) := .inl ⟨by decide +kernel, rfl⟩
theorem i_Model_looks_55 : decode y_Model_looks.2.1 55 = .ok (.iaload, 1) := by decide +kernel
theorem i_Model_looks_56 : mj_St y_Model_looks 56 2 7 0 := .inl ⟨rfl, .inl ⟨rfl, by decide +kernel⟩⟩
theorem i_Model_looks_58 : mj_Ld y_Model_looks 58 2 4 0 := .inl ⟨rfl, .inl ⟨rfl, by decide +kernel⟩⟩
theorem i_Model_looks_60 : mj_Ld y_Model_looks 60 1 3 0 := .inl ⟨rfl, .inr ⟨rfl, 3, rfl, by decide +kernel⟩⟩
theorem i_Model_looks_61 : mj_B2 y_Model_looks 61 (fun (a b : Int32) => a * b) := .inr (.inr (.inl ⟨by decide +kernel, rfl⟩))
theorem i_Model_looks_62 : mj_Ld y_Model_looks 62 2 5 0 := .inl ⟨rfl, .inl ⟨rfl, by decide +kernel⟩⟩
theorem i_Model_looks_64 : mj_Ld y_Model_looks 64 1 2 0 := .inl ⟨rfl, .inr ⟨rfl, 2, rfl, by decide +kernel⟩⟩
theorem i_Model_looks_65 : mj_B2 y_Model_looks 65 (fun (a b : Int32) => a * b) := .inr (.inr (.inl ⟨by decide +kernel, rfl⟩))
theorem i_Model_looks_66 : mj_B2 y_Model_looks 66 (fun (a b : Int32) => a - b) := .inr (.inl ⟨by decide +kernel, rfl⟩)
theorem i_Model_looks_67 : mj_St y_Model_looks 67 2 8 0 := .inl ⟨rfl, .inl ⟨rfl, by decide +kernel⟩⟩
theorem i_Model_looks_69 : mj_Ld y_Model_looks 69 1 2 0 := .inl ⟨rfl, .inr ⟨rfl, 2, rfl, by decide +kernel⟩⟩
theorem i_Model_looks_70 : mj_Ld y_Model_looks 70 2 7 0 := .inl ⟨rfl, .inl ⟨rfl, by decide +kernel⟩⟩
theorem i_Model_looks_72 : mj_B2 y_Model_looks 72 (fun (a b : Int32) => a * b) := .inr (.inr (.inl ⟨by decide +kernel, rfl⟩))
theorem i_Model_looks_73 : mj_Ld y_Model_looks 73 1 3 0 := .inl ⟨rfl, .inr ⟨rfl, 3, rfl, by decide +kernel⟩⟩
theorem i_Model_looks_74 : mj_Ld y_Model_looks 74 2 6 0 := .inl ⟨rfl, .inl ⟨rfl, by decide +kernel⟩⟩
theorem i_Model_looks_76 : mj_B2 y_Model_looks 76 (fun (a b : Int32) => a * b) := .inr (.inr (.inl ⟨by decide +kernel, rfl⟩))
theorem i_Model_looks_77 : mj_B2 y_Model_looks 77 (fun (a b : Int32) => a - b) := .inr (.inl ⟨by decide +kernel, rfl⟩)
theorem i_Model_looks_78 : mj_St y_Model_looks 78 2 9 0 := .inl ⟨rfl, .inl ⟨rfl, by decide +kernel⟩⟩
theorem i_Model_looks_80 : mj_Ld y_Model_looks 80 2 4 0 := .inl ⟨rfl, .inl ⟨rfl, by decide +kernel⟩⟩
theorem i_Model_looks_82 : mj_Ld y_Model_looks 82 2 7 0 := .inl ⟨rfl, .inl ⟨rfl, by decide +kernel⟩⟩
theorem i_Model_looks_84 : mj_B2 y_Model_looks 84 (fun (a b : Int32) => a * b) := .inr (.inr (.inl ⟨by decide +kernel, rfl⟩))
theorem i_Model_looks_85 : mj_Ld y_Model_looks 85 2 5 0 := .inl ⟨rfl, .inl ⟨rfl, by decide +kernel⟩⟩
theorem i_Model_looks_87 : mj_Ld y_Model_looks 87 2 6 0 := .inl ⟨rfl, .inl ⟨rfl, by decide +kernel⟩⟩
theorem i_Model_looks_89 : mj_B2 y_Model_looks 89 (fun (a b : Int32) => a * b) := .inr (.inr (.inl ⟨by decide +kernel, rfl⟩))
theorem i_Model_looks_90 : mj_B2 y_Model_looks 90 (fun (a b : Int32) => a - b) := .inr (.inl ⟨by decide +kernel, rfl⟩)
theorem i_Model_looks_91 : mj_If y_Model_looks 91 122 (fun (a : Int32) => ¬ a = 0) := ⟨31, by decide, .inr (.inl ⟨by decide +kernel, rfl⟩)⟩
theorem i_Model_looks_94 : mj_Ld y_Model_looks 94 2 8 0 := .inl ⟨rfl, .inl ⟨rfl, by decide +kernel⟩⟩
theorem i_Model_looks_96 : mj_If y_Model_looks 96 120 (fun (a : Int32) => ¬ a = 0) := ⟨24, by decide, .inr (.inl ⟨by decide +kernel, rfl⟩)⟩
theorem i_Model_looks_99 : mj_Ld y_Model_looks 99 2 9 0 := .inl ⟨rfl, .inl ⟨rfl, by decide +kernel⟩⟩
theorem i_Model_looks_101 : mj_If y_Model_looks 101 120 (fun (a : Int32) => ¬ a = 0) := ⟨19, by decide, .inr (.inl ⟨by decide +kernel, rfl⟩)⟩
theorem i_Model_looks_104 : mj_Ld y_Model_looks 104 2 4 0 := .inl ⟨rfl, .inl ⟨rfl, by decide +kernel⟩⟩
theorem i_Model_looks_106 : mj_Ld y_Model_looks 106 1 2 0 := .inl ⟨rfl, .inr ⟨rfl, 2, rfl, by decide +kernel⟩⟩
theorem i_Model_looks_107 : mj_B2 y_Model_looks 107 (fun (a b : Int32) => a * b) := .inr (.inr (.inl ⟨by decide +kernel, rfl⟩))
theorem i_Model_looks_108 : mj_Ld y_Model_looks 108 2 5 0 := .inl ⟨rfl, .inl ⟨rfl, by decide +kernel⟩⟩
theorem i_Model_looks_110 : mj_Ld y_Model_looks 110 1 3 0 := .inl ⟨rfl, .inr ⟨rfl, 3, rfl, by decide +kernel⟩⟩
theorem i_Model_looks_111 : mj_B2 y_Model_looks 111 (fun (a b : Int32) => a * b) := .inr (.inr (.inl ⟨by decide +kernel, rfl⟩))
theorem i_Model_looks_112 : mj_B2 y_Model_looks 112 (fun (a b : Int32) => a + b) := .inl ⟨by decide +kernel, rfl⟩
theorem i_Model_looks_113 : mj_If y_Model_looks 113 120 (fun (a : Int32) => a ≤ 0) := ⟨7, by decide, .inr (.inr (.inr (.inr (.inr (⟨by decide +kernel, rfl⟩)))))⟩
theorem i_Model_looks_116 : mj_Kc y_Model_looks 116 1 (.int 1) := .inl ⟨1, by decide +kernel, rfl, by decide +kernel⟩
theorem i_Model_looks_117 : mj_Go y_Model_looks 117 121 := ⟨4, by decide, by decide +kernel⟩
theorem i_Model_looks_120 : mj_Kc y_Model_looks 120 1 (.int 0) := .inl ⟨0, by decide +kernel, rfl, by decide +kernel⟩
theorem i_Model_looks_121 : decode y_Model_looks.2.1 121 = .ok (.ireturn, 1) := by decide +kernel
theorem i_Model_looks_122 : mj_Ld y_Model_looks 122 2 8 0 := .inl ⟨rfl, .inl ⟨rfl, by decide +kernel⟩⟩
theorem i_Model_looks_124 : mj_If y_Model_looks 124 136 (fun (a : Int32) => a < 0) := ⟨12, by decide, .inr (.inr (.inl ⟨by decide +kernel, rfl⟩))⟩
theorem i_Model_looks_127 : mj_Ld y_Model_looks 127 2 9 0 := .inl ⟨rfl, .inl ⟨rfl, by decide +kernel⟩⟩
theorem i_Model_looks_129 : mj_If y_Model_looks 129 136 (fun (a : Int32) => a < 0) := ⟨7, by decide, .inr (.inr (.inl ⟨by decide +kernel, rfl⟩))⟩
theorem i_Model_looks_132 : mj_Kc y_Model_looks 132 1 (.int 1) := .inl ⟨1, by decide +kernel, rfl, by decide +kernel⟩
theorem i_Model_looks_133 : mj_Go y_Model_looks 133 137 := ⟨4, by decide, by decide +kernel⟩
theorem i_Model_looks_136 : mj_Kc y_Model_looks 136 1 (.int 0) := .inl ⟨0, by decide +kernel, rfl, by decide +kernel⟩
theorem i_Model_looks_137 : decode y_Model_looks.2.1 137 = .ok (.ireturn, 1) := by decide +kernel
theorem i_Model_region_0 : mj_Ld y_Model_region 0 1 0 2 := .inr (.inr ⟨rfl, .inr ⟨rfl, 0, rfl, by decide +kernel⟩⟩)
theorem i_Model_region_1 : mj_Ld y_Model_region 1 1 1 0 := .inl ⟨rfl, .inr ⟨rfl, 1, rfl, by decide +kernel⟩⟩
theorem i_Model_region_2 : mj_Cv y_Model_region 2 y_Model_isPost 8 1 := ⟨by decide, rfl, mt_Model_isPost, 126, by decide +kernel, mm_901, mm_903, mp_31⟩
theorem i_Model_region_5 : mj_If y_Model_region 5 11 (fun (a : Int32) => ¬ a = 0) := ⟨6, by decide, .inr (.inl ⟨by decide +kernel, rfl⟩)⟩
theorem i_Model_region_8 : mj_Kc y_Model_region 8 2 (.int (-2000000001)) := .inr (.inr (.inr (.inl ⟨81, (-2000000001), by decide +kernel, rfl, rfl, mm_821⟩)))
theorem i_Model_region_10 : decode y_Model_region.2.1 10 = .ok (.ireturn, 1) := by decide +kernel
theorem i_Model_region_11 : mj_Ld y_Model_region 11 1 0 2 := .inr (.inr ⟨rfl, .inr ⟨rfl, 0, rfl, by decide +kernel⟩⟩)
theorem i_Model_region_12 : mj_Kc y_Model_region 12 1 (.int 1) := .inl ⟨1, by decide +kernel, rfl, by decide +kernel⟩
theorem i_Model_region_13 : mj_Ld y_Model_region 13 1 1 0 := .inl ⟨rfl, .inr ⟨rfl, 1, rfl, by decide +kernel⟩⟩
theorem i_Model_region_14 : mj_B2 y_Model_region 14 (fun (a b : Int32) => a <<< (b &&& 31)) := .inr (.inr (.inr (.inr (.inr (.inr (.inl ⟨by decide +kernel, rfl⟩))))))
theorem i_Model_region_15 : mj_Cv y_Model_region 15 y_Model_seen 8 1 := ⟨by decide, rfl, mt_Model_seen, 149, by decide +kernel, mm_959, mm_960, mm_961⟩
theorem i_Model_region_18 : decode y_Model_region.2.1 18 = .ok (.ireturn, 1) := by decide +kernel
theorem i_Model_seen_0 : mj_Ld y_Model_seen 0 1 0 2 := .inr (.inr ⟨rfl, .inr ⟨rfl, 0, rfl, by decide +kernel⟩⟩)
theorem i_Model_seen_1 : mj_Ld y_Model_seen 1 1 1 0 := .inl ⟨rfl, .inr ⟨rfl, 1, rfl, by decide +kernel⟩⟩
theorem i_Model_seen_2 : mj_Cv y_Model_seen 2 y_Model_isSet 8 1 := ⟨by decide, rfl, mt_Model_isSet, 153, by decide +kernel, mm_963, mm_965, mp_35⟩
theorem i_Model_seen_5 : mj_If y_Model_seen 5 11 (fun (a : Int32) => ¬ a = 0) := ⟨6, by decide, .inr (.inl ⟨by decide +kernel, rfl⟩)⟩
theorem i_Model_seen_8 : mj_Kc y_Model_seen 8 2 (.int (-2000000001)) := .inr (.inr (.inr (.inl ⟨81, (-2000000001), by decide +kernel, rfl, rfl, mm_821⟩)))
theorem i_Model_seen_10 : decode y_Model_seen.2.1 10 = .ok (.ireturn, 1) := by decide +kernel
theorem i_Model_seen_11 : mj_Ld y_Model_seen 11 1 0 2 := .inr (.inr ⟨rfl, .inr ⟨rfl, 0, rfl, by decide +kernel⟩⟩)
theorem i_Model_seen_12 : mj_Cv y_Model_seen 12 y_Model_look 8 0 := ⟨by decide, rfl, mt_Model_look, 146, by decide +kernel, mm_943, mm_945, mp_32⟩
theorem i_Model_seen_15 : mj_Kc y_Model_seen 15 1 (.int 0) := .inl ⟨0, by decide +kernel, rfl, by decide +kernel⟩
theorem i_Model_seen_16 : mj_St y_Model_seen 16 1 2 0 := .inl ⟨rfl, .inr ⟨rfl, 2, rfl, by decide +kernel⟩⟩
theorem i_Model_seen_17 : mj_Kc y_Model_seen 17 1 (.int 0) := .inl ⟨0, by decide +kernel, rfl, by decide +kernel⟩
theorem i_Model_seen_18 : mj_St y_Model_seen 18 1 3 0 := .inl ⟨rfl, .inr ⟨rfl, 3, rfl, by decide +kernel⟩⟩
theorem i_Model_seen_19 : mj_Ld y_Model_seen 19 1 3 0 := .inl ⟨rfl, .inr ⟨rfl, 3, rfl, by decide +kernel⟩⟩
theorem i_Model_seen_20 : mj_Ld y_Model_seen 20 1 0 2 := .inr (.inr ⟨rfl, .inr ⟨rfl, 0, rfl, by decide +kernel⟩⟩)
theorem i_Model_seen_21 : mj_Cv y_Model_seen 21 y_Model_cells 8 0 := ⟨by decide, rfl, mt_Model_cells, 66, by decide +kernel, mm_822, mm_824, mp_18⟩
theorem i_Model_seen_24 : mj_Ic y_Model_seen 24 52 (fun (a b : Int32) => b ≤ a) := ⟨28, by decide, .inr (.inr (.inr (.inl ⟨by decide +kernel, rfl⟩)))⟩
theorem i_Model_seen_27 : mj_Ld y_Model_seen 27 1 2 0 := .inl ⟨rfl, .inr ⟨rfl, 2, rfl, by decide +kernel⟩⟩
theorem i_Model_seen_28 : mj_Ld y_Model_seen 28 1 0 2 := .inr (.inr ⟨rfl, .inr ⟨rfl, 0, rfl, by decide +kernel⟩⟩)
theorem i_Model_seen_29 : mj_Gf y_Model_seen 29 8 5 := ⟨by decide, by decide, 23, by decide +kernel, .inl mm_737⟩
theorem i_Model_seen_32 : mj_Ld y_Model_seen 32 1 3 0 := .inl ⟨rfl, .inr ⟨rfl, 3, rfl, by decide +kernel⟩⟩
theorem i_Model_seen_33 : decode y_Model_seen.2.1 33 = .ok (.iaload, 1) := by decide +kernel
theorem i_Model_seen_34 : mj_Ld y_Model_seen 34 1 1 0 := .inl ⟨rfl, .inr ⟨rfl, 1, rfl, by decide +kernel⟩⟩
theorem i_Model_seen_35 : mj_B2 y_Model_seen 35 (fun (a b : Int32) => a &&& b) := .inr (.inr (.inr (.inl ⟨by decide +kernel, rfl⟩)))
theorem i_Model_seen_36 : mj_If y_Model_seen 36 43 (fun (a : Int32) => a = 0) := ⟨7, by decide, .inl ⟨by decide +kernel, rfl⟩⟩
theorem i_Model_seen_39 : mj_Kc y_Model_seen 39 1 (.int 1) := .inl ⟨1, by decide +kernel, rfl, by decide +kernel⟩
theorem i_Model_seen_40 : mj_Go y_Model_seen 40 44 := ⟨4, by decide, by decide +kernel⟩
theorem i_Model_seen_43 : mj_Kc y_Model_seen 43 1 (.int 0) := .inl ⟨0, by decide +kernel, rfl, by decide +kernel⟩
theorem i_Model_seen_44 : mj_B2 y_Model_seen 44 (fun (a b : Int32) => a + b) := .inl ⟨by decide +kernel, rfl⟩
theorem i_Model_seen_45 : mj_St y_Model_seen 45 1 2 0 := .inl ⟨rfl, .inr ⟨rfl, 2, rfl, by decide +kernel⟩⟩
theorem i_Model_seen_46 : mj_In y_Model_seen 46 3 1 := ⟨1, by decide +kernel, by decide +kernel⟩
theorem i_Model_seen_49 : mj_Go y_Model_seen 49 19 := ⟨(-30), by decide, by decide +kernel⟩
theorem i_Model_seen_52 : mj_Ld y_Model_seen 52 1 2 0 := .inl ⟨rfl, .inr ⟨rfl, 2, rfl, by decide +kernel⟩⟩
theorem i_Model_seen_53 : decode y_Model_seen.2.1 53 = .ok (.ireturn, 1) := by decide +kernel
theorem i_Model_isSet_0 : mj_Ld y_Model_isSet 0 1 1 0 := .inl ⟨rfl, .inr ⟨rfl, 1, rfl, by decide +kernel⟩⟩
theorem i_Model_isSet_1 : mj_Kc y_Model_isSet 1 1 (.int 0) := .inl ⟨0, by decide +kernel, rfl, by decide +kernel⟩
theorem i_Model_isSet_2 : mj_Kc y_Model_isSet 2 1 (.int 1) := .inl ⟨1, by decide +kernel, rfl, by decide +kernel⟩
theorem i_Model_isSet_3 : mj_Ld y_Model_isSet 3 1 0 2 := .inr (.inr ⟨rfl, .inr ⟨rfl, 0, rfl, by decide +kernel⟩⟩)
theorem i_Model_isSet_4 : mj_Cv y_Model_isSet 4 y_Model_posts 8 0 := ⟨by decide, rfl, mt_Model_posts, 74, by decide +kernel, mm_846, mm_848, mp_23⟩
theorem i_Model_isSet_7 : mj_B2 y_Model_isSet 7 (fun (a b : Int32) => a <<< (b &&& 31)) := .inr (.inr (.inr (.inr (.inr (.inr (.inl ⟨by decide +kernel, rfl⟩))))))
theorem i_Model_isSet_8 : mj_Kc y_Model_isSet 8 1 (.int 1) := .inl ⟨1, by decide +kernel, rfl, by decide +kernel⟩
theorem i_Model_isSet_9 : mj_B2 y_Model_isSet 9 (fun (a b : Int32) => a - b) := .inr (.inl ⟨by decide +kernel, rfl⟩)
theorem i_Model_isSet_10 : mj_Cs y_Model_isSet 10 y_Model_isIn 3 := ⟨mt_Model_isIn, 70, by decide +kernel, mm_819, .inl mm_818⟩
theorem i_Model_isSet_13 : decode y_Model_isSet.2.1 13 = .ok (.ireturn, 1) := by decide +kernel
theorem i_Model_watchers_0 : mj_Ld y_Model_watchers 0 1 0 2 := .inr (.inr ⟨rfl, .inr ⟨rfl, 0, rfl, by decide +kernel⟩⟩)
theorem i_Model_watchers_1 : mj_Ld y_Model_watchers 1 1 1 0 := .inl ⟨rfl, .inr ⟨rfl, 1, rfl, by decide +kernel⟩⟩
theorem i_Model_watchers_2 : mj_Cv y_Model_watchers 2 y_Model_isCell 8 1 := ⟨by decide, rfl, mt_Model_isCell, 96, by decide +kernel, mm_830, mm_832, mp_19⟩
theorem i_Model_watchers_5 : mj_If y_Model_watchers 5 11 (fun (a : Int32) => ¬ a = 0) := ⟨6, by decide, .inr (.inl ⟨by decide +kernel, rfl⟩)⟩
theorem i_Model_watchers_8 : mj_Kc y_Model_watchers 8 2 (.int (-2000000001)) := .inr (.inr (.inr (.inl ⟨81, (-2000000001), by decide +kernel, rfl, rfl, mm_821⟩)))
theorem i_Model_watchers_10 : decode y_Model_watchers.2.1 10 = .ok (.ireturn, 1) := by decide +kernel
theorem i_Model_watchers_11 : mj_Ld y_Model_watchers 11 1 0 2 := .inr (.inr ⟨rfl, .inr ⟨rfl, 0, rfl, by decide +kernel⟩⟩)
theorem i_Model_watchers_12 : mj_Cv y_Model_watchers 12 y_Model_look 8 0 := ⟨by decide, rfl, mt_Model_look, 146, by decide +kernel, mm_943, mm_945, mp_32⟩
theorem i_Model_watchers_15 : mj_Ld y_Model_watchers 15 1 0 2 := .inr (.inr ⟨rfl, .inr ⟨rfl, 0, rfl, by decide +kernel⟩⟩)
theorem i_Model_watchers_16 : mj_Gf y_Model_watchers 16 8 5 := ⟨by decide, by decide, 23, by decide +kernel, .inl mm_737⟩
theorem i_Model_watchers_19 : mj_Ld y_Model_watchers 19 1 1 0 := .inl ⟨rfl, .inr ⟨rfl, 1, rfl, by decide +kernel⟩⟩
theorem i_Model_watchers_20 : decode y_Model_watchers.2.1 20 = .ok (.iaload, 1) := by decide +kernel
theorem i_Model_watchers_21 : decode y_Model_watchers.2.1 21 = .ok (.ireturn, 1) := by decide +kernel
theorem i_Model_blind_0 : mj_Ld y_Model_blind 0 1 0 2 := .inr (.inr ⟨rfl, .inr ⟨rfl, 0, rfl, by decide +kernel⟩⟩)
theorem i_Model_blind_1 : mj_Ld y_Model_blind 1 1 1 0 := .inl ⟨rfl, .inr ⟨rfl, 1, rfl, by decide +kernel⟩⟩
theorem i_Model_blind_2 : mj_Cv y_Model_blind 2 y_Model_isSet 8 1 := ⟨by decide, rfl, mt_Model_isSet, 153, by decide +kernel, mm_963, mm_965, mp_35⟩
theorem i_Model_blind_5 : mj_If y_Model_blind 5 11 (fun (a : Int32) => ¬ a = 0) := ⟨6, by decide, .inr (.inl ⟨by decide +kernel, rfl⟩)⟩
theorem i_Model_blind_8 : mj_Kc y_Model_blind 8 2 (.int (-2000000001)) := .inr (.inr (.inr (.inl ⟨81, (-2000000001), by decide +kernel, rfl, rfl, mm_821⟩)))
theorem i_Model_blind_10 : decode y_Model_blind.2.1 10 = .ok (.ireturn, 1) := by decide +kernel
theorem i_Model_blind_11 : mj_Ld y_Model_blind 11 1 0 2 := .inr (.inr ⟨rfl, .inr ⟨rfl, 0, rfl, by decide +kernel⟩⟩)
theorem i_Model_blind_12 : mj_Cv y_Model_blind 12 y_Model_look 8 0 := ⟨by decide, rfl, mt_Model_look, 146, by decide +kernel, mm_943, mm_945, mp_32⟩
theorem i_Model_blind_15 : mj_Ld y_Model_blind 15 1 0 2 := .inr (.inr ⟨rfl, .inr ⟨rfl, 0, rfl, by decide +kernel⟩⟩)
theorem i_Model_blind_16 : mj_Ld y_Model_blind 16 1 1 0 := .inl ⟨rfl, .inr ⟨rfl, 1, rfl, by decide +kernel⟩⟩
theorem i_Model_blind_17 : mj_Cv y_Model_blind 17 y_Model_unseenBy 8 1 := ⟨by decide, rfl, mt_Model_unseenBy, 156, by decide +kernel, mm_975, mm_977, mp_36⟩
theorem i_Model_blind_20 : mj_St y_Model_blind 20 1 2 0 := .inl ⟨rfl, .inr ⟨rfl, 2, rfl, by decide +kernel⟩⟩
theorem i_Model_blind_21 : mj_Ld y_Model_blind 21 1 2 0 := .inl ⟨rfl, .inr ⟨rfl, 2, rfl, by decide +kernel⟩⟩
theorem i_Model_blind_22 : mj_If y_Model_blind 22 30 (fun (a : Int32) => 0 ≤ a) := ⟨8, by decide, .inr (.inr (.inr (.inl ⟨by decide +kernel, rfl⟩)))⟩
theorem i_Model_blind_25 : mj_Kc y_Model_blind 25 2 (.int (-2000000005)) := .inr (.inr (.inr (.inl ⟨139, (-2000000005), by decide +kernel, rfl, rfl, mm_934⟩)))
theorem i_Model_blind_27 : mj_Go y_Model_blind 27 31 := ⟨4, by decide, by decide +kernel⟩
theorem i_Model_blind_30 : mj_Ld y_Model_blind 30 1 2 0 := .inl ⟨rfl, .inr ⟨rfl, 2, rfl, by decide +kernel⟩⟩
theorem i_Model_blind_31 : decode y_Model_blind.2.1 31 = .ok (.ireturn, 1) := by decide +kernel
theorem i_Model_unseenBy_0 : mj_Kc y_Model_unseenBy 0 1 (.int 0) := .inl ⟨0, by decide +kernel, rfl, by decide +kernel⟩
theorem i_Model_unseenBy_1 : mj_St y_Model_unseenBy 1 1 2 0 := .inl ⟨rfl, .inr ⟨rfl, 2, rfl, by decide +kernel⟩⟩
theorem i_Model_unseenBy_2 : mj_Ld y_Model_unseenBy 2 1 2 0 := .inl ⟨rfl, .inr ⟨rfl, 2, rfl, by decide +kernel⟩⟩
theorem i_Model_unseenBy_3 : mj_Ld y_Model_unseenBy 3 1 0 2 := .inr (.inr ⟨rfl, .inr ⟨rfl, 0, rfl, by decide +kernel⟩⟩)
theorem i_Model_unseenBy_4 : mj_Cv y_Model_unseenBy 4 y_Model_cells 8 0 := ⟨by decide, rfl, mt_Model_cells, 66, by decide +kernel, mm_822, mm_824, mp_18⟩
theorem i_Model_unseenBy_7 : mj_Ic y_Model_unseenBy 7 37 (fun (a b : Int32) => b ≤ a) := ⟨30, by decide, .inr (.inr (.inr (.inl ⟨by decide +kernel, rfl⟩)))⟩
theorem i_Model_unseenBy_10 : mj_Ld y_Model_unseenBy 10 1 0 2 := .inr (.inr ⟨rfl, .inr ⟨rfl, 0, rfl, by decide +kernel⟩⟩)
theorem i_Model_unseenBy_11 : mj_Ld y_Model_unseenBy 11 1 2 0 := .inl ⟨rfl, .inr ⟨rfl, 2, rfl, by decide +kernel⟩⟩
theorem i_Model_unseenBy_12 : mj_Cv y_Model_unseenBy 12 y_Model_isOpen 8 1 := ⟨by decide, rfl, mt_Model_isOpen, 82, by decide +kernel, mm_854, mm_856, mp_25⟩
theorem i_Model_unseenBy_15 : mj_If y_Model_unseenBy 15 31 (fun (a : Int32) => a = 0) := ⟨16, by decide, .inl ⟨by decide +kernel, rfl⟩⟩
theorem i_Model_unseenBy_18 : mj_Ld y_Model_unseenBy 18 1 0 2 := .inr (.inr ⟨rfl, .inr ⟨rfl, 0, rfl, by decide +kernel⟩⟩)
theorem i_Model_unseenBy_19 : mj_Gf y_Model_unseenBy 19 8 5 := ⟨by decide, by decide, 23, by decide +kernel, .inl mm_737⟩
theorem i_Model_unseenBy_22 : mj_Ld y_Model_unseenBy 22 1 2 0 := .inl ⟨rfl, .inr ⟨rfl, 2, rfl, by decide +kernel⟩⟩
theorem i_Model_unseenBy_23 : decode y_Model_unseenBy.2.1 23 = .ok (.iaload, 1) := by decide +kernel
theorem i_Model_unseenBy_24 : mj_Ld y_Model_unseenBy 24 1 1 0 := .inl ⟨rfl, .inr ⟨rfl, 1, rfl, by decide +kernel⟩⟩
theorem i_Model_unseenBy_25 : mj_B2 y_Model_unseenBy 25 (fun (a b : Int32) => a &&& b) := .inr (.inr (.inr (.inl ⟨by decide +kernel, rfl⟩)))
theorem i_Model_unseenBy_26 : mj_If y_Model_unseenBy 26 31 (fun (a : Int32) => ¬ a = 0) := ⟨5, by decide, .inr (.inl ⟨by decide +kernel, rfl⟩)⟩
theorem i_Model_unseenBy_29 : mj_Ld y_Model_unseenBy 29 1 2 0 := .inl ⟨rfl, .inr ⟨rfl, 2, rfl, by decide +kernel⟩⟩
theorem i_Model_unseenBy_30 : decode y_Model_unseenBy.2.1 30 = .ok (.ireturn, 1) := by decide +kernel
theorem i_Model_unseenBy_31 : mj_In y_Model_unseenBy 31 2 1 := ⟨1, by decide +kernel, by decide +kernel⟩
theorem i_Model_unseenBy_34 : mj_Go y_Model_unseenBy 34 2 := ⟨(-32), by decide, by decide +kernel⟩
theorem i_Model_unseenBy_37 : mj_Kc y_Model_unseenBy 37 1 (.int (-1)) := .inl ⟨(-1), by decide +kernel, rfl, by decide +kernel⟩
theorem i_Model_unseenBy_38 : decode y_Model_unseenBy.2.1 38 = .ok (.ireturn, 1) := by decide +kernel
theorem i_Model_spare_0 : mj_Ld y_Model_spare 0 1 0 2 := .inr (.inr ⟨rfl, .inr ⟨rfl, 0, rfl, by decide +kernel⟩⟩)
theorem i_Model_spare_1 : mj_Ld y_Model_spare 1 1 1 0 := .inl ⟨rfl, .inr ⟨rfl, 1, rfl, by decide +kernel⟩⟩
theorem i_Model_spare_2 : mj_Cv y_Model_spare 2 y_Model_isSet 8 1 := ⟨by decide, rfl, mt_Model_isSet, 153, by decide +kernel, mm_963, mm_965, mp_35⟩
theorem i_Model_spare_5 : mj_If y_Model_spare 5 11 (fun (a : Int32) => ¬ a = 0) := ⟨6, by decide, .inr (.inl ⟨by decide +kernel, rfl⟩)⟩
theorem i_Model_spare_8 : mj_Kc y_Model_spare 8 2 (.int (-2000000001)) := .inr (.inr (.inr (.inl ⟨81, (-2000000001), by decide +kernel, rfl, rfl, mm_821⟩)))
theorem i_Model_spare_10 : decode y_Model_spare.2.1 10 = .ok (.ireturn, 1) := by decide +kernel
theorem i_Model_spare_11 : mj_Ld y_Model_spare 11 1 0 2 := .inr (.inr ⟨rfl, .inr ⟨rfl, 0, rfl, by decide +kernel⟩⟩)
theorem i_Model_spare_12 : mj_Cv y_Model_spare 12 y_Model_look 8 0 := ⟨by decide, rfl, mt_Model_look, 146, by decide +kernel, mm_943, mm_945, mp_32⟩
theorem i_Model_spare_15 : mj_Ld y_Model_spare 15 1 0 2 := .inr (.inr ⟨rfl, .inr ⟨rfl, 0, rfl, by decide +kernel⟩⟩)
theorem i_Model_spare_16 : mj_Ld y_Model_spare 16 1 1 0 := .inl ⟨rfl, .inr ⟨rfl, 1, rfl, by decide +kernel⟩⟩
theorem i_Model_spare_17 : mj_Cv y_Model_spare 17 y_Model_unseenBy 8 1 := ⟨by decide, rfl, mt_Model_unseenBy, 156, by decide +kernel, mm_975, mm_977, mp_36⟩
theorem i_Model_spare_20 : mj_If y_Model_spare 20 26 (fun (a : Int32) => a < 0) := ⟨6, by decide, .inr (.inr (.inl ⟨by decide +kernel, rfl⟩))⟩
theorem i_Model_spare_23 : mj_Kc y_Model_spare 23 2 (.int (-2000000002)) := .inr (.inr (.inr (.inl ⟨80, (-2000000002), by decide +kernel, rfl, rfl, mm_813⟩)))
theorem i_Model_spare_25 : decode y_Model_spare.2.1 25 = .ok (.ireturn, 1) := by decide +kernel
theorem i_Model_spare_26 : mj_Kc y_Model_spare 26 1 (.int 0) := .inl ⟨0, by decide +kernel, rfl, by decide +kernel⟩
theorem i_Model_spare_27 : mj_St y_Model_spare 27 1 2 0 := .inl ⟨rfl, .inr ⟨rfl, 2, rfl, by decide +kernel⟩⟩
theorem i_Model_spare_28 : mj_Kc y_Model_spare 28 1 (.int 0) := .inl ⟨0, by decide +kernel, rfl, by decide +kernel⟩
theorem i_Model_spare_29 : mj_St y_Model_spare 29 1 3 0 := .inl ⟨rfl, .inr ⟨rfl, 3, rfl, by decide +kernel⟩⟩
theorem i_Model_spare_30 : mj_Ld y_Model_spare 30 1 3 0 := .inl ⟨rfl, .inr ⟨rfl, 3, rfl, by decide +kernel⟩⟩
theorem i_Model_spare_31 : mj_Ld y_Model_spare 31 1 0 2 := .inr (.inr ⟨rfl, .inr ⟨rfl, 0, rfl, by decide +kernel⟩⟩)
theorem i_Model_spare_32 : mj_Cv y_Model_spare 32 y_Model_posts 8 0 := ⟨by decide, rfl, mt_Model_posts, 74, by decide +kernel, mm_846, mm_848, mp_23⟩
theorem i_Model_spare_35 : mj_Ic y_Model_spare 35 89 (fun (a b : Int32) => b ≤ a) := ⟨54, by decide, .inr (.inr (.inr (.inl ⟨by decide +kernel, rfl⟩)))⟩
theorem i_Model_spare_38 : mj_Ld y_Model_spare 38 1 1 0 := .inl ⟨rfl, .inr ⟨rfl, 1, rfl, by decide +kernel⟩⟩
theorem i_Model_spare_39 : mj_Ld y_Model_spare 39 1 3 0 := .inl ⟨rfl, .inr ⟨rfl, 3, rfl, by decide +kernel⟩⟩
theorem i_Model_spare_40 : mj_B2 y_Model_spare 40 (fun (a b : Int32) => a >>> (b &&& 31)) := .inr (.inr (.inr (.inr (.inr (.inr (.inr (.inl ⟨by decide +kernel, rfl⟩)))))))
theorem i_Model_spare_41 : mj_Kc y_Model_spare 41 1 (.int 1) := .inl ⟨1, by decide +kernel, rfl, by decide +kernel⟩
theorem i_Model_spare_42 : mj_B2 y_Model_spare 42 (fun (a b : Int32) => a &&& b) := .inr (.inr (.inr (.inl ⟨by decide +kernel, rfl⟩)))
theorem i_Model_spare_43 : mj_Kc y_Model_spare 43 1 (.int 1) := .inl ⟨1, by decide +kernel, rfl, by decide +kernel⟩
theorem i_Model_spare_44 : mj_Ic y_Model_spare 44 51 (fun (a b : Int32) => ¬ a = b) := ⟨7, by decide, .inr (.inl ⟨by decide +kernel, rfl⟩)⟩
theorem i_Model_spare_47 : mj_Kc y_Model_spare 47 1 (.int 1) := .inl ⟨1, by decide +kernel, rfl, by decide +kernel⟩
theorem i_Model_spare_48 : mj_Go y_Model_spare 48 52 := ⟨4, by decide, by decide +kernel⟩
theorem i_Model_spare_51 : mj_Kc y_Model_spare 51 1 (.int 0) := .inl ⟨0, by decide +kernel, rfl, by decide +kernel⟩
theorem i_Model_spare_52 : mj_St y_Model_spare 52 2 4 0 := .inl ⟨rfl, .inl ⟨rfl, by decide +kernel⟩⟩
theorem i_Model_spare_54 : mj_Ld y_Model_spare 54 1 2 0 := .inl ⟨rfl, .inr ⟨rfl, 2, rfl, by decide +kernel⟩⟩
theorem i_Model_spare_55 : mj_Ld y_Model_spare 55 2 4 0 := .inl ⟨rfl, .inl ⟨rfl, by decide +kernel⟩⟩
theorem i_Model_spare_57 : mj_If y_Model_spare 57 80 (fun (a : Int32) => a = 0) := ⟨23, by decide, .inl ⟨by decide +kernel, rfl⟩⟩
theorem i_Model_spare_60 : mj_Ld y_Model_spare 60 1 0 2 := .inr (.inr ⟨rfl, .inr ⟨rfl, 0, rfl, by decide +kernel⟩⟩)
theorem i_Model_spare_61 : mj_Ld y_Model_spare 61 1 1 0 := .inl ⟨rfl, .inr ⟨rfl, 1, rfl, by decide +kernel⟩⟩
theorem i_Model_spare_62 : mj_Kc y_Model_spare 62 1 (.int 1) := .inl ⟨1, by decide +kernel, rfl, by decide +kernel⟩
theorem i_Model_spare_63 : mj_Ld y_Model_spare 63 1 3 0 := .inl ⟨rfl, .inr ⟨rfl, 3, rfl, by decide +kernel⟩⟩
theorem i_Model_spare_64 : mj_B2 y_Model_spare 64 (fun (a b : Int32) => a <<< (b &&& 31)) := .inr (.inr (.inr (.inr (.inr (.inr (.inl ⟨by decide +kernel, rfl⟩))))))
theorem i_Model_spare_65 : mj_Kc y_Model_spare 65 1 (.int (-1)) := .inl ⟨(-1), by decide +kernel, rfl, by decide +kernel⟩
theorem i_Model_spare_66 : mj_B2 y_Model_spare 66 (fun (a b : Int32) => a ^^^ b) := .inr (.inr (.inr (.inr (.inr (.inl ⟨by decide +kernel, rfl⟩)))))
theorem i_Model_spare_67 : mj_B2 y_Model_spare 67 (fun (a b : Int32) => a &&& b) := .inr (.inr (.inr (.inl ⟨by decide +kernel, rfl⟩)))
theorem i_Model_spare_68 : mj_Cv y_Model_spare 68 y_Model_unseenBy 8 1 := ⟨by decide, rfl, mt_Model_unseenBy, 156, by decide +kernel, mm_975, mm_977, mp_36⟩
theorem i_Model_spare_71 : mj_If y_Model_spare 71 80 (fun (a : Int32) => 0 ≤ a) := ⟨9, by decide, .inr (.inr (.inr (.inl ⟨by decide +kernel, rfl⟩)))⟩
theorem i_Model_spare_74 : mj_Kc y_Model_spare 74 1 (.int 1) := .inl ⟨1, by decide +kernel, rfl, by decide +kernel⟩
theorem i_Model_spare_75 : mj_Ld y_Model_spare 75 1 3 0 := .inl ⟨rfl, .inr ⟨rfl, 3, rfl, by decide +kernel⟩⟩
theorem i_Model_spare_76 : mj_B2 y_Model_spare 76 (fun (a b : Int32) => a <<< (b &&& 31)) := .inr (.inr (.inr (.inr (.inr (.inr (.inl ⟨by decide +kernel, rfl⟩))))))
theorem i_Model_spare_77 : mj_Go y_Model_spare 77 81 := ⟨4, by decide, by decide +kernel⟩
theorem i_Model_spare_80 : mj_Kc y_Model_spare 80 1 (.int 0) := .inl ⟨0, by decide +kernel, rfl, by decide +kernel⟩
theorem i_Model_spare_81 : mj_B2 y_Model_spare 81 (fun (a b : Int32) => a ||| b) := .inr (.inr (.inr (.inr (.inl ⟨by decide +kernel, rfl⟩))))
theorem i_Model_spare_82 : mj_St y_Model_spare 82 1 2 0 := .inl ⟨rfl, .inr ⟨rfl, 2, rfl, by decide +kernel⟩⟩
theorem i_Model_spare_83 : mj_In y_Model_spare 83 3 1 := ⟨1, by decide +kernel, by decide +kernel⟩
theorem i_Model_spare_86 : mj_Go y_Model_spare 86 30 := ⟨(-56), by decide, by decide +kernel⟩
theorem i_Model_spare_89 : mj_Ld y_Model_spare 89 1 2 0 := .inl ⟨rfl, .inr ⟨rfl, 2, rfl, by decide +kernel⟩⟩
theorem i_Model_spare_90 : decode y_Model_spare.2.1 90 = .ok (.ireturn, 1) := by decide +kernel
theorem i_Model_fewest_0 : mj_Ld y_Model_fewest 0 1 0 2 := .inr (.inr ⟨rfl, .inr ⟨rfl, 0, rfl, by decide +kernel⟩⟩)
theorem i_Model_fewest_1 : mj_Cv y_Model_fewest 1 y_Model_seek 8 0 := ⟨by decide, rfl, mt_Model_seek, 174, by decide +kernel, mm_988, mm_990, mp_37⟩
theorem i_Model_fewest_4 : mj_Ld y_Model_fewest 4 1 0 2 := .inr (.inr ⟨rfl, .inr ⟨rfl, 0, rfl, by decide +kernel⟩⟩)
theorem i_Model_fewest_5 : mj_Gf y_Model_fewest 5 8 15 := ⟨by decide, by decide, 159, by decide +kernel, .inl mm_747⟩
theorem i_Model_fewest_8 : decode y_Model_fewest.2.1 8 = .ok (.ireturn, 1) := by decide +kernel
theorem i_Model_seek_0 : mj_Ld y_Model_seek 0 1 0 2 := .inr (.inr ⟨rfl, .inr ⟨rfl, 0, rfl, by decide +kernel⟩⟩)
theorem i_Model_seek_1 : mj_Cv y_Model_seek 1 y_Model_look 8 0 := ⟨by decide, rfl, mt_Model_look, 146, by decide +kernel, mm_943, mm_945, mp_32⟩
theorem i_Model_seek_4 : mj_Ld y_Model_seek 4 1 0 2 := .inr (.inr ⟨rfl, .inr ⟨rfl, 0, rfl, by decide +kernel⟩⟩)
theorem i_Model_seek_5 : mj_Kc y_Model_seek 5 2 (.int (-2000000005)) := .inr (.inr (.inr (.inl ⟨139, (-2000000005), by decide +kernel, rfl, rfl, mm_934⟩)))
theorem i_Model_seek_7 : mj_Pf y_Model_seek 7 8 15 (.int) := ⟨by decide, by decide, 159, by decide +kernel, mm_747, by decide +kernel, .inl rfl⟩
theorem i_Model_seek_10 : mj_Ld y_Model_seek 10 1 0 2 := .inr (.inr ⟨rfl, .inr ⟨rfl, 0, rfl, by decide +kernel⟩⟩)
theorem i_Model_seek_11 : mj_Kc y_Model_seek 11 2 (.int (-2000000005)) := .inr (.inr (.inr (.inl ⟨139, (-2000000005), by decide +kernel, rfl, rfl, mm_934⟩)))
theorem i_Model_seek_13 : mj_Pf y_Model_seek 13 8 16 (.int) := ⟨by decide, by decide, 162, by decide +kernel, mm_748, by decide +kernel, .inl rfl⟩
theorem i_Model_seek_16 : mj_Ld y_Model_seek 16 1 0 2 := .inr (.inr ⟨rfl, .inr ⟨rfl, 0, rfl, by decide +kernel⟩⟩)
theorem i_Model_seek_17 : mj_Kc y_Model_seek 17 1 (.int 0) := .inl ⟨0, by decide +kernel, rfl, by decide +kernel⟩
theorem i_Model_seek_18 : mj_Pf y_Model_seek 18 8 17 (.int) := ⟨by decide, by decide, 165, by decide +kernel, mm_749, by decide +kernel, .inl rfl⟩
theorem i_Model_seek_21 : mj_Kc y_Model_seek 21 1 (.int 0) := .inl ⟨0, by decide +kernel, rfl, by decide +kernel⟩
theorem i_Model_seek_22 : mj_St y_Model_seek 22 1 1 0 := .inl ⟨rfl, .inr ⟨rfl, 1, rfl, by decide +kernel⟩⟩
theorem i_Model_seek_23 : mj_Ld y_Model_seek 23 1 1 0 := .inl ⟨rfl, .inr ⟨rfl, 1, rfl, by decide +kernel⟩⟩
theorem i_Model_seek_24 : mj_Kc y_Model_seek 24 1 (.int 1) := .inl ⟨1, by decide +kernel, rfl, by decide +kernel⟩
theorem i_Model_seek_25 : mj_Ld y_Model_seek 25 1 0 2 := .inr (.inr ⟨rfl, .inr ⟨rfl, 0, rfl, by decide +kernel⟩⟩)
theorem i_Model_seek_26 : mj_Cv y_Model_seek 26 y_Model_posts 8 0 := ⟨by decide, rfl, mt_Model_posts, 74, by decide +kernel, mm_846, mm_848, mp_23⟩
theorem i_Model_seek_29 : mj_B2 y_Model_seek 29 (fun (a b : Int32) => a <<< (b &&& 31)) := .inr (.inr (.inr (.inr (.inr (.inr (.inl ⟨by decide +kernel, rfl⟩))))))
theorem i_Model_seek_30 : mj_Ic y_Model_seek 30 142 (fun (a b : Int32) => b ≤ a) := ⟨112, by decide, .inr (.inr (.inr (.inl ⟨by decide +kernel, rfl⟩)))⟩
theorem i_Model_seek_33 : mj_Ld y_Model_seek 33 1 1 0 := .inl ⟨rfl, .inr ⟨rfl, 1, rfl, by decide +kernel⟩⟩
theorem i_Model_seek_34 : mj_Cs y_Model_seek 34 y_Model_manyOf 1 := ⟨mt_Model_manyOf, 168, by decide +kernel, mm_993, .inl mm_992⟩
theorem i_Model_seek_37 : mj_St y_Model_seek 37 1 2 0 := .inl ⟨rfl, .inr ⟨rfl, 2, rfl, by decide +kernel⟩⟩
theorem i_Model_seek_38 : mj_Ld y_Model_seek 38 1 0 2 := .inr (.inr ⟨rfl, .inr ⟨rfl, 0, rfl, by decide +kernel⟩⟩)
theorem i_Model_seek_39 : mj_Gf y_Model_seek 39 8 15 := ⟨by decide, by decide, 159, by decide +kernel, .inl mm_747⟩
theorem i_Model_seek_42 : mj_Kc y_Model_seek 42 2 (.int (-2000000005)) := .inr (.inr (.inr (.inl ⟨139, (-2000000005), by decide +kernel, rfl, rfl, mm_934⟩)))
theorem i_Model_seek_44 : mj_Ic y_Model_seek 44 55 (fun (a b : Int32) => a = b) := ⟨11, by decide, .inl ⟨by decide +kernel, rfl⟩⟩
theorem i_Model_seek_47 : mj_Ld y_Model_seek 47 1 2 0 := .inl ⟨rfl, .inr ⟨rfl, 2, rfl, by decide +kernel⟩⟩
theorem i_Model_seek_48 : mj_Ld y_Model_seek 48 1 0 2 := .inr (.inr ⟨rfl, .inr ⟨rfl, 0, rfl, by decide +kernel⟩⟩)
theorem i_Model_seek_49 : mj_Gf y_Model_seek 49 8 15 := ⟨by decide, by decide, 159, by decide +kernel, .inl mm_747⟩
theorem i_Model_seek_52 : mj_Ic y_Model_seek 52 136 (fun (a b : Int32) => b < a) := ⟨84, by decide, .inr (.inr (.inr (.inr (.inl ⟨by decide +kernel, rfl⟩))))⟩
theorem i_Model_seek_55 : mj_Ld y_Model_seek 55 1 0 2 := .inr (.inr ⟨rfl, .inr ⟨rfl, 0, rfl, by decide +kernel⟩⟩)
theorem i_Model_seek_56 : mj_Ld y_Model_seek 56 1 1 0 := .inl ⟨rfl, .inr ⟨rfl, 1, rfl, by decide +kernel⟩⟩
theorem i_Model_seek_57 : mj_Cv y_Model_seek 57 y_Model_unseenBy 8 1 := ⟨by decide, rfl, mt_Model_unseenBy, 156, by decide +kernel, mm_975, mm_977, mp_36⟩
theorem i_Model_seek_60 : mj_If y_Model_seek 60 136 (fun (a : Int32) => 0 ≤ a) := ⟨76, by decide, .inr (.inr (.inr (.inl ⟨by decide +kernel, rfl⟩)))⟩
theorem i_Model_seek_63 : mj_Ld y_Model_seek 63 1 0 2 := .inr (.inr ⟨rfl, .inr ⟨rfl, 0, rfl, by decide +kernel⟩⟩)
theorem i_Model_seek_64 : mj_Gf y_Model_seek 64 8 15 := ⟨by decide, by decide, 159, by decide +kernel, .inl mm_747⟩
theorem i_Model_seek_67 : mj_Kc y_Model_seek 67 2 (.int (-2000000005)) := .inr (.inr (.inr (.inl ⟨139, (-2000000005), by decide +kernel, rfl, rfl, mm_934⟩)))
theorem i_Model_seek_69 : mj_Ic y_Model_seek 69 80 (fun (a b : Int32) => a = b) := ⟨11, by decide, .inl ⟨by decide +kernel, rfl⟩⟩
theorem i_Model_seek_72 : mj_Ld y_Model_seek 72 1 2 0 := .inl ⟨rfl, .inr ⟨rfl, 2, rfl, by decide +kernel⟩⟩
theorem i_Model_seek_73 : mj_Ld y_Model_seek 73 1 0 2 := .inr (.inr ⟨rfl, .inr ⟨rfl, 0, rfl, by decide +kernel⟩⟩)
theorem i_Model_seek_74 : mj_Gf y_Model_seek 74 8 15 := ⟨by decide, by decide, 159, by decide +kernel, .inl mm_747⟩
theorem i_Model_seek_77 : mj_Ic y_Model_seek 77 84 (fun (a b : Int32) => b ≤ a) := ⟨7, by decide, .inr (.inr (.inr (.inl ⟨by decide +kernel, rfl⟩)))⟩
theorem i_Model_seek_80 : mj_Kc y_Model_seek 80 1 (.int 1) := .inl ⟨1, by decide +kernel, rfl, by decide +kernel⟩
theorem i_Model_seek_81 : mj_Go y_Model_seek 81 85 := ⟨4, by decide, by decide +kernel⟩
theorem i_Model_seek_84 : mj_Kc y_Model_seek 84 1 (.int 0) := .inl ⟨0, by decide +kernel, rfl, by decide +kernel⟩
theorem i_Model_seek_85 : mj_St y_Model_seek 85 1 3 0 := .inl ⟨rfl, .inr ⟨rfl, 3, rfl, by decide +kernel⟩⟩
theorem i_Model_seek_86 : mj_Ld y_Model_seek 86 1 0 2 := .inr (.inr ⟨rfl, .inr ⟨rfl, 0, rfl, by decide +kernel⟩⟩)
theorem i_Model_seek_87 : mj_Ld y_Model_seek 87 1 3 0 := .inl ⟨rfl, .inr ⟨rfl, 3, rfl, by decide +kernel⟩⟩
theorem i_Model_seek_88 : mj_If y_Model_seek 88 102 (fun (a : Int32) => ¬ a = 0) := ⟨14, by decide, .inr (.inl ⟨by decide +kernel, rfl⟩)⟩
theorem i_Model_seek_91 : mj_Ld y_Model_seek 91 1 1 0 := .inl ⟨rfl, .inr ⟨rfl, 1, rfl, by decide +kernel⟩⟩
theorem i_Model_seek_92 : mj_Ld y_Model_seek 92 1 0 2 := .inr (.inr ⟨rfl, .inr ⟨rfl, 0, rfl, by decide +kernel⟩⟩)
theorem i_Model_seek_93 : mj_Gf y_Model_seek 93 8 16 := ⟨by decide, by decide, 162, by decide +kernel, .inl mm_748⟩
theorem i_Model_seek_96 : mj_Cs y_Model_seek 96 y_Model_isFirst 2 := ⟨mt_Model_isFirst, 171, by decide +kernel, mm_996, .inl mm_995⟩
theorem i_Model_seek_99 : mj_If y_Model_seek 99 106 (fun (a : Int32) => a = 0) := ⟨7, by decide, .inl ⟨by decide +kernel, rfl⟩⟩
theorem i_Model_seek_102 : mj_Ld y_Model_seek 102 1 1 0 := .inl ⟨rfl, .inr ⟨rfl, 1, rfl, by decide +kernel⟩⟩
theorem i_Model_seek_103 : mj_Go y_Model_seek 103 110 := ⟨7, by decide, by decide +kernel⟩
theorem i_Model_seek_106 : mj_Ld y_Model_seek 106 1 0 2 := .inr (.inr ⟨rfl, .inr ⟨rfl, 0, rfl, by decide +kernel⟩⟩)
theorem i_Model_seek_107 : mj_Gf y_Model_seek 107 8 16 := ⟨by decide, by decide, 162, by decide +kernel, .inl mm_748⟩
theorem i_Model_seek_110 : mj_Pf y_Model_seek 110 8 16 (.int) := ⟨by decide, by decide, 162, by decide +kernel, mm_748, by decide +kernel, .inl rfl⟩
theorem i_Model_seek_113 : mj_Ld y_Model_seek 113 1 0 2 := .inr (.inr ⟨rfl, .inr ⟨rfl, 0, rfl, by decide +kernel⟩⟩)
theorem i_Model_seek_114 : mj_Ld y_Model_seek 114 1 3 0 := .inl ⟨rfl, .inr ⟨rfl, 3, rfl, by decide +kernel⟩⟩
theorem i_Model_seek_115 : mj_If y_Model_seek 115 122 (fun (a : Int32) => a = 0) := ⟨7, by decide, .inl ⟨by decide +kernel, rfl⟩⟩
theorem i_Model_seek_118 : mj_Kc y_Model_seek 118 1 (.int 1) := .inl ⟨1, by decide +kernel, rfl, by decide +kernel⟩
theorem i_Model_seek_119 : mj_Go y_Model_seek 119 128 := ⟨9, by decide, by decide +kernel⟩
theorem i_Model_seek_122 : mj_Ld y_Model_seek 122 1 0 2 := .inr (.inr ⟨rfl, .inr ⟨rfl, 0, rfl, by decide +kernel⟩⟩)
theorem i_Model_seek_123 : mj_Gf y_Model_seek 123 8 17 := ⟨by decide, by decide, 165, by decide +kernel, .inl mm_749⟩
theorem i_Model_seek_126 : mj_Kc y_Model_seek 126 1 (.int 1) := .inl ⟨1, by decide +kernel, rfl, by decide +kernel⟩
theorem i_Model_seek_127 : mj_B2 y_Model_seek 127 (fun (a b : Int32) => a + b) := .inl ⟨by decide +kernel, rfl⟩
theorem i_Model_seek_128 : mj_Pf y_Model_seek 128 8 17 (.int) := ⟨by decide, by decide, 165, by decide +kernel, mm_749, by decide +kernel, .inl rfl⟩
theorem i_Model_seek_131 : mj_Ld y_Model_seek 131 1 0 2 := .inr (.inr ⟨rfl, .inr ⟨rfl, 0, rfl, by decide +kernel⟩⟩)
theorem i_Model_seek_132 : mj_Ld y_Model_seek 132 1 2 0 := .inl ⟨rfl, .inr ⟨rfl, 2, rfl, by decide +kernel⟩⟩
theorem i_Model_seek_133 : mj_Pf y_Model_seek 133 8 15 (.int) := ⟨by decide, by decide, 159, by decide +kernel, mm_747, by decide +kernel, .inl rfl⟩
theorem i_Model_seek_136 : mj_In y_Model_seek 136 1 1 := ⟨1, by decide +kernel, by decide +kernel⟩
theorem i_Model_seek_139 : mj_Go y_Model_seek 139 23 := ⟨(-116), by decide, by decide +kernel⟩
theorem i_Model_seek_142 : decode y_Model_seek.2.1 142 = .ok (.return_, 1) := by decide +kernel
theorem i_Model_manyOf_0 : mj_Kc y_Model_manyOf 0 1 (.int 0) := .inl ⟨0, by decide +kernel, rfl, by decide +kernel⟩
theorem i_Model_manyOf_1 : mj_St y_Model_manyOf 1 1 1 0 := .inl ⟨rfl, .inr ⟨rfl, 1, rfl, by decide +kernel⟩⟩
theorem i_Model_manyOf_2 : mj_Kc y_Model_manyOf 2 1 (.int 0) := .inl ⟨0, by decide +kernel, rfl, by decide +kernel⟩
theorem i_Model_manyOf_3 : mj_St y_Model_manyOf 3 1 2 0 := .inl ⟨rfl, .inr ⟨rfl, 2, rfl, by decide +kernel⟩⟩
theorem i_Model_manyOf_4 : mj_Ld y_Model_manyOf 4 1 2 0 := .inl ⟨rfl, .inr ⟨rfl, 2, rfl, by decide +kernel⟩⟩
theorem i_Model_manyOf_5 : mj_Kc y_Model_manyOf 5 2 (.int 14) := .inr (.inl ⟨14, by decide +kernel, rfl, by decide +kernel⟩)
theorem i_Model_manyOf_7 : mj_Ic y_Model_manyOf 7 24 (fun (a b : Int32) => b ≤ a) := ⟨17, by decide, .inr (.inr (.inr (.inl ⟨by decide +kernel, rfl⟩)))⟩
theorem i_Model_manyOf_10 : mj_Ld y_Model_manyOf 10 1 1 0 := .inl ⟨rfl, .inr ⟨rfl, 1, rfl, by decide +kernel⟩⟩
theorem i_Model_manyOf_11 : mj_Ld y_Model_manyOf 11 1 0 0 := .inl ⟨rfl, .inr ⟨rfl, 0, rfl, by decide +kernel⟩⟩
theorem i_Model_manyOf_12 : mj_Ld y_Model_manyOf 12 1 2 0 := .inl ⟨rfl, .inr ⟨rfl, 2, rfl, by decide +kernel⟩⟩
theorem i_Model_manyOf_13 : mj_B2 y_Model_manyOf 13 (fun (a b : Int32) => a >>> (b &&& 31)) := .inr (.inr (.inr (.inr (.inr (.inr (.inr (.inl ⟨by decide +kernel, rfl⟩)))))))
theorem i_Model_manyOf_14 : mj_Kc y_Model_manyOf 14 1 (.int 1) := .inl ⟨1, by decide +kernel, rfl, by decide +kernel⟩
theorem i_Model_manyOf_15 : mj_B2 y_Model_manyOf 15 (fun (a b : Int32) => a &&& b) := .inr (.inr (.inr (.inl ⟨by decide +kernel, rfl⟩)))
theorem i_Model_manyOf_16 : mj_B2 y_Model_manyOf 16 (fun (a b : Int32) => a + b) := .inl ⟨by decide +kernel, rfl⟩
theorem i_Model_manyOf_17 : mj_St y_Model_manyOf 17 1 1 0 := .inl ⟨rfl, .inr ⟨rfl, 1, rfl, by decide +kernel⟩⟩
theorem i_Model_manyOf_18 : mj_In y_Model_manyOf 18 2 1 := ⟨1, by decide +kernel, by decide +kernel⟩
theorem i_Model_manyOf_21 : mj_Go y_Model_manyOf 21 4 := ⟨(-17), by decide, by decide +kernel⟩
theorem i_Model_manyOf_24 : mj_Ld y_Model_manyOf 24 1 1 0 := .inl ⟨rfl, .inr ⟨rfl, 1, rfl, by decide +kernel⟩⟩
theorem i_Model_manyOf_25 : decode y_Model_manyOf.2.1 25 = .ok (.ireturn, 1) := by decide +kernel
theorem i_Model_isFirst_0 : mj_Ld y_Model_isFirst 0 1 0 0 := .inl ⟨rfl, .inr ⟨rfl, 0, rfl, by decide +kernel⟩⟩
theorem i_Model_isFirst_1 : mj_Ld y_Model_isFirst 1 1 1 0 := .inl ⟨rfl, .inr ⟨rfl, 1, rfl, by decide +kernel⟩⟩
theorem i_Model_isFirst_2 : mj_B2 y_Model_isFirst 2 (fun (a b : Int32) => a ^^^ b) := .inr (.inr (.inr (.inr (.inr (.inl ⟨by decide +kernel, rfl⟩)))))
theorem i_Model_isFirst_3 : mj_St y_Model_isFirst 3 1 2 0 := .inl ⟨rfl, .inr ⟨rfl, 2, rfl, by decide +kernel⟩⟩
theorem i_Model_isFirst_4 : mj_Ld y_Model_isFirst 4 1 0 0 := .inl ⟨rfl, .inr ⟨rfl, 0, rfl, by decide +kernel⟩⟩
theorem i_Model_isFirst_5 : mj_Ld y_Model_isFirst 5 1 2 0 := .inl ⟨rfl, .inr ⟨rfl, 2, rfl, by decide +kernel⟩⟩
theorem i_Model_isFirst_6 : mj_B2 y_Model_isFirst 6 (fun (a b : Int32) => a &&& b) := .inr (.inr (.inr (.inl ⟨by decide +kernel, rfl⟩)))
theorem i_Model_isFirst_7 : mj_Ld y_Model_isFirst 7 1 2 0 := .inl ⟨rfl, .inr ⟨rfl, 2, rfl, by decide +kernel⟩⟩
theorem i_Model_isFirst_8 : decode y_Model_isFirst.2.1 8 = .ok (.ineg, 1) := by decide +kernel
theorem i_Model_isFirst_9 : mj_B2 y_Model_isFirst 9 (fun (a b : Int32) => a &&& b) := .inr (.inr (.inr (.inl ⟨by decide +kernel, rfl⟩)))
theorem i_Model_isFirst_10 : mj_If y_Model_isFirst 10 17 (fun (a : Int32) => a = 0) := ⟨7, by decide, .inl ⟨by decide +kernel, rfl⟩⟩
theorem i_Model_isFirst_13 : mj_Kc y_Model_isFirst 13 1 (.int 1) := .inl ⟨1, by decide +kernel, rfl, by decide +kernel⟩
theorem i_Model_isFirst_14 : mj_Go y_Model_isFirst 14 18 := ⟨4, by decide, by decide +kernel⟩
theorem i_Model_isFirst_17 : mj_Kc y_Model_isFirst 17 1 (.int 0) := .inl ⟨0, by decide +kernel, rfl, by decide +kernel⟩
theorem i_Model_isFirst_18 : decode y_Model_isFirst.2.1 18 = .ok (.ireturn, 1) := by decide +kernel
theorem i_Model_choose_0 : mj_Ld y_Model_choose 0 1 0 2 := .inr (.inr ⟨rfl, .inr ⟨rfl, 0, rfl, by decide +kernel⟩⟩)
theorem i_Model_choose_1 : mj_Cv y_Model_choose 1 y_Model_seek 8 0 := ⟨by decide, rfl, mt_Model_seek, 174, by decide +kernel, mm_988, mm_990, mp_37⟩
theorem i_Model_choose_4 : mj_Ld y_Model_choose 4 1 0 2 := .inr (.inr ⟨rfl, .inr ⟨rfl, 0, rfl, by decide +kernel⟩⟩)
theorem i_Model_choose_5 : mj_Gf y_Model_choose 5 8 16 := ⟨by decide, by decide, 162, by decide +kernel, .inl mm_748⟩
theorem i_Model_choose_8 : decode y_Model_choose.2.1 8 = .ok (.ireturn, 1) := by decide +kernel
theorem i_Model_many_0 : mj_Ld y_Model_many 0 1 0 2 := .inr (.inr ⟨rfl, .inr ⟨rfl, 0, rfl, by decide +kernel⟩⟩)
theorem i_Model_many_1 : mj_Cv y_Model_many 1 y_Model_seek 8 0 := ⟨by decide, rfl, mt_Model_seek, 174, by decide +kernel, mm_988, mm_990, mp_37⟩
theorem i_Model_many_4 : mj_Ld y_Model_many 4 1 0 2 := .inr (.inr ⟨rfl, .inr ⟨rfl, 0, rfl, by decide +kernel⟩⟩)
theorem i_Model_many_5 : mj_Gf y_Model_many 5 8 17 := ⟨by decide, by decide, 165, by decide +kernel, .inl mm_749⟩
theorem i_Model_many_8 : decode y_Model_many.2.1 8 = .ok (.ireturn, 1) := by decide +kernel
theorem i_Model_only_0 : mj_Ld y_Model_only 0 1 0 2 := .inr (.inr ⟨rfl, .inr ⟨rfl, 0, rfl, by decide +kernel⟩⟩)
theorem i_Model_only_1 : mj_Cv y_Model_only 1 y_Model_look 8 0 := ⟨by decide, rfl, mt_Model_look, 146, by decide +kernel, mm_943, mm_945, mp_32⟩
theorem i_Model_only_4 : mj_Kc y_Model_only 4 1 (.int 1) := .inl ⟨1, by decide +kernel, rfl, by decide +kernel⟩
theorem i_Model_only_5 : mj_Ld y_Model_only 5 1 0 2 := .inr (.inr ⟨rfl, .inr ⟨rfl, 0, rfl, by decide +kernel⟩⟩)
theorem i_Model_only_6 : mj_Cv y_Model_only 6 y_Model_posts 8 0 := ⟨by decide, rfl, mt_Model_posts, 74, by decide +kernel, mm_846, mm_848, mp_23⟩
theorem i_Model_only_9 : mj_B2 y_Model_only 9 (fun (a b : Int32) => a <<< (b &&& 31)) := .inr (.inr (.inr (.inr (.inr (.inr (.inl ⟨by decide +kernel, rfl⟩))))))
theorem i_Model_only_10 : mj_Kc y_Model_only 10 1 (.int 1) := .inl ⟨1, by decide +kernel, rfl, by decide +kernel⟩
theorem i_Model_only_11 : mj_B2 y_Model_only 11 (fun (a b : Int32) => a - b) := .inr (.inl ⟨by decide +kernel, rfl⟩)
theorem i_Model_only_12 : mj_St y_Model_only 12 1 1 0 := .inl ⟨rfl, .inr ⟨rfl, 1, rfl, by decide +kernel⟩⟩
theorem i_Model_only_13 : mj_Ld y_Model_only 13 1 0 2 := .inr (.inr ⟨rfl, .inr ⟨rfl, 0, rfl, by decide +kernel⟩⟩)
theorem i_Model_only_14 : mj_Ld y_Model_only 14 1 1 0 := .inl ⟨rfl, .inr ⟨rfl, 1, rfl, by decide +kernel⟩⟩
theorem i_Model_only_15 : mj_Cv y_Model_only 15 y_Model_unseenBy 8 1 := ⟨by decide, rfl, mt_Model_unseenBy, 156, by decide +kernel, mm_975, mm_977, mp_36⟩
theorem i_Model_only_18 : mj_If y_Model_only 18 24 (fun (a : Int32) => a < 0) := ⟨6, by decide, .inr (.inr (.inl ⟨by decide +kernel, rfl⟩))⟩
theorem i_Model_only_21 : mj_Kc y_Model_only 21 2 (.int (-2000000005)) := .inr (.inr (.inr (.inl ⟨139, (-2000000005), by decide +kernel, rfl, rfl, mm_934⟩)))
theorem i_Model_only_23 : decode y_Model_only.2.1 23 = .ok (.ireturn, 1) := by decide +kernel
theorem i_Model_only_24 : mj_Kc y_Model_only 24 1 (.int 0) := .inl ⟨0, by decide +kernel, rfl, by decide +kernel⟩
theorem i_Model_only_25 : mj_St y_Model_only 25 1 2 0 := .inl ⟨rfl, .inr ⟨rfl, 2, rfl, by decide +kernel⟩⟩
theorem i_Model_only_26 : mj_Kc y_Model_only 26 1 (.int 0) := .inl ⟨0, by decide +kernel, rfl, by decide +kernel⟩
theorem i_Model_only_27 : mj_St y_Model_only 27 1 3 0 := .inl ⟨rfl, .inr ⟨rfl, 3, rfl, by decide +kernel⟩⟩
theorem i_Model_only_28 : mj_Ld y_Model_only 28 1 3 0 := .inl ⟨rfl, .inr ⟨rfl, 3, rfl, by decide +kernel⟩⟩
theorem i_Model_only_29 : mj_Ld y_Model_only 29 1 0 2 := .inr (.inr ⟨rfl, .inr ⟨rfl, 0, rfl, by decide +kernel⟩⟩)
theorem i_Model_only_30 : mj_Cv y_Model_only 30 y_Model_posts 8 0 := ⟨by decide, rfl, mt_Model_posts, 74, by decide +kernel, mm_846, mm_848, mp_23⟩
theorem i_Model_only_33 : mj_Ic y_Model_only 33 66 (fun (a b : Int32) => b ≤ a) := ⟨33, by decide, .inr (.inr (.inr (.inl ⟨by decide +kernel, rfl⟩)))⟩
theorem i_Model_only_36 : mj_Ld y_Model_only 36 1 2 0 := .inl ⟨rfl, .inr ⟨rfl, 2, rfl, by decide +kernel⟩⟩
theorem i_Model_only_37 : mj_Ld y_Model_only 37 1 0 2 := .inr (.inr ⟨rfl, .inr ⟨rfl, 0, rfl, by decide +kernel⟩⟩)
theorem i_Model_only_38 : mj_Ld y_Model_only 38 1 1 0 := .inl ⟨rfl, .inr ⟨rfl, 1, rfl, by decide +kernel⟩⟩
theorem i_Model_only_39 : mj_Kc y_Model_only 39 1 (.int 1) := .inl ⟨1, by decide +kernel, rfl, by decide +kernel⟩
theorem i_Model_only_40 : mj_Ld y_Model_only 40 1 3 0 := .inl ⟨rfl, .inr ⟨rfl, 3, rfl, by decide +kernel⟩⟩
theorem i_Model_only_41 : mj_B2 y_Model_only 41 (fun (a b : Int32) => a <<< (b &&& 31)) := .inr (.inr (.inr (.inr (.inr (.inr (.inl ⟨by decide +kernel, rfl⟩))))))
theorem i_Model_only_42 : mj_Kc y_Model_only 42 1 (.int (-1)) := .inl ⟨(-1), by decide +kernel, rfl, by decide +kernel⟩
theorem i_Model_only_43 : mj_B2 y_Model_only 43 (fun (a b : Int32) => a ^^^ b) := .inr (.inr (.inr (.inr (.inr (.inl ⟨by decide +kernel, rfl⟩)))))
theorem i_Model_only_44 : mj_B2 y_Model_only 44 (fun (a b : Int32) => a &&& b) := .inr (.inr (.inr (.inl ⟨by decide +kernel, rfl⟩)))
theorem i_Model_only_45 : mj_Cv y_Model_only 45 y_Model_unseenBy 8 1 := ⟨by decide, rfl, mt_Model_unseenBy, 156, by decide +kernel, mm_975, mm_977, mp_36⟩
theorem i_Model_only_48 : mj_If y_Model_only 48 57 (fun (a : Int32) => a < 0) := ⟨9, by decide, .inr (.inr (.inl ⟨by decide +kernel, rfl⟩))⟩
theorem i_Model_only_51 : mj_Kc y_Model_only 51 1 (.int 1) := .inl ⟨1, by decide +kernel, rfl, by decide +kernel⟩
theorem i_Model_only_52 : mj_Ld y_Model_only 52 1 3 0 := .inl ⟨rfl, .inr ⟨rfl, 3, rfl, by decide +kernel⟩⟩
theorem i_Model_only_53 : mj_B2 y_Model_only 53 (fun (a b : Int32) => a <<< (b &&& 31)) := .inr (.inr (.inr (.inr (.inr (.inr (.inl ⟨by decide +kernel, rfl⟩))))))
theorem i_Model_only_54 : mj_Go y_Model_only 54 58 := ⟨4, by decide, by decide +kernel⟩
theorem i_Model_only_57 : mj_Kc y_Model_only 57 1 (.int 0) := .inl ⟨0, by decide +kernel, rfl, by decide +kernel⟩
theorem i_Model_only_58 : mj_B2 y_Model_only 58 (fun (a b : Int32) => a ||| b) := .inr (.inr (.inr (.inr (.inl ⟨by decide +kernel, rfl⟩))))
theorem i_Model_only_59 : mj_St y_Model_only 59 1 2 0 := .inl ⟨rfl, .inr ⟨rfl, 2, rfl, by decide +kernel⟩⟩
theorem i_Model_only_60 : mj_In y_Model_only 60 3 1 := ⟨1, by decide +kernel, by decide +kernel⟩
theorem i_Model_only_63 : mj_Go y_Model_only 63 28 := ⟨(-35), by decide, by decide +kernel⟩
theorem i_Model_only_66 : mj_Ld y_Model_only 66 1 2 0 := .inl ⟨rfl, .inr ⟨rfl, 2, rfl, by decide +kernel⟩⟩
theorem i_Model_only_67 : decode y_Model_only.2.1 67 = .ok (.ireturn, 1) := by decide +kernel
theorem i_Model_sneak_0 : mj_Ld y_Model_sneak 0 1 0 2 := .inr (.inr ⟨rfl, .inr ⟨rfl, 0, rfl, by decide +kernel⟩⟩)
theorem i_Model_sneak_1 : mj_Ld y_Model_sneak 1 1 1 0 := .inl ⟨rfl, .inr ⟨rfl, 1, rfl, by decide +kernel⟩⟩
theorem i_Model_sneak_2 : mj_Cv y_Model_sneak 2 y_Model_isCell 8 1 := ⟨by decide, rfl, mt_Model_isCell, 96, by decide +kernel, mm_830, mm_832, mp_19⟩
theorem i_Model_sneak_5 : mj_If y_Model_sneak 5 16 (fun (a : Int32) => a = 0) := ⟨11, by decide, .inl ⟨by decide +kernel, rfl⟩⟩
theorem i_Model_sneak_8 : mj_Ld y_Model_sneak 8 1 0 2 := .inr (.inr ⟨rfl, .inr ⟨rfl, 0, rfl, by decide +kernel⟩⟩)
theorem i_Model_sneak_9 : mj_Ld y_Model_sneak 9 1 2 0 := .inl ⟨rfl, .inr ⟨rfl, 2, rfl, by decide +kernel⟩⟩
theorem i_Model_sneak_10 : mj_Cv y_Model_sneak 10 y_Model_isCell 8 1 := ⟨by decide, rfl, mt_Model_isCell, 96, by decide +kernel, mm_830, mm_832, mp_19⟩
theorem i_Model_sneak_13 : mj_If y_Model_sneak 13 19 (fun (a : Int32) => ¬ a = 0) := ⟨6, by decide, .inr (.inl ⟨by decide +kernel, rfl⟩)⟩
theorem i_Model_sneak_16 : mj_Kc y_Model_sneak 16 2 (.int (-2000000001)) := .inr (.inr (.inr (.inl ⟨81, (-2000000001), by decide +kernel, rfl, rfl, mm_821⟩)))
theorem i_Model_sneak_18 : decode y_Model_sneak.2.1 18 = .ok (.ireturn, 1) := by decide +kernel
theorem i_Model_sneak_19 : mj_Ld y_Model_sneak 19 1 0 2 := .inr (.inr ⟨rfl, .inr ⟨rfl, 0, rfl, by decide +kernel⟩⟩)
theorem i_Model_sneak_20 : mj_Cv y_Model_sneak 20 y_Model_look 8 0 := ⟨by decide, rfl, mt_Model_look, 146, by decide +kernel, mm_943, mm_945, mp_32⟩
theorem i_Model_sneak_23 : mj_Ld y_Model_sneak 23 1 0 2 := .inr (.inr ⟨rfl, .inr ⟨rfl, 0, rfl, by decide +kernel⟩⟩)
theorem i_Model_sneak_24 : mj_Ld y_Model_sneak 24 1 1 0 := .inl ⟨rfl, .inr ⟨rfl, 1, rfl, by decide +kernel⟩⟩
theorem i_Model_sneak_25 : mj_Cv y_Model_sneak 25 y_Model_walk 8 1 := ⟨by decide, rfl, mt_Model_walk, 183, by decide +kernel, mm_1014, mm_1016, mp_38⟩
theorem i_Model_sneak_28 : mj_Ld y_Model_sneak 28 1 0 2 := .inr (.inr ⟨rfl, .inr ⟨rfl, 0, rfl, by decide +kernel⟩⟩)
theorem i_Model_sneak_29 : mj_Gf y_Model_sneak 29 8 18 := ⟨by decide, by decide, 44, by decide +kernel, .inl mm_750⟩
theorem i_Model_sneak_32 : mj_Ld y_Model_sneak 32 1 2 0 := .inl ⟨rfl, .inr ⟨rfl, 2, rfl, by decide +kernel⟩⟩
theorem i_Model_sneak_33 : decode y_Model_sneak.2.1 33 = .ok (.iaload, 1) := by decide +kernel
theorem i_Model_sneak_34 : mj_If y_Model_sneak 34 42 (fun (a : Int32) => 0 ≤ a) := ⟨8, by decide, .inr (.inr (.inr (.inl ⟨by decide +kernel, rfl⟩)))⟩
theorem i_Model_sneak_37 : mj_Kc y_Model_sneak 37 2 (.int (-2000000005)) := .inr (.inr (.inr (.inl ⟨139, (-2000000005), by decide +kernel, rfl, rfl, mm_934⟩)))
theorem i_Model_sneak_39 : mj_Go y_Model_sneak 39 48 := ⟨9, by decide, by decide +kernel⟩
theorem i_Model_sneak_42 : mj_Ld y_Model_sneak 42 1 0 2 := .inr (.inr ⟨rfl, .inr ⟨rfl, 0, rfl, by decide +kernel⟩⟩)
theorem i_Model_sneak_43 : mj_Gf y_Model_sneak 43 8 18 := ⟨by decide, by decide, 44, by decide +kernel, .inl mm_750⟩
theorem i_Model_sneak_46 : mj_Ld y_Model_sneak 46 1 2 0 := .inl ⟨rfl, .inr ⟨rfl, 2, rfl, by decide +kernel⟩⟩
theorem i_Model_sneak_47 : decode y_Model_sneak.2.1 47 = .ok (.iaload, 1) := by decide +kernel
theorem i_Model_sneak_48 : decode y_Model_sneak.2.1 48 = .ok (.ireturn, 1) := by decide +kernel
theorem i_Model_walk_0 : mj_Kc y_Model_walk 0 1 (.int 0) := .inl ⟨0, by decide +kernel, rfl, by decide +kernel⟩
theorem i_Model_walk_1 : mj_St y_Model_walk 1 1 2 0 := .inl ⟨rfl, .inr ⟨rfl, 2, rfl, by decide +kernel⟩⟩
theorem i_Model_walk_2 : mj_Ld y_Model_walk 2 1 2 0 := .inl ⟨rfl, .inr ⟨rfl, 2, rfl, by decide +kernel⟩⟩
theorem i_Model_walk_3 : mj_Ld y_Model_walk 3 1 0 2 := .inr (.inr ⟨rfl, .inr ⟨rfl, 0, rfl, by decide +kernel⟩⟩)
theorem i_Model_walk_4 : mj_Cv y_Model_walk 4 y_Model_cells 8 0 := ⟨by decide, rfl, mt_Model_cells, 66, by decide +kernel, mm_822, mm_824, mp_18⟩
theorem i_Model_walk_7 : mj_Ic y_Model_walk 7 40 (fun (a b : Int32) => b ≤ a) := ⟨33, by decide, .inr (.inr (.inr (.inl ⟨by decide +kernel, rfl⟩)))⟩
theorem i_Model_walk_10 : mj_Ld y_Model_walk 10 1 0 2 := .inr (.inr ⟨rfl, .inr ⟨rfl, 0, rfl, by decide +kernel⟩⟩)
theorem i_Model_walk_11 : mj_Gf y_Model_walk 11 8 18 := ⟨by decide, by decide, 44, by decide +kernel, .inl mm_750⟩
theorem i_Model_walk_14 : mj_Ld y_Model_walk 14 1 2 0 := .inl ⟨rfl, .inr ⟨rfl, 2, rfl, by decide +kernel⟩⟩
theorem i_Model_walk_15 : mj_Ld y_Model_walk 15 1 2 0 := .inl ⟨rfl, .inr ⟨rfl, 2, rfl, by decide +kernel⟩⟩
theorem i_Model_walk_16 : mj_Ld y_Model_walk 16 1 1 0 := .inl ⟨rfl, .inr ⟨rfl, 1, rfl, by decide +kernel⟩⟩
theorem i_Model_walk_17 : mj_Ic y_Model_walk 17 32 (fun (a b : Int32) => ¬ a = b) := ⟨15, by decide, .inr (.inl ⟨by decide +kernel, rfl⟩)⟩
theorem i_Model_walk_20 : mj_Ld y_Model_walk 20 1 0 2 := .inr (.inr ⟨rfl, .inr ⟨rfl, 0, rfl, by decide +kernel⟩⟩)
theorem i_Model_walk_21 : mj_Ld y_Model_walk 21 1 2 0 := .inl ⟨rfl, .inr ⟨rfl, 2, rfl, by decide +kernel⟩⟩
theorem i_Model_walk_22 : mj_Cv y_Model_walk 22 y_Model_isUnseen 8 1 := ⟨by decide, rfl, mt_Model_isUnseen, 177, by decide +kernel, mm_1018, mm_1020, mp_39⟩
theorem i_Model_walk_25 : mj_If y_Model_walk 25 32 (fun (a : Int32) => a = 0) := ⟨7, by decide, .inl ⟨by decide +kernel, rfl⟩⟩
theorem i_Model_walk_28 : mj_Kc y_Model_walk 28 1 (.int 0) := .inl ⟨0, by decide +kernel, rfl, by decide +kernel⟩
theorem i_Model_walk_29 : mj_Go y_Model_walk 29 33 := ⟨4, by decide, by decide +kernel⟩
theorem i_Model_walk_32 : mj_Kc y_Model_walk 32 1 (.int (-1)) := .inl ⟨(-1), by decide +kernel, rfl, by decide +kernel⟩
theorem i_Model_walk_33 : decode y_Model_walk.2.1 33 = .ok (.iastore, 1) := by decide +kernel
theorem i_Model_walk_34 : mj_In y_Model_walk 34 2 1 := ⟨1, by decide +kernel, by decide +kernel⟩
theorem i_Model_walk_37 : mj_Go y_Model_walk 37 2 := ⟨(-35), by decide, by decide +kernel⟩
theorem i_Model_walk_40 : mj_Kc y_Model_walk 40 1 (.int 1) := .inl ⟨1, by decide +kernel, rfl, by decide +kernel⟩
theorem i_Model_walk_41 : mj_St y_Model_walk 41 1 2 0 := .inl ⟨rfl, .inr ⟨rfl, 2, rfl, by decide +kernel⟩⟩
theorem i_Model_walk_42 : mj_Kc y_Model_walk 42 1 (.int 0) := .inl ⟨0, by decide +kernel, rfl, by decide +kernel⟩
theorem i_Model_walk_43 : mj_St y_Model_walk 43 1 3 0 := .inl ⟨rfl, .inr ⟨rfl, 3, rfl, by decide +kernel⟩⟩
theorem i_Model_walk_44 : mj_Ld y_Model_walk 44 1 2 0 := .inl ⟨rfl, .inr ⟨rfl, 2, rfl, by decide +kernel⟩⟩
theorem i_Model_walk_45 : mj_If y_Model_walk 45 145 (fun (a : Int32) => a = 0) := ⟨100, by decide, .inl ⟨by decide +kernel, rfl⟩⟩
