/-! what stands at each place of the methods: Integer Arrays Past Post Room -/
theorem i_Integer_bitCount_0 : mj_Ld y_Integer_bitCount 0 1 0 0 := .inl ⟨rfl, .inr ⟨rfl, 0, rfl, by decide +kernel⟩⟩
theorem i_Integer_bitCount_1 : mj_Ld y_Integer_bitCount 1 1 0 0 := .inl ⟨rfl, .inr ⟨rfl, 0, rfl, by decide +kernel⟩⟩
theorem i_Integer_bitCount_2 : mj_Kc y_Integer_bitCount 2 1 (.int 1) := .inl ⟨1, by decide +kernel, rfl, by decide +kernel⟩
theorem i_Integer_bitCount_3 : mj_B2 y_Integer_bitCount 3 (fun (a b : Int32) => (a.toUInt32 >>> (b.toUInt32 &&& Int32.toUInt32 31)).toInt32) := .inr (.inr (.inr (.inr (.inr (.inr (.inr (.inr (⟨by decide +kernel, rfl⟩))))))))
theorem i_Integer_bitCount_4 : mj_Kc y_Integer_bitCount 4 3 (.int 1431655765) := .inr (.inr (.inr (.inr (.inl ⟨265, 1431655765, by decide +kernel, rfl, rfl, mm_687⟩))))
theorem i_Integer_bitCount_7 : mj_B2 y_Integer_bitCount 7 (fun (a b : Int32) => a &&& b) := .inr (.inr (.inr (.inl ⟨by decide +kernel, rfl⟩)))
theorem i_Integer_bitCount_8 : mj_B2 y_Integer_bitCount 8 (fun (a b : Int32) => a - b) := .inr (.inl ⟨by decide +kernel, rfl⟩)
theorem i_Integer_bitCount_9 : mj_St y_Integer_bitCount 9 1 0 0 := .inl ⟨rfl, .inr ⟨rfl, 0, rfl, by decide +kernel⟩⟩
theorem i_Integer_bitCount_10 : mj_Ld y_Integer_bitCount 10 1 0 0 := .inl ⟨rfl, .inr ⟨rfl, 0, rfl, by decide +kernel⟩⟩
theorem i_Integer_bitCount_11 : mj_Kc y_Integer_bitCount 11 3 (.int 858993459) := .inr (.inr (.inr (.inr (.inl ⟨266, 858993459, by decide +kernel, rfl, rfl, mm_688⟩))))
theorem i_Integer_bitCount_14 : mj_B2 y_Integer_bitCount 14 (fun (a b : Int32) => a &&& b) := .inr (.inr (.inr (.inl ⟨by decide +kernel, rfl⟩)))
theorem i_Integer_bitCount_15 : mj_Ld y_Integer_bitCount 15 1 0 0 := .inl ⟨rfl, .inr ⟨rfl, 0, rfl, by decide +kernel⟩⟩
theorem i_Integer_bitCount_16 : mj_Kc y_Integer_bitCount 16 1 (.int 2) := .inl ⟨2, by decide +kernel, rfl, by decide +kernel⟩
theorem i_Integer_bitCount_17 : mj_B2 y_Integer_bitCount 17 (fun (a b : Int32) => (a.toUInt32 >>> (b.toUInt32 &&& Int32.toUInt32 31)).toInt32) := .inr (.inr (.inr (.inr (.inr (.inr (.inr (.inr (⟨by decide +kernel, rfl⟩))))))))
theorem i_Integer_bitCount_18 : mj_Kc y_Integer_bitCount 18 3 (.int 858993459) := .inr (.inr (.inr (.inr (.inl ⟨266, 858993459, by decide +kernel, rfl, rfl, mm_688⟩))))
theorem i_Integer_bitCount_21 : mj_B2 y_Integer_bitCount 21 (fun (a b : Int32) => a &&& b) := .inr (.inr (.inr (.inl ⟨by decide +kernel, rfl⟩)))
theorem i_Integer_bitCount_22 : mj_B2 y_Integer_bitCount 22 (fun (a b : Int32) => a + b) := .inl ⟨by decide +kernel, rfl⟩
theorem i_Integer_bitCount_23 : mj_St y_Integer_bitCount 23 1 0 0 := .inl ⟨rfl, .inr ⟨rfl, 0, rfl, by decide +kernel⟩⟩
theorem i_Integer_bitCount_24 : mj_Ld y_Integer_bitCount 24 1 0 0 := .inl ⟨rfl, .inr ⟨rfl, 0, rfl, by decide +kernel⟩⟩
theorem i_Integer_bitCount_25 : mj_Ld y_Integer_bitCount 25 1 0 0 := .inl ⟨rfl, .inr ⟨rfl, 0, rfl, by decide +kernel⟩⟩
theorem i_Integer_bitCount_26 : mj_Kc y_Integer_bitCount 26 1 (.int 4) := .inl ⟨4, by decide +kernel, rfl, by decide +kernel⟩
theorem i_Integer_bitCount_27 : mj_B2 y_Integer_bitCount 27 (fun (a b : Int32) => (a.toUInt32 >>> (b.toUInt32 &&& Int32.toUInt32 31)).toInt32) := .inr (.inr (.inr (.inr (.inr (.inr (.inr (.inr (⟨by decide +kernel, rfl⟩))))))))
theorem i_Integer_bitCount_28 : mj_B2 y_Integer_bitCount 28 (fun (a b : Int32) => a + b) := .inl ⟨by decide +kernel, rfl⟩
theorem i_Integer_bitCount_29 : mj_Kc y_Integer_bitCount 29 3 (.int 252645135) := .inr (.inr (.inr (.inr (.inl ⟨267, 252645135, by decide +kernel, rfl, rfl, mm_689⟩))))
theorem i_Integer_bitCount_32 : mj_B2 y_Integer_bitCount 32 (fun (a b : Int32) => a &&& b) := .inr (.inr (.inr (.inl ⟨by decide +kernel, rfl⟩)))
theorem i_Integer_bitCount_33 : mj_St y_Integer_bitCount 33 1 0 0 := .inl ⟨rfl, .inr ⟨rfl, 0, rfl, by decide +kernel⟩⟩
theorem i_Integer_bitCount_34 : mj_Ld y_Integer_bitCount 34 1 0 0 := .inl ⟨rfl, .inr ⟨rfl, 0, rfl, by decide +kernel⟩⟩
theorem i_Integer_bitCount_35 : mj_Ld y_Integer_bitCount 35 1 0 0 := .inl ⟨rfl, .inr ⟨rfl, 0, rfl, by decide +kernel⟩⟩
theorem i_Integer_bitCount_36 : mj_Kc y_Integer_bitCount 36 2 (.int 8) := .inr (.inl ⟨8, by decide +kernel, rfl, by decide +kernel⟩)
theorem i_Integer_bitCount_38 : mj_B2 y_Integer_bitCount 38 (fun (a b : Int32) => (a.toUInt32 >>> (b.toUInt32 &&& Int32.toUInt32 31)).toInt32) := .inr (.inr (.inr (.inr (.inr (.inr (.inr (.inr (⟨by decide +kernel, rfl⟩))))))))
theorem i_Integer_bitCount_39 : mj_B2 y_Integer_bitCount 39 (fun (a b : Int32) => a + b) := .inl ⟨by decide +kernel, rfl⟩
theorem i_Integer_bitCount_40 : mj_St y_Integer_bitCount 40 1 0 0 := .inl ⟨rfl, .inr ⟨rfl, 0, rfl, by decide +kernel⟩⟩
theorem i_Integer_bitCount_41 : mj_Ld y_Integer_bitCount 41 1 0 0 := .inl ⟨rfl, .inr ⟨rfl, 0, rfl, by decide +kernel⟩⟩
theorem i_Integer_bitCount_42 : mj_Ld y_Integer_bitCount 42 1 0 0 := .inl ⟨rfl, .inr ⟨rfl, 0, rfl, by decide +kernel⟩⟩
theorem i_Integer_bitCount_43 : mj_Kc y_Integer_bitCount 43 2 (.int 16) := .inr (.inl ⟨16, by decide +kernel, rfl, by decide +kernel⟩)
theorem i_Integer_bitCount_45 : mj_B2 y_Integer_bitCount 45 (fun (a b : Int32) => (a.toUInt32 >>> (b.toUInt32 &&& Int32.toUInt32 31)).toInt32) := .inr (.inr (.inr (.inr (.inr (.inr (.inr (.inr (⟨by decide +kernel, rfl⟩))))))))
theorem i_Integer_bitCount_46 : mj_B2 y_Integer_bitCount 46 (fun (a b : Int32) => a + b) := .inl ⟨by decide +kernel, rfl⟩
theorem i_Integer_bitCount_47 : mj_St y_Integer_bitCount 47 1 0 0 := .inl ⟨rfl, .inr ⟨rfl, 0, rfl, by decide +kernel⟩⟩
theorem i_Integer_bitCount_48 : mj_Ld y_Integer_bitCount 48 1 0 0 := .inl ⟨rfl, .inr ⟨rfl, 0, rfl, by decide +kernel⟩⟩
theorem i_Integer_bitCount_49 : mj_Kc y_Integer_bitCount 49 2 (.int 63) := .inr (.inl ⟨63, by decide +kernel, rfl, by decide +kernel⟩)
theorem i_Integer_bitCount_51 : mj_B2 y_Integer_bitCount 51 (fun (a b : Int32) => a &&& b) := .inr (.inr (.inr (.inl ⟨by decide +kernel, rfl⟩)))
theorem i_Integer_bitCount_52 : decode y_Integer_bitCount.2.1 52 = .ok (.ireturn, 1) := by decide +kernel
theorem i_Arrays_fill_0 : mj_Kc y_Arrays_fill 0 1 (.int 0) := .inl ⟨0, by decide +kernel, rfl, by decide +kernel⟩
theorem i_Arrays_fill_1 : mj_St y_Arrays_fill 1 1 2 0 := .inl ⟨rfl, .inr ⟨rfl, 2, rfl, by decide +kernel⟩⟩
theorem i_Arrays_fill_2 : mj_Ld y_Arrays_fill 2 1 0 2 := .inr (.inr ⟨rfl, .inr ⟨rfl, 0, rfl, by decide +kernel⟩⟩)
theorem i_Arrays_fill_3 : decode y_Arrays_fill.2.1 3 = .ok (.arraylength, 1) := by decide +kernel
theorem i_Arrays_fill_4 : mj_St y_Arrays_fill 4 1 3 0 := .inl ⟨rfl, .inr ⟨rfl, 3, rfl, by decide +kernel⟩⟩
theorem i_Arrays_fill_5 : mj_Ld y_Arrays_fill 5 1 2 0 := .inl ⟨rfl, .inr ⟨rfl, 2, rfl, by decide +kernel⟩⟩
theorem i_Arrays_fill_6 : mj_Ld y_Arrays_fill 6 1 3 0 := .inl ⟨rfl, .inr ⟨rfl, 3, rfl, by decide +kernel⟩⟩
theorem i_Arrays_fill_7 : mj_Ic y_Arrays_fill 7 20 (fun (a b : Int32) => b ≤ a) := ⟨13, by decide, .inr (.inr (.inr (.inl ⟨by decide +kernel, rfl⟩)))⟩
theorem i_Arrays_fill_10 : mj_Ld y_Arrays_fill 10 1 0 2 := .inr (.inr ⟨rfl, .inr ⟨rfl, 0, rfl, by decide +kernel⟩⟩)
theorem i_Arrays_fill_11 : mj_Ld y_Arrays_fill 11 1 2 0 := .inl ⟨rfl, .inr ⟨rfl, 2, rfl, by decide +kernel⟩⟩
theorem i_Arrays_fill_12 : mj_Ld y_Arrays_fill 12 1 1 0 := .inl ⟨rfl, .inr ⟨rfl, 1, rfl, by decide +kernel⟩⟩
theorem i_Arrays_fill_13 : decode y_Arrays_fill.2.1 13 = .ok (.iastore, 1) := by decide +kernel
theorem i_Arrays_fill_14 : mj_In y_Arrays_fill 14 2 1 := ⟨1, by decide +kernel, by decide +kernel⟩
theorem i_Arrays_fill_17 : mj_Go y_Arrays_fill 17 5 := ⟨(-12), by decide, by decide +kernel⟩
theorem i_Arrays_fill_20 : decode y_Arrays_fill.2.1 20 = .ok (.return_, 1) := by decide +kernel
theorem i_Past_init_0 : mj_Ld y_Past_init 0 1 0 2 := .inr (.inr ⟨rfl, .inr ⟨rfl, 0, rfl, by decide +kernel⟩⟩)
theorem i_Past_init_1 : mj_Oi y_Past_init 1 := ⟨3, by decide +kernel, mm_72⟩
theorem i_Past_init_4 : mj_Ld y_Past_init 4 1 0 2 := .inr (.inr ⟨rfl, .inr ⟨rfl, 0, rfl, by decide +kernel⟩⟩)
theorem i_Past_init_5 : mj_Kc y_Past_init 5 2 (.int 10) := .inr (.inl ⟨10, by decide +kernel, rfl, by decide +kernel⟩)
theorem i_Past_init_7 : mj_Nq y_Past_init 7 4 := ⟨.inr rfl, 9, by decide +kernel, mm_73⟩
theorem i_Past_init_10 : mj_Pf y_Past_init 10 1 0 (.array (.object "GalleryWatch$Room")) := ⟨by decide, by decide, 11, by decide +kernel, mm_76, by decide +kernel, .inr ⟨rfl, rfl, rfl⟩⟩
theorem i_Past_init_13 : mj_Kc y_Past_init 13 1 (.int 0) := .inl ⟨0, by decide +kernel, rfl, by decide +kernel⟩
theorem i_Past_init_14 : mj_St y_Past_init 14 1 1 0 := .inl ⟨rfl, .inr ⟨rfl, 1, rfl, by decide +kernel⟩⟩
theorem i_Past_init_15 : mj_Ld y_Past_init 15 1 1 0 := .inl ⟨rfl, .inr ⟨rfl, 1, rfl, by decide +kernel⟩⟩
theorem i_Past_init_16 : mj_Kc y_Past_init 16 2 (.int 10) := .inr (.inl ⟨10, by decide +kernel, rfl, by decide +kernel⟩)
theorem i_Past_init_18 : mj_Ic y_Past_init 18 40 (fun (a b : Int32) => b ≤ a) := ⟨22, by decide, .inr (.inr (.inr (.inl ⟨by decide +kernel, rfl⟩)))⟩
theorem i_Past_init_21 : mj_Ld y_Past_init 21 1 0 2 := .inr (.inr ⟨rfl, .inr ⟨rfl, 0, rfl, by decide +kernel⟩⟩)
theorem i_Past_init_22 : mj_Gf y_Past_init 22 1 0 := ⟨by decide, by decide, 11, by decide +kernel, .inl mm_76⟩
theorem i_Past_init_25 : mj_Ld y_Past_init 25 1 1 0 := .inl ⟨rfl, .inr ⟨rfl, 1, rfl, by decide +kernel⟩⟩
theorem i_Past_init_26 : mj_Nw y_Past_init 26 4 := ⟨by decide, 9, by decide +kernel, mm_73, mm_23, mm_2⟩
theorem i_Past_init_29 : decode y_Past_init.2.1 29 = .ok (.dup, 1) := by decide +kernel
theorem i_Past_init_30 : mj_Ci y_Past_init 30 y_Room_init 0 := ⟨mt_Room_init, rfl, rfl, 17, by decide +kernel, mm_25, .inr ⟨"GalleryWatch", mm_75⟩⟩
theorem i_Past_init_33 : decode y_Past_init.2.1 33 = .ok (.aastore, 1) := by decide +kernel
theorem i_Past_init_34 : mj_In y_Past_init 34 1 1 := ⟨1, by decide +kernel, by decide +kernel⟩
theorem i_Past_init_37 : mj_Go y_Past_init 37 15 := ⟨(-22), by decide, by decide +kernel⟩
theorem i_Past_init_40 : decode y_Past_init.2.1 40 = .ok (.return_, 1) := by decide +kernel
theorem i_Past_forget_0 : mj_Ld y_Past_forget 0 1 0 2 := .inr (.inr ⟨rfl, .inr ⟨rfl, 0, rfl, by decide +kernel⟩⟩)
theorem i_Past_forget_1 : mj_Kc y_Past_forget 1 1 (.int 0) := .inl ⟨0, by decide +kernel, rfl, by decide +kernel⟩
theorem i_Past_forget_2 : mj_Pf y_Past_forget 2 1 1 (.int) := ⟨by decide, by decide, 18, by decide +kernel, mm_77, by decide +kernel, .inl rfl⟩
theorem i_Past_forget_5 : mj_Ld y_Past_forget 5 1 0 2 := .inr (.inr ⟨rfl, .inr ⟨rfl, 0, rfl, by decide +kernel⟩⟩)
theorem i_Past_forget_6 : mj_Kc y_Past_forget 6 1 (.int 0) := .inl ⟨0, by decide +kernel, rfl, by decide +kernel⟩
theorem i_Past_forget_7 : mj_Pf y_Past_forget 7 1 2 (.int) := ⟨by decide, by decide, 22, by decide +kernel, mm_78, by decide +kernel, .inl rfl⟩
theorem i_Past_forget_10 : decode y_Past_forget.2.1 10 = .ok (.return_, 1) := by decide +kernel
theorem i_Past_keep_0 : mj_Ld y_Past_keep 0 1 0 2 := .inr (.inr ⟨rfl, .inr ⟨rfl, 0, rfl, by decide +kernel⟩⟩)
theorem i_Past_keep_1 : mj_Cv y_Past_keep 1 y_Past_nextSlot 1 0 := ⟨by decide, rfl, mt_Past_nextSlot, 25, by decide +kernel, mm_313, mm_315, mp_3⟩
theorem i_Past_keep_4 : mj_St y_Past_keep 4 1 2 2 := .inr (.inr ⟨rfl, .inr ⟨rfl, 2, rfl, by decide +kernel⟩⟩)
theorem i_Past_keep_5 : mj_Ld y_Past_keep 5 1 2 2 := .inr (.inr ⟨rfl, .inr ⟨rfl, 2, rfl, by decide +kernel⟩⟩)
theorem i_Past_keep_6 : mj_Nu y_Past_keep 6 14 true := ⟨8, by decide, .inl ⟨rfl, by decide +kernel⟩⟩
theorem i_Past_keep_9 : mj_Ld y_Past_keep 9 1 2 2 := .inr (.inr ⟨rfl, .inr ⟨rfl, 2, rfl, by decide +kernel⟩⟩)
theorem i_Past_keep_10 : mj_Ld y_Past_keep 10 1 1 2 := .inr (.inr ⟨rfl, .inr ⟨rfl, 1, rfl, by decide +kernel⟩⟩)
theorem i_Past_keep_11 : mj_Cv y_Past_keep 11 y_Room_copyFrom 4 1 := ⟨by decide, rfl, mt_Room_copyFrom, 29, by decide +kernel, mm_317, mm_247, mm_248⟩
theorem i_Past_keep_14 : mj_Ld y_Past_keep 14 1 0 2 := .inr (.inr ⟨rfl, .inr ⟨rfl, 0, rfl, by decide +kernel⟩⟩)
theorem i_Past_keep_15 : mj_Ld y_Past_keep 15 1 0 2 := .inr (.inr ⟨rfl, .inr ⟨rfl, 0, rfl, by decide +kernel⟩⟩)
theorem i_Past_keep_16 : mj_Gf y_Past_keep 16 1 2 := ⟨by decide, by decide, 22, by decide +kernel, .inl mm_78⟩
theorem i_Past_keep_19 : mj_Kc y_Past_keep 19 2 (.int 9) := .inr (.inl ⟨9, by decide +kernel, rfl, by decide +kernel⟩)
theorem i_Past_keep_21 : mj_Ic y_Past_keep 21 33 (fun (a b : Int32) => b ≤ a) := ⟨12, by decide, .inr (.inr (.inr (.inl ⟨by decide +kernel, rfl⟩)))⟩
theorem i_Past_keep_24 : mj_Ld y_Past_keep 24 1 0 2 := .inr (.inr ⟨rfl, .inr ⟨rfl, 0, rfl, by decide +kernel⟩⟩)
theorem i_Past_keep_25 : mj_Gf y_Past_keep 25 1 2 := ⟨by decide, by decide, 22, by decide +kernel, .inl mm_78⟩
theorem i_Past_keep_28 : mj_Kc y_Past_keep 28 1 (.int 1) := .inl ⟨1, by decide +kernel, rfl, by decide +kernel⟩
theorem i_Past_keep_29 : mj_B2 y_Past_keep 29 (fun (a b : Int32) => a + b) := .inl ⟨by decide +kernel, rfl⟩
theorem i_Past_keep_30 : mj_Go y_Past_keep 30 34 := ⟨4, by decide, by decide +kernel⟩
theorem i_Past_keep_33 : mj_Kc y_Past_keep 33 1 (.int 0) := .inl ⟨0, by decide +kernel, rfl, by decide +kernel⟩
theorem i_Past_keep_34 : mj_Pf y_Past_keep 34 1 2 (.int) := ⟨by decide, by decide, 22, by decide +kernel, mm_78, by decide +kernel, .inl rfl⟩
theorem i_Past_keep_37 : mj_Ld y_Past_keep 37 1 0 2 := .inr (.inr ⟨rfl, .inr ⟨rfl, 0, rfl, by decide +kernel⟩⟩)
theorem i_Past_keep_38 : mj_Ld y_Past_keep 38 1 0 2 := .inr (.inr ⟨rfl, .inr ⟨rfl, 0, rfl, by decide +kernel⟩⟩)
theorem i_Past_keep_39 : mj_Gf y_Past_keep 39 1 1 := ⟨by decide, by decide, 18, by decide +kernel, .inl mm_77⟩
theorem i_Past_keep_42 : mj_Kc y_Past_keep 42 1 (.int 1) := .inl ⟨1, by decide +kernel, rfl, by decide +kernel⟩
theorem i_Past_keep_43 : mj_B2 y_Past_keep 43 (fun (a b : Int32) => a + b) := .inl ⟨by decide +kernel, rfl⟩
theorem i_Past_keep_44 : mj_Kc y_Past_keep 44 2 (.int 10) := .inr (.inl ⟨10, by decide +kernel, rfl, by decide +kernel⟩)
theorem i_Past_keep_46 : mj_Mm y_Past_keep 46 (fun (a b : Int32) => if b < a then b else a) := ⟨33, by decide +kernel, .inr ⟨mm_318, rfl⟩⟩
theorem i_Past_keep_49 : mj_Pf y_Past_keep 49 1 1 (.int) := ⟨by decide, by decide, 18, by decide +kernel, mm_77, by decide +kernel, .inl rfl⟩
theorem i_Past_keep_52 : decode y_Past_keep.2.1 52 = .ok (.return_, 1) := by decide +kernel
theorem i_Past_nextSlot_0 : mj_Ld y_Past_nextSlot 0 1 0 2 := .inr (.inr ⟨rfl, .inr ⟨rfl, 0, rfl, by decide +kernel⟩⟩)
theorem i_Past_nextSlot_1 : mj_Gf y_Past_nextSlot 1 1 2 := ⟨by decide, by decide, 22, by decide +kernel, .inl mm_78⟩
theorem i_Past_nextSlot_4 : mj_If y_Past_nextSlot 4 28 (fun (a : Int32) => a < 0) := ⟨24, by decide, .inr (.inr (.inl ⟨by decide +kernel, rfl⟩))⟩
theorem i_Past_nextSlot_7 : mj_Ld y_Past_nextSlot 7 1 0 2 := .inr (.inr ⟨rfl, .inr ⟨rfl, 0, rfl, by decide +kernel⟩⟩)
theorem i_Past_nextSlot_8 : mj_Gf y_Past_nextSlot 8 1 2 := ⟨by decide, by decide, 22, by decide +kernel, .inl mm_78⟩
theorem i_Past_nextSlot_11 : mj_Kc y_Past_nextSlot 11 2 (.int 10) := .inr (.inl ⟨10, by decide +kernel, rfl, by decide +kernel⟩)
theorem i_Past_nextSlot_13 : mj_Ic y_Past_nextSlot 13 28 (fun (a b : Int32) => b ≤ a) := ⟨15, by decide, .inr (.inr (.inr (.inl ⟨by decide +kernel, rfl⟩)))⟩
theorem i_Past_nextSlot_16 : mj_Ld y_Past_nextSlot 16 1 0 2 := .inr (.inr ⟨rfl, .inr ⟨rfl, 0, rfl, by decide +kernel⟩⟩)
theorem i_Past_nextSlot_17 : mj_Gf y_Past_nextSlot 17 1 0 := ⟨by decide, by decide, 11, by decide +kernel, .inl mm_76⟩
theorem i_Past_nextSlot_20 : mj_Ld y_Past_nextSlot 20 1 0 2 := .inr (.inr ⟨rfl, .inr ⟨rfl, 0, rfl, by decide +kernel⟩⟩)
theorem i_Past_nextSlot_21 : mj_Gf y_Past_nextSlot 21 1 2 := ⟨by decide, by decide, 22, by decide +kernel, .inl mm_78⟩
theorem i_Past_nextSlot_24 : decode y_Past_nextSlot.2.1 24 = .ok (.aaload, 1) := by decide +kernel
theorem i_Past_nextSlot_25 : mj_Go y_Past_nextSlot 25 29 := ⟨4, by decide, by decide +kernel⟩
theorem i_Past_nextSlot_28 : mj_Kc y_Past_nextSlot 28 1 .null := .inr (.inr (.inr (.inr (.inr (.inr (.inr (⟨by decide +kernel, rfl, rfl⟩)))))))
theorem i_Past_nextSlot_29 : decode y_Past_nextSlot.2.1 29 = .ok (.areturn, 1) := by decide +kernel
theorem i_Past_kept_0 : mj_Ld y_Past_kept 0 1 0 2 := .inr (.inr ⟨rfl, .inr ⟨rfl, 0, rfl, by decide +kernel⟩⟩)
theorem i_Past_kept_1 : mj_Gf y_Past_kept 1 1 1 := ⟨by decide, by decide, 18, by decide +kernel, .inl mm_77⟩
theorem i_Past_kept_4 : decode y_Past_kept.2.1 4 = .ok (.ireturn, 1) := by decide +kernel
theorem i_Past_takeBack_0 : mj_Ld y_Past_takeBack 0 1 0 2 := .inr (.inr ⟨rfl, .inr ⟨rfl, 0, rfl, by decide +kernel⟩⟩)
theorem i_Past_takeBack_1 : mj_Gf y_Past_takeBack 1 1 1 := ⟨by decide, by decide, 18, by decide +kernel, .inl mm_77⟩
theorem i_Past_takeBack_4 : mj_If y_Past_takeBack 4 53 (fun (a : Int32) => a ≤ 0) := ⟨49, by decide, .inr (.inr (.inr (.inr (.inr (⟨by decide +kernel, rfl⟩)))))⟩
theorem i_Past_takeBack_7 : mj_Ld y_Past_takeBack 7 1 0 2 := .inr (.inr ⟨rfl, .inr ⟨rfl, 0, rfl, by decide +kernel⟩⟩)
theorem i_Past_takeBack_8 : mj_Ld y_Past_takeBack 8 1 0 2 := .inr (.inr ⟨rfl, .inr ⟨rfl, 0, rfl, by decide +kernel⟩⟩)
theorem i_Past_takeBack_9 : mj_Gf y_Past_takeBack 9 1 2 := ⟨by decide, by decide, 22, by decide +kernel, .inl mm_78⟩
theorem i_Past_takeBack_12 : mj_If y_Past_takeBack 12 24 (fun (a : Int32) => a ≤ 0) := ⟨12, by decide, .inr (.inr (.inr (.inr (.inr (⟨by decide +kernel, rfl⟩)))))⟩
theorem i_Past_takeBack_15 : mj_Ld y_Past_takeBack 15 1 0 2 := .inr (.inr ⟨rfl, .inr ⟨rfl, 0, rfl, by decide +kernel⟩⟩)
theorem i_Past_takeBack_16 : mj_Gf y_Past_takeBack 16 1 2 := ⟨by decide, by decide, 22, by decide +kernel, .inl mm_78⟩
theorem i_Past_takeBack_19 : mj_Kc y_Past_takeBack 19 1 (.int 1) := .inl ⟨1, by decide +kernel, rfl, by decide +kernel⟩
theorem i_Past_takeBack_20 : mj_B2 y_Past_takeBack 20 (fun (a b : Int32) => a - b) := .inr (.inl ⟨by decide +kernel, rfl⟩)
theorem i_Past_takeBack_21 : mj_Go y_Past_takeBack 21 26 := ⟨5, by decide, by decide +kernel⟩
theorem i_Past_takeBack_24 : mj_Kc y_Past_takeBack 24 2 (.int 9) := .inr (.inl ⟨9, by decide +kernel, rfl, by decide +kernel⟩)
theorem i_Past_takeBack_26 : mj_Pf y_Past_takeBack 26 1 2 (.int) := ⟨by decide, by decide, 22, by decide +kernel, mm_78, by decide +kernel, .inl rfl⟩
theorem i_Past_takeBack_29 : mj_Ld y_Past_takeBack 29 1 0 2 := .inr (.inr ⟨rfl, .inr ⟨rfl, 0, rfl, by decide +kernel⟩⟩)
theorem i_Past_takeBack_30 : decode y_Past_takeBack.2.1 30 = .ok (.dup, 1) := by decide +kernel
theorem i_Past_takeBack_31 : mj_Gf y_Past_takeBack 31 1 1 := ⟨by decide, by decide, 18, by decide +kernel, .inl mm_77⟩
theorem i_Past_takeBack_34 : mj_Kc y_Past_takeBack 34 1 (.int 1) := .inl ⟨1, by decide +kernel, rfl, by decide +kernel⟩
theorem i_Past_takeBack_35 : mj_B2 y_Past_takeBack 35 (fun (a b : Int32) => a - b) := .inr (.inl ⟨by decide +kernel, rfl⟩)
theorem i_Past_takeBack_36 : mj_Pf y_Past_takeBack 36 1 1 (.int) := ⟨by decide, by decide, 18, by decide +kernel, mm_77, by decide +kernel, .inl rfl⟩
theorem i_Past_takeBack_39 : mj_Ld y_Past_takeBack 39 1 0 2 := .inr (.inr ⟨rfl, .inr ⟨rfl, 0, rfl, by decide +kernel⟩⟩)
theorem i_Past_takeBack_40 : mj_Cv y_Past_takeBack 40 y_Past_nextSlot 1 0 := ⟨by decide, rfl, mt_Past_nextSlot, 25, by decide +kernel, mm_313, mm_315, mp_3⟩
theorem i_Past_takeBack_43 : mj_St y_Past_takeBack 43 1 2 2 := .inr (.inr ⟨rfl, .inr ⟨rfl, 2, rfl, by decide +kernel⟩⟩)
theorem i_Past_takeBack_44 : mj_Ld y_Past_takeBack 44 1 2 2 := .inr (.inr ⟨rfl, .inr ⟨rfl, 2, rfl, by decide +kernel⟩⟩)
theorem i_Past_takeBack_45 : mj_Nu y_Past_takeBack 45 53 true := ⟨8, by decide, .inl ⟨rfl, by decide +kernel⟩⟩
theorem i_Past_takeBack_48 : mj_Ld y_Past_takeBack 48 1 1 2 := .inr (.inr ⟨rfl, .inr ⟨rfl, 1, rfl, by decide +kernel⟩⟩)
theorem i_Past_takeBack_49 : mj_Ld y_Past_takeBack 49 1 2 2 := .inr (.inr ⟨rfl, .inr ⟨rfl, 2, rfl, by decide +kernel⟩⟩)
theorem i_Past_takeBack_50 : mj_Cv y_Past_takeBack 50 y_Room_copyFrom 4 1 := ⟨by decide, rfl, mt_Room_copyFrom, 29, by decide +kernel, mm_317, mm_247, mm_248⟩
theorem i_Past_takeBack_53 : decode y_Past_takeBack.2.1 53 = .ok (.return_, 1) := by decide +kernel
theorem i_Post_init_0 : mj_Ld y_Post_init 0 1 0 2 := .inr (.inr ⟨rfl, .inr ⟨rfl, 0, rfl, by decide +kernel⟩⟩)
theorem i_Post_init_1 : mj_Oi y_Post_init 1 := ⟨3, by decide +kernel, mm_361⟩
theorem i_Post_init_4 : mj_Ld y_Post_init 4 1 0 2 := .inr (.inr ⟨rfl, .inr ⟨rfl, 0, rfl, by decide +kernel⟩⟩)
theorem i_Post_init_5 : mj_Ld y_Post_init 5 1 1 0 := .inl ⟨rfl, .inr ⟨rfl, 1, rfl, by decide +kernel⟩⟩
theorem i_Post_init_6 : mj_Pf y_Post_init 6 2 0 (.int) := ⟨by decide, by decide, 9, by decide +kernel, mm_362, by decide +kernel, .inr ⟨rfl, rfl, rfl⟩⟩
theorem i_Post_init_9 : mj_Ld y_Post_init 9 1 0 2 := .inr (.inr ⟨rfl, .inr ⟨rfl, 0, rfl, by decide +kernel⟩⟩)
theorem i_Post_init_10 : mj_Ld y_Post_init 10 1 2 0 := .inl ⟨rfl, .inr ⟨rfl, 2, rfl, by decide +kernel⟩⟩
theorem i_Post_init_11 : mj_Pf y_Post_init 11 2 1 (.int) := ⟨by decide, by decide, 15, by decide +kernel, mm_366, by decide +kernel, .inr ⟨rfl, rfl, rfl⟩⟩
theorem i_Post_init_14 : mj_Ld y_Post_init 14 1 0 2 := .inr (.inr ⟨rfl, .inr ⟨rfl, 0, rfl, by decide +kernel⟩⟩)
theorem i_Post_init_15 : mj_Ld y_Post_init 15 1 3 0 := .inl ⟨rfl, .inr ⟨rfl, 3, rfl, by decide +kernel⟩⟩
theorem i_Post_init_16 : mj_Pf y_Post_init 16 2 2 (.int) := ⟨by decide, by decide, 18, by decide +kernel, mm_369, by decide +kernel, .inr ⟨rfl, rfl, rfl⟩⟩
theorem i_Post_init_19 : mj_Ld y_Post_init 19 1 0 2 := .inr (.inr ⟨rfl, .inr ⟨rfl, 0, rfl, by decide +kernel⟩⟩)
theorem i_Post_init_20 : mj_Ld y_Post_init 20 2 4 0 := .inl ⟨rfl, .inl ⟨rfl, by decide +kernel⟩⟩
theorem i_Post_init_22 : mj_Pf y_Post_init 22 2 3 (.int) := ⟨by decide, by decide, 21, by decide +kernel, mm_371, by decide +kernel, .inr ⟨rfl, rfl, rfl⟩⟩
theorem i_Post_init_25 : mj_Ld y_Post_init 25 1 0 2 := .inr (.inr ⟨rfl, .inr ⟨rfl, 0, rfl, by decide +kernel⟩⟩)
theorem i_Post_init_26 : mj_Ld y_Post_init 26 2 5 0 := .inl ⟨rfl, .inl ⟨rfl, by decide +kernel⟩⟩
theorem i_Post_init_28 : mj_Pf y_Post_init 28 2 4 (.int) := ⟨by decide, by decide, 24, by decide +kernel, mm_373, by decide +kernel, .inr ⟨rfl, rfl, rfl⟩⟩
theorem i_Post_init_31 : mj_Ld y_Post_init 31 1 0 2 := .inr (.inr ⟨rfl, .inr ⟨rfl, 0, rfl, by decide +kernel⟩⟩)
theorem i_Post_init_32 : mj_Ld y_Post_init 32 2 6 0 := .inl ⟨rfl, .inl ⟨rfl, by decide +kernel⟩⟩
theorem i_Post_init_34 : mj_Pf y_Post_init 34 2 5 (.int) := ⟨by decide, by decide, 27, by decide +kernel, mm_375, by decide +kernel, .inr ⟨rfl, rfl, rfl⟩⟩
theorem i_Post_init_37 : decode y_Post_init.2.1 37 = .ok (.return_, 1) := by decide +kernel
theorem i_Post_lets_0 : mj_Ld y_Post_lets 0 1 0 2 := .inr (.inr ⟨rfl, .inr ⟨rfl, 0, rfl, by decide +kernel⟩⟩)
theorem i_Post_lets_1 : mj_Gf y_Post_lets 1 2 1 := ⟨by decide, by decide, 15, by decide +kernel, .inl mm_366⟩
theorem i_Post_lets_4 : mj_Kc y_Post_lets 4 1 (.int 3) := .inl ⟨3, by decide +kernel, rfl, by decide +kernel⟩
theorem i_Post_lets_5 : mj_Ic y_Post_lets 5 22 (fun (a b : Int32) => ¬ a = b) := ⟨17, by decide, .inr (.inl ⟨by decide +kernel, rfl⟩)⟩
theorem i_Post_lets_8 : mj_Ld y_Post_lets 8 1 0 2 := .inr (.inr ⟨rfl, .inr ⟨rfl, 0, rfl, by decide +kernel⟩⟩)
theorem i_Post_lets_9 : mj_Gf y_Post_lets 9 2 5 := ⟨by decide, by decide, 27, by decide +kernel, .inl mm_375⟩
theorem i_Post_lets_12 : mj_Kc y_Post_lets 12 1 (.int 1) := .inl ⟨1, by decide +kernel, rfl, by decide +kernel⟩
theorem i_Post_lets_13 : mj_Ic y_Post_lets 13 20 (fun (a b : Int32) => ¬ a = b) := ⟨7, by decide, .inr (.inl ⟨by decide +kernel, rfl⟩)⟩
theorem i_Post_lets_16 : mj_Kc y_Post_lets 16 1 (.int 1) := .inl ⟨1, by decide +kernel, rfl, by decide +kernel⟩
theorem i_Post_lets_17 : mj_Go y_Post_lets 17 21 := ⟨4, by decide, by decide +kernel⟩
theorem i_Post_lets_20 : mj_Kc y_Post_lets 20 1 (.int 0) := .inl ⟨0, by decide +kernel, rfl, by decide +kernel⟩
theorem i_Post_lets_21 : decode y_Post_lets.2.1 21 = .ok (.ireturn, 1) := by decide +kernel
theorem i_Post_lets_22 : mj_Ld y_Post_lets 22 1 0 2 := .inr (.inr ⟨rfl, .inr ⟨rfl, 0, rfl, by decide +kernel⟩⟩)
theorem i_Post_lets_23 : mj_Gf y_Post_lets 23 2 1 := ⟨by decide, by decide, 15, by decide +kernel, .inl mm_366⟩
theorem i_Post_lets_26 : mj_Kc y_Post_lets 26 1 (.int 4) := .inl ⟨4, by decide +kernel, rfl, by decide +kernel⟩
theorem i_Post_lets_27 : mj_Ic y_Post_lets 27 50 (fun (a b : Int32) => ¬ a = b) := ⟨23, by decide, .inr (.inl ⟨by decide +kernel, rfl⟩)⟩
theorem i_Post_lets_30 : mj_Ld y_Post_lets 30 1 1 0 := .inl ⟨rfl, .inr ⟨rfl, 1, rfl, by decide +kernel⟩⟩
theorem i_Post_lets_31 : mj_Ma y_Post_lets 31 := ⟨30, by decide +kernel, mm_480⟩
theorem i_Post_lets_34 : mj_Ld y_Post_lets 34 1 2 0 := .inl ⟨rfl, .inr ⟨rfl, 2, rfl, by decide +kernel⟩⟩
theorem i_Post_lets_35 : mj_Ma y_Post_lets 35 := ⟨30, by decide +kernel, mm_480⟩
theorem i_Post_lets_38 : mj_Mm y_Post_lets 38 (fun (a b : Int32) => if a < b then b else a) := ⟨36, by decide +kernel, .inl ⟨mm_481, rfl⟩⟩
theorem i_Post_lets_41 : mj_Ld y_Post_lets 41 1 0 2 := .inr (.inr ⟨rfl, .inr ⟨rfl, 0, rfl, by decide +kernel⟩⟩)
theorem i_Post_lets_42 : mj_Gf y_Post_lets 42 2 4 := ⟨by decide, by decide, 24, by decide +kernel, .inl mm_373⟩
theorem i_Post_lets_45 : mj_Ic y_Post_lets 45 50 (fun (a b : Int32) => a ≤ b) := ⟨5, by decide, .inr (.inr (.inr (.inr (.inr (⟨by decide +kernel, rfl⟩)))))⟩
theorem i_Post_lets_48 : mj_Kc y_Post_lets 48 1 (.int 0) := .inl ⟨0, by decide +kernel, rfl, by decide +kernel⟩
theorem i_Post_lets_49 : decode y_Post_lets.2.1 49 = .ok (.ireturn, 1) := by decide +kernel
theorem i_Post_lets_50 : mj_Ld y_Post_lets 50 1 0 2 := .inr (.inr ⟨rfl, .inr ⟨rfl, 0, rfl, by decide +kernel⟩⟩)
theorem i_Post_lets_51 : mj_Gf y_Post_lets 51 2 1 := ⟨by decide, by decide, 15, by decide +kernel, .inl mm_366⟩
theorem i_Post_lets_54 : mj_Kc y_Post_lets 54 1 (.int 1) := .inl ⟨1, by decide +kernel, rfl, by decide +kernel⟩
theorem i_Post_lets_55 : mj_Cs y_Post_lets 55 y_GW_isKindOf 2 := ⟨mt_GW_isKindOf, 40, by decide +kernel, mm_289, .inr ⟨"GalleryWatch", mm_482⟩⟩
theorem i_Post_lets_58 : mj_If y_Post_lets 58 78 (fun (a : Int32) => a = 0) := ⟨20, by decide, .inl ⟨by decide +kernel, rfl⟩⟩
theorem i_Post_lets_61 : mj_Ld y_Post_lets 61 1 1 0 := .inl ⟨rfl, .inr ⟨rfl, 1, rfl, by decide +kernel⟩⟩
theorem i_Post_lets_62 : mj_If y_Post_lets 62 69 (fun (a : Int32) => ¬ a = 0) := ⟨7, by decide, .inr (.inl ⟨by decide +kernel, rfl⟩)⟩
theorem i_Post_lets_65 : mj_Ld y_Post_lets 65 1 2 0 := .inl ⟨rfl, .inr ⟨rfl, 2, rfl, by decide +kernel⟩⟩
theorem i_Post_lets_66 : mj_If y_Post_lets 66 78 (fun (a : Int32) => a = 0) := ⟨12, by decide, .inl ⟨by decide +kernel, rfl⟩⟩
theorem i_Post_lets_69 : mj_Ld y_Post_lets 69 1 0 2 := .inr (.inr ⟨rfl, .inr ⟨rfl, 0, rfl, by decide +kernel⟩⟩)
theorem i_Post_lets_70 : mj_Ld y_Post_lets 70 1 1 0 := .inl ⟨rfl, .inr ⟨rfl, 1, rfl, by decide +kernel⟩⟩
theorem i_Post_lets_71 : mj_Ld y_Post_lets 71 1 2 0 := .inl ⟨rfl, .inr ⟨rfl, 2, rfl, by decide +kernel⟩⟩
theorem i_Post_lets_72 : mj_Cv y_Post_lets 72 y_Post_isBetween 2 2 := ⟨by decide, rfl, mt_Post_isBetween, 44, by decide +kernel, mm_483, mm_485, mp_6⟩
theorem i_Post_lets_75 : mj_If y_Post_lets 75 82 (fun (a : Int32) => a = 0) := ⟨7, by decide, .inl ⟨by decide +kernel, rfl⟩⟩
theorem i_Post_lets_78 : mj_Kc y_Post_lets 78 1 (.int 1) := .inl ⟨1, by decide +kernel, rfl, by decide +kernel⟩
theorem i_Post_lets_79 : mj_Go y_Post_lets 79 83 := ⟨4, by decide, by decide +kernel⟩
theorem i_Post_lets_82 : mj_Kc y_Post_lets 82 1 (.int 0) := .inl ⟨0, by decide +kernel, rfl, by decide +kernel⟩
theorem i_Post_lets_83 : decode y_Post_lets.2.1 83 = .ok (.ireturn, 1) := by decide +kernel
theorem i_Post_isBetween_0 : mj_Ld y_Post_isBetween 0 1 0 2 := .inr (.inr ⟨rfl, .inr ⟨rfl, 0, rfl, by decide +kernel⟩⟩)
theorem i_Post_isBetween_1 : mj_Gf y_Post_isBetween 1 2 2 := ⟨by decide, by decide, 18, by decide +kernel, .inl mm_369⟩
theorem i_Post_isBetween_4 : mj_Cs y_Post_isBetween 4 y_GW_acrossOf 1 := ⟨mt_GW_acrossOf, 47, by decide +kernel, mm_406, .inr ⟨"GalleryWatch", mm_487⟩⟩
theorem i_Post_isBetween_7 : mj_St y_Post_isBetween 7 1 3 0 := .inl ⟨rfl, .inr ⟨rfl, 3, rfl, by decide +kernel⟩⟩
theorem i_Post_isBetween_8 : mj_Ld y_Post_isBetween 8 1 0 2 := .inr (.inr ⟨rfl, .inr ⟨rfl, 0, rfl, by decide +kernel⟩⟩)
theorem i_Post_isBetween_9 : mj_Gf y_Post_isBetween 9 2 2 := ⟨by decide, by decide, 18, by decide +kernel, .inl mm_369⟩
theorem i_Post_isBetween_12 : mj_Cs y_Post_isBetween 12 y_GW_downOf 1 := ⟨mt_GW_downOf, 50, by decide +kernel, mm_409, .inr ⟨"GalleryWatch", mm_488⟩⟩
theorem i_Post_isBetween_15 : mj_St y_Post_isBetween 15 2 4 0 := .inl ⟨rfl, .inl ⟨rfl, by decide +kernel⟩⟩
theorem i_Post_isBetween_17 : mj_Ld y_Post_isBetween 17 1 0 2 := .inr (.inr ⟨rfl, .inr ⟨rfl, 0, rfl, by decide +kernel⟩⟩)
theorem i_Post_isBetween_18 : mj_Gf y_Post_isBetween 18 2 3 := ⟨by decide, by decide, 21, by decide +kernel, .inl mm_371⟩
theorem i_Post_isBetween_21 : mj_Cs y_Post_isBetween 21 y_GW_acrossOf 1 := ⟨mt_GW_acrossOf, 47, by decide +kernel, mm_406, .inr ⟨"GalleryWatch", mm_487⟩⟩
theorem i_Post_isBetween_24 : mj_St y_Post_isBetween 24 2 5 0 := .inl ⟨rfl, .inl ⟨rfl, by decide +kernel⟩⟩
theorem i_Post_isBetween_26 : mj_Ld y_Post_isBetween 26 1 0 2 := .inr (.inr ⟨rfl, .inr ⟨rfl, 0, rfl, by decide +kernel⟩⟩)
theorem i_Post_isBetween_27 : mj_Gf y_Post_isBetween 27 2 3 := ⟨by decide, by decide, 21, by decide +kernel, .inl mm_371⟩
theorem i_Post_isBetween_30 : mj_Cs y_Post_isBetween 30 y_GW_downOf 1 := ⟨mt_GW_downOf, 50, by decide +kernel, mm_409, .inr ⟨"GalleryWatch", mm_488⟩⟩
theorem i_Post_isBetween_33 : mj_St y_Post_isBetween 33 2 6 0 := .inl ⟨rfl, .inl ⟨rfl, by decide +kernel⟩⟩
theorem i_Post_isBetween_35 : mj_Ld y_Post_isBetween 35 1 3 0 := .inl ⟨rfl, .inr ⟨rfl, 3, rfl, by decide +kernel⟩⟩
theorem i_Post_isBetween_36 : mj_Ld y_Post_isBetween 36 1 2 0 := .inl ⟨rfl, .inr ⟨rfl, 2, rfl, by decide +kernel⟩⟩
theorem i_Post_isBetween_37 : mj_B2 y_Post_isBetween 37 (fun (a b : Int32) => a * b) := .inr (.inr (.inl ⟨by decide +kernel, rfl⟩))
theorem i_Post_isBetween_38 : mj_Ld y_Post_isBetween 38 2 4 0 := .inl ⟨rfl, .inl ⟨rfl, by decide +kernel⟩⟩
theorem i_Post_isBetween_40 : mj_Ld y_Post_isBetween 40 1 1 0 := .inl ⟨rfl, .inr ⟨rfl, 1, rfl, by decide +kernel⟩⟩
theorem i_Post_isBetween_41 : mj_B2 y_Post_isBetween 41 (fun (a b : Int32) => a * b) := .inr (.inr (.inl ⟨by decide +kernel, rfl⟩))
theorem i_Post_isBetween_42 : mj_B2 y_Post_isBetween 42 (fun (a b : Int32) => a - b) := .inr (.inl ⟨by decide +kernel, rfl⟩)
theorem i_Post_isBetween_43 : mj_St y_Post_isBetween 43 2 7 0 := .inl ⟨rfl, .inl ⟨rfl, by decide +kernel⟩⟩
theorem i_Post_isBetween_45 : mj_Ld y_Post_isBetween 45 1 1 0 := .inl ⟨rfl, .inr ⟨rfl, 1, rfl, by decide +kernel⟩⟩
theorem i_Post_isBetween_46 : mj_Ld y_Post_isBetween 46 2 6 0 := .inl ⟨rfl, .inl ⟨rfl, by decide +kernel⟩⟩
theorem i_Post_isBetween_48 : mj_B2 y_Post_isBetween 48 (fun (a b : Int32) => a * b) := .inr (.inr (.inl ⟨by decide +kernel, rfl⟩))
theorem i_Post_isBetween_49 : mj_Ld y_Post_isBetween 49 1 2 0 := .inl ⟨rfl, .inr ⟨rfl, 2, rfl, by decide +kernel⟩⟩
theorem i_Post_isBetween_50 : mj_Ld y_Post_isBetween 50 2 5 0 := .inl ⟨rfl, .inl ⟨rfl, by decide +kernel⟩⟩
theorem i_Post_isBetween_52 : mj_B2 y_Post_isBetween 52 (fun (a b : Int32) => a * b) := .inr (.inr (.inl ⟨by decide +kernel, rfl⟩))
theorem i_Post_isBetween_53 : mj_B2 y_Post_isBetween 53 (fun (a b : Int32) => a - b) := .inr (.inl ⟨by decide +kernel, rfl⟩)
theorem i_Post_isBetween_54 : mj_St y_Post_isBetween 54 2 8 0 := .inl ⟨rfl, .inl ⟨rfl, by decide +kernel⟩⟩
theorem i_Post_isBetween_56 : mj_Ld y_Post_isBetween 56 1 3 0 := .inl ⟨rfl, .inr ⟨rfl, 3, rfl, by decide +kernel⟩⟩
theorem i_Post_isBetween_57 : mj_Ld y_Post_isBetween 57 2 6 0 := .inl ⟨rfl, .inl ⟨rfl, by decide +kernel⟩⟩
theorem i_Post_isBetween_59 : mj_B2 y_Post_isBetween 59 (fun (a b : Int32) => a * b) := .inr (.inr (.inl ⟨by decide +kernel, rfl⟩))
theorem i_Post_isBetween_60 : mj_Ld y_Post_isBetween 60 2 4 0 := .inl ⟨rfl, .inl ⟨rfl, by decide +kernel⟩⟩
theorem i_Post_isBetween_62 : mj_Ld y_Post_isBetween 62 2 5 0 := .inl ⟨rfl, .inl ⟨rfl, by decide +kernel⟩⟩
theorem i_Post_isBetween_64 : mj_B2 y_Post_isBetween 64 (fun (a b : Int32) => a * b) := .inr (.inr (.inl ⟨by decide +kernel, rfl⟩))
theorem i_Post_isBetween_65 : mj_B2 y_Post_isBetween 65 (fun (a b : Int32) => a - b) := .inr (.inl ⟨by decide +kernel, rfl⟩)
theorem i_Post_isBetween_66 : mj_If y_Post_isBetween 66 96 (fun (a : Int32) => ¬ a = 0) := ⟨30, by decide, .inr (.inl ⟨by decide +kernel, rfl⟩)⟩
theorem i_Post_isBetween_69 : mj_Ld y_Post_isBetween 69 2 7 0 := .inl ⟨rfl, .inl ⟨rfl, by decide +kernel⟩⟩
theorem i_Post_isBetween_71 : mj_If y_Post_isBetween 71 94 (fun (a : Int32) => ¬ a = 0) := ⟨23, by decide, .inr (.inl ⟨by decide +kernel, rfl⟩)⟩
theorem i_Post_isBetween_74 : mj_Ld y_Post_isBetween 74 2 8 0 := .inl ⟨rfl, .inl ⟨rfl, by decide +kernel⟩⟩
theorem i_Post_isBetween_76 : mj_If y_Post_isBetween 76 94 (fun (a : Int32) => ¬ a = 0) := ⟨18, by decide, .inr (.inl ⟨by decide +kernel, rfl⟩)⟩
theorem i_Post_isBetween_79 : mj_Ld y_Post_isBetween 79 1 3 0 := .inl ⟨rfl, .inr ⟨rfl, 3, rfl, by decide +kernel⟩⟩
theorem i_Post_isBetween_80 : mj_Ld y_Post_isBetween 80 1 1 0 := .inl ⟨rfl, .inr ⟨rfl, 1, rfl, by decide +kernel⟩⟩
theorem i_Post_isBetween_81 : mj_B2 y_Post_isBetween 81 (fun (a b : Int32) => a * b) := .inr (.inr (.inl ⟨by decide +kernel, rfl⟩))
theorem i_Post_isBetween_82 : mj_Ld y_Post_isBetween 82 2 4 0 := .inl ⟨rfl, .inl ⟨rfl, by decide +kernel⟩⟩
theorem i_Post_isBetween_84 : mj_Ld y_Post_isBetween 84 1 2 0 := .inl ⟨rfl, .inr ⟨rfl, 2, rfl, by decide +kernel⟩⟩
theorem i_Post_isBetween_85 : mj_B2 y_Post_isBetween 85 (fun (a b : Int32) => a * b) := .inr (.inr (.inl ⟨by decide +kernel, rfl⟩))
theorem i_Post_isBetween_86 : mj_B2 y_Post_isBetween 86 (fun (a b : Int32) => a + b) := .inl ⟨by decide +kernel, rfl⟩
theorem i_Post_isBetween_87 : mj_If y_Post_isBetween 87 94 (fun (a : Int32) => a ≤ 0) := ⟨7, by decide, .inr (.inr (.inr (.inr (.inr (⟨by decide +kernel, rfl⟩)))))⟩
theorem i_Post_isBetween_90 : mj_Kc y_Post_isBetween 90 1 (.int 1) := .inl ⟨1, by decide +kernel, rfl, by decide +kernel⟩
theorem i_Post_isBetween_91 : mj_Go y_Post_isBetween 91 95 := ⟨4, by decide, by decide +kernel⟩
theorem i_Post_isBetween_94 : mj_Kc y_Post_isBetween 94 1 (.int 0) := .inl ⟨0, by decide +kernel, rfl, by decide +kernel⟩
theorem i_Post_isBetween_95 : decode y_Post_isBetween.2.1 95 = .ok (.ireturn, 1) := by decide +kernel
theorem i_Post_isBetween_96 : mj_Ld y_Post_isBetween 96 2 7 0 := .inl ⟨rfl, .inl ⟨rfl, by decide +kernel⟩⟩
theorem i_Post_isBetween_98 : mj_If y_Post_isBetween 98 110 (fun (a : Int32) => a < 0) := ⟨12, by decide, .inr (.inr (.inl ⟨by decide +kernel, rfl⟩))⟩
theorem i_Post_isBetween_101 : mj_Ld y_Post_isBetween 101 2 8 0 := .inl ⟨rfl, .inl ⟨rfl, by decide +kernel⟩⟩
theorem i_Post_isBetween_103 : mj_If y_Post_isBetween 103 110 (fun (a : Int32) => a < 0) := ⟨7, by decide, .inr (.inr (.inl ⟨by decide +kernel, rfl⟩))⟩
theorem i_Post_isBetween_106 : mj_Kc y_Post_isBetween 106 1 (.int 1) := .inl ⟨1, by decide +kernel, rfl, by decide +kernel⟩
theorem i_Post_isBetween_107 : mj_Go y_Post_isBetween 107 111 := ⟨4, by decide, by decide +kernel⟩
theorem i_Post_isBetween_110 : mj_Kc y_Post_isBetween 110 1 (.int 0) := .inl ⟨0, by decide +kernel, rfl, by decide +kernel⟩
theorem i_Post_isBetween_111 : decode y_Post_isBetween.2.1 111 = .ok (.ireturn, 1) := by decide +kernel
theorem i_Room_init_0 : mj_Ld y_Room_init 0 1 0 2 := .inr (.inr ⟨rfl, .inr ⟨rfl, 0, rfl, by decide +kernel⟩⟩)
theorem i_Room_init_1 : mj_Oi y_Room_init 1 := ⟨3, by decide +kernel, mm_27⟩
theorem i_Room_init_4 : mj_Ld y_Room_init 4 1 0 2 := .inr (.inr ⟨rfl, .inr ⟨rfl, 0, rfl, by decide +kernel⟩⟩)
theorem i_Room_init_5 : mj_Kc y_Room_init 5 1 (.int 1) := .inl ⟨1, by decide +kernel, rfl, by decide +kernel⟩
theorem i_Room_init_6 : mj_Pf y_Room_init 6 4 0 (.int) := ⟨by decide, by decide, 9, by decide +kernel, mm_30, by decide +kernel, .inl rfl⟩
theorem i_Room_init_9 : mj_Ld y_Room_init 9 1 0 2 := .inr (.inr ⟨rfl, .inr ⟨rfl, 0, rfl, by decide +kernel⟩⟩)
theorem i_Room_init_10 : mj_Kc y_Room_init 10 1 (.int 1) := .inl ⟨1, by decide +kernel, rfl, by decide +kernel⟩
theorem i_Room_init_11 : mj_Pf y_Room_init 11 4 1 (.int) := ⟨by decide, by decide, 15, by decide +kernel, mm_32, by decide +kernel, .inl rfl⟩
theorem i_Room_init_14 : mj_Ld y_Room_init 14 1 0 2 := .inr (.inr ⟨rfl, .inr ⟨rfl, 0, rfl, by decide +kernel⟩⟩)
theorem i_Room_init_15 : mj_Kc y_Room_init 15 2 (.int 100) := .inr (.inl ⟨100, by decide +kernel, rfl, by decide +kernel⟩)
theorem i_Room_init_17 : mj_Na y_Room_init 17 0 := .inl ⟨rfl, by decide +kernel⟩
theorem i_Room_init_19 : mj_Pf y_Room_init 19 4 3 (.array .int) := ⟨by decide, by decide, 18, by decide +kernel, mm_34, by decide +kernel, .inr ⟨rfl, rfl, rfl⟩⟩
theorem i_Room_init_22 : mj_Ld y_Room_init 22 1 0 2 := .inr (.inr ⟨rfl, .inr ⟨rfl, 0, rfl, by decide +kernel⟩⟩)
theorem i_Room_init_23 : mj_Kc y_Room_init 23 2 (.int 14) := .inr (.inl ⟨14, by decide +kernel, rfl, by decide +kernel⟩)
theorem i_Room_init_25 : mj_Nq y_Room_init 25 3 := ⟨.inl rfl, 22, by decide +kernel, mm_28⟩
theorem i_Room_init_28 : mj_Pf y_Room_init 28 4 4 (.array (.object "GalleryWatch$Post")) := ⟨by decide, by decide, 24, by decide +kernel, mm_35, by decide +kernel, .inr ⟨rfl, rfl, rfl⟩⟩
theorem i_Room_init_31 : decode y_Room_init.2.1 31 = .ok (.return_, 1) := by decide +kernel
theorem i_Room_begin_0 : mj_Ld y_Room_begin 0 1 0 2 := .inr (.inr ⟨rfl, .inr ⟨rfl, 0, rfl, by decide +kernel⟩⟩)
theorem i_Room_begin_1 : mj_Ld y_Room_begin 1 1 1 0 := .inl ⟨rfl, .inr ⟨rfl, 1, rfl, by decide +kernel⟩⟩
theorem i_Room_begin_2 : mj_Pf y_Room_begin 2 4 0 (.int) := ⟨by decide, by decide, 9, by decide +kernel, mm_30, by decide +kernel, .inl rfl⟩
theorem i_Room_begin_5 : mj_Ld y_Room_begin 5 1 0 2 := .inr (.inr ⟨rfl, .inr ⟨rfl, 0, rfl, by decide +kernel⟩⟩)
theorem i_Room_begin_6 : mj_Ld y_Room_begin 6 1 2 0 := .inl ⟨rfl, .inr ⟨rfl, 2, rfl, by decide +kernel⟩⟩
theorem i_Room_begin_7 : mj_Pf y_Room_begin 7 4 1 (.int) := ⟨by decide, by decide, 15, by decide +kernel, mm_32, by decide +kernel, .inl rfl⟩
theorem i_Room_begin_10 : mj_Ld y_Room_begin 10 1 0 2 := .inr (.inr ⟨rfl, .inr ⟨rfl, 0, rfl, by decide +kernel⟩⟩)
theorem i_Room_begin_11 : mj_Kc y_Room_begin 11 1 (.int 0) := .inl ⟨0, by decide +kernel, rfl, by decide +kernel⟩
theorem i_Room_begin_12 : mj_Pf y_Room_begin 12 4 2 (.int) := ⟨by decide, by decide, 28, by decide +kernel, mm_33, by decide +kernel, .inl rfl⟩
theorem i_Room_begin_15 : mj_Ld y_Room_begin 15 1 0 2 := .inr (.inr ⟨rfl, .inr ⟨rfl, 0, rfl, by decide +kernel⟩⟩)
theorem i_Room_begin_16 : mj_Gf y_Room_begin 16 4 3 := ⟨by decide, by decide, 18, by decide +kernel, .inl mm_34⟩
theorem i_Room_begin_19 : mj_Kc y_Room_begin 19 1 (.int 0) := .inl ⟨0, by decide +kernel, rfl, by decide +kernel⟩
theorem i_Room_begin_20 : mj_Cs y_Room_begin 20 y_Arrays_fill 2 := ⟨mt_Arrays_fill, 31, by decide +kernel, mm_212, .inl mm_211⟩
theorem i_Room_begin_23 : mj_Kc y_Room_begin 23 1 (.int 0) := .inl ⟨0, by decide +kernel, rfl, by decide +kernel⟩
theorem i_Room_begin_24 : mj_St y_Room_begin 24 1 3 0 := .inl ⟨rfl, .inr ⟨rfl, 3, rfl, by decide +kernel⟩⟩
theorem i_Room_begin_25 : mj_Ld y_Room_begin 25 1 3 0 := .inl ⟨rfl, .inr ⟨rfl, 3, rfl, by decide +kernel⟩⟩
theorem i_Room_begin_26 : mj_Kc y_Room_begin 26 2 (.int 14) := .inr (.inl ⟨14, by decide +kernel, rfl, by decide +kernel⟩)
theorem i_Room_begin_28 : mj_Ic y_Room_begin 28 44 (fun (a b : Int32) => b ≤ a) := ⟨16, by decide, .inr (.inr (.inr (.inl ⟨by decide +kernel, rfl⟩)))⟩
theorem i_Room_begin_31 : mj_Ld y_Room_begin 31 1 0 2 := .inr (.inr ⟨rfl, .inr ⟨rfl, 0, rfl, by decide +kernel⟩⟩)
theorem i_Room_begin_32 : mj_Gf y_Room_begin 32 4 4 := ⟨by decide, by decide, 24, by decide +kernel, .inl mm_35⟩
theorem i_Room_begin_35 : mj_Ld y_Room_begin 35 1 3 0 := .inl ⟨rfl, .inr ⟨rfl, 3, rfl, by decide +kernel⟩⟩
theorem i_Room_begin_36 : mj_Kc y_Room_begin 36 1 .null := .inr (.inr (.inr (.inr (.inr (.inr (.inr (⟨by decide +kernel, rfl, rfl⟩)))))))
theorem i_Room_begin_37 : decode y_Room_begin.2.1 37 = .ok (.aastore, 1) := by decide +kernel
theorem i_Room_begin_38 : mj_In y_Room_begin 38 3 1 := ⟨1, by decide +kernel, by decide +kernel⟩
theorem i_Room_begin_41 : mj_Go y_Room_begin 41 25 := ⟨(-16), by decide, by decide +kernel⟩
theorem i_Room_begin_44 : decode y_Room_begin.2.1 44 = .ok (.return_, 1) := by decide +kernel
theorem i_Room_cells_0 : mj_Ld y_Room_cells 0 1 0 2 := .inr (.inr ⟨rfl, .inr ⟨rfl, 0, rfl, by decide +kernel⟩⟩)
theorem i_Room_cells_1 : mj_Gf y_Room_cells 1 4 0 := ⟨by decide, by decide, 9, by decide +kernel, .inl mm_30⟩
theorem i_Room_cells_4 : mj_Ld y_Room_cells 4 1 0 2 := .inr (.inr ⟨rfl, .inr ⟨rfl, 0, rfl, by decide +kernel⟩⟩)
theorem i_Room_cells_5 : mj_Gf y_Room_cells 5 4 1 := ⟨by decide, by decide, 15, by decide +kernel, .inl mm_32⟩
theorem i_Room_cells_8 : mj_B2 y_Room_cells 8 (fun (a b : Int32) => a * b) := .inr (.inr (.inl ⟨by decide +kernel, rfl⟩))
theorem i_Room_cells_9 : decode y_Room_cells.2.1 9 = .ok (.ireturn, 1) := by decide +kernel
theorem i_Room_hasCell_0 : mj_Ld y_Room_hasCell 0 1 1 0 := .inl ⟨rfl, .inr ⟨rfl, 1, rfl, by decide +kernel⟩⟩
theorem i_Room_hasCell_1 : mj_If y_Room_hasCell 1 27 (fun (a : Int32) => a < 0) := ⟨26, by decide, .inr (.inr (.inl ⟨by decide +kernel, rfl⟩))⟩
theorem i_Room_hasCell_4 : mj_Ld y_Room_hasCell 4 1 1 0 := .inl ⟨rfl, .inr ⟨rfl, 1, rfl, by decide +kernel⟩⟩
theorem i_Room_hasCell_5 : mj_Ld y_Room_hasCell 5 1 0 2 := .inr (.inr ⟨rfl, .inr ⟨rfl, 0, rfl, by decide +kernel⟩⟩)
theorem i_Room_hasCell_6 : mj_Gf y_Room_hasCell 6 4 0 := ⟨by decide, by decide, 9, by decide +kernel, .inl mm_30⟩
theorem i_Room_hasCell_9 : mj_Ld y_Room_hasCell 9 1 0 2 := .inr (.inr ⟨rfl, .inr ⟨rfl, 0, rfl, by decide +kernel⟩⟩)
theorem i_Room_hasCell_10 : mj_Gf y_Room_hasCell 10 4 1 := ⟨by decide, by decide, 15, by decide +kernel, .inl mm_32⟩
theorem i_Room_hasCell_13 : mj_B2 y_Room_hasCell 13 (fun (a b : Int32) => a * b) := .inr (.inr (.inl ⟨by decide +kernel, rfl⟩))
theorem i_Room_hasCell_14 : mj_Ic y_Room_hasCell 14 27 (fun (a b : Int32) => b ≤ a) := ⟨13, by decide, .inr (.inr (.inr (.inl ⟨by decide +kernel, rfl⟩)))⟩
theorem i_Room_hasCell_17 : mj_Ld y_Room_hasCell 17 1 1 0 := .inl ⟨rfl, .inr ⟨rfl, 1, rfl, by decide +kernel⟩⟩
theorem i_Room_hasCell_18 : mj_Kc y_Room_hasCell 18 2 (.int 100) := .inr (.inl ⟨100, by decide +kernel, rfl, by decide +kernel⟩)
theorem i_Room_hasCell_20 : mj_Ic y_Room_hasCell 20 27 (fun (a b : Int32) => b ≤ a) := ⟨7, by decide, .inr (.inr (.inr (.inl ⟨by decide +kernel, rfl⟩)))⟩
theorem i_Room_hasCell_23 : mj_Kc y_Room_hasCell 23 1 (.int 1) := .inl ⟨1, by decide +kernel, rfl, by decide +kernel⟩
theorem i_Room_hasCell_24 : mj_Go y_Room_hasCell 24 28 := ⟨4, by decide, by decide +kernel⟩
theorem i_Room_hasCell_27 : mj_Kc y_Room_hasCell 27 1 (.int 0) := .inl ⟨0, by decide +kernel, rfl, by decide +kernel⟩
theorem i_Room_hasCell_28 : decode y_Room_hasCell.2.1 28 = .ok (.ireturn, 1) := by decide +kernel
theorem i_Room_copyFrom_0 : mj_Ld y_Room_copyFrom 0 1 0 2 := .inr (.inr ⟨rfl, .inr ⟨rfl, 0, rfl, by decide +kernel⟩⟩)
theorem i_Room_copyFrom_1 : mj_Ld y_Room_copyFrom 1 1 1 2 := .inr (.inr ⟨rfl, .inr ⟨rfl, 1, rfl, by decide +kernel⟩⟩)
theorem i_Room_copyFrom_2 : mj_Gf y_Room_copyFrom 2 4 0 := ⟨by decide, by decide, 9, by decide +kernel, .inl mm_30⟩
theorem i_Room_copyFrom_5 : mj_Pf y_Room_copyFrom 5 4 0 (.int) := ⟨by decide, by decide, 9, by decide +kernel, mm_30, by decide +kernel, .inl rfl⟩
theorem i_Room_copyFrom_8 : mj_Ld y_Room_copyFrom 8 1 0 2 := .inr (.inr ⟨rfl, .inr ⟨rfl, 0, rfl, by decide +kernel⟩⟩)
theorem i_Room_copyFrom_9 : mj_Ld y_Room_copyFrom 9 1 1 2 := .inr (.inr ⟨rfl, .inr ⟨rfl, 1, rfl, by decide +kernel⟩⟩)
theorem i_Room_copyFrom_10 : mj_Gf y_Room_copyFrom 10 4 1 := ⟨by decide, by decide, 15, by decide +kernel, .inl mm_32⟩
theorem i_Room_copyFrom_13 : mj_Pf y_Room_copyFrom 13 4 1 (.int) := ⟨by decide, by decide, 15, by decide +kernel, mm_32, by decide +kernel, .inl rfl⟩
theorem i_Room_copyFrom_16 : mj_Ld y_Room_copyFrom 16 1 0 2 := .inr (.inr ⟨rfl, .inr ⟨rfl, 0, rfl, by decide +kernel⟩⟩)
theorem i_Room_copyFrom_17 : mj_Ld y_Room_copyFrom 17 1 1 2 := .inr (.inr ⟨rfl, .inr ⟨rfl, 1, rfl, by decide +kernel⟩⟩)
theorem i_Room_copyFrom_18 : mj_Gf y_Room_copyFrom 18 4 2 := ⟨by decide, by decide, 28, by decide +kernel, .inl mm_33⟩
theorem i_Room_copyFrom_21 : mj_Pf y_Room_copyFrom 21 4 2 (.int) := ⟨by decide, by decide, 28, by decide +kernel, mm_33, by decide +kernel, .inl rfl⟩
theorem i_Room_copyFrom_24 : mj_Ld y_Room_copyFrom 24 1 1 2 := .inr (.inr ⟨rfl, .inr ⟨rfl, 1, rfl, by decide +kernel⟩⟩)
theorem i_Room_copyFrom_25 : mj_Gf y_Room_copyFrom 25 4 3 := ⟨by decide, by decide, 18, by decide +kernel, .inl mm_34⟩
theorem i_Room_copyFrom_28 : mj_Kc y_Room_copyFrom 28 1 (.int 0) := .inl ⟨0, by decide +kernel, rfl, by decide +kernel⟩
theorem i_Room_copyFrom_29 : mj_Ld y_Room_copyFrom 29 1 0 2 := .inr (.inr ⟨rfl, .inr ⟨rfl, 0, rfl, by decide +kernel⟩⟩)
theorem i_Room_copyFrom_30 : mj_Gf y_Room_copyFrom 30 4 3 := ⟨by decide, by decide, 18, by decide +kernel, .inl mm_34⟩
theorem i_Room_copyFrom_33 : mj_Kc y_Room_copyFrom 33 1 (.int 0) := .inl ⟨0, by decide +kernel, rfl, by decide +kernel⟩
theorem i_Room_copyFrom_34 : mj_Kc y_Room_copyFrom 34 2 (.int 100) := .inr (.inl ⟨100, by decide +kernel, rfl, by decide +kernel⟩)
theorem i_Room_copyFrom_36 : mj_Ac y_Room_copyFrom 36 := ⟨37, by decide +kernel, mm_250⟩
theorem i_Room_copyFrom_39 : mj_Ld y_Room_copyFrom 39 1 1 2 := .inr (.inr ⟨rfl, .inr ⟨rfl, 1, rfl, by decide +kernel⟩⟩)
theorem i_Room_copyFrom_40 : mj_Gf y_Room_copyFrom 40 4 4 := ⟨by decide, by decide, 24, by decide +kernel, .inl mm_35⟩
theorem i_Room_copyFrom_43 : mj_Kc y_Room_copyFrom 43 1 (.int 0) := .inl ⟨0, by decide +kernel, rfl, by decide +kernel⟩
theorem i_Room_copyFrom_44 : mj_Ld y_Room_copyFrom 44 1 0 2 := .inr (.inr ⟨rfl, .inr ⟨rfl, 0, rfl, by decide +kernel⟩⟩)
theorem i_Room_copyFrom_45 : mj_Gf y_Room_copyFrom 45 4 4 := ⟨by decide, by decide, 24, by decide +kernel, .inl mm_35⟩
theorem i_Room_copyFrom_48 : mj_Kc y_Room_copyFrom 48 1 (.int 0) := .inl ⟨0, by decide +kernel, rfl, by decide +kernel⟩
theorem i_Room_copyFrom_49 : mj_Kc y_Room_copyFrom 49 2 (.int 14) := .inr (.inl ⟨14, by decide +kernel, rfl, by decide +kernel⟩)
theorem i_Room_copyFrom_51 : mj_Ac y_Room_copyFrom 51 := ⟨37, by decide +kernel, mm_250⟩
theorem i_Room_copyFrom_54 : decode y_Room_copyFrom.2.1 54 = .ok (.return_, 1) := by decide +kernel
theorem i_Room_build_0 : mj_Ld y_Room_build 0 1 0 2 := .inr (.inr ⟨rfl, .inr ⟨rfl, 0, rfl, by decide +kernel⟩⟩)
theorem i_Room_build_1 : mj_Ld y_Room_build 1 1 1 0 := .inl ⟨rfl, .inr ⟨rfl, 1, rfl, by decide +kernel⟩⟩
theorem i_Room_build_2 : mj_Cv y_Room_build 2 y_Room_rowOf 4 1 := ⟨by decide, rfl, mt_Room_rowOf, 54, by decide +kernel, mm_257, mm_258, mm_259⟩
theorem i_Room_build_5 : mj_Ld y_Room_build 5 1 0 2 := .inr (.inr ⟨rfl, .inr ⟨rfl, 0, rfl, by decide +kernel⟩⟩)
theorem i_Room_build_6 : mj_Ld y_Room_build 6 1 2 0 := .inl ⟨rfl, .inr ⟨rfl, 2, rfl, by decide +kernel⟩⟩
theorem i_Room_build_7 : mj_Cv y_Room_build 7 y_Room_rowOf 4 1 := ⟨by decide, rfl, mt_Room_rowOf, 54, by decide +kernel, mm_257, mm_258, mm_259⟩
theorem i_Room_build_10 : mj_Mm y_Room_build 10 (fun (a b : Int32) => if b < a then b else a) := ⟨61, by decide +kernel, .inr ⟨mm_261, rfl⟩⟩
theorem i_Room_build_13 : mj_St y_Room_build 13 2 4 0 := .inl ⟨rfl, .inl ⟨rfl, by decide +kernel⟩⟩
theorem i_Room_build_15 : mj_Ld y_Room_build 15 1 0 2 := .inr (.inr ⟨rfl, .inr ⟨rfl, 0, rfl, by decide +kernel⟩⟩)
theorem i_Room_build_16 : mj_Ld y_Room_build 16 1 1 0 := .inl ⟨rfl, .inr ⟨rfl, 1, rfl, by decide +kernel⟩⟩
theorem i_Room_build_17 : mj_Cv y_Room_build 17 y_Room_rowOf 4 1 := ⟨by decide, rfl, mt_Room_rowOf, 54, by decide +kernel, mm_257, mm_258, mm_259⟩
theorem i_Room_build_20 : mj_Ld y_Room_build 20 1 0 2 := .inr (.inr ⟨rfl, .inr ⟨rfl, 0, rfl, by decide +kernel⟩⟩)
theorem i_Room_build_21 : mj_Ld y_Room_build 21 1 2 0 := .inl ⟨rfl, .inr ⟨rfl, 2, rfl, by decide +kernel⟩⟩
theorem i_Room_build_22 : mj_Cv y_Room_build 22 y_Room_rowOf 4 1 := ⟨by decide, rfl, mt_Room_rowOf, 54, by decide +kernel, mm_257, mm_258, mm_259⟩
