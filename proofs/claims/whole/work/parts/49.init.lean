/-! how it begins -/
theorem sp_Room_init {X : mj_X} {d : Nat} {f : Nat → mj_C} {q : Nat} {Q : mj_H → Prop} {p : Nat} (hp : f p = mj_O 4 [.int 0, .int 0, .int 0, .null, .null]) (k : ∀ f2, gw_fr [p, p + 1, p + 2] f f2 → f2 p = mj_O 4 [.int 1, .int 1, .int 0, .ref (p + 1), .ref (p + 2)] → f2 (p + 1) = mj_AI 100 (fun _ => 0) → f2 (p + 2) = mj_AR 3 14 (fun _ => none) → Q (f2, p + 3, q + 114)) : mj_M X d y_Room_init [.ref p] (f, p + 1, q) (mj_U Q) := by
  refine mw_in (l0 := [some (.ref p)]) rfl ?_
  refine mw_ld 1 i_Room_init_0 rfl rfl rfl ?_
  refine mw_oi 4 i_Room_init_1 rfl (Nat.le_of_ble_eq_true rfl) ?_
  refine mw_ld 5 i_Room_init_4 rfl rfl rfl ?_
  refine mw_k 6 i_Room_init_5 rfl ?_
  refine mw_put (fs' := [_, _, _, _, _]) 9 i_Room_init_6 rfl (by repeat (first | exact mj_hs2 | exact mj_hs | assumption | refine mj_hn2 (by omega) ?_ | refine mj_hn (by omega) ?_)) (Nat.le_of_ble_eq_true rfl) rfl rfl (fun _ h => by cases h) (by rfl) ?_
  refine mw_ld 10 i_Room_init_9 rfl rfl rfl ?_
  refine mw_k 11 i_Room_init_10 rfl ?_
  refine mw_put (fs' := [_, _, _, _, _]) 14 i_Room_init_11 rfl (by repeat (first | exact mj_hs2 | exact mj_hs | assumption | refine mj_hn2 (by omega) ?_ | refine mj_hn (by omega) ?_)) (Nat.le_of_ble_eq_true rfl) rfl rfl (fun _ h => by cases h) (by rfl) ?_
  refine mw_ld 15 i_Room_init_14 rfl rfl rfl ?_
  refine mw_k 17 i_Room_init_15 rfl ?_
  refine mw_newa 19 100 i_Room_init_17 rfl rfl (by decide) ?_
  refine mw_put (fs' := [_, _, _, _, _]) 22 i_Room_init_19 rfl (by repeat (first | exact mj_hs2 | exact mj_hs | assumption | refine mj_hn2 (by omega) ?_ | refine mj_hn (by omega) ?_)) (Nat.le_of_ble_eq_true rfl) rfl rfl (fun _ h => by cases h) (by rfl) ?_
  refine mw_ld 23 i_Room_init_22 rfl rfl rfl ?_
  refine mw_k 25 i_Room_init_23 rfl ?_
  refine mw_newq 28 14 i_Room_init_25 rfl rfl (by decide) ?_
  refine mw_put (fs' := [_, _, _, _, _]) 31 i_Room_init_28 rfl (by repeat (first | exact mj_hs2 | exact mj_hs | assumption | refine mj_hn2 (by omega) ?_ | refine mj_hn (by omega) ?_)) (Nat.le_of_ble_eq_true rfl) rfl rfl (fun _ h => by cases h) (by rfl) ?_
  refine mw_rv i_Room_init_31 rfl ?_
  exact k _ (by repeat (first | exact gw_fr_rf _ _ | refine gw_fr_up ?_ (by simp))) (by repeat (first | exact mj_hs | assumption | refine mj_hn (by omega) ?_)) (by repeat (first | exact mj_hs | assumption | refine mj_hn (by omega) ?_)) (by repeat (first | exact mj_hs | assumption | refine mj_hn (by omega) ?_))
theorem sp_View_init {X : mj_X} {d : Nat} {f : Nat → mj_C} {q : Nat} {Q : mj_H → Prop} (hp : f 4 = mj_O 6 [.null, .null, .int 0]) (k : ∀ f2, gw_fr [4, 5] f f2 → f2 4 = mj_O 6 [.ref 1, .ref 5, .int 0] → f2 5 = mj_AI 100 (fun _ => 0) → Q (f2, 6, q + 100)) : mj_M X d y_View_init [.ref 4, .ref 1] (f, 5, q) (mj_U Q) := by
  refine mw_in (l0 := [some (.ref 4), some (.ref 1)]) rfl ?_
  refine mw_ld 1 i_View_init_0 rfl rfl rfl ?_
  refine mw_oi 4 i_View_init_1 rfl (Nat.le_of_ble_eq_true rfl) ?_
  refine mw_ld 5 i_View_init_4 rfl rfl rfl ?_
  refine mw_k 7 i_View_init_5 rfl ?_
  refine mw_newa 9 100 i_View_init_7 rfl rfl (by decide) ?_
  refine mw_put (fs' := [_, _, _]) 12 i_View_init_9 rfl (by repeat (first | exact mj_hs2 | exact mj_hs | assumption | refine mj_hn2 (by omega) ?_ | refine mj_hn (by omega) ?_)) (Nat.le_of_ble_eq_true rfl) rfl rfl (fun _ h => by cases h) (by rfl) ?_
  refine mw_ld 13 i_View_init_12 rfl rfl rfl ?_
  refine mw_ld 14 i_View_init_13 rfl rfl rfl ?_
  refine mw_put (fs' := [_, _, _]) 17 i_View_init_14 rfl (by repeat (first | exact mj_hs2 | exact mj_hs | assumption | refine mj_hn2 (by omega) ?_ | refine mj_hn (by omega) ?_)) (Nat.le_of_ble_eq_true rfl) rfl rfl (fun _ h => by cases h) (by rfl) ?_
  refine mw_rv i_View_init_17 rfl ?_
  exact k _ (by repeat (first | exact gw_fr_rf _ _ | refine gw_fr_up ?_ (by simp))) (by repeat (first | exact mj_hs | assumption | refine mj_hn (by omega) ?_)) (by repeat (first | exact mj_hs | assumption | refine mj_hn (by omega) ?_))
theorem sp_Choice_init {X : mj_X} {d : Nat} {f : Nat → mj_C} {q : Nat} {Q : mj_H → Prop} (hp : f 41 = mj_O 0 [.null, .null, .null, .null, .null, .long 0, .long 0, .int 0, .int 0, .int 0, .int 0]) (k : ∀ f2, gw_fr [41, 42, 43, 44, 45] f f2 → f2 41 = mj_O 0 [.ref 4, .ref 42, .ref 43, .ref 44, .ref 45, .long 0, .long 0, .int 0, .int 0, .int 0, .int 0] → f2 42 = mj_AJ 14 (fun _ => 0) → f2 43 = mj_AJ 14 (fun _ => 0) → f2 44 = mj_AJ 14 (fun _ => 0) → f2 45 = mj_AJ 14 (fun _ => 0) → Q (f2, 46, q + 56)) : mj_M X d y_Choice_init [.ref 41, .ref 4] (f, 42, q) (mj_U Q) := by
  refine mw_in (l0 := [some (.ref 41), some (.ref 4)]) rfl ?_
  refine mw_ld 1 i_Choice_init_0 rfl rfl rfl ?_
  refine mw_oi 4 i_Choice_init_1 rfl (Nat.le_of_ble_eq_true rfl) ?_
  refine mw_ld 5 i_Choice_init_4 rfl rfl rfl ?_
  refine mw_k 7 i_Choice_init_5 rfl ?_
  refine mw_newa 9 14 i_Choice_init_7 rfl rfl (by decide) ?_
  refine mw_put (fs' := [_, _, _, _, _, _, _, _, _, _, _]) 12 i_Choice_init_9 rfl (by repeat (first | exact mj_hs2 | exact mj_hs | assumption | refine mj_hn2 (by omega) ?_ | refine mj_hn (by omega) ?_)) (Nat.le_of_ble_eq_true rfl) rfl rfl (fun _ h => by cases h) (by rfl) ?_
  refine mw_ld 13 i_Choice_init_12 rfl rfl rfl ?_
  refine mw_k 15 i_Choice_init_13 rfl ?_
  refine mw_newa 17 14 i_Choice_init_15 rfl rfl (by decide) ?_
  refine mw_put (fs' := [_, _, _, _, _, _, _, _, _, _, _]) 20 i_Choice_init_17 rfl (by repeat (first | exact mj_hs2 | exact mj_hs | assumption | refine mj_hn2 (by omega) ?_ | refine mj_hn (by omega) ?_)) (Nat.le_of_ble_eq_true rfl) rfl rfl (fun _ h => by cases h) (by rfl) ?_
  refine mw_ld 21 i_Choice_init_20 rfl rfl rfl ?_
  refine mw_k 23 i_Choice_init_21 rfl ?_
  refine mw_newa 25 14 i_Choice_init_23 rfl rfl (by decide) ?_
  refine mw_put (fs' := [_, _, _, _, _, _, _, _, _, _, _]) 28 i_Choice_init_25 rfl (by repeat (first | exact mj_hs2 | exact mj_hs | assumption | refine mj_hn2 (by omega) ?_ | refine mj_hn (by omega) ?_)) (Nat.le_of_ble_eq_true rfl) rfl rfl (fun _ h => by cases h) (by rfl) ?_
  refine mw_ld 29 i_Choice_init_28 rfl rfl rfl ?_
  refine mw_k 31 i_Choice_init_29 rfl ?_
  refine mw_newa 33 14 i_Choice_init_31 rfl rfl (by decide) ?_
  refine mw_put (fs' := [_, _, _, _, _, _, _, _, _, _, _]) 36 i_Choice_init_33 rfl (by repeat (first | exact mj_hs2 | exact mj_hs | assumption | refine mj_hn2 (by omega) ?_ | refine mj_hn (by omega) ?_)) (Nat.le_of_ble_eq_true rfl) rfl rfl (fun _ h => by cases h) (by rfl) ?_
  refine mw_ld 37 i_Choice_init_36 rfl rfl rfl ?_
  refine mw_ld 38 i_Choice_init_37 rfl rfl rfl ?_
  refine mw_put (fs' := [_, _, _, _, _, _, _, _, _, _, _]) 41 i_Choice_init_38 rfl (by repeat (first | exact mj_hs2 | exact mj_hs | assumption | refine mj_hn2 (by omega) ?_ | refine mj_hn (by omega) ?_)) (Nat.le_of_ble_eq_true rfl) rfl rfl (fun _ h => by cases h) (by rfl) ?_
  refine mw_rv i_Choice_init_41 rfl ?_
  exact k _ (by repeat (first | exact gw_fr_rf _ _ | refine gw_fr_up ?_ (by simp))) (by repeat (first | exact mj_hs | assumption | refine mj_hn (by omega) ?_)) (by repeat (first | exact mj_hs | assumption | refine mj_hn (by omega) ?_)) (by repeat (first | exact mj_hs | assumption | refine mj_hn (by omega) ?_)) (by repeat (first | exact mj_hs | assumption | refine mj_hn (by omega) ?_)) (by repeat (first | exact mj_hs | assumption | refine mj_hn (by omega) ?_))
theorem sp_Shade_init {X : mj_X} {d : Nat} {f : Nat → mj_C} {q : Nat} {Q : mj_H → Prop} (hp : f 46 = mj_O 5 [.null, .null, .null]) (k : ∀ f2, gw_fr [46, 47, 48] f f2 → f2 46 = mj_O 5 [.ref 4, .ref 47, .ref 48] → f2 47 = mj_AI 100 (fun _ => 0) → f2 48 = mj_AI 100 (fun _ => 0) → Q (f2, 49, q + 200)) : mj_M X d y_Shade_init [.ref 46, .ref 4] (f, 47, q) (mj_U Q) := by
  refine mw_in (l0 := [some (.ref 46), some (.ref 4)]) rfl ?_
  refine mw_ld 1 i_Shade_init_0 rfl rfl rfl ?_
  refine mw_oi 4 i_Shade_init_1 rfl (Nat.le_of_ble_eq_true rfl) ?_
  refine mw_ld 5 i_Shade_init_4 rfl rfl rfl ?_
  refine mw_k 7 i_Shade_init_5 rfl ?_
  refine mw_newa 9 100 i_Shade_init_7 rfl rfl (by decide) ?_
  refine mw_put (fs' := [_, _, _]) 12 i_Shade_init_9 rfl (by repeat (first | exact mj_hs2 | exact mj_hs | assumption | refine mj_hn2 (by omega) ?_ | refine mj_hn (by omega) ?_)) (Nat.le_of_ble_eq_true rfl) rfl rfl (fun _ h => by cases h) (by rfl) ?_
  refine mw_ld 13 i_Shade_init_12 rfl rfl rfl ?_
  refine mw_k 15 i_Shade_init_13 rfl ?_
  refine mw_newa 17 100 i_Shade_init_15 rfl rfl (by decide) ?_
  refine mw_put (fs' := [_, _, _]) 20 i_Shade_init_17 rfl (by repeat (first | exact mj_hs2 | exact mj_hs | assumption | refine mj_hn2 (by omega) ?_ | refine mj_hn (by omega) ?_)) (Nat.le_of_ble_eq_true rfl) rfl rfl (fun _ h => by cases h) (by rfl) ?_
  refine mw_ld 21 i_Shade_init_20 rfl rfl rfl ?_
  refine mw_ld 22 i_Shade_init_21 rfl rfl rfl ?_
  refine mw_put (fs' := [_, _, _]) 25 i_Shade_init_22 rfl (by repeat (first | exact mj_hs2 | exact mj_hs | assumption | refine mj_hn2 (by omega) ?_ | refine mj_hn (by omega) ?_)) (Nat.le_of_ble_eq_true rfl) rfl rfl (fun _ h => by cases h) (by rfl) ?_
  refine mw_rv i_Shade_init_25 rfl ?_
  exact k _ (by repeat (first | exact gw_fr_rf _ _ | refine gw_fr_up ?_ (by simp))) (by repeat (first | exact mj_hs | assumption | refine mj_hn (by omega) ?_)) (by repeat (first | exact mj_hs | assumption | refine mj_hn (by omega) ?_)) (by repeat (first | exact mj_hs | assumption | refine mj_hn (by omega) ?_))
theorem sp_Proof_init {X : mj_X} {d : Nat} {f : Nat → mj_C} {q : Nat} {Q : mj_H → Prop} (hp : f 49 = mj_O 3 [.null, .null, .null, .null, .null, .null, .int 0, .int 0]) (k : ∀ f2, gw_fr [49, 50, 51, 52, 53, 54] f f2 → f2 49 = mj_O 3 [.ref 4, .ref 50, .ref 51, .ref 52, .ref 53, .ref 54, .int 0, .int 0] → f2 50 = mj_AI 600 (fun _ => 0) → f2 51 = mj_AI 600 (fun _ => 0) → f2 52 = mj_AI 600 (fun _ => 0) → f2 53 = mj_AI 600 (fun _ => 0) → f2 54 = mj_AI 600 (fun _ => 0) → Q (f2, 55, q + 3000)) : mj_M X d y_Proof_init [.ref 49, .ref 4] (f, 50, q) (mj_U Q) := by
  refine mw_in (l0 := [some (.ref 49), some (.ref 4)]) rfl ?_
  refine mw_ld 1 i_Proof_init_0 rfl rfl rfl ?_
  refine mw_oi 4 i_Proof_init_1 rfl (Nat.le_of_ble_eq_true rfl) ?_
  refine mw_ld 5 i_Proof_init_4 rfl rfl rfl ?_
  refine mw_k 8 i_Proof_init_5 rfl ?_
  refine mw_newa 10 600 i_Proof_init_8 rfl rfl (by decide) ?_
  refine mw_put (fs' := [_, _, _, _, _, _, _, _]) 13 i_Proof_init_10 rfl (by repeat (first | exact mj_hs2 | exact mj_hs | assumption | refine mj_hn2 (by omega) ?_ | refine mj_hn (by omega) ?_)) (Nat.le_of_ble_eq_true rfl) rfl rfl (fun _ h => by cases h) (by rfl) ?_
  refine mw_ld 14 i_Proof_init_13 rfl rfl rfl ?_
  refine mw_k 17 i_Proof_init_14 rfl ?_
  refine mw_newa 19 600 i_Proof_init_17 rfl rfl (by decide) ?_
  refine mw_put (fs' := [_, _, _, _, _, _, _, _]) 22 i_Proof_init_19 rfl (by repeat (first | exact mj_hs2 | exact mj_hs | assumption | refine mj_hn2 (by omega) ?_ | refine mj_hn (by omega) ?_)) (Nat.le_of_ble_eq_true rfl) rfl rfl (fun _ h => by cases h) (by rfl) ?_
  refine mw_ld 23 i_Proof_init_22 rfl rfl rfl ?_
  refine mw_k 26 i_Proof_init_23 rfl ?_
  refine mw_newa 28 600 i_Proof_init_26 rfl rfl (by decide) ?_
  refine mw_put (fs' := [_, _, _, _, _, _, _, _]) 31 i_Proof_init_28 rfl (by repeat (first | exact mj_hs2 | exact mj_hs | assumption | refine mj_hn2 (by omega) ?_ | refine mj_hn (by omega) ?_)) (Nat.le_of_ble_eq_true rfl) rfl rfl (fun _ h => by cases h) (by rfl) ?_
  refine mw_ld 32 i_Proof_init_31 rfl rfl rfl ?_
  refine mw_k 35 i_Proof_init_32 rfl ?_
  refine mw_newa 37 600 i_Proof_init_35 rfl rfl (by decide) ?_
  refine mw_put (fs' := [_, _, _, _, _, _, _, _]) 40 i_Proof_init_37 rfl (by repeat (first | exact mj_hs2 | exact mj_hs | assumption | refine mj_hn2 (by omega) ?_ | refine mj_hn (by omega) ?_)) (Nat.le_of_ble_eq_true rfl) rfl rfl (fun _ h => by cases h) (by rfl) ?_
  refine mw_ld 41 i_Proof_init_40 rfl rfl rfl ?_
  refine mw_k 44 i_Proof_init_41 rfl ?_
  refine mw_newa 46 600 i_Proof_init_44 rfl rfl (by decide) ?_
  refine mw_put (fs' := [_, _, _, _, _, _, _, _]) 49 i_Proof_init_46 rfl (by repeat (first | exact mj_hs2 | exact mj_hs | assumption | refine mj_hn2 (by omega) ?_ | refine mj_hn (by omega) ?_)) (Nat.le_of_ble_eq_true rfl) rfl rfl (fun _ h => by cases h) (by rfl) ?_
  refine mw_ld 50 i_Proof_init_49 rfl rfl rfl ?_
  refine mw_ld 51 i_Proof_init_50 rfl rfl rfl ?_
  refine mw_put (fs' := [_, _, _, _, _, _, _, _]) 54 i_Proof_init_51 rfl (by repeat (first | exact mj_hs2 | exact mj_hs | assumption | refine mj_hn2 (by omega) ?_ | refine mj_hn (by omega) ?_)) (Nat.le_of_ble_eq_true rfl) rfl rfl (fun _ h => by cases h) (by rfl) ?_
  refine mw_rv i_Proof_init_54 rfl ?_
  exact k _ (by repeat (first | exact gw_fr_rf _ _ | refine gw_fr_up ?_ (by simp))) (by repeat (first | exact mj_hs | assumption | refine mj_hn (by omega) ?_)) (by repeat (first | exact mj_hs | assumption | refine mj_hn (by omega) ?_)) (by repeat (first | exact mj_hs | assumption | refine mj_hn (by omega) ?_)) (by repeat (first | exact mj_hs | assumption | refine mj_hn (by omega) ?_)) (by repeat (first | exact mj_hs | assumption | refine mj_hn (by omega) ?_)) (by repeat (first | exact mj_hs | assumption | refine mj_hn (by omega) ?_))
/-- the model's object: its numbers; its arrays are the cells 56 to 70 -/
abbrev gw_mo (w h kp rw : Nat) (tf fu fe fi ma md : Int32) : mj_C := mj_O 8 [.int (nI w), .int (nI h), .ref 56, .ref 57, .int (nI kp), .ref 58, .int (nI rw), .int tf, .ref 59, .ref 60, .ref 61, .ref 62, .int fu, .ref 63, .ref 64, .int fe, .int fi, .int ma, .ref 65, .ref 66, .int md, .ref 67, .ref 68, .ref 69, .ref 70]
theorem sp_Model_init {X : mj_X} {d : Nat} {f : Nat → mj_C} {q : Nat} {Q : mj_H → Prop} (hp : f 55 = mj_O 8 [.int 0, .int 0, .null, .null, .int 0, .null, .int 0, .int 0, .null, .null, .null, .null, .int 0, .null, .null, .int 0, .int 0, .int 0, .null, .null, .int 0, .null, .null, .null, .null]) (k : ∀ f2, gw_fr [55, 56, 57, 58, 59, 60, 61, 62, 63, 64, 65, 66, 67, 68, 69, 70] f f2 → f2 55 = gw_mo 1 1 0 0 0 0 0 0 0 0 → f2 56 = mj_AI 213 (fun _ => 0) → f2 57 = mj_AI 2130 (fun _ => 0) → f2 58 = mj_AI 100 (fun _ => 0) → f2 59 = mj_AI 601 (fun _ => 0) → f2 60 = mj_AI 601 (fun _ => 0) → f2 61 = mj_AI 601 (fun _ => 0) → f2 62 = mj_AI 601 (fun _ => 0) → f2 63 = mj_AI 100 (fun _ => 0) → f2 64 = mj_AI 100 (fun _ => 0) → f2 65 = mj_AI 100 (fun _ => 0) → f2 66 = mj_AZ 100 (fun _ => 0) → f2 67 = mj_AI 601 (fun _ => 0) → f2 68 = mj_AI 601 (fun _ => 0) → f2 69 = mj_AI 601 (fun _ => 0) → f2 70 = mj_AI 601 (fun _ => 0) → Q (f2, 71, q + 7651)) : mj_M X d y_Model_init [.ref 55] (f, 56, q) (mj_U Q) := by
  refine mw_in (l0 := [some (.ref 55)]) rfl ?_
  refine mw_ld 1 i_Model_init_0 rfl rfl rfl ?_
  refine mw_oi 4 i_Model_init_1 rfl (Nat.le_of_ble_eq_true rfl) ?_
  refine mw_ld 5 i_Model_init_4 rfl rfl rfl ?_
  refine mw_k 6 i_Model_init_5 rfl ?_
  refine mw_put (fs' := [_, _, _, _, _, _, _, _, _, _, _, _, _, _, _, _, _, _, _, _, _, _, _, _, _]) 9 i_Model_init_6 rfl (by repeat (first | exact mj_hs2 | exact mj_hs | assumption | refine mj_hn2 (by omega) ?_ | refine mj_hn (by omega) ?_)) (Nat.le_of_ble_eq_true rfl) rfl rfl (fun _ h => by cases h) (by rfl) ?_
  refine mw_ld 10 i_Model_init_9 rfl rfl rfl ?_
  refine mw_k 11 i_Model_init_10 rfl ?_
  refine mw_put (fs' := [_, _, _, _, _, _, _, _, _, _, _, _, _, _, _, _, _, _, _, _, _, _, _, _, _]) 14 i_Model_init_11 rfl (by repeat (first | exact mj_hs2 | exact mj_hs | assumption | refine mj_hn2 (by omega) ?_ | refine mj_hn (by omega) ?_)) (Nat.le_of_ble_eq_true rfl) rfl rfl (fun _ h => by cases h) (by rfl) ?_
  refine mw_ld 15 i_Model_init_14 rfl rfl rfl ?_
  refine mw_k 18 i_Model_init_15 rfl ?_
  refine mw_newa 20 213 i_Model_init_18 rfl rfl (by decide) ?_
  refine mw_put (fs' := [_, _, _, _, _, _, _, _, _, _, _, _, _, _, _, _, _, _, _, _, _, _, _, _, _]) 23 i_Model_init_20 rfl (by repeat (first | exact mj_hs2 | exact mj_hs | assumption | refine mj_hn2 (by omega) ?_ | refine mj_hn (by omega) ?_)) (Nat.le_of_ble_eq_true rfl) rfl rfl (fun _ h => by cases h) (by rfl) ?_
  refine mw_ld 24 i_Model_init_23 rfl rfl rfl ?_
  refine mw_k 27 i_Model_init_24 rfl ?_
  refine mw_newa 29 2130 i_Model_init_27 rfl rfl (by decide) ?_
  refine mw_put (fs' := [_, _, _, _, _, _, _, _, _, _, _, _, _, _, _, _, _, _, _, _, _, _, _, _, _]) 32 i_Model_init_29 rfl (by repeat (first | exact mj_hs2 | exact mj_hs | assumption | refine mj_hn2 (by omega) ?_ | refine mj_hn (by omega) ?_)) (Nat.le_of_ble_eq_true rfl) rfl rfl (fun _ h => by cases h) (by rfl) ?_
  refine mw_ld 33 i_Model_init_32 rfl rfl rfl ?_
  refine mw_k 35 i_Model_init_33 rfl ?_
  refine mw_newa 37 100 i_Model_init_35 rfl rfl (by decide) ?_
  refine mw_put (fs' := [_, _, _, _, _, _, _, _, _, _, _, _, _, _, _, _, _, _, _, _, _, _, _, _, _]) 40 i_Model_init_37 rfl (by repeat (first | exact mj_hs2 | exact mj_hs | assumption | refine mj_hn2 (by omega) ?_ | refine mj_hn (by omega) ?_)) (Nat.le_of_ble_eq_true rfl) rfl rfl (fun _ h => by cases h) (by rfl) ?_
  refine mw_ld 41 i_Model_init_40 rfl rfl rfl ?_
  refine mw_k 44 i_Model_init_41 rfl ?_
  refine mw_newa 46 601 i_Model_init_44 rfl rfl (by decide) ?_
  refine mw_put (fs' := [_, _, _, _, _, _, _, _, _, _, _, _, _, _, _, _, _, _, _, _, _, _, _, _, _]) 49 i_Model_init_46 rfl (by repeat (first | exact mj_hs2 | exact mj_hs | assumption | refine mj_hn2 (by omega) ?_ | refine mj_hn (by omega) ?_)) (Nat.le_of_ble_eq_true rfl) rfl rfl (fun _ h => by cases h) (by rfl) ?_
  refine mw_ld 50 i_Model_init_49 rfl rfl rfl ?_
  refine mw_k 53 i_Model_init_50 rfl ?_
  refine mw_newa 55 601 i_Model_init_53 rfl rfl (by decide) ?_
  refine mw_put (fs' := [_, _, _, _, _, _, _, _, _, _, _, _, _, _, _, _, _, _, _, _, _, _, _, _, _]) 58 i_Model_init_55 rfl (by repeat (first | exact mj_hs2 | exact mj_hs | assumption | refine mj_hn2 (by omega) ?_ | refine mj_hn (by omega) ?_)) (Nat.le_of_ble_eq_true rfl) rfl rfl (fun _ h => by cases h) (by rfl) ?_
  refine mw_ld 59 i_Model_init_58 rfl rfl rfl ?_
  refine mw_k 62 i_Model_init_59 rfl ?_
  refine mw_newa 64 601 i_Model_init_62 rfl rfl (by decide) ?_
  refine mw_put (fs' := [_, _, _, _, _, _, _, _, _, _, _, _, _, _, _, _, _, _, _, _, _, _, _, _, _]) 67 i_Model_init_64 rfl (by repeat (first | exact mj_hs2 | exact mj_hs | assumption | refine mj_hn2 (by omega) ?_ | refine mj_hn (by omega) ?_)) (Nat.le_of_ble_eq_true rfl) rfl rfl (fun _ h => by cases h) (by rfl) ?_
  refine mw_ld 68 i_Model_init_67 rfl rfl rfl ?_
  refine mw_k 71 i_Model_init_68 rfl ?_
  refine mw_newa 73 601 i_Model_init_71 rfl rfl (by decide) ?_
  refine mw_put (fs' := [_, _, _, _, _, _, _, _, _, _, _, _, _, _, _, _, _, _, _, _, _, _, _, _, _]) 76 i_Model_init_73 rfl (by repeat (first | exact mj_hs2 | exact mj_hs | assumption | refine mj_hn2 (by omega) ?_ | refine mj_hn (by omega) ?_)) (Nat.le_of_ble_eq_true rfl) rfl rfl (fun _ h => by cases h) (by rfl) ?_
  refine mw_ld 77 i_Model_init_76 rfl rfl rfl ?_
  refine mw_k 79 i_Model_init_77 rfl ?_
  refine mw_newa 81 100 i_Model_init_79 rfl rfl (by decide) ?_
  refine mw_put (fs' := [_, _, _, _, _, _, _, _, _, _, _, _, _, _, _, _, _, _, _, _, _, _, _, _, _]) 84 i_Model_init_81 rfl (by repeat (first | exact mj_hs2 | exact mj_hs | assumption | refine mj_hn2 (by omega) ?_ | refine mj_hn (by omega) ?_)) (Nat.le_of_ble_eq_true rfl) rfl rfl (fun _ h => by cases h) (by rfl) ?_
  refine mw_ld 85 i_Model_init_84 rfl rfl rfl ?_
  refine mw_k 87 i_Model_init_85 rfl ?_
  refine mw_newa 89 100 i_Model_init_87 rfl rfl (by decide) ?_
  refine mw_put (fs' := [_, _, _, _, _, _, _, _, _, _, _, _, _, _, _, _, _, _, _, _, _, _, _, _, _]) 92 i_Model_init_89 rfl (by repeat (first | exact mj_hs2 | exact mj_hs | assumption | refine mj_hn2 (by omega) ?_ | refine mj_hn (by omega) ?_)) (Nat.le_of_ble_eq_true rfl) rfl rfl (fun _ h => by cases h) (by rfl) ?_
  refine mw_ld 93 i_Model_init_92 rfl rfl rfl ?_
  refine mw_k 95 i_Model_init_93 rfl ?_
  refine mw_newa 97 100 i_Model_init_95 rfl rfl (by decide) ?_
  refine mw_put (fs' := [_, _, _, _, _, _, _, _, _, _, _, _, _, _, _, _, _, _, _, _, _, _, _, _, _]) 100 i_Model_init_97 rfl (by repeat (first | exact mj_hs2 | exact mj_hs | assumption | refine mj_hn2 (by omega) ?_ | refine mj_hn (by omega) ?_)) (Nat.le_of_ble_eq_true rfl) rfl rfl (fun _ h => by cases h) (by rfl) ?_
  refine mw_ld 101 i_Model_init_100 rfl rfl rfl ?_
  refine mw_k 103 i_Model_init_101 rfl ?_
  refine mw_newa 105 100 i_Model_init_103 rfl rfl (by decide) ?_
  refine mw_put (fs' := [_, _, _, _, _, _, _, _, _, _, _, _, _, _, _, _, _, _, _, _, _, _, _, _, _]) 108 i_Model_init_105 rfl (by repeat (first | exact mj_hs2 | exact mj_hs | assumption | refine mj_hn2 (by omega) ?_ | refine mj_hn (by omega) ?_)) (Nat.le_of_ble_eq_true rfl) rfl rfl (fun _ h => by cases h) (by rfl) ?_
  refine mw_ld 109 i_Model_init_108 rfl rfl rfl ?_
  refine mw_k 112 i_Model_init_109 rfl ?_
  refine mw_newa 114 601 i_Model_init_112 rfl rfl (by decide) ?_
  refine mw_put (fs' := [_, _, _, _, _, _, _, _, _, _, _, _, _, _, _, _, _, _, _, _, _, _, _, _, _]) 117 i_Model_init_114 rfl (by repeat (first | exact mj_hs2 | exact mj_hs | assumption | refine mj_hn2 (by omega) ?_ | refine mj_hn (by omega) ?_)) (Nat.le_of_ble_eq_true rfl) rfl rfl (fun _ h => by cases h) (by rfl) ?_
  refine mw_ld 118 i_Model_init_117 rfl rfl rfl ?_
  refine mw_k 121 i_Model_init_118 rfl ?_
  refine mw_newa 123 601 i_Model_init_121 rfl rfl (by decide) ?_
  refine mw_put (fs' := [_, _, _, _, _, _, _, _, _, _, _, _, _, _, _, _, _, _, _, _, _, _, _, _, _]) 126 i_Model_init_123 rfl (by repeat (first | exact mj_hs2 | exact mj_hs | assumption | refine mj_hn2 (by omega) ?_ | refine mj_hn (by omega) ?_)) (Nat.le_of_ble_eq_true rfl) rfl rfl (fun _ h => by cases h) (by rfl) ?_
  refine mw_ld 127 i_Model_init_126 rfl rfl rfl ?_
  refine mw_k 130 i_Model_init_127 rfl ?_
  refine mw_newa 132 601 i_Model_init_130 rfl rfl (by decide) ?_
  refine mw_put (fs' := [_, _, _, _, _, _, _, _, _, _, _, _, _, _, _, _, _, _, _, _, _, _, _, _, _]) 135 i_Model_init_132 rfl (by repeat (first | exact mj_hs2 | exact mj_hs | assumption | refine mj_hn2 (by omega) ?_ | refine mj_hn (by omega) ?_)) (Nat.le_of_ble_eq_true rfl) rfl rfl (fun _ h => by cases h) (by rfl) ?_
  refine mw_ld 136 i_Model_init_135 rfl rfl rfl ?_
  refine mw_k 139 i_Model_init_136 rfl ?_
  refine mw_newa 141 601 i_Model_init_139 rfl rfl (by decide) ?_
  refine mw_put (fs' := [_, _, _, _, _, _, _, _, _, _, _, _, _, _, _, _, _, _, _, _, _, _, _, _, _]) 144 i_Model_init_141 rfl (by repeat (first | exact mj_hs2 | exact mj_hs | assumption | refine mj_hn2 (by omega) ?_ | refine mj_hn (by omega) ?_)) (Nat.le_of_ble_eq_true rfl) rfl rfl (fun _ h => by cases h) (by rfl) ?_
  refine mw_ld 145 i_Model_init_144 rfl rfl rfl ?_
  refine mw_k 146 i_Model_init_145 rfl ?_
  refine mw_put (fs' := [_, _, _, _, _, _, _, _, _, _, _, _, _, _, _, _, _, _, _, _, _, _, _, _, _]) 149 i_Model_init_146 rfl (by repeat (first | exact mj_hs2 | exact mj_hs | assumption | refine mj_hn2 (by omega) ?_ | refine mj_hn (by omega) ?_)) (Nat.le_of_ble_eq_true rfl) rfl rfl (fun _ h => by cases h) (by rfl) ?_
  refine mw_rv i_Model_init_149 rfl ?_
  exact k _ (by repeat (first | exact gw_fr_rf _ _ | refine gw_fr_up ?_ (by simp))) (by repeat (first | exact mj_hs | assumption | refine mj_hn (by omega) ?_)) (by repeat (first | exact mj_hs | assumption | refine mj_hn (by omega) ?_)) (by repeat (first | exact mj_hs | assumption | refine mj_hn (by omega) ?_)) (by repeat (first | exact mj_hs | assumption | refine mj_hn (by omega) ?_)) (by repeat (first | exact mj_hs | assumption | refine mj_hn (by omega) ?_)) (by repeat (first | exact mj_hs | assumption | refine mj_hn (by omega) ?_)) (by repeat (first | exact mj_hs | assumption | refine mj_hn (by omega) ?_)) (by repeat (first | exact mj_hs | assumption | refine mj_hn (by omega) ?_)) (by repeat (first | exact mj_hs | assumption | refine mj_hn (by omega) ?_)) (by repeat (first | exact mj_hs | assumption | refine mj_hn (by omega) ?_)) (by repeat (first | exact mj_hs | assumption | refine mj_hn (by omega) ?_)) (by repeat (first | exact mj_hs | assumption | refine mj_hn (by omega) ?_)) (by repeat (first | exact mj_hs | assumption | refine mj_hn (by omega) ?_)) (by repeat (first | exact mj_hs | assumption | refine mj_hn (by omega) ?_)) (by repeat (first | exact mj_hs | assumption | refine mj_hn (by omega) ?_)) (by repeat (first | exact mj_hs | assumption | refine mj_hn (by omega) ?_))
theorem sp_Past_init {X : mj_X} {d : Nat} {f : Nat → mj_C} {q : Nat} {Q : mj_H → Prop} (hp : f 9 = mj_O 1 [.null, .int 0, .int 0]) (k : ∀ f2, (∀ a, a < 9 ∨ 41 ≤ a → f2 a = f a) → f2 9 = mj_O 1 [.ref 10, .int 0, .int 0] → (∃ rs : Nat → Option Nat, f2 10 = mj_AR 4 10 rs ∧ ∀ j, j < 10 → rs j = some (11 + 3 * j)) → (∀ j, j < 10 → f2 (11 + 3 * j) = mj_O 4 [.int 1, .int 1, .int 0, .ref (11 + 3 * j + 1), .ref (11 + 3 * j + 2)] ∧ f2 (11 + 3 * j + 1) = mj_AI 100 (fun _ => 0) ∧ f2 (11 + 3 * j + 2) = mj_AR 3 14 (fun _ => none)) → Q (f2, 41, q + 1200)) : mj_M X (d + 1) y_Past_init [.ref 9] (f, 10, q) (mj_U Q) := by
  refine mw_in (l0 := [some (.ref 9), none]) rfl ?_
  refine mw_ld 1 i_Past_init_0 rfl rfl rfl ?_
  refine mw_oi 4 i_Past_init_1 rfl (Nat.le_of_ble_eq_true rfl) ?_
  refine mw_ld 5 i_Past_init_4 rfl rfl rfl ?_
  refine mw_k 7 i_Past_init_5 rfl ?_
  refine mw_newq 10 10 i_Past_init_7 rfl rfl (by decide) ?_
  refine mw_put (fs' := [_, _, _]) 13 i_Past_init_10 rfl (by repeat (first | exact mj_hs2 | exact mj_hs | assumption | refine mj_hn2 (by omega) ?_ | refine mj_hn (by omega) ?_)) (Nat.le_of_ble_eq_true rfl) rfl rfl (fun _ h => by cases h) (by rfl) ?_
  refine mw_k 14 i_Past_init_13 rfl ?_
  refine mw_st (ls' := [_, _]) 15 i_Past_init_14 rfl rfl rfl rfl ?_
  refine mj_for (S := Nat → mj_C) (fun i f2 => mj_Wp X (d + 1) y_Past_init 15 [some (.ref 9), some (.int (nI i))] [] (f2, 11 + 3 * i, q + 10 + 119 * i) (mj_U Q)) (fun i f2 => (∀ a, a < 9 ∨ 41 ≤ a → f2 a = f a) ∧ f2 9 = mj_O 1 [.ref 10, .int 0, .int 0] ∧ (∃ rs : Nat → Option Nat, f2 10 = mj_AR 4 10 rs ∧ ∀ j, j < i → rs j = some (11 + 3 * j)) ∧ ∀ j, j < i → f2 (11 + 3 * j) = mj_O 4 [.int 1, .int 1, .int 0, .ref (11 + 3 * j + 1), .ref (11 + 3 * j + 2)] ∧ f2 (11 + 3 * j + 1) = mj_AI 100 (fun _ => 0) ∧ f2 (11 + 3 * j + 2) = mj_AR 3 14 (fun _ => none)) 10 ?_ ?_ 0 _ (Nat.zero_le _) ⟨fun a ha => ?_, mj_hs, ⟨fun _ => none, mj_hn (by decide) mj_hs, fun j hj => absurd hj (Nat.not_lt_zero j)⟩, fun j hj => absurd hj (Nat.not_lt_zero j)⟩
  · rintro f2 ⟨g1, g2, g3, g4⟩
    refine mw_ld 16 i_Past_init_15 rfl rfl rfl ?_
    refine mw_k 18 i_Past_init_16 rfl ?_
    refine mw_ic1 i_Past_init_18 (by decide) ?_
    refine mw_rv i_Past_init_40 rfl ?_
    exact k f2 g1 g2 g3 g4
  · rintro i f2 hi ⟨g1, g2, ⟨rs, g3, g3b⟩, g4⟩ ih
    refine mw_ld 16 i_Past_init_15 rfl rfl rfl ?_
    refine mw_k 18 i_Past_init_16 rfl ?_
    refine mw_ic0 21 i_Past_init_18 rfl (nI_ge (b := 10) hi (by decide)) ?_
    refine mw_ld 22 i_Past_init_21 rfl rfl rfl ?_
    refine mw_get 25 i_Past_init_22 rfl (by repeat (first | exact mj_hs2 | exact mj_hs | assumption | refine mj_hn2 (by omega) ?_ | refine mj_hn (by omega) ?_)) (by rfl) ?_
    refine mw_ld 26 i_Past_init_25 rfl rfl rfl ?_
    refine mw_new 29 i_Past_init_26 rfl ?_
    refine mw_dup 30 i_Past_init_29 rfl rfl ?_
    refine mw_ci 33 i_Past_init_30 rfl (sp_Room_init (p := 11 + 3 * i) mj_hs (fun f3 e1 e2 e3 e4 => ?_)) rfl rfl (Nat.le_of_ble_eq_true rfl) (Nat.le_of_ble_eq_true rfl)
    have o1 : f3 9 = mj_O 1 [.ref 10, .int 0, .int 0] := (e1 9 (by simp; omega)).trans (mj_hn (by omega) g2)
    have o2 : f3 10 = mj_AR 4 10 rs := (e1 10 (by simp; omega)).trans (mj_hn (by omega) g3)
    refine mw_aast 34 i (some (11 + 3 * i)) i_Past_init_33 rfl (by decide) o2 rfl hi (by decide) rfl (fun q hq => by cases hq; exact ⟨_, e2⟩) ?_
    refine mw_inc (ls' := [_, _]) 37 (nI (i + 1)) i_Past_init_34 rfl rfl rfl (nI_1 i) rfl ?_
    refine mw_go i_Past_init_37 ?_
    have ih2 := ih (va_up f3 10 (mj_AR 4 10 (va_up rs i (some (11 + 3 * i))))) ⟨fun a ha => ?_, mj_hn (by omega) o1, ⟨_, mj_hs, fun j hj => ?_⟩, fun j hj => ?_⟩
    · have ea : 11 + 3 * (i + 1) = 11 + 3 * i + 3 := by omega
      have eb : q + 10 + 119 * (i + 1) = q + 10 + 119 * i + mj_nf 4 + 114 := by
        have : mj_nf 4 = 5 := rfl
        omega
      rw [ea, eb] at ih2
      exact ih2
    · rw [va_up_ne _ _ (by omega), e1 a (by simp; omega), va_up_ne _ _ (by omega)]; exact g1 a ha
    · by_cases e : j = i
      · subst e; exact va_up_self _ _ _
      · rw [va_up_ne _ _ e]; exact g3b j (by omega)
    · by_cases e : j = i
      · subst e
        exact ⟨mj_hn (by omega) e2, mj_hn (by omega) e3, mj_hn (by omega) e4⟩
      · obtain ⟨q1, q2, q3⟩ := g4 j (by omega)
        refine ⟨mj_hn (by omega) ((e1 _ (by simp; omega)).trans (mj_hn (by omega) q1)), mj_hn (by omega) ((e1 _ (by simp; omega)).trans (mj_hn (by omega) q2)), mj_hn (by omega) ((e1 _ (by simp; omega)).trans (mj_hn (by omega) q3))⟩
  · rw [va_up_ne _ _ (by omega), va_up_ne _ _ (by omega)]
theorem sp_GW_init {X : mj_X} {d : Nat} {f : Nat → mj_C} {q : Nat} {Q : mj_H → Prop} {hn : Nat → Nat} {hs : Nat → Nat → Int32} (hp : f 0 = mj_O 7 [.null, .null, .null, .null, .null, .null, .null]) (k : ∀ f2, (∀ a, 55 ≤ a → f2 a = f a) → gw_CI f2 1 1 0 (fun _ => 0) 0 hn hs [] 0 → Q (f2, 55, q + 4822)) : mj_M X (d + 2) y_GW_init [.ref 0] (f, 1, q) (mj_U Q) := by
  refine mw_in (l0 := [some (.ref 0), none, none]) rfl ?_
  refine mw_ld 1 i_GW_init_0 rfl rfl rfl ?_
  refine mw_oi 4 i_GW_init_1 rfl (Nat.le_of_ble_eq_true rfl) ?_
  refine mw_new 7 i_GW_init_4 rfl ?_
  show mj_Wp X (d + 2) y_GW_init 7 _ _ (_, 2, q + 5) (mj_U Q)
  refine mw_dup 8 i_GW_init_7 rfl rfl ?_
  refine mw_ci 11 i_GW_init_8 rfl (sp_Room_init (p := 1) mj_hs (fun f1 a1 b11 b12 b13 => ?_)) rfl rfl (Nat.le_of_ble_eq_true rfl) (Nat.le_of_ble_eq_true rfl)
  show mj_Wp X (d + 2) y_GW_init 11 _ _ (_, 4, q + 119) (mj_U Q)
  refine mw_st (ls' := [_, _, _]) 12 i_GW_init_11 rfl rfl rfl rfl ?_
  refine mw_new 15 i_GW_init_12 rfl ?_
  show mj_Wp X (d + 2) y_GW_init 15 _ _ (_, 5, q + 122) (mj_U Q)
  refine mw_dup 16 i_GW_init_15 rfl rfl ?_
  refine mw_ld 17 i_GW_init_16 rfl rfl rfl ?_
  refine mw_ci 20 i_GW_init_17 rfl (sp_View_init mj_hs (fun f2 a2 b21 b22 => ?_)) rfl rfl (Nat.le_of_ble_eq_true rfl) (Nat.le_of_ble_eq_true rfl)
  show mj_Wp X (d + 2) y_GW_init 20 _ _ (_, 6, q + 222) (mj_U Q)
  refine mw_st (ls' := [_, _, _]) 21 i_GW_init_20 rfl rfl rfl rfl ?_
  refine mw_ld 22 i_GW_init_21 rfl rfl rfl ?_
  refine mw_ld 23 i_GW_init_22 rfl rfl rfl ?_
  refine mw_put (fs' := [_, _, _, _, _, _, _]) 26 i_GW_init_23 rfl (by repeat (first | exact mj_hs | exact mj_hs2 | assumption | refine (a2 _ (by decide)).trans ?_ | refine (a1 _ (by decide)).trans ?_ | refine mj_hn (by decide) ?_ | refine mj_hn2 (by decide) ?_)) (Nat.le_of_ble_eq_true rfl) rfl rfl (fun _ h => by cases h) (by rfl) ?_
  refine mw_ld 27 i_GW_init_26 rfl rfl rfl ?_
  refine mw_new 30 i_GW_init_27 rfl ?_
  show mj_Wp X (d + 2) y_GW_init 30 _ _ (_, 7, q + 227) (mj_U Q)
  refine mw_dup 31 i_GW_init_30 rfl rfl ?_
  refine mw_ci 34 i_GW_init_31 rfl (sp_Room_init (p := 6) mj_hs (fun f3 a3 b31 b32 b33 => ?_)) rfl rfl (Nat.le_of_ble_eq_true rfl) (Nat.le_of_ble_eq_true rfl)
  show mj_Wp X (d + 2) y_GW_init 34 _ _ (_, 9, q + 341) (mj_U Q)
  refine mw_put (fs' := [_, _, _, _, _, _, _]) 37 i_GW_init_34 rfl (by repeat (first | exact mj_hs | exact mj_hs2 | assumption | refine (a3 _ (by decide)).trans ?_ | refine (a2 _ (by decide)).trans ?_ | refine (a1 _ (by decide)).trans ?_ | refine mj_hn (by decide) ?_ | refine mj_hn2 (by decide) ?_)) (Nat.le_of_ble_eq_true rfl) rfl rfl (fun _ h => by cases h) (by rfl) ?_
  refine mw_ld 38 i_GW_init_37 rfl rfl rfl ?_
  refine mw_new 41 i_GW_init_38 rfl ?_
  show mj_Wp X (d + 2) y_GW_init 41 _ _ (_, 10, q + 344) (mj_U Q)
  refine mw_dup 42 i_GW_init_41 rfl rfl ?_
  refine mw_ci 45 i_GW_init_42 rfl (sp_Past_init mj_hs (fun f4 a4 b41 b42 b43 => ?_)) rfl rfl (Nat.le_of_ble_eq_true rfl) (Nat.le_of_ble_eq_true rfl)
  show mj_Wp X (d + 2) y_GW_init 45 _ _ (_, 41, q + 1544) (mj_U Q)
  refine mw_put (fs' := [_, _, _, _, _, _, _]) 48 i_GW_init_45 rfl (by repeat (first | exact mj_hs | exact mj_hs2 | assumption | refine (a4 _ (by decide)).trans ?_ | refine (a3 _ (by decide)).trans ?_ | refine (a2 _ (by decide)).trans ?_ | refine (a1 _ (by decide)).trans ?_ | refine mj_hn (by decide) ?_ | refine mj_hn2 (by decide) ?_)) (Nat.le_of_ble_eq_true rfl) rfl rfl (fun _ h => by cases h) (by rfl) ?_
  refine mw_ld 49 i_GW_init_48 rfl rfl rfl ?_
  refine mw_ld 50 i_GW_init_49 rfl rfl rfl ?_
  refine mw_put (fs' := [_, _, _, _, _, _, _]) 53 i_GW_init_50 rfl (by repeat (first | exact mj_hs | exact mj_hs2 | assumption | refine (a4 _ (by decide)).trans ?_ | refine (a3 _ (by decide)).trans ?_ | refine (a2 _ (by decide)).trans ?_ | refine (a1 _ (by decide)).trans ?_ | refine mj_hn (by decide) ?_ | refine mj_hn2 (by decide) ?_)) (Nat.le_of_ble_eq_true rfl) rfl rfl (fun _ h => by cases h) (by rfl) ?_
  refine mw_ld 54 i_GW_init_53 rfl rfl rfl ?_
  refine mw_new 57 i_GW_init_54 rfl ?_
  show mj_Wp X (d + 2) y_GW_init 57 _ _ (_, 42, q + 1555) (mj_U Q)
  refine mw_dup 58 i_GW_init_57 rfl rfl ?_
  refine mw_ld 59 i_GW_init_58 rfl rfl rfl ?_
  refine mw_ci 62 i_GW_init_59 rfl (sp_Choice_init mj_hs (fun f5 a5 b51 b52 b53 b54 b55 => ?_)) rfl rfl (Nat.le_of_ble_eq_true rfl) (Nat.le_of_ble_eq_true rfl)
  show mj_Wp X (d + 2) y_GW_init 62 _ _ (_, 46, q + 1611) (mj_U Q)
  refine mw_put (fs' := [_, _, _, _, _, _, _]) 65 i_GW_init_62 rfl (by repeat (first | exact mj_hs | exact mj_hs2 | assumption | refine (a5 _ (by decide)).trans ?_ | refine (a4 _ (by decide)).trans ?_ | refine (a3 _ (by decide)).trans ?_ | refine (a2 _ (by decide)).trans ?_ | refine (a1 _ (by decide)).trans ?_ | refine mj_hn (by decide) ?_ | refine mj_hn2 (by decide) ?_)) (Nat.le_of_ble_eq_true rfl) rfl rfl (fun _ h => by cases h) (by rfl) ?_
  refine mw_ld 66 i_GW_init_65 rfl rfl rfl ?_
  refine mw_new 69 i_GW_init_66 rfl ?_
  show mj_Wp X (d + 2) y_GW_init 69 _ _ (_, 47, q + 1614) (mj_U Q)
  refine mw_dup 70 i_GW_init_69 rfl rfl ?_
  refine mw_ld 71 i_GW_init_70 rfl rfl rfl ?_
  refine mw_ci 74 i_GW_init_71 rfl (sp_Shade_init mj_hs (fun f6 a6 b61 b62 b63 => ?_)) rfl rfl (Nat.le_of_ble_eq_true rfl) (Nat.le_of_ble_eq_true rfl)
  show mj_Wp X (d + 2) y_GW_init 74 _ _ (_, 49, q + 1814) (mj_U Q)
  refine mw_put (fs' := [_, _, _, _, _, _, _]) 77 i_GW_init_74 rfl (by repeat (first | exact mj_hs | exact mj_hs2 | assumption | refine (a6 _ (by decide)).trans ?_ | refine (a5 _ (by decide)).trans ?_ | refine (a4 _ (by decide)).trans ?_ | refine (a3 _ (by decide)).trans ?_ | refine (a2 _ (by decide)).trans ?_ | refine (a1 _ (by decide)).trans ?_ | refine mj_hn (by decide) ?_ | refine mj_hn2 (by decide) ?_)) (Nat.le_of_ble_eq_true rfl) rfl rfl (fun _ h => by cases h) (by rfl) ?_
  refine mw_ld 78 i_GW_init_77 rfl rfl rfl ?_
  refine mw_new 81 i_GW_init_78 rfl ?_
  show mj_Wp X (d + 2) y_GW_init 81 _ _ (_, 50, q + 1822) (mj_U Q)
  refine mw_dup 82 i_GW_init_81 rfl rfl ?_
  refine mw_ld 83 i_GW_init_82 rfl rfl rfl ?_
  refine mw_ci 86 i_GW_init_83 rfl (sp_Proof_init mj_hs (fun f7 a7 b71 b72 b73 b74 b75 b76 => ?_)) rfl rfl (Nat.le_of_ble_eq_true rfl) (Nat.le_of_ble_eq_true rfl)
  show mj_Wp X (d + 2) y_GW_init 86 _ _ (_, 55, q + 4822) (mj_U Q)
  refine mw_put (fs' := [_, _, _, _, _, _, _]) 89 i_GW_init_86 rfl (by repeat (first | exact mj_hs | exact mj_hs2 | assumption | refine (a7 _ (by decide)).trans ?_ | refine (a6 _ (by decide)).trans ?_ | refine (a5 _ (by decide)).trans ?_ | refine (a4 _ (by decide)).trans ?_ | refine (a3 _ (by decide)).trans ?_ | refine (a2 _ (by decide)).trans ?_ | refine (a1 _ (by decide)).trans ?_ | refine mj_hn (by decide) ?_ | refine mj_hn2 (by decide) ?_)) (Nat.le_of_ble_eq_true rfl) rfl rfl (fun _ h => by cases h) (by rfl) ?_
  refine mw_rv i_GW_init_89 rfl ?_
  refine k _ (fun a ha => ?_) ?_
  · repeat (first | exact rfl | refine (va_up_ne _ _ (by omega)).trans ?_ | refine (a7 _ (by simp; omega)).trans ?_ | refine (a6 _ (by simp; omega)).trans ?_ | refine (a5 _ (by simp; omega)).trans ?_ | refine (a4 _ (by omega)).trans ?_ | refine (a3 _ (by simp; omega)).trans ?_ | refine (a2 _ (by simp; omega)).trans ?_ | refine (a1 _ (by simp; omega)).trans ?_)
  · obtain ⟨rs, b42, b42b⟩ := b42
    refine ⟨mj_hs, ⟨fun _ => 0, fun _ => none, (by repeat (first | exact b11 | refine (a7 _ (by first | decide | (simp; omega))).trans ?_ | refine (a6 _ (by first | decide | (simp; omega))).trans ?_ | refine (a5 _ (by first | decide | (simp; omega))).trans ?_ | refine (a4 _ (by first | decide | (simp; omega))).trans ?_ | refine (a3 _ (by first | decide | (simp; omega))).trans ?_ | refine (a2 _ (by first | decide | (simp; omega))).trans ?_ | refine (a1 _ (by first | decide | (simp; omega))).trans ?_ | refine mj_hn (by omega) ?_ | refine mj_hn2 (by omega) ?_)), (by repeat (first | exact b12 | refine (a7 _ (by first | decide | (simp; omega))).trans ?_ | refine (a6 _ (by first | decide | (simp; omega))).trans ?_ | refine (a5 _ (by first | decide | (simp; omega))).trans ?_ | refine (a4 _ (by first | decide | (simp; omega))).trans ?_ | refine (a3 _ (by first | decide | (simp; omega))).trans ?_ | refine (a2 _ (by first | decide | (simp; omega))).trans ?_ | refine (a1 _ (by first | decide | (simp; omega))).trans ?_ | refine mj_hn (by omega) ?_ | refine mj_hn2 (by omega) ?_)), (by repeat (first | exact b13 | refine (a7 _ (by first | decide | (simp; omega))).trans ?_ | refine (a6 _ (by first | decide | (simp; omega))).trans ?_ | refine (a5 _ (by first | decide | (simp; omega))).trans ?_ | refine (a4 _ (by first | decide | (simp; omega))).trans ?_ | refine (a3 _ (by first | decide | (simp; omega))).trans ?_ | refine (a2 _ (by first | decide | (simp; omega))).trans ?_ | refine (a1 _ (by first | decide | (simp; omega))).trans ?_ | refine mj_hn (by omega) ?_ | refine mj_hn2 (by omega) ?_)), fun c _ => rfl, fun j hj => ⟨fun q => absurd q (Nat.not_lt_zero _), fun _ => rfl⟩⟩, ⟨1, 1, 0, fun _ => 0, ⟨fun _ => 0, fun _ => none, (by repeat (first | exact b31 | refine (a7 _ (by first | decide | (simp; omega))).trans ?_ | refine (a6 _ (by first | decide | (simp; omega))).trans ?_ | refine (a5 _ (by first | decide | (simp; omega))).trans ?_ | refine (a4 _ (by first | decide | (simp; omega))).trans ?_ | refine (a3 _ (by first | decide | (simp; omega))).trans ?_ | refine (a2 _ (by first | decide | (simp; omega))).trans ?_ | refine (a1 _ (by first | decide | (simp; omega))).trans ?_ | refine mj_hn (by omega) ?_ | refine mj_hn2 (by omega) ?_)), (by repeat (first | exact b32 | refine (a7 _ (by first | decide | (simp; omega))).trans ?_ | refine (a6 _ (by first | decide | (simp; omega))).trans ?_ | refine (a5 _ (by first | decide | (simp; omega))).trans ?_ | refine (a4 _ (by first | decide | (simp; omega))).trans ?_ | refine (a3 _ (by first | decide | (simp; omega))).trans ?_ | refine (a2 _ (by first | decide | (simp; omega))).trans ?_ | refine (a1 _ (by first | decide | (simp; omega))).trans ?_ | refine mj_hn (by omega) ?_ | refine mj_hn2 (by omega) ?_)), (by repeat (first | exact b33 | refine (a7 _ (by first | decide | (simp; omega))).trans ?_ | refine (a6 _ (by first | decide | (simp; omega))).trans ?_ | refine (a5 _ (by first | decide | (simp; omega))).trans ?_ | refine (a4 _ (by first | decide | (simp; omega))).trans ?_ | refine (a3 _ (by first | decide | (simp; omega))).trans ?_ | refine (a2 _ (by first | decide | (simp; omega))).trans ?_ | refine (a1 _ (by first | decide | (simp; omega))).trans ?_ | refine mj_hn (by omega) ?_ | refine mj_hn2 (by omega) ?_)), fun c _ => rfl, fun j hj => ⟨fun q => absurd q (Nat.not_lt_zero _), fun _ => rfl⟩⟩⟩, ⟨0, rs, (by repeat (first | exact b41 | refine (a7 _ (by first | decide | (simp; omega))).trans ?_ | refine (a6 _ (by first | decide | (simp; omega))).trans ?_ | refine (a5 _ (by first | decide | (simp; omega))).trans ?_ | refine (a4 _ (by first | decide | (simp; omega))).trans ?_ | refine (a3 _ (by first | decide | (simp; omega))).trans ?_ | refine (a2 _ (by first | decide | (simp; omega))).trans ?_ | refine (a1 _ (by first | decide | (simp; omega))).trans ?_ | refine mj_hn (by omega) ?_ | refine mj_hn2 (by omega) ?_)), (by repeat (first | exact b42 | refine (a7 _ (by first | decide | (simp; omega))).trans ?_ | refine (a6 _ (by first | decide | (simp; omega))).trans ?_ | refine (a5 _ (by first | decide | (simp; omega))).trans ?_ | refine (a4 _ (by first | decide | (simp; omega))).trans ?_ | refine (a3 _ (by first | decide | (simp; omega))).trans ?_ | refine (a2 _ (by first | decide | (simp; omega))).trans ?_ | refine (a1 _ (by first | decide | (simp; omega))).trans ?_ | refine mj_hn (by omega) ?_ | refine mj_hn2 (by omega) ?_)), b42b, Nat.zero_le _, by decide, fun i hi => ⟨1, 1, 0, fun _ => 0, ?_⟩, fun j hj => absurd hj (Nat.not_lt_zero j)⟩, .inr ⟨fun _ => 0, (by repeat (first | exact b21 | refine (a7 _ (by first | decide | (simp; omega))).trans ?_ | refine (a6 _ (by first | decide | (simp; omega))).trans ?_ | refine (a5 _ (by first | decide | (simp; omega))).trans ?_ | refine (a4 _ (by first | decide | (simp; omega))).trans ?_ | refine (a3 _ (by first | decide | (simp; omega))).trans ?_ | refine (a2 _ (by first | decide | (simp; omega))).trans ?_ | refine (a1 _ (by first | decide | (simp; omega))).trans ?_ | refine mj_hn (by omega) ?_ | refine mj_hn2 (by omega) ?_)), (by repeat (first | exact b22 | refine (a7 _ (by first | decide | (simp; omega))).trans ?_ | refine (a6 _ (by first | decide | (simp; omega))).trans ?_ | refine (a5 _ (by first | decide | (simp; omega))).trans ?_ | refine (a4 _ (by first | decide | (simp; omega))).trans ?_ | refine (a3 _ (by first | decide | (simp; omega))).trans ?_ | refine (a2 _ (by first | decide | (simp; omega))).trans ?_ | refine (a1 _ (by first | decide | (simp; omega))).trans ?_ | refine mj_hn (by omega) ?_ | refine mj_hn2 (by omega) ?_))⟩, .inr ⟨0, 0, 0, 0, 0, fun _ => 0, fun _ => 0, fun _ => 0, fun _ => 0, (by repeat (first | exact b51 | refine (a7 _ (by first | decide | (simp; omega))).trans ?_ | refine (a6 _ (by first | decide | (simp; omega))).trans ?_ | refine (a5 _ (by first | decide | (simp; omega))).trans ?_ | refine (a4 _ (by first | decide | (simp; omega))).trans ?_ | refine (a3 _ (by first | decide | (simp; omega))).trans ?_ | refine (a2 _ (by first | decide | (simp; omega))).trans ?_ | refine (a1 _ (by first | decide | (simp; omega))).trans ?_ | refine mj_hn (by omega) ?_ | refine mj_hn2 (by omega) ?_)), (by repeat (first | exact b52 | refine (a7 _ (by first | decide | (simp; omega))).trans ?_ | refine (a6 _ (by first | decide | (simp; omega))).trans ?_ | refine (a5 _ (by first | decide | (simp; omega))).trans ?_ | refine (a4 _ (by first | decide | (simp; omega))).trans ?_ | refine (a3 _ (by first | decide | (simp; omega))).trans ?_ | refine (a2 _ (by first | decide | (simp; omega))).trans ?_ | refine (a1 _ (by first | decide | (simp; omega))).trans ?_ | refine mj_hn (by omega) ?_ | refine mj_hn2 (by omega) ?_)), (by repeat (first | exact b53 | refine (a7 _ (by first | decide | (simp; omega))).trans ?_ | refine (a6 _ (by first | decide | (simp; omega))).trans ?_ | refine (a5 _ (by first | decide | (simp; omega))).trans ?_ | refine (a4 _ (by first | decide | (simp; omega))).trans ?_ | refine (a3 _ (by first | decide | (simp; omega))).trans ?_ | refine (a2 _ (by first | decide | (simp; omega))).trans ?_ | refine (a1 _ (by first | decide | (simp; omega))).trans ?_ | refine mj_hn (by omega) ?_ | refine mj_hn2 (by omega) ?_)), (by repeat (first | exact b54 | refine (a7 _ (by first | decide | (simp; omega))).trans ?_ | refine (a6 _ (by first | decide | (simp; omega))).trans ?_ | refine (a5 _ (by first | decide | (simp; omega))).trans ?_ | refine (a4 _ (by first | decide | (simp; omega))).trans ?_ | refine (a3 _ (by first | decide | (simp; omega))).trans ?_ | refine (a2 _ (by first | decide | (simp; omega))).trans ?_ | refine (a1 _ (by first | decide | (simp; omega))).trans ?_ | refine mj_hn (by omega) ?_ | refine mj_hn2 (by omega) ?_)), (by repeat (first | exact b55 | refine (a7 _ (by first | decide | (simp; omega))).trans ?_ | refine (a6 _ (by first | decide | (simp; omega))).trans ?_ | refine (a5 _ (by first | decide | (simp; omega))).trans ?_ | refine (a4 _ (by first | decide | (simp; omega))).trans ?_ | refine (a3 _ (by first | decide | (simp; omega))).trans ?_ | refine (a2 _ (by first | decide | (simp; omega))).trans ?_ | refine (a1 _ (by first | decide | (simp; omega))).trans ?_ | refine mj_hn (by omega) ?_ | refine mj_hn2 (by omega) ?_))⟩, ⟨fun _ => 0, fun _ => 0, (by repeat (first | exact b61 | refine (a7 _ (by first | decide | (simp; omega))).trans ?_ | refine (a6 _ (by first | decide | (simp; omega))).trans ?_ | refine (a5 _ (by first | decide | (simp; omega))).trans ?_ | refine (a4 _ (by first | decide | (simp; omega))).trans ?_ | refine (a3 _ (by first | decide | (simp; omega))).trans ?_ | refine (a2 _ (by first | decide | (simp; omega))).trans ?_ | refine (a1 _ (by first | decide | (simp; omega))).trans ?_ | refine mj_hn (by omega) ?_ | refine mj_hn2 (by omega) ?_)), (by repeat (first | exact b62 | refine (a7 _ (by first | decide | (simp; omega))).trans ?_ | refine (a6 _ (by first | decide | (simp; omega))).trans ?_ | refine (a5 _ (by first | decide | (simp; omega))).trans ?_ | refine (a4 _ (by first | decide | (simp; omega))).trans ?_ | refine (a3 _ (by first | decide | (simp; omega))).trans ?_ | refine (a2 _ (by first | decide | (simp; omega))).trans ?_ | refine (a1 _ (by first | decide | (simp; omega))).trans ?_ | refine mj_hn (by omega) ?_ | refine mj_hn2 (by omega) ?_)), (by repeat (first | exact b63 | refine (a7 _ (by first | decide | (simp; omega))).trans ?_ | refine (a6 _ (by first | decide | (simp; omega))).trans ?_ | refine (a5 _ (by first | decide | (simp; omega))).trans ?_ | refine (a4 _ (by first | decide | (simp; omega))).trans ?_ | refine (a3 _ (by first | decide | (simp; omega))).trans ?_ | refine (a2 _ (by first | decide | (simp; omega))).trans ?_ | refine (a1 _ (by first | decide | (simp; omega))).trans ?_ | refine mj_hn (by omega) ?_ | refine mj_hn2 (by omega) ?_))⟩, fun _ => 0, fun _ => 0, fun _ => 0, fun _ => 0, fun _ => 0, ⟨(by repeat (first | exact b71 | refine (a7 _ (by first | decide | (simp; omega))).trans ?_ | refine (a6 _ (by first | decide | (simp; omega))).trans ?_ | refine (a5 _ (by first | decide | (simp; omega))).trans ?_ | refine (a4 _ (by first | decide | (simp; omega))).trans ?_ | refine (a3 _ (by first | decide | (simp; omega))).trans ?_ | refine (a2 _ (by first | decide | (simp; omega))).trans ?_ | refine (a1 _ (by first | decide | (simp; omega))).trans ?_ | refine mj_hn (by omega) ?_ | refine mj_hn2 (by omega) ?_)), (by repeat (first | exact b72 | refine (a7 _ (by first | decide | (simp; omega))).trans ?_ | refine (a6 _ (by first | decide | (simp; omega))).trans ?_ | refine (a5 _ (by first | decide | (simp; omega))).trans ?_ | refine (a4 _ (by first | decide | (simp; omega))).trans ?_ | refine (a3 _ (by first | decide | (simp; omega))).trans ?_ | refine (a2 _ (by first | decide | (simp; omega))).trans ?_ | refine (a1 _ (by first | decide | (simp; omega))).trans ?_ | refine mj_hn (by omega) ?_ | refine mj_hn2 (by omega) ?_)), (by repeat (first | exact b73 | refine (a7 _ (by first | decide | (simp; omega))).trans ?_ | refine (a6 _ (by first | decide | (simp; omega))).trans ?_ | refine (a5 _ (by first | decide | (simp; omega))).trans ?_ | refine (a4 _ (by first | decide | (simp; omega))).trans ?_ | refine (a3 _ (by first | decide | (simp; omega))).trans ?_ | refine (a2 _ (by first | decide | (simp; omega))).trans ?_ | refine (a1 _ (by first | decide | (simp; omega))).trans ?_ | refine mj_hn (by omega) ?_ | refine mj_hn2 (by omega) ?_)), (by repeat (first | exact b74 | refine (a7 _ (by first | decide | (simp; omega))).trans ?_ | refine (a6 _ (by first | decide | (simp; omega))).trans ?_ | refine (a5 _ (by first | decide | (simp; omega))).trans ?_ | refine (a4 _ (by first | decide | (simp; omega))).trans ?_ | refine (a3 _ (by first | decide | (simp; omega))).trans ?_ | refine (a2 _ (by first | decide | (simp; omega))).trans ?_ | refine (a1 _ (by first | decide | (simp; omega))).trans ?_ | refine mj_hn (by omega) ?_ | refine mj_hn2 (by omega) ?_)), (by repeat (first | exact b75 | refine (a7 _ (by first | decide | (simp; omega))).trans ?_ | refine (a6 _ (by first | decide | (simp; omega))).trans ?_ | refine (a5 _ (by first | decide | (simp; omega))).trans ?_ | refine (a4 _ (by first | decide | (simp; omega))).trans ?_ | refine (a3 _ (by first | decide | (simp; omega))).trans ?_ | refine (a2 _ (by first | decide | (simp; omega))).trans ?_ | refine (a1 _ (by first | decide | (simp; omega))).trans ?_ | refine mj_hn (by omega) ?_ | refine mj_hn2 (by omega) ?_)), (by repeat (first | exact b76 | refine (a7 _ (by first | decide | (simp; omega))).trans ?_ | refine (a6 _ (by first | decide | (simp; omega))).trans ?_ | refine (a5 _ (by first | decide | (simp; omega))).trans ?_ | refine (a4 _ (by first | decide | (simp; omega))).trans ?_ | refine (a3 _ (by first | decide | (simp; omega))).trans ?_ | refine (a2 _ (by first | decide | (simp; omega))).trans ?_ | refine (a1 _ (by first | decide | (simp; omega))).trans ?_ | refine mj_hn (by omega) ?_ | refine mj_hn2 (by omega) ?_)), Nat.zero_le _⟩, fun j hj => by cases hj⟩
    obtain ⟨q1, q2, q3⟩ := b43 i hi
    exact ⟨fun _ => 0, fun _ => none, (by repeat (first | exact q1 | refine (a7 _ (by first | decide | (simp; omega))).trans ?_ | refine (a6 _ (by first | decide | (simp; omega))).trans ?_ | refine (a5 _ (by first | decide | (simp; omega))).trans ?_ | refine (a4 _ (by first | decide | (simp; omega))).trans ?_ | refine (a3 _ (by first | decide | (simp; omega))).trans ?_ | refine (a2 _ (by first | decide | (simp; omega))).trans ?_ | refine (a1 _ (by first | decide | (simp; omega))).trans ?_ | refine mj_hn (by omega) ?_ | refine mj_hn2 (by omega) ?_)), (by repeat (first | exact q2 | refine (a7 _ (by first | decide | (simp; omega))).trans ?_ | refine (a6 _ (by first | decide | (simp; omega))).trans ?_ | refine (a5 _ (by first | decide | (simp; omega))).trans ?_ | refine (a4 _ (by first | decide | (simp; omega))).trans ?_ | refine (a3 _ (by first | decide | (simp; omega))).trans ?_ | refine (a2 _ (by first | decide | (simp; omega))).trans ?_ | refine (a1 _ (by first | decide | (simp; omega))).trans ?_ | refine mj_hn (by omega) ?_ | refine mj_hn2 (by omega) ?_)), (by repeat (first | exact q3 | refine (a7 _ (by first | decide | (simp; omega))).trans ?_ | refine (a6 _ (by first | decide | (simp; omega))).trans ?_ | refine (a5 _ (by first | decide | (simp; omega))).trans ?_ | refine (a4 _ (by first | decide | (simp; omega))).trans ?_ | refine (a3 _ (by first | decide | (simp; omega))).trans ?_ | refine (a2 _ (by first | decide | (simp; omega))).trans ?_ | refine (a1 _ (by first | decide | (simp; omega))).trans ?_ | refine mj_hn (by omega) ?_ | refine mj_hn2 (by omega) ?_)), fun c _ => rfl, fun j hj => ⟨fun q => absurd q (Nat.not_lt_zero _), fun _ => rfl⟩⟩
