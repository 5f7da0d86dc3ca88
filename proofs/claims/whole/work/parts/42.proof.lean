/-! Proof: what is read -/
/-- the Proof's cells: 49 to 54 -/
def gw_pf (f : Nat → mj_C) (rows : Nat) (sz : Int32) (ce ab co wy bl : Nat → Int32) : Prop := f 49 = mj_O 3 [.ref 4, .ref 50, .ref 51, .ref 52, .ref 53, .ref 54, .int (nI rows), .int sz] ∧ f 50 = mj_AI 600 ce ∧ f 51 = mj_AI 600 ab ∧ f 52 = mj_AI 600 co ∧ f 53 = mj_AI 600 wy ∧ f 54 = mj_AI 600 bl ∧ rows ≤ 600
def gw_us1 (a : Int32) (k : Int32) : Int32 := (a.toUInt32 >>> (k.toUInt32 &&& Int32.toUInt32 31)).toInt32
def gw_pc (z : Int32) : Int32 :=
  let a := z - (gw_us1 z 1 &&& 1431655765)
  let b := (a &&& 858993459) + (gw_us1 a 2 &&& 858993459)
  let c := (b + gw_us1 b 4) &&& 252645135
  let e := c + gw_us1 c 8
  let g := e + gw_us1 e 16
  g &&& 63
theorem sp_Integer_bitCount {X : mj_X} {d : Nat} {σ : mj_H} {Q : Value → mj_H → Prop} {z : Int32} (k : Q (.int (gw_pc z)) σ) : mj_M X d y_Integer_bitCount [.int z] σ (mj_V Q) := by
  refine mw_in (l0 := [some (.int z)]) rfl ?_
  refine mw_ld 1 i_Integer_bitCount_0 rfl rfl rfl ?_
  refine mw_ld 2 i_Integer_bitCount_1 rfl rfl rfl ?_
  refine mw_k 3 i_Integer_bitCount_2 rfl ?_
  refine mw_b 4 i_Integer_bitCount_3 rfl ?_
  refine mw_k 7 i_Integer_bitCount_4 rfl ?_
  refine mw_b 8 i_Integer_bitCount_7 rfl ?_
  refine mw_b 9 i_Integer_bitCount_8 rfl ?_
  refine mw_st (ls' := [_]) 10 i_Integer_bitCount_9 rfl rfl rfl rfl ?_
  refine mw_ld 11 i_Integer_bitCount_10 rfl rfl rfl ?_
  refine mw_k 14 i_Integer_bitCount_11 rfl ?_
  refine mw_b 15 i_Integer_bitCount_14 rfl ?_
  refine mw_ld 16 i_Integer_bitCount_15 rfl rfl rfl ?_
  refine mw_k 17 i_Integer_bitCount_16 rfl ?_
  refine mw_b 18 i_Integer_bitCount_17 rfl ?_
  refine mw_k 21 i_Integer_bitCount_18 rfl ?_
  refine mw_b 22 i_Integer_bitCount_21 rfl ?_
  refine mw_b 23 i_Integer_bitCount_22 rfl ?_
  refine mw_st (ls' := [_]) 24 i_Integer_bitCount_23 rfl rfl rfl rfl ?_
  refine mw_ld 25 i_Integer_bitCount_24 rfl rfl rfl ?_
  refine mw_ld 26 i_Integer_bitCount_25 rfl rfl rfl ?_
  refine mw_k 27 i_Integer_bitCount_26 rfl ?_
  refine mw_b 28 i_Integer_bitCount_27 rfl ?_
  refine mw_b 29 i_Integer_bitCount_28 rfl ?_
  refine mw_k 32 i_Integer_bitCount_29 rfl ?_
  refine mw_b 33 i_Integer_bitCount_32 rfl ?_
  refine mw_st (ls' := [_]) 34 i_Integer_bitCount_33 rfl rfl rfl rfl ?_
  refine mw_ld 35 i_Integer_bitCount_34 rfl rfl rfl ?_
  refine mw_ld 36 i_Integer_bitCount_35 rfl rfl rfl ?_
  refine mw_k 38 i_Integer_bitCount_36 rfl ?_
  refine mw_b 39 i_Integer_bitCount_38 rfl ?_
  refine mw_b 40 i_Integer_bitCount_39 rfl ?_
  refine mw_st (ls' := [_]) 41 i_Integer_bitCount_40 rfl rfl rfl rfl ?_
  refine mw_ld 42 i_Integer_bitCount_41 rfl rfl rfl ?_
  refine mw_ld 43 i_Integer_bitCount_42 rfl rfl rfl ?_
  refine mw_k 45 i_Integer_bitCount_43 rfl ?_
  refine mw_b 46 i_Integer_bitCount_45 rfl ?_
  refine mw_b 47 i_Integer_bitCount_46 rfl ?_
  refine mw_st (ls' := [_]) 48 i_Integer_bitCount_47 rfl rfl rfl rfl ?_
  refine mw_ld 49 i_Integer_bitCount_48 rfl rfl rfl ?_
  refine mw_k 51 i_Integer_bitCount_49 rfl ?_
  refine mw_b 52 i_Integer_bitCount_51 rfl ?_
  refine mw_ri i_Integer_bitCount_52 rfl rfl ?_
  exact k
theorem sp_Proof_end {X : mj_X} {d : Nat} {σ : mj_H} {Q : mj_H → Prop} {rows : Nat} {sz : Int32} {ce ab co wy bl : Nat → Int32} (hF : gw_pf σ.1 rows sz ce ab co wy bl) (k : ∀ f, gw_fr [49] σ.1 f → gw_pf f 0 sz ce ab co wy bl → Q (f, σ.2)) : mj_M X d y_Proof_end [.ref 49] σ (mj_U Q) := by
  obtain ⟨t1, t2, t3, t4, t5, t6, t7⟩ := id hF
  refine mw_in (l0 := [some (.ref 49)]) rfl ?_
  refine mw_ld 1 i_Proof_end_0 rfl rfl rfl ?_
  refine mw_k 2 i_Proof_end_1 rfl ?_
  refine mw_put (fs' := [_, _, _, _, _, _, _, _]) 5 i_Proof_end_2 rfl (by assumption) (Nat.le_of_ble_eq_true rfl) rfl rfl (fun _ h => by cases h) (by rfl) ?_
  refine mw_rv i_Proof_end_5 rfl ?_
  exact k _ (gw_fr_up (gw_fr_rf _ _) (by simp)) ⟨mj_hs, mj_hn (by decide) t2, mj_hn (by decide) t3, mj_hn (by decide) t4, mj_hn (by decide) t5, mj_hn (by decide) t6, Nat.zero_le _⟩
theorem sp_Proof_rows {X : mj_X} {d : Nat} {σ : mj_H} {Q : Value → mj_H → Prop} {rows : Nat} {sz : Int32} {ce ab co wy bl : Nat → Int32} (hF : gw_pf σ.1 rows sz ce ab co wy bl) (k : Q (.int (nI rows)) σ) : mj_M X d y_Proof_rows [.ref 49] σ (mj_V Q) := by
  obtain ⟨t1, t2, t3, t4, t5, t6, t7⟩ := id hF
  refine mw_in (l0 := [some (.ref 49)]) rfl ?_
  refine mw_ld 1 i_Proof_rows_0 rfl rfl rfl ?_
  refine mw_get 4 i_Proof_rows_1 rfl (by assumption) (by rfl) ?_
  refine mw_ri i_Proof_rows_4 rfl rfl ?_
  exact k
theorem sp_Proof_hasRow {X : mj_X} {d : Nat} {σ : mj_H} {Q : Value → mj_H → Prop} {z : Int32} {rows : Nat} {sz : Int32} {ce ab co wy bl : Nat → Int32} (hF : gw_pf σ.1 rows sz ce ab co wy bl) (k : Q (.int (mj_bI (gw_isP rows z))) σ) : mj_M X d y_Proof_hasRow [.ref 49, .int z] σ (mj_V Q) := by
  obtain ⟨t1, t2, t3, t4, t5, t6, t7⟩ := id hF
  refine mw_in (l0 := [some (.ref 49), some (.int z)]) rfl ?_
  refine mw_ld 1 i_Proof_hasRow_0 rfl rfl rfl ?_
  refine mw_if 4 i_Proof_hasRow_1 rfl (fun h1 => ?_) (fun h1 => ?_)
  · refine mw_k 24 i_Proof_hasRow_23 rfl ?_
    refine mw_ri i_Proof_hasRow_24 rfl rfl ?_
    first
    | exact mj_q0 (by rw [Bool.eq_false_iff]; intro q; rw [gw_isP_iff] at q; simp only [mj_lt, mj_le, mj_lit0, mj_nI _ (show rows < 2147483648 by omega), mj_lit 600 (by decide)] at *; omega) k
    | exact mj_q1 (gw_isP_iff.mpr (by simp only [mj_lt, mj_le, mj_lit0, mj_nI _ (show rows < 2147483648 by omega), mj_lit 600 (by decide)] at *; omega)) k
  · refine mw_ld 5 i_Proof_hasRow_4 rfl rfl rfl ?_
    refine mw_ld 6 i_Proof_hasRow_5 rfl rfl rfl ?_
    refine mw_get 9 i_Proof_hasRow_6 rfl (by assumption) (by rfl) ?_
    refine mw_ic 12 i_Proof_hasRow_9 rfl (fun h9 => ?_) (fun h9 => ?_)
    · refine mw_k 24 i_Proof_hasRow_23 rfl ?_
      refine mw_ri i_Proof_hasRow_24 rfl rfl ?_
      first
      | exact mj_q0 (by rw [Bool.eq_false_iff]; intro q; rw [gw_isP_iff] at q; simp only [mj_lt, mj_le, mj_lit0, mj_nI _ (show rows < 2147483648 by omega), mj_lit 600 (by decide)] at *; omega) k
      | exact mj_q1 (gw_isP_iff.mpr (by simp only [mj_lt, mj_le, mj_lit0, mj_nI _ (show rows < 2147483648 by omega), mj_lit 600 (by decide)] at *; omega)) k
    · refine mw_ld 13 i_Proof_hasRow_12 rfl rfl rfl ?_
      refine mw_k 16 i_Proof_hasRow_13 rfl ?_
      refine mw_ic 19 i_Proof_hasRow_16 rfl (fun h16 => ?_) (fun h16 => ?_)
      · refine mw_k 24 i_Proof_hasRow_23 rfl ?_
        refine mw_ri i_Proof_hasRow_24 rfl rfl ?_
        first
        | exact mj_q0 (by rw [Bool.eq_false_iff]; intro q; rw [gw_isP_iff] at q; simp only [mj_lt, mj_le, mj_lit0, mj_nI _ (show rows < 2147483648 by omega), mj_lit 600 (by decide)] at *; omega) k
        | exact mj_q1 (gw_isP_iff.mpr (by simp only [mj_lt, mj_le, mj_lit0, mj_nI _ (show rows < 2147483648 by omega), mj_lit 600 (by decide)] at *; omega)) k
      · refine mw_k 20 i_Proof_hasRow_19 rfl ?_
        refine mw_go i_Proof_hasRow_20 ?_
        refine mw_ri i_Proof_hasRow_24 rfl rfl ?_
        first
        | exact mj_q0 (by rw [Bool.eq_false_iff]; intro q; rw [gw_isP_iff] at q; simp only [mj_lt, mj_le, mj_lit0, mj_nI _ (show rows < 2147483648 by omega), mj_lit 600 (by decide)] at *; omega) k
        | exact mj_q1 (gw_isP_iff.mpr (by simp only [mj_lt, mj_le, mj_lit0, mj_nI _ (show rows < 2147483648 by omega), mj_lit 600 (by decide)] at *; omega)) k
theorem gw_isP_in {n i : Nat} (h : i < n) (hi : i < 2147483648) : gw_isP n (nI i) = true := by
  rw [gw_isP_iff, mj_nI i hi]
  omega
theorem sp_Proof_cellOf {X : mj_X} {d : Nat} {σ : mj_H} {Q : Value → mj_H → Prop} {i : Nat} {rows : Nat} {sz : Int32} {ce ab co wy bl : Nat → Int32} (hF : gw_pf σ.1 rows sz ce ab co wy bl) (hi : i < rows) (k : Q (.int (ce i)) σ) : mj_M X (d + 1) y_Proof_cellOf [.ref 49, .int (nI i)] σ (mj_V Q) := by
  obtain ⟨t1, t2, t3, t4, t5, t6, t7⟩ := id hF
  refine mw_in (l0 := [some (.ref 49), some (.int (nI i))]) rfl ?_
  refine mw_ld 1 i_Proof_cellOf_0 rfl rfl rfl ?_
  refine mw_ld 2 i_Proof_cellOf_1 rfl rfl rfl ?_
  refine mw_cv1 5 i_Proof_cellOf_2 rfl (by assumption) (sp_Proof_hasRow hF ?_) rfl rfl (Nat.le_of_ble_eq_true rfl) (Nat.le_of_ble_eq_true rfl)
  refine mw_if0 8 i_Proof_cellOf_5 rfl (mj_bI1.mpr (gw_isP_in hi (by omega))) ?_
  refine mw_ld 9 i_Proof_cellOf_8 rfl rfl rfl ?_
  refine mw_get 12 i_Proof_cellOf_9 rfl (by assumption) (by rfl) ?_
  refine mw_ld 13 i_Proof_cellOf_12 rfl rfl rfl ?_
  refine mw_iald 14 i i_Proof_cellOf_13 rfl (by assumption) rfl (by omega) (by decide) ?_
  refine mw_go i_Proof_cellOf_14 ?_
  refine mw_ri i_Proof_cellOf_19 rfl rfl ?_
  exact k
theorem sp_Proof_aboveOf {X : mj_X} {d : Nat} {σ : mj_H} {Q : Value → mj_H → Prop} {i : Nat} {rows : Nat} {sz : Int32} {ce ab co wy bl : Nat → Int32} (hF : gw_pf σ.1 rows sz ce ab co wy bl) (hi : i < rows) (k : Q (.int (ab i)) σ) : mj_M X (d + 1) y_Proof_aboveOf [.ref 49, .int (nI i)] σ (mj_V Q) := by
  obtain ⟨t1, t2, t3, t4, t5, t6, t7⟩ := id hF
  refine mw_in (l0 := [some (.ref 49), some (.int (nI i))]) rfl ?_
  refine mw_ld 1 i_Proof_aboveOf_0 rfl rfl rfl ?_
  refine mw_ld 2 i_Proof_aboveOf_1 rfl rfl rfl ?_
  refine mw_cv1 5 i_Proof_aboveOf_2 rfl (by assumption) (sp_Proof_hasRow hF ?_) rfl rfl (Nat.le_of_ble_eq_true rfl) (Nat.le_of_ble_eq_true rfl)
  refine mw_if0 8 i_Proof_aboveOf_5 rfl (mj_bI1.mpr (gw_isP_in hi (by omega))) ?_
  refine mw_ld 9 i_Proof_aboveOf_8 rfl rfl rfl ?_
  refine mw_get 12 i_Proof_aboveOf_9 rfl (by assumption) (by rfl) ?_
  refine mw_ld 13 i_Proof_aboveOf_12 rfl rfl rfl ?_
  refine mw_iald 14 i i_Proof_aboveOf_13 rfl (by assumption) rfl (by omega) (by decide) ?_
  refine mw_go i_Proof_aboveOf_14 ?_
  refine mw_ri i_Proof_aboveOf_19 rfl rfl ?_
  exact k
theorem sp_Proof_comerOf {X : mj_X} {d : Nat} {σ : mj_H} {Q : Value → mj_H → Prop} {i : Nat} {rows : Nat} {sz : Int32} {ce ab co wy bl : Nat → Int32} (hF : gw_pf σ.1 rows sz ce ab co wy bl) (hi : i < rows) (k : Q (.int (co i)) σ) : mj_M X (d + 1) y_Proof_comerOf [.ref 49, .int (nI i)] σ (mj_V Q) := by
  obtain ⟨t1, t2, t3, t4, t5, t6, t7⟩ := id hF
  refine mw_in (l0 := [some (.ref 49), some (.int (nI i))]) rfl ?_
  refine mw_ld 1 i_Proof_comerOf_0 rfl rfl rfl ?_
  refine mw_ld 2 i_Proof_comerOf_1 rfl rfl rfl ?_
  refine mw_cv1 5 i_Proof_comerOf_2 rfl (by assumption) (sp_Proof_hasRow hF ?_) rfl rfl (Nat.le_of_ble_eq_true rfl) (Nat.le_of_ble_eq_true rfl)
  refine mw_if0 8 i_Proof_comerOf_5 rfl (mj_bI1.mpr (gw_isP_in hi (by omega))) ?_
  refine mw_ld 9 i_Proof_comerOf_8 rfl rfl rfl ?_
  refine mw_get 12 i_Proof_comerOf_9 rfl (by assumption) (by rfl) ?_
  refine mw_ld 13 i_Proof_comerOf_12 rfl rfl rfl ?_
  refine mw_iald 14 i i_Proof_comerOf_13 rfl (by assumption) rfl (by omega) (by decide) ?_
  refine mw_go i_Proof_comerOf_14 ?_
  refine mw_ri i_Proof_comerOf_19 rfl rfl ?_
  exact k
theorem sp_Proof_rowsBelow {X : mj_X} {d : Nat} {σ : mj_H} {Q : Value → mj_H → Prop} {i : Nat} {rows : Nat} {sz : Int32} {ce ab co wy bl : Nat → Int32} (hF : gw_pf σ.1 rows sz ce ab co wy bl) (hi : i < rows) (k : Q (.int (gw_pc (bl i))) σ) : mj_M X (d + 1) y_Proof_rowsBelow [.ref 49, .int (nI i)] σ (mj_V Q) := by
  obtain ⟨t1, t2, t3, t4, t5, t6, t7⟩ := id hF
  refine mw_in (l0 := [some (.ref 49), some (.int (nI i))]) rfl ?_
  refine mw_ld 1 i_Proof_rowsBelow_0 rfl rfl rfl ?_
  refine mw_ld 2 i_Proof_rowsBelow_1 rfl rfl rfl ?_
  refine mw_cv1 5 i_Proof_rowsBelow_2 rfl (by assumption) (sp_Proof_hasRow hF ?_) rfl rfl (Nat.le_of_ble_eq_true rfl) (Nat.le_of_ble_eq_true rfl)
  refine mw_if0 8 i_Proof_rowsBelow_5 rfl (mj_bI1.mpr (gw_isP_in hi (by omega))) ?_
  refine mw_ld 9 i_Proof_rowsBelow_8 rfl rfl rfl ?_
  refine mw_get 12 i_Proof_rowsBelow_9 rfl (by assumption) (by rfl) ?_
  refine mw_ld 13 i_Proof_rowsBelow_12 rfl rfl rfl ?_
  refine mw_iald 14 i i_Proof_rowsBelow_13 rfl (by assumption) rfl (by omega) (by decide) ?_
  refine mw_cs1 17 i_Proof_rowsBelow_14 rfl (sp_Integer_bitCount ?_) rfl rfl (Nat.le_of_ble_eq_true rfl) (Nat.le_of_ble_eq_true rfl)
  refine mw_go i_Proof_rowsBelow_17 ?_
  refine mw_ri i_Proof_rowsBelow_21 rfl rfl ?_
  exact k
theorem sp_Proof_replaceCell {X : mj_X} {d : Nat} {σ : mj_H} {Q : Value → mj_H → Prop} {i : Nat} {c : Int32} {rows : Nat} {sz : Int32} {ce ab co wy bl : Nat → Int32} (hF : gw_pf σ.1 rows sz ce ab co wy bl) (hi : i < rows) (k : ∀ f, gw_fr [50] σ.1 f → gw_pf f rows sz (upd ce i c) ab co wy bl → Q (.int (ce i)) (f, σ.2)) : mj_M X (d + 2) y_Proof_replaceCell [.ref 49, .int (nI i), .int c] σ (mj_V Q) := by
  obtain ⟨t1, t2, t3, t4, t5, t6, t7⟩ := id hF
  refine mw_in (l0 := [some (.ref 49), some (.int (nI i)), some (.int c), none]) rfl ?_
  refine mw_ld 1 i_Proof_replaceCell_0 rfl rfl rfl ?_
  refine mw_ld 2 i_Proof_replaceCell_1 rfl rfl rfl ?_
  refine mw_cv1 5 i_Proof_replaceCell_2 rfl (by repeat (first | exact mj_hs2 | exact mj_hs | assumption | refine mj_hn2 (by omega) ?_ | refine mj_hn (by omega) ?_)) (sp_Proof_cellOf hF hi ?_) rfl rfl (Nat.le_of_ble_eq_true rfl) (Nat.le_of_ble_eq_true rfl)
  refine mw_st (ls' := [_, _, _, _]) 6 i_Proof_replaceCell_5 rfl rfl rfl rfl ?_
  refine mw_ld 7 i_Proof_replaceCell_6 rfl rfl rfl ?_
  refine mw_ld 8 i_Proof_replaceCell_7 rfl rfl rfl ?_
  refine mw_cv1 11 i_Proof_replaceCell_8 rfl (by repeat (first | exact mj_hs2 | exact mj_hs | assumption | refine mj_hn2 (by omega) ?_ | refine mj_hn (by omega) ?_)) (sp_Proof_hasRow hF ?_) rfl rfl (Nat.le_of_ble_eq_true rfl) (Nat.le_of_ble_eq_true rfl)
  refine mw_if0 14 i_Proof_replaceCell_11 rfl (mj_bI1.mpr (gw_isP_in hi (by omega))) ?_
  refine mw_ld 15 i_Proof_replaceCell_14 rfl rfl rfl ?_
  refine mw_get 18 i_Proof_replaceCell_15 rfl (by repeat (first | exact mj_hs2 | exact mj_hs | assumption | refine mj_hn2 (by omega) ?_ | refine mj_hn (by omega) ?_)) (by rfl) ?_
  refine mw_ld 19 i_Proof_replaceCell_18 rfl rfl rfl ?_
  refine mw_ld 20 i_Proof_replaceCell_19 rfl rfl rfl ?_
  refine mw_iast 21 i i_Proof_replaceCell_20 rfl (by repeat (first | exact mj_hs2 | exact mj_hs | assumption | refine mj_hn2 (by omega) ?_ | refine mj_hn (by omega) ?_)) rfl (by omega) (by decide) ?_
  refine mw_ld 22 i_Proof_replaceCell_21 rfl rfl rfl ?_
  refine mw_ri i_Proof_replaceCell_22 rfl rfl ?_
  exact k _ (gw_fr_up (gw_fr_rf _ _) (by simp)) ⟨mj_hn (by decide) t1, mj_hs, mj_hn (by decide) t3, mj_hn (by decide) t4, mj_hn (by decide) t5, mj_hn (by decide) t6, t7⟩
def gw_rg (w h n : Nat) (s : Nat → Int32) (sz ce wy bl : Int32) : Bool := gw_op w h s ce && (gw_wo w h n s ce &&& wy == 0) && (decide (sz ≤ gw_pc wy) || (bl == gw_wo w h n s ce))
theorem sp_Proof_isRight {X : mj_X} {d : Nat} {σ : mj_H} {Q : Value → mj_H → Prop} {w h n : Nat} {s : Nat → Int32} {rows : Nat} {sz : Int32} {ce ab co wy bl : Nat → Int32} (hF : gw_pf σ.1 rows sz ce ab co wy bl) (hd : gw_dim w h) (hR : gw_rm σ.1 1 w h n s) (hU : gw_vup σ.1 w h n s) {i : Nat} (hi : i < rows) (k : Q (.int (mj_bI (gw_rg w h n s sz (ce i) (wy i) (bl i)))) σ) : mj_M X (d + 2) y_Proof_isRight [.ref 49, .int (nI i)] σ (mj_V Q) := by
  obtain ⟨t1, t2, t3, t4, t5, t6, t7⟩ := id hF
  obtain ⟨wt0, ⟨v1, v2⟩, -⟩ := id hU
  obtain ⟨wl, ps, c1, -⟩ := id hR
  refine mw_in (l0 := [some (.ref 49), some (.int (nI i)), none, none]) rfl ?_
  refine mw_ld 1 i_Proof_isRight_0 rfl rfl rfl ?_
  refine mw_get 4 i_Proof_isRight_1 rfl (by assumption) (by rfl) ?_
  refine mw_ld 5 i_Proof_isRight_4 rfl rfl rfl ?_
  refine mw_get 8 i_Proof_isRight_5 rfl (by assumption) (by rfl) ?_
  refine mw_ld 9 i_Proof_isRight_8 rfl rfl rfl ?_
  refine mw_iald 10 i i_Proof_isRight_9 rfl (by assumption) rfl (by omega) (by decide) ?_
  refine mw_cv1 13 i_Proof_isRight_10 rfl (by assumption) (sp_View_watchersOf hd hR hU ?_) rfl rfl (Nat.le_of_ble_eq_true rfl) (Nat.le_of_ble_eq_true rfl)
  refine mw_st (ls' := [_, _, _, _]) 14 i_Proof_isRight_13 rfl rfl rfl rfl ?_
  refine mw_ld 15 i_Proof_isRight_14 rfl rfl rfl ?_
  refine mw_get 18 i_Proof_isRight_15 rfl (by assumption) (by rfl) ?_
  refine mw_ld 19 i_Proof_isRight_18 rfl rfl rfl ?_
  refine mw_iald 20 i i_Proof_isRight_19 rfl (by assumption) rfl (by omega) (by decide) ?_
  refine mw_st (ls' := [_, _, _, _]) 21 i_Proof_isRight_20 rfl rfl rfl rfl ?_
  refine mw_ld 22 i_Proof_isRight_21 rfl rfl rfl ?_
  refine mw_get 25 i_Proof_isRight_22 rfl (by assumption) (by rfl) ?_
  refine mw_get 28 i_Proof_isRight_25 rfl (by assumption) (by rfl) ?_
  refine mw_ld 29 i_Proof_isRight_28 rfl rfl rfl ?_
  refine mw_get 32 i_Proof_isRight_29 rfl (by assumption) (by rfl) ?_
  refine mw_ld 33 i_Proof_isRight_32 rfl rfl rfl ?_
  refine mw_iald 34 i i_Proof_isRight_33 rfl (by assumption) rfl (by omega) (by decide) ?_
  refine mw_cv1 37 i_Proof_isRight_34 rfl (by assumption) (sp_Room_isOpen hd hR ?_) rfl rfl (Nat.le_of_ble_eq_true rfl) (Nat.le_of_ble_eq_true rfl)
  refine mw_if 40 i_Proof_isRight_37 rfl (fun h37 => ?_) (fun h37 => ?_)
  · refine mw_k 47 i_Proof_isRight_46 rfl ?_
    refine mw_ri i_Proof_isRight_47 rfl rfl ?_
    simp only [mj_bI0, mj_bI1, Classical.not_not] at *
    first
    | exact mj_q0 (by simp_all [gw_rg]) k
    | exact mj_q1 (by simp_all [gw_rg]) k
  · refine mw_ld 41 i_Proof_isRight_40 rfl rfl rfl ?_
    refine mw_ld 42 i_Proof_isRight_41 rfl rfl rfl ?_
    refine mw_b 43 i_Proof_isRight_42 rfl ?_
    refine mw_if 46 i_Proof_isRight_43 rfl (fun h43 => ?_) (fun h43 => ?_)
    · refine mw_ld 49 i_Proof_isRight_48 rfl rfl rfl ?_
      refine mw_cs1 52 i_Proof_isRight_49 rfl (sp_Integer_bitCount ?_) rfl rfl (Nat.le_of_ble_eq_true rfl) (Nat.le_of_ble_eq_true rfl)
      refine mw_ld 53 i_Proof_isRight_52 rfl rfl rfl ?_
      refine mw_get 56 i_Proof_isRight_53 rfl (by assumption) (by rfl) ?_
      refine mw_ic 59 i_Proof_isRight_56 rfl (fun h56 => ?_) (fun h56 => ?_)
      · refine mw_k 70 i_Proof_isRight_69 rfl ?_
        refine mw_go i_Proof_isRight_70 ?_
        refine mw_ri i_Proof_isRight_74 rfl rfl ?_
        simp only [mj_bI0, mj_bI1, Classical.not_not] at *
        first
        | exact mj_q0 (by simp_all [gw_rg]) k
        | exact mj_q1 (by simp_all [gw_rg]) k
      · refine mw_ld 60 i_Proof_isRight_59 rfl rfl rfl ?_
        refine mw_get 63 i_Proof_isRight_60 rfl (by assumption) (by rfl) ?_
        refine mw_ld 64 i_Proof_isRight_63 rfl rfl rfl ?_
        refine mw_iald 65 i i_Proof_isRight_64 rfl (by assumption) rfl (by omega) (by decide) ?_
        refine mw_ld 66 i_Proof_isRight_65 rfl rfl rfl ?_
        refine mw_ic 69 i_Proof_isRight_66 rfl (fun h66 => ?_) (fun h66 => ?_)
        · refine mw_k 74 i_Proof_isRight_73 rfl ?_
          refine mw_ri i_Proof_isRight_74 rfl rfl ?_
          simp only [mj_bI0, mj_bI1, Classical.not_not] at *
          first
          | exact mj_q0 (by simp_all [gw_rg]) k
          | exact mj_q1 (by simp_all [gw_rg]) k
        · refine mw_k 70 i_Proof_isRight_69 rfl ?_
          refine mw_go i_Proof_isRight_70 ?_
          refine mw_ri i_Proof_isRight_74 rfl rfl ?_
          simp only [mj_bI0, mj_bI1, Classical.not_not] at *
          first
          | exact mj_q0 (by simp_all [gw_rg]) k
          | exact mj_q1 (by simp_all [gw_rg]) k
    · refine mw_k 47 i_Proof_isRight_46 rfl ?_
      refine mw_ri i_Proof_isRight_47 rfl rfl ?_
      simp only [mj_bI0, mj_bI1, Classical.not_not] at *
      first
      | exact mj_q0 (by simp_all [gw_rg]) k
      | exact mj_q1 (by simp_all [gw_rg]) k
theorem sp_Proof_firstWrongRow {X : mj_X} {d : Nat} {σ : mj_H} {Q : Value → mj_H → Prop} {w h n : Nat} {s : Nat → Int32} {rows : Nat} {sz : Int32} {ce ab co wy bl : Nat → Int32} (hF : gw_pf σ.1 rows sz ce ab co wy bl) (hd : gw_dim w h) (hR : gw_rm σ.1 1 w h n s) (hU : gw_vup σ.1 w h n s) (k : Q (.int (gw_oI (gw_ff (fun i => !gw_rg w h n s sz (ce i) (wy i) (bl i)) rows))) σ) : mj_M X (d + 3) y_Proof_firstWrongRow [.ref 49] σ (mj_V Q) := by
  obtain ⟨t1, t2, t3, t4, t5, t6, t7⟩ := id hF
  refine mw_in (l0 := [some (.ref 49), none]) rfl ?_
  refine mw_k 1 i_Proof_firstWrongRow_0 rfl ?_
  refine mw_st (ls' := [_, _]) 2 i_Proof_firstWrongRow_1 rfl rfl rfl rfl ?_
  refine mj_for (S := Unit) (fun i _ => mj_Wp X (d + 3) y_Proof_firstWrongRow 2 [some (.ref 49), some (.int (nI i))] [] σ (mj_V Q)) (fun i _ => ∀ j, j < i → (!gw_rg w h n s sz (ce j) (wy j) (bl j)) = false) rows ?_ ?_ 0 () (Nat.zero_le _) (fun j hj => absurd hj (Nat.not_lt_zero j))
  · intro _ hI
    refine mw_ld 3 i_Proof_firstWrongRow_2 rfl rfl rfl ?_
    refine mw_ld 4 i_Proof_firstWrongRow_3 rfl rfl rfl ?_
    refine mw_get 7 i_Proof_firstWrongRow_4 rfl (by assumption) (by rfl) ?_
    refine mw_ic1 i_Proof_firstWrongRow_7 (nI_le (Nat.le_refl _) (by omega)) ?_
    refine mw_k 35 i_Proof_firstWrongRow_33 rfl ?_
    refine mw_ri i_Proof_firstWrongRow_35 rfl rfl ?_
    rw [gw_ff_none.mpr (fun c hc => hI c hc)] at k
    exact k
  · intro i _ hi hI ih
    refine mw_ld 3 i_Proof_firstWrongRow_2 rfl rfl rfl ?_
    refine mw_ld 4 i_Proof_firstWrongRow_3 rfl rfl rfl ?_
    refine mw_get 7 i_Proof_firstWrongRow_4 rfl (by assumption) (by rfl) ?_
    refine mw_ic0 10 i_Proof_firstWrongRow_7 rfl (nI_ge hi (by omega)) ?_
    refine mw_ld 11 i_Proof_firstWrongRow_10 rfl rfl rfl ?_
    refine mw_k 14 i_Proof_firstWrongRow_11 rfl ?_
    refine mw_ic0 17 i_Proof_firstWrongRow_14 rfl (nI_ge (a := i) (b := 600) (by omega) (by decide)) ?_
    refine mw_ld 18 i_Proof_firstWrongRow_17 rfl rfl rfl ?_
    refine mw_ld 19 i_Proof_firstWrongRow_18 rfl rfl rfl ?_
    refine mw_cv1 22 i_Proof_firstWrongRow_19 rfl (by assumption) (sp_Proof_isRight hF hd hR hU (by assumption) ?_) rfl rfl (Nat.le_of_ble_eq_true rfl) (Nat.le_of_ble_eq_true rfl)
    refine mw_if 25 i_Proof_firstWrongRow_22 rfl (fun h22 => ?_) (fun h22 => ?_)
    · refine mw_inc (ls' := [_, _]) 30 (nI (i + 1)) i_Proof_firstWrongRow_27 rfl rfl rfl (nI_1 i) rfl ?_
      refine mw_go i_Proof_firstWrongRow_30 ?_
      refine ih () (fun j hj => ?_)
      rcases Nat.lt_succ_iff_lt_or_eq.mp hj with q | q
      · exact hI j q
      · subst q
        rw [mj_bI1.mp h22]; rfl
    · refine mw_ld 26 i_Proof_firstWrongRow_25 rfl rfl rfl ?_
      refine mw_ri i_Proof_firstWrongRow_26 rfl rfl ?_
      rw [gw_ff_some hi (by rw [mj_bI0.mp (Classical.not_not.mp h22)]; rfl) hI] at k
      exact k
