/-! statics; Room: what is read -/
def gw_kind (k : Int32) : Bool := !decide (k < 0) && decide (k < 5)
def gw_in (n a b : Int32) : Bool := !decide (n < a) && !decide (b < n)
theorem gw_kind_of {k : Int32} (h : gw_kind k = true) : ∃ q, q < 5 ∧ k = nI q := by
  simp only [gw_kind, Bool.and_eq_true, Bool.not_eq_true', decide_eq_true_eq, decide_eq_false_iff_not] at h
  obtain ⟨h1, h2⟩ := h
  have h3 : ¬ k.toInt < 0 := fun q => h1 ((mj_lt _ _).mpr q)
  have h4 : k.toInt < 5 := (mj_lt _ _).mp h2
  exact ⟨k.toInt.toNat, by omega, mj_of (by omega)⟩
theorem gw_kind_nI : ∀ q, q < 5 → gw_kind (nI q) = true := by decide
def gw_isOf (k j : Int32) : Bool := gw_kind k && gw_kind j && ((mj_kd k.toNatClampNeg >>> (j &&& 31)) &&& 1 == 1)
theorem gw_isOf_1 : ∀ q, q < 5 → gw_isOf (nI q) 1 = gw_wedge (nI q) := by decide
theorem gw_isOf_2 : ∀ q, q < 5 → gw_isOf (nI q) 2 = gw_door (nI q) := by decide
def gw_acr (t : Int32) : Int32 := t / 20 - 10
def gw_dwn (t : Int32) : Int32 := t - t / 20 * 20 - 10
def gw_isd (t : Int32) : Bool := gw_in (gw_acr t) (-9) 9 && gw_in (gw_dwn t) (-9) 9 && (!(gw_acr t == 0) || !(gw_dwn t == 0))
def gw_trn (f t : Int32) : Int32 := gw_acr f * gw_dwn t - gw_dwn f * gw_acr t
def gw_dirs (f t : Int32) : Bool := gw_isd f && gw_isd t && (decide (0 < gw_trn f t) || (gw_trn f t == 0 && !decide (gw_acr f * gw_acr t + gw_dwn f * gw_dwn t ≤ 0)))
theorem sp_GW_isKind {X : mj_X} {d : Nat} {σ : mj_H} {Q : Value → mj_H → Prop} {c : Int32} (k : Q (.int (mj_bI (gw_kind c))) σ) : mj_M X d y_GW_isKind [.int c] σ (mj_V Q) := by
  refine mw_in (l0 := [some (.int c)]) rfl ?_
  refine mw_ld 1 i_GW_isKind_0 rfl rfl rfl ?_
  refine mw_if 4 i_GW_isKind_1 rfl (fun h1 => ?_) (fun h1 => ?_)
  · refine mw_k 17 i_GW_isKind_16 rfl ?_
    refine mw_ri i_GW_isKind_17 rfl rfl ?_
    first
    | exact mj_q0 (by simp_all [gw_kind]) k
    | exact mj_q1 (by simp_all [gw_kind]) k
  · refine mw_ld 5 i_GW_isKind_4 rfl rfl rfl ?_
    refine mw_gs 8 i_GW_isKind_5 rfl ?_
    refine mw_klen 9 i_GW_isKind_8 rfl ?_
    refine mw_ic 12 i_GW_isKind_9 rfl (fun h9 => ?_) (fun h9 => ?_)
    · refine mw_k 17 i_GW_isKind_16 rfl ?_
      refine mw_ri i_GW_isKind_17 rfl rfl ?_
      first
      | exact mj_q0 (by simp_all [gw_kind]) k
      | exact mj_q1 (by simp_all [gw_kind]) k
    · refine mw_k 13 i_GW_isKind_12 rfl ?_
      refine mw_go i_GW_isKind_13 ?_
      refine mw_ri i_GW_isKind_17 rfl rfl ?_
      first
      | exact mj_q0 (by simp_all [gw_kind]) k
      | exact mj_q1 (by simp_all [gw_kind]) k
theorem nI_cl5 {q : Nat} (h : q < 5) : (nI q).toNatClampNeg = q := nI_clamp (by omega)
theorem sp_GW_isKindOf {X : mj_X} {d : Nat} {σ : mj_H} {Q : Value → mj_H → Prop} {c j : Int32} (k : Q (.int (mj_bI (gw_isOf c j))) σ) : mj_M X (d + 1) y_GW_isKindOf [.int c, .int j] σ (mj_V Q) := by
  refine mw_in (l0 := [some (.int c), some (.int j)]) rfl ?_
  refine mw_ld 1 i_GW_isKindOf_0 rfl rfl rfl ?_
  refine mw_cs1 4 i_GW_isKindOf_1 rfl (sp_GW_isKind ?_) rfl rfl (Nat.le_of_ble_eq_true rfl) (Nat.le_of_ble_eq_true rfl)
  refine mw_if 7 i_GW_isKindOf_4 rfl (fun h4 => ?_) (fun h4 => ?_)
  · refine mw_k 32 i_GW_isKindOf_31 rfl ?_
    refine mw_ri i_GW_isKindOf_32 rfl rfl ?_
    first
    | exact mj_q0 (by simp_all [gw_isOf, mj_bI0, mj_bI1, nI_cl5]) k
    | exact mj_q1 (by simp_all [gw_isOf, mj_bI0, mj_bI1, nI_cl5]) k
  · refine mw_ld 8 i_GW_isKindOf_7 rfl rfl rfl ?_
    refine mw_cs1 11 i_GW_isKindOf_8 rfl (sp_GW_isKind ?_) rfl rfl (Nat.le_of_ble_eq_true rfl) (Nat.le_of_ble_eq_true rfl)
    refine mw_if 14 i_GW_isKindOf_11 rfl (fun h11 => ?_) (fun h11 => ?_)
    · refine mw_k 32 i_GW_isKindOf_31 rfl ?_
      refine mw_ri i_GW_isKindOf_32 rfl rfl ?_
      first
      | exact mj_q0 (by simp_all [gw_isOf, mj_bI0, mj_bI1, nI_cl5]) k
      | exact mj_q1 (by simp_all [gw_isOf, mj_bI0, mj_bI1, nI_cl5]) k
    · refine mw_gs 17 i_GW_isKindOf_14 rfl ?_
      refine mw_ld 18 i_GW_isKindOf_17 rfl rfl rfl ?_
      obtain ⟨q, hq, rfl⟩ := gw_kind_of (mj_bI1.mp h4)
      refine mw_kald 19 q i_GW_isKindOf_18 rfl rfl hq ?_
      refine mw_ld 20 i_GW_isKindOf_19 rfl rfl rfl ?_
      refine mw_b 21 i_GW_isKindOf_20 rfl ?_
      refine mw_k 22 i_GW_isKindOf_21 rfl ?_
      refine mw_b 23 i_GW_isKindOf_22 rfl ?_
      refine mw_k 24 i_GW_isKindOf_23 rfl ?_
      refine mw_ic 27 i_GW_isKindOf_24 rfl (fun h24 => ?_) (fun h24 => ?_)
      · refine mw_k 32 i_GW_isKindOf_31 rfl ?_
        refine mw_ri i_GW_isKindOf_32 rfl rfl ?_
        first
        | exact mj_q0 (by simp_all [gw_isOf, mj_bI0, mj_bI1, nI_cl5]) k
        | exact mj_q1 (by simp_all [gw_isOf, mj_bI0, mj_bI1, nI_cl5]) k
      · refine mw_k 28 i_GW_isKindOf_27 rfl ?_
        refine mw_go i_GW_isKindOf_28 ?_
        refine mw_ri i_GW_isKindOf_32 rfl rfl ?_
        first
        | exact mj_q0 (by simp_all [gw_isOf, mj_bI0, mj_bI1, nI_cl5]) k
        | exact mj_q1 (by simp_all [gw_isOf, mj_bI0, mj_bI1, nI_cl5]) k
theorem sp_GW_bit {X : mj_X} {d : Nat} {σ : mj_H} {Q : Value → mj_H → Prop} {b : Bool} (k : Q (.int (mj_bI b)) σ) : mj_M X d y_GW_bit [.int (mj_bI b)] σ (mj_V Q) := by
  refine mw_in (l0 := [some (.int (mj_bI b))]) rfl ?_
  refine mw_ld 1 i_GW_bit_0 rfl rfl rfl ?_
  refine mw_if 4 i_GW_bit_1 rfl (fun h1 => ?_) (fun h1 => ?_)
  · refine mw_k 9 i_GW_bit_8 rfl ?_
    refine mw_ri i_GW_bit_9 rfl rfl ?_
    first
    | exact mj_q0 (by simp_all [mj_bI0, mj_bI1]) k
    | exact mj_q1 (by simp_all [mj_bI0, mj_bI1]) k
  · refine mw_k 5 i_GW_bit_4 rfl ?_
    refine mw_go i_GW_bit_5 ?_
    refine mw_ri i_GW_bit_9 rfl rfl ?_
    first
    | exact mj_q0 (by simp_all [mj_bI0, mj_bI1]) k
    | exact mj_q1 (by simp_all [mj_bI0, mj_bI1]) k
theorem sp_GW_isWithin {X : mj_X} {d : Nat} {σ : mj_H} {Q : Value → mj_H → Prop} {a b c : Int32} (k : Q (.int (mj_bI (gw_in a b c))) σ) : mj_M X d y_GW_isWithin [.int a, .int b, .int c] σ (mj_V Q) := by
  refine mw_in (l0 := [some (.int a), some (.int b), some (.int c)]) rfl ?_
  refine mw_ld 1 i_GW_isWithin_0 rfl rfl rfl ?_
  refine mw_ld 2 i_GW_isWithin_1 rfl rfl rfl ?_
  refine mw_ic 5 i_GW_isWithin_2 rfl (fun h2 => ?_) (fun h2 => ?_)
  · refine mw_k 15 i_GW_isWithin_14 rfl ?_
    refine mw_ri i_GW_isWithin_15 rfl rfl ?_
    first
    | exact mj_q0 (by simp_all [gw_in]) k
    | exact mj_q1 (by simp_all [gw_in]) k
  · refine mw_ld 6 i_GW_isWithin_5 rfl rfl rfl ?_
    refine mw_ld 7 i_GW_isWithin_6 rfl rfl rfl ?_
    refine mw_ic 10 i_GW_isWithin_7 rfl (fun h7 => ?_) (fun h7 => ?_)
    · refine mw_k 15 i_GW_isWithin_14 rfl ?_
      refine mw_ri i_GW_isWithin_15 rfl rfl ?_
      first
      | exact mj_q0 (by simp_all [gw_in]) k
      | exact mj_q1 (by simp_all [gw_in]) k
    · refine mw_k 11 i_GW_isWithin_10 rfl ?_
      refine mw_go i_GW_isWithin_11 ?_
      refine mw_ri i_GW_isWithin_15 rfl rfl ?_
      first
      | exact mj_q0 (by simp_all [gw_in]) k
      | exact mj_q1 (by simp_all [gw_in]) k
theorem sp_GW_acrossOf {X : mj_X} {d : Nat} {σ : mj_H} {Q : Value → mj_H → Prop} {t : Int32} (k : Q (.int (gw_acr t)) σ) : mj_M X d y_GW_acrossOf [.int t] σ (mj_V Q) := by
  refine mw_in (l0 := [some (.int t)]) rfl ?_
  refine mw_ld 1 i_GW_acrossOf_0 rfl rfl rfl ?_
  refine mw_k 3 i_GW_acrossOf_1 rfl ?_
  refine mw_d 4 i_GW_acrossOf_3 rfl (by decide) ?_
  refine mw_k 6 i_GW_acrossOf_4 rfl ?_
  refine mw_b 7 i_GW_acrossOf_6 rfl ?_
  refine mw_ri i_GW_acrossOf_7 rfl rfl ?_
  exact k
theorem sp_GW_downOf {X : mj_X} {d : Nat} {σ : mj_H} {Q : Value → mj_H → Prop} {t : Int32} (k : Q (.int (gw_dwn t)) σ) : mj_M X d y_GW_downOf [.int t] σ (mj_V Q) := by
  refine mw_in (l0 := [some (.int t)]) rfl ?_
  refine mw_ld 1 i_GW_downOf_0 rfl rfl rfl ?_
  refine mw_k 3 i_GW_downOf_1 rfl ?_
  refine mw_d 4 i_GW_downOf_3 rfl (by decide) ?_
  refine mw_k 6 i_GW_downOf_4 rfl ?_
  refine mw_b 7 i_GW_downOf_6 rfl ?_
  refine mw_ri i_GW_downOf_7 rfl rfl ?_
  exact k
theorem sp_GW_told {X : mj_X} {d : Nat} {σ : mj_H} {Q : Value → mj_H → Prop} {a b : Int32} (k : Q (.int (gw_code a b)) σ) : mj_M X d y_GW_told [.int a, .int b] σ (mj_V Q) := by
  refine mw_in (l0 := [some (.int a), some (.int b)]) rfl ?_
  refine mw_k 2 i_GW_told_0 rfl ?_
  refine mw_ld 3 i_GW_told_2 rfl rfl rfl ?_
  refine mw_k 5 i_GW_told_3 rfl ?_
  refine mw_b 6 i_GW_told_5 rfl ?_
  refine mw_b 7 i_GW_told_6 rfl ?_
  refine mw_ld 8 i_GW_told_7 rfl rfl rfl ?_
  refine mw_b 9 i_GW_told_8 rfl ?_
  refine mw_k 11 i_GW_told_9 rfl ?_
  refine mw_b 12 i_GW_told_11 rfl ?_
  refine mw_ri i_GW_told_12 rfl rfl ?_
  exact k
theorem sp_GW_isDirection {X : mj_X} {d : Nat} {σ : mj_H} {Q : Value → mj_H → Prop} {t : Int32} (k : Q (.int (mj_bI (gw_isd t))) σ) : mj_M X (d + 1) y_GW_isDirection [.int t] σ (mj_V Q) := by
  refine mw_in (l0 := [some (.int t), none, none]) rfl ?_
  refine mw_ld 1 i_GW_isDirection_0 rfl rfl rfl ?_
  refine mw_cs1 4 i_GW_isDirection_1 rfl (sp_GW_acrossOf ?_) rfl rfl (Nat.le_of_ble_eq_true rfl) (Nat.le_of_ble_eq_true rfl)
  refine mw_st (ls' := [_, _, _]) 5 i_GW_isDirection_4 rfl rfl rfl rfl ?_
  refine mw_ld 6 i_GW_isDirection_5 rfl rfl rfl ?_
  refine mw_cs1 9 i_GW_isDirection_6 rfl (sp_GW_downOf ?_) rfl rfl (Nat.le_of_ble_eq_true rfl) (Nat.le_of_ble_eq_true rfl)
  refine mw_st (ls' := [_, _, _]) 10 i_GW_isDirection_9 rfl rfl rfl rfl ?_
  refine mw_ld 11 i_GW_isDirection_10 rfl rfl rfl ?_
  refine mw_k 13 i_GW_isDirection_11 rfl ?_
  refine mw_k 15 i_GW_isDirection_13 rfl ?_
  refine mw_cs1 18 i_GW_isDirection_15 rfl (sp_GW_isWithin ?_) rfl rfl (Nat.le_of_ble_eq_true rfl) (Nat.le_of_ble_eq_true rfl)
  refine mw_if 21 i_GW_isDirection_18 rfl (fun h18 => ?_) (fun h18 => ?_)
  · refine mw_k 45 i_GW_isDirection_44 rfl ?_
    refine mw_ri i_GW_isDirection_45 rfl rfl ?_
    first
    | exact mj_q0 (by simp_all [gw_isd, mj_bI0, mj_bI1]) k
    | exact mj_q1 (by simp_all [gw_isd, mj_bI0, mj_bI1]) k
  · refine mw_ld 22 i_GW_isDirection_21 rfl rfl rfl ?_
    refine mw_k 24 i_GW_isDirection_22 rfl ?_
    refine mw_k 26 i_GW_isDirection_24 rfl ?_
    refine mw_cs1 29 i_GW_isDirection_26 rfl (sp_GW_isWithin ?_) rfl rfl (Nat.le_of_ble_eq_true rfl) (Nat.le_of_ble_eq_true rfl)
    refine mw_if 32 i_GW_isDirection_29 rfl (fun h29 => ?_) (fun h29 => ?_)
    · refine mw_k 45 i_GW_isDirection_44 rfl ?_
      refine mw_ri i_GW_isDirection_45 rfl rfl ?_
      first
      | exact mj_q0 (by simp_all [gw_isd, mj_bI0, mj_bI1]) k
      | exact mj_q1 (by simp_all [gw_isd, mj_bI0, mj_bI1]) k
    · refine mw_ld 33 i_GW_isDirection_32 rfl rfl rfl ?_
      refine mw_if 36 i_GW_isDirection_33 rfl (fun h33 => ?_) (fun h33 => ?_)
      · refine mw_k 41 i_GW_isDirection_40 rfl ?_
        refine mw_go i_GW_isDirection_41 ?_
        refine mw_ri i_GW_isDirection_45 rfl rfl ?_
        first
        | exact mj_q0 (by simp_all [gw_isd, mj_bI0, mj_bI1]) k
        | exact mj_q1 (by simp_all [gw_isd, mj_bI0, mj_bI1]) k
      · refine mw_ld 37 i_GW_isDirection_36 rfl rfl rfl ?_
        refine mw_if 40 i_GW_isDirection_37 rfl (fun h37 => ?_) (fun h37 => ?_)
        · refine mw_k 45 i_GW_isDirection_44 rfl ?_
          refine mw_ri i_GW_isDirection_45 rfl rfl ?_
          first
          | exact mj_q0 (by simp_all [gw_isd, mj_bI0, mj_bI1]) k
          | exact mj_q1 (by simp_all [gw_isd, mj_bI0, mj_bI1]) k
        · refine mw_k 41 i_GW_isDirection_40 rfl ?_
          refine mw_go i_GW_isDirection_41 ?_
          refine mw_ri i_GW_isDirection_45 rfl rfl ?_
          first
          | exact mj_q0 (by simp_all [gw_isd, mj_bI0, mj_bI1]) k
          | exact mj_q1 (by simp_all [gw_isd, mj_bI0, mj_bI1]) k
theorem sp_GW_areDirections {X : mj_X} {d : Nat} {σ : mj_H} {Q : Value → mj_H → Prop} {f t : Int32} (k : Q (.int (mj_bI (gw_dirs f t))) σ) : mj_M X (d + 2) y_GW_areDirections [.int f, .int t] σ (mj_V Q) := by
  refine mw_in (l0 := [some (.int f), some (.int t), none, none, none, none, none]) rfl ?_
  refine mw_ld 1 i_GW_areDirections_0 rfl rfl rfl ?_
  refine mw_cs1 4 i_GW_areDirections_1 rfl (sp_GW_isDirection ?_) rfl rfl (Nat.le_of_ble_eq_true rfl) (Nat.le_of_ble_eq_true rfl)
  refine mw_if 7 i_GW_areDirections_4 rfl (fun h4 => ?_) (fun h4 => ?_)
  · refine mw_k 15 i_GW_areDirections_14 rfl ?_
    refine mw_ri i_GW_areDirections_15 rfl rfl ?_
    first
    | exact mj_q0 (by simp only [mj_bI0, mj_bI1, Classical.not_not, Bool.not_eq_false] at *; simp [gw_dirs, gw_trn, *]) k
    | exact mj_q1 (by simp only [mj_bI0, mj_bI1, Classical.not_not, Bool.not_eq_false] at *; simp [gw_dirs, gw_trn, *]) k
  · refine mw_ld 8 i_GW_areDirections_7 rfl rfl rfl ?_
    refine mw_cs1 11 i_GW_areDirections_8 rfl (sp_GW_isDirection ?_) rfl rfl (Nat.le_of_ble_eq_true rfl) (Nat.le_of_ble_eq_true rfl)
    refine mw_if 14 i_GW_areDirections_11 rfl (fun h11 => ?_) (fun h11 => ?_)
    · refine mw_ld 17 i_GW_areDirections_16 rfl rfl rfl ?_
      refine mw_cs1 20 i_GW_areDirections_17 rfl (sp_GW_acrossOf ?_) rfl rfl (Nat.le_of_ble_eq_true rfl) (Nat.le_of_ble_eq_true rfl)
      refine mw_st (ls' := [_, _, _, _, _, _, _]) 21 i_GW_areDirections_20 rfl rfl rfl rfl ?_
      refine mw_ld 22 i_GW_areDirections_21 rfl rfl rfl ?_
      refine mw_cs1 25 i_GW_areDirections_22 rfl (sp_GW_downOf ?_) rfl rfl (Nat.le_of_ble_eq_true rfl) (Nat.le_of_ble_eq_true rfl)
      refine mw_st (ls' := [_, _, _, _, _, _, _]) 26 i_GW_areDirections_25 rfl rfl rfl rfl ?_
      refine mw_ld 27 i_GW_areDirections_26 rfl rfl rfl ?_
      refine mw_cs1 30 i_GW_areDirections_27 rfl (sp_GW_acrossOf ?_) rfl rfl (Nat.le_of_ble_eq_true rfl) (Nat.le_of_ble_eq_true rfl)
      refine mw_st (ls' := [_, _, _, _, _, _, _]) 32 i_GW_areDirections_30 rfl rfl rfl rfl ?_
      refine mw_ld 33 i_GW_areDirections_32 rfl rfl rfl ?_
      refine mw_cs1 36 i_GW_areDirections_33 rfl (sp_GW_downOf ?_) rfl rfl (Nat.le_of_ble_eq_true rfl) (Nat.le_of_ble_eq_true rfl)
      refine mw_st (ls' := [_, _, _, _, _, _, _]) 38 i_GW_areDirections_36 rfl rfl rfl rfl ?_
      refine mw_ld 39 i_GW_areDirections_38 rfl rfl rfl ?_
      refine mw_ld 41 i_GW_areDirections_39 rfl rfl rfl ?_
      refine mw_b 42 i_GW_areDirections_41 rfl ?_
      refine mw_ld 43 i_GW_areDirections_42 rfl rfl rfl ?_
      refine mw_ld 45 i_GW_areDirections_43 rfl rfl rfl ?_
      refine mw_b 46 i_GW_areDirections_45 rfl ?_
      refine mw_b 47 i_GW_areDirections_46 rfl ?_
      refine mw_st (ls' := [_, _, _, _, _, _, _]) 49 i_GW_areDirections_47 rfl rfl rfl rfl ?_
      refine mw_ld 51 i_GW_areDirections_49 rfl rfl rfl ?_
      refine mw_if 54 i_GW_areDirections_51 rfl (fun h51 => ?_) (fun h51 => ?_)
      · refine mw_k 72 i_GW_areDirections_71 rfl ?_
        refine mw_go i_GW_areDirections_72 ?_
        refine mw_ri i_GW_areDirections_76 rfl rfl ?_
        first
        | exact mj_q0 (by simp only [mj_bI0, mj_bI1, Classical.not_not, Bool.not_eq_false] at *; simp [gw_dirs, gw_trn, *]) k
        | exact mj_q1 (by simp only [mj_bI0, mj_bI1, Classical.not_not, Bool.not_eq_false] at *; simp [gw_dirs, gw_trn, *]) k
      · refine mw_ld 56 i_GW_areDirections_54 rfl rfl rfl ?_
        refine mw_if 59 i_GW_areDirections_56 rfl (fun h56 => ?_) (fun h56 => ?_)
        · refine mw_k 76 i_GW_areDirections_75 rfl ?_
          refine mw_ri i_GW_areDirections_76 rfl rfl ?_
          first
          | exact mj_q0 (by simp only [mj_bI0, mj_bI1, Classical.not_not, Bool.not_eq_false] at *; simp [gw_dirs, gw_trn, *]) k
          | exact mj_q1 (by simp only [mj_bI0, mj_bI1, Classical.not_not, Bool.not_eq_false] at *; simp [gw_dirs, gw_trn, *]) k
        · refine mw_ld 60 i_GW_areDirections_59 rfl rfl rfl ?_
          refine mw_ld 62 i_GW_areDirections_60 rfl rfl rfl ?_
          refine mw_b 63 i_GW_areDirections_62 rfl ?_
          refine mw_ld 64 i_GW_areDirections_63 rfl rfl rfl ?_
          refine mw_ld 66 i_GW_areDirections_64 rfl rfl rfl ?_
          refine mw_b 67 i_GW_areDirections_66 rfl ?_
          refine mw_b 68 i_GW_areDirections_67 rfl ?_
          refine mw_if 71 i_GW_areDirections_68 rfl (fun h68 => ?_) (fun h68 => ?_)
          · refine mw_k 76 i_GW_areDirections_75 rfl ?_
            refine mw_ri i_GW_areDirections_76 rfl rfl ?_
            first
            | exact mj_q0 (by simp only [mj_bI0, mj_bI1, Classical.not_not, Bool.not_eq_false] at *; simp [gw_dirs, gw_trn, *]) k
            | exact mj_q1 (by simp only [mj_bI0, mj_bI1, Classical.not_not, Bool.not_eq_false] at *; simp [gw_dirs, gw_trn, *]) k
          · refine mw_k 72 i_GW_areDirections_71 rfl ?_
            refine mw_go i_GW_areDirections_72 ?_
            refine mw_ri i_GW_areDirections_76 rfl rfl ?_
            first
            | exact mj_q0 (by simp only [mj_bI0, mj_bI1, Classical.not_not, Bool.not_eq_false] at *; simp [gw_dirs, gw_trn, *]) k
            | exact mj_q1 (by simp only [mj_bI0, mj_bI1, Classical.not_not, Bool.not_eq_false] at *; simp [gw_dirs, gw_trn, *]) k
    · refine mw_k 15 i_GW_areDirections_14 rfl ?_
      refine mw_ri i_GW_areDirections_15 rfl rfl ?_
      first
      | exact mj_q0 (by simp only [mj_bI0, mj_bI1, Classical.not_not, Bool.not_eq_false] at *; simp [gw_dirs, gw_trn, *]) k
      | exact mj_q1 (by simp only [mj_bI0, mj_bI1, Classical.not_not, Bool.not_eq_false] at *; simp [gw_dirs, gw_trn, *]) k
theorem sp_Room_hasCell {X : mj_X} {d : Nat} {σ : mj_H} {Q : Value → mj_H → Prop} {r w h n : Nat} {s : Nat → Int32} {c : Int32} (hd : gw_dim w h) (hR : gw_rm σ.1 r w h n s) (k : Q (.int (mj_bI (gw_ce w h c))) σ) : mj_M X d y_Room_hasCell [.ref r, .int c] σ (mj_V Q) := by
  obtain ⟨wl, ps, c1, c2, c3, c4, c5⟩ := id hR
  have hwh := gw_dim_le hd
  refine mw_in (l0 := [some (.ref r), some (.int c)]) rfl ?_
  refine mw_ld 1 i_Room_hasCell_0 rfl rfl rfl ?_
  refine mw_if 4 i_Room_hasCell_1 rfl (fun h1 => ?_) (fun h1 => ?_)
  · refine mw_k 28 i_Room_hasCell_27 rfl ?_
    refine mw_ri i_Room_hasCell_28 rfl rfl ?_
    first
      | exact mj_q0 (gw_ce_not.mpr (by simp only [pk_mul, mj_lt, mj_le, mj_lit0, mj_nI _ (show w * h < 2147483648 by omega), mj_lit 100 (by decide)] at *; omega)) k
      | exact mj_q1 (gw_ce_iff.mpr (by simp only [pk_mul, mj_lt, mj_le, mj_lit0, mj_nI _ (show w * h < 2147483648 by omega), mj_lit 100 (by decide)] at *; omega)) k
  · refine mw_ld 5 i_Room_hasCell_4 rfl rfl rfl ?_
    refine mw_ld 6 i_Room_hasCell_5 rfl rfl rfl ?_
    refine mw_get 9 i_Room_hasCell_6 rfl (by assumption) (by rfl) ?_
    refine mw_ld 10 i_Room_hasCell_9 rfl rfl rfl ?_
    refine mw_get 13 i_Room_hasCell_10 rfl (by assumption) (by rfl) ?_
    refine mw_b 14 i_Room_hasCell_13 rfl ?_
    refine mw_ic 17 i_Room_hasCell_14 rfl (fun h14 => ?_) (fun h14 => ?_)
    · refine mw_k 28 i_Room_hasCell_27 rfl ?_
      refine mw_ri i_Room_hasCell_28 rfl rfl ?_
      first
        | exact mj_q0 (gw_ce_not.mpr (by simp only [pk_mul, mj_lt, mj_le, mj_lit0, mj_nI _ (show w * h < 2147483648 by omega), mj_lit 100 (by decide)] at *; omega)) k
        | exact mj_q1 (gw_ce_iff.mpr (by simp only [pk_mul, mj_lt, mj_le, mj_lit0, mj_nI _ (show w * h < 2147483648 by omega), mj_lit 100 (by decide)] at *; omega)) k
    · refine mw_ld 18 i_Room_hasCell_17 rfl rfl rfl ?_
      refine mw_k 20 i_Room_hasCell_18 rfl ?_
      refine mw_ic 23 i_Room_hasCell_20 rfl (fun h20 => ?_) (fun h20 => ?_)
      · refine mw_k 28 i_Room_hasCell_27 rfl ?_
        refine mw_ri i_Room_hasCell_28 rfl rfl ?_
        first
          | exact mj_q0 (gw_ce_not.mpr (by simp only [pk_mul, mj_lt, mj_le, mj_lit0, mj_nI _ (show w * h < 2147483648 by omega), mj_lit 100 (by decide)] at *; omega)) k
          | exact mj_q1 (gw_ce_iff.mpr (by simp only [pk_mul, mj_lt, mj_le, mj_lit0, mj_nI _ (show w * h < 2147483648 by omega), mj_lit 100 (by decide)] at *; omega)) k
      · refine mw_k 24 i_Room_hasCell_23 rfl ?_
        refine mw_go i_Room_hasCell_24 ?_
        refine mw_ri i_Room_hasCell_28 rfl rfl ?_
        first
          | exact mj_q0 (gw_ce_not.mpr (by simp only [pk_mul, mj_lt, mj_le, mj_lit0, mj_nI _ (show w * h < 2147483648 by omega), mj_lit 100 (by decide)] at *; omega)) k
          | exact mj_q1 (gw_ce_iff.mpr (by simp only [pk_mul, mj_lt, mj_le, mj_lit0, mj_nI _ (show w * h < 2147483648 by omega), mj_lit 100 (by decide)] at *; omega)) k
theorem sp_Room_isOpen {X : mj_X} {d : Nat} {σ : mj_H} {Q : Value → mj_H → Prop} {r w h n : Nat} {s : Nat → Int32} {c : Int32} (hd : gw_dim w h) (hR : gw_rm σ.1 r w h n s) (k : Q (.int (mj_bI (gw_op w h s c))) σ) : mj_M X (d + 1) y_Room_isOpen [.ref r, .int c] σ (mj_V Q) := by
  obtain ⟨wl, ps, c1, c2, c3, c4, c5⟩ := id hR
  have hwh := gw_dim_le hd
  refine mw_in (l0 := [some (.ref r), some (.int c)]) rfl ?_
  refine mw_ld 1 i_Room_isOpen_0 rfl rfl rfl ?_
  refine mw_ld 2 i_Room_isOpen_1 rfl rfl rfl ?_
  refine mw_cv1 5 i_Room_isOpen_2 rfl (by assumption) (sp_Room_hasCell hd hR ?_) rfl rfl (Nat.le_of_ble_eq_true rfl) (Nat.le_of_ble_eq_true rfl)
  refine mw_if 8 i_Room_isOpen_5 rfl (fun h5 => ?_) (fun h5 => ?_)
  · refine mw_k 22 i_Room_isOpen_21 rfl ?_
    refine mw_ri i_Room_isOpen_22 rfl rfl ?_
    first
      | exact mj_q0 (by rw [gw_op, mj_bI0.mp h5]; rfl) k
      | exact mj_q0 (by rw [gw_op_nI (by omega), ← c4 q (by omega)]; simp [h14]) k
      | exact mj_q1 (by rw [gw_op_nI (by omega), ← c4 q (by omega)]; simp [hq, Classical.not_not.mp h14]) k
  · refine mw_ld 9 i_Room_isOpen_8 rfl rfl rfl ?_
    refine mw_get 12 i_Room_isOpen_9 rfl (by assumption) (by rfl) ?_
    refine mw_ld 13 i_Room_isOpen_12 rfl rfl rfl ?_
    obtain ⟨q, hq, rfl⟩ := gw_ce_of hd (mj_bI1.mp h5)
    refine mw_iald 14 q i_Room_isOpen_13 rfl c2 rfl (by omega) (by decide) ?_
    refine mw_if 17 i_Room_isOpen_14 rfl (fun h14 => ?_) (fun h14 => ?_)
    · refine mw_k 22 i_Room_isOpen_21 rfl ?_
      refine mw_ri i_Room_isOpen_22 rfl rfl ?_
      first
        | exact mj_q0 (by rw [gw_op, mj_bI0.mp h5]; rfl) k
        | exact mj_q0 (by rw [gw_op_nI (by omega), ← c4 q (by omega)]; simp [h14]) k
        | exact mj_q1 (by rw [gw_op_nI (by omega), ← c4 q (by omega)]; simp [hq, Classical.not_not.mp h14]) k
    · refine mw_k 18 i_Room_isOpen_17 rfl ?_
      refine mw_go i_Room_isOpen_18 ?_
      refine mw_ri i_Room_isOpen_22 rfl rfl ?_
      first
        | exact mj_q0 (by rw [gw_op, mj_bI0.mp h5]; rfl) k
        | exact mj_q0 (by rw [gw_op_nI (by omega), ← c4 q (by omega)]; simp [h14]) k
        | exact mj_q1 (by rw [gw_op_nI (by omega), ← c4 q (by omega)]; simp [hq, Classical.not_not.mp h14]) k
theorem sp_Room_rowOf {X : mj_X} {d : Nat} {σ : mj_H} {Q : Value → mj_H → Prop} {r w h n : Nat} {s : Nat → Int32} {c : Nat} (hc : c < 2147483648) (hd : gw_dim w h) (hR : gw_rm σ.1 r w h n s) (k : Q (.int (nI (c / w))) σ) : mj_M X d y_Room_rowOf [.ref r, .int (nI c)] σ (mj_V Q) := by
  obtain ⟨wl, ps, c1, c2, c3, c4, c5⟩ := id hR
  have hw1 := hd.1
  have hw2 := hd.2.1
  refine mw_in (l0 := [some (.ref r), some (.int (nI c))]) rfl ?_
  refine mw_ld 1 i_Room_rowOf_0 rfl rfl rfl ?_
  refine mw_get 4 i_Room_rowOf_1 rfl (by assumption) (by rfl) ?_
  refine mw_k 5 i_Room_rowOf_4 rfl ?_
  refine mw_ic1 i_Room_rowOf_5 (by simp only [mj_le, mj_nI w (by omega), mj_lit 1 (by decide)]; omega) ?_
  refine mw_ld 13 i_Room_rowOf_12 rfl rfl rfl ?_
  refine mw_ld 14 i_Room_rowOf_13 rfl rfl rfl ?_
  refine mw_get 17 i_Room_rowOf_14 rfl (by assumption) (by rfl) ?_
  refine mw_d 18 i_Room_rowOf_17 rfl (nI_ne0 (by omega) (by omega)) ?_
  refine mw_ri i_Room_rowOf_18 rfl rfl ?_
  rw [pk_div hc (by omega) (by omega)]
  exact k
theorem sp_Room_columnOf {X : mj_X} {d : Nat} {σ : mj_H} {Q : Value → mj_H → Prop} {r w h n : Nat} {s : Nat → Int32} {c : Nat} (hc : c < 2147483648) (hd : gw_dim w h) (hR : gw_rm σ.1 r w h n s) (k : Q (.int (nI (c % w))) σ) : mj_M X d y_Room_columnOf [.ref r, .int (nI c)] σ (mj_V Q) := by
  obtain ⟨wl, ps, c1, c2, c3, c4, c5⟩ := id hR
  have hw1 := hd.1
  have hw2 := hd.2.1
  refine mw_in (l0 := [some (.ref r), some (.int (nI c))]) rfl ?_
  refine mw_ld 1 i_Room_columnOf_0 rfl rfl rfl ?_
  refine mw_get 4 i_Room_columnOf_1 rfl (by assumption) (by rfl) ?_
  refine mw_k 5 i_Room_columnOf_4 rfl ?_
  refine mw_ic1 i_Room_columnOf_5 (by simp only [mj_le, mj_nI w (by omega), mj_lit 1 (by decide)]; omega) ?_
  refine mw_ld 13 i_Room_columnOf_12 rfl rfl rfl ?_
  refine mw_ld 14 i_Room_columnOf_13 rfl rfl rfl ?_
  refine mw_get 17 i_Room_columnOf_14 rfl (by assumption) (by rfl) ?_
  refine mw_d 18 i_Room_columnOf_17 rfl (nI_ne0 (by omega) (by omega)) ?_
  refine mw_ri i_Room_columnOf_18 rfl rfl ?_
  rw [pk_rem hc (by omega) (by omega)]
  exact k
theorem sp_Room_cells {X : mj_X} {d : Nat} {σ : mj_H} {Q : Value → mj_H → Prop} {r w h n : Nat} {s : Nat → Int32} (hR : gw_rm σ.1 r w h n s) (k : Q (.int (nI (w * h))) σ) : mj_M X d y_Room_cells [.ref r] σ (mj_V Q) := by
  obtain ⟨wl, ps, c1, c2, c3, c4, c5⟩ := id hR
  refine mw_in (l0 := [some (.ref r)]) rfl ?_
  refine mw_ld 1 i_Room_cells_0 rfl rfl rfl ?_
  refine mw_get 4 i_Room_cells_1 rfl (by assumption) (by rfl) ?_
  refine mw_ld 5 i_Room_cells_4 rfl rfl rfl ?_
  refine mw_get 8 i_Room_cells_5 rfl (by assumption) (by rfl) ?_
  refine mw_b 9 i_Room_cells_8 rfl ?_
  refine mw_ri i_Room_cells_9 rfl rfl ?_
  rw [pk_mul]
  exact k
theorem sp_Room_posts {X : mj_X} {d : Nat} {σ : mj_H} {Q : Value → mj_H → Prop} {r w h n : Nat} {s : Nat → Int32} (hR : gw_rm σ.1 r w h n s) (k : Q (.int (nI n)) σ) : mj_M X d y_Room_posts [.ref r] σ (mj_V Q) := by
  obtain ⟨wl, ps, c1, c2, c3, c4, c5⟩ := id hR
  refine mw_in (l0 := [some (.ref r)]) rfl ?_
  refine mw_ld 1 i_Room_posts_0 rfl rfl rfl ?_
  refine mw_get 4 i_Room_posts_1 rfl (by assumption) (by rfl) ?_
  refine mw_ri i_Room_posts_4 rfl rfl ?_
  exact k
def gw_all (n : Nat) : Int32 := (1 : Int32) <<< (nI n &&& 31) - 1
def gw_has (n : Nat) (z : Int32) : Bool := z &&& (gw_all n ^^^ (-1)) == 0
theorem sp_Room_allPosts {X : mj_X} {d : Nat} {σ : mj_H} {Q : Value → mj_H → Prop} {r w h n : Nat} {s : Nat → Int32} (hR : gw_rm σ.1 r w h n s) (k : Q (.int (gw_all n)) σ) : mj_M X d y_Room_allPosts [.ref r] σ (mj_V Q) := by
  obtain ⟨wl, ps, c1, c2, c3, c4, c5⟩ := id hR
  refine mw_in (l0 := [some (.ref r)]) rfl ?_
  refine mw_k 1 i_Room_allPosts_0 rfl ?_
  refine mw_ld 2 i_Room_allPosts_1 rfl rfl rfl ?_
  refine mw_get 5 i_Room_allPosts_2 rfl (by assumption) (by rfl) ?_
  refine mw_b 6 i_Room_allPosts_5 rfl ?_
  refine mw_k 7 i_Room_allPosts_6 rfl ?_
  refine mw_b 8 i_Room_allPosts_7 rfl ?_
  refine mw_ri i_Room_allPosts_8 rfl rfl ?_
  exact k
theorem sp_Room_hasPosts {X : mj_X} {d : Nat} {σ : mj_H} {Q : Value → mj_H → Prop} {r w h n : Nat} {s : Nat → Int32} {z : Int32} (hR : gw_rm σ.1 r w h n s) (k : Q (.int (mj_bI (gw_has n z))) σ) : mj_M X (d + 1) y_Room_hasPosts [.ref r, .int z] σ (mj_V Q) := by
  obtain ⟨wl, ps, c1, c2, c3, c4, c5⟩ := id hR
  refine mw_in (l0 := [some (.ref r), some (.int z)]) rfl ?_
  refine mw_ld 1 i_Room_hasPosts_0 rfl rfl rfl ?_
  refine mw_ld 2 i_Room_hasPosts_1 rfl rfl rfl ?_
  refine mw_cv1 5 i_Room_hasPosts_2 rfl (by assumption) (sp_Room_allPosts hR ?_) rfl rfl (Nat.le_of_ble_eq_true rfl) (Nat.le_of_ble_eq_true rfl)
  refine mw_k 6 i_Room_hasPosts_5 rfl ?_
  refine mw_b 7 i_Room_hasPosts_6 rfl ?_
  refine mw_b 8 i_Room_hasPosts_7 rfl ?_
  refine mw_if 11 i_Room_hasPosts_8 rfl (fun h8 => ?_) (fun h8 => ?_)
  · refine mw_k 16 i_Room_hasPosts_15 rfl ?_
    refine mw_ri i_Room_hasPosts_16 rfl rfl ?_
    first
    | exact mj_q0 (by simp_all [gw_has]) k
    | exact mj_q1 (by simp_all [gw_has]) k
  · refine mw_k 12 i_Room_hasPosts_11 rfl ?_
    refine mw_go i_Room_hasPosts_12 ?_
    refine mw_ri i_Room_hasPosts_16 rfl rfl ?_
    first
    | exact mj_q0 (by simp_all [gw_has]) k
    | exact mj_q1 (by simp_all [gw_has]) k
def gw_isP (n : Nat) (z : Int32) : Bool := decide (0 ≤ z.toInt) && decide (z.toInt < (n : Int))
theorem gw_isP_iff {n : Nat} {z : Int32} : gw_isP n z = true ↔ 0 ≤ z.toInt ∧ z.toInt < (n : Int) := by simp [gw_isP]
theorem sp_Room_postAt_out {X : mj_X} {d : Nat} {σ : mj_H} {Q : Value → mj_H → Prop} {r w h n : Nat} {s : Nat → Int32} {z : Int32} (hn : n ≤ 14) (hR : gw_rm σ.1 r w h n s) (hz : gw_isP n z = false) (k : Q .null σ) : mj_M X d y_Room_postAt [.ref r, .int z] σ (mj_V Q) := by
  obtain ⟨wl, ps, c1, c2, c3, c4, c5⟩ := id hR
  have hz2 : ¬ (0 ≤ z.toInt ∧ z.toInt < (n : Int)) := by rw [← gw_isP_iff, hz]; decide
  refine mw_in (l0 := [some (.ref r), some (.int z)]) rfl ?_
  refine mw_ld 1 i_Room_postAt_0 rfl rfl rfl ?_
  refine mw_if 4 i_Room_postAt_1 rfl (fun h1 => ?_) (fun h1 => ?_)
  · refine mw_k 28 i_Room_postAt_27 rfl ?_
    refine mw_ra none i_Room_postAt_28 rfl rfl ?_
    exact k
  · refine mw_ld 5 i_Room_postAt_4 rfl rfl rfl ?_
    refine mw_ld 6 i_Room_postAt_5 rfl rfl rfl ?_
    refine mw_get 9 i_Room_postAt_6 rfl (by assumption) (by rfl) ?_
    refine mw_ic 12 i_Room_postAt_9 rfl (fun h9 => ?_) (fun h9 => ?_)
    · refine mw_k 28 i_Room_postAt_27 rfl ?_
      refine mw_ra none i_Room_postAt_28 rfl rfl ?_
      exact k
    · refine mw_ld 13 i_Room_postAt_12 rfl rfl rfl ?_
      refine mw_k 15 i_Room_postAt_13 rfl ?_
      refine mw_ic 18 i_Room_postAt_15 rfl (fun h15 => ?_) (fun h15 => ?_)
      · refine mw_k 28 i_Room_postAt_27 rfl ?_
        refine mw_ra none i_Room_postAt_28 rfl rfl ?_
        exact k
      · exact absurd h15 (by intro _; exact hz2 (by simp only [mj_lt, mj_le, mj_lit0, mj_nI _ (show n < 2147483648 by omega), mj_lit 14 (by decide)] at *; omega))
theorem sp_Room_postAt_in {X : mj_X} {d : Nat} {σ : mj_H} {Q : Value → mj_H → Prop} {r w h n : Nat} {s : Nat → Int32} {z : Nat} (hn : n ≤ 14) (hR : gw_rm σ.1 r w h n s) (hz : z < n) (k : ∀ p, 71 ≤ p → σ.1 p = mj_O 2 (gw_po s z) → Q (.ref p) σ) : mj_M X d y_Room_postAt [.ref r, .int (nI z)] σ (mj_V Q) := by
  obtain ⟨wl, ps, c1, c2, c3, c4, c5⟩ := id hR
  obtain ⟨p, hp0, hp1, hp2⟩ := (c5 z (by omega)).1 hz
  refine mw_in (l0 := [some (.ref r), some (.int (nI z))]) rfl ?_
  refine mw_ld 1 i_Room_postAt_0 rfl rfl rfl ?_
  refine mw_if0 4 i_Room_postAt_1 rfl (nI_pos (by omega)) ?_
  refine mw_ld 5 i_Room_postAt_4 rfl rfl rfl ?_
  refine mw_ld 6 i_Room_postAt_5 rfl rfl rfl ?_
  refine mw_get 9 i_Room_postAt_6 rfl (by assumption) (by rfl) ?_
  refine mw_ic0 12 i_Room_postAt_9 rfl (nI_ge hz (by omega)) ?_
  refine mw_ld 13 i_Room_postAt_12 rfl rfl rfl ?_
  refine mw_k 15 i_Room_postAt_13 rfl ?_
  refine mw_ic0 18 i_Room_postAt_15 rfl (nI_ge (a := z) (b := 14) (by omega) (by decide)) ?_
  refine mw_ld 19 i_Room_postAt_18 rfl rfl rfl ?_
  refine mw_get 22 i_Room_postAt_19 rfl (by assumption) (by rfl) ?_
  refine mw_ld 23 i_Room_postAt_22 rfl rfl rfl ?_
  refine mw_aald 24 z i_Room_postAt_23 rfl (by decide) c3 rfl (by omega) (by decide) ?_
  rw [hp1]
  refine mw_go i_Room_postAt_24 ?_
  refine mw_ra (some p) i_Room_postAt_28 rfl rfl ?_
  exact k p hp0 hp2
