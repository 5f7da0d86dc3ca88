/-! the model: walls -/
theorem gw_aw_out {w h : Nat} {s : Nat → Int32} {c : Nat} (hd : gw_dim w h) (hc : c < w * h) (ho : c / w = 0 ∨ c % w = 0 ∨ c / w = h - 1 ∨ c % w = w - 1) : gw_aw w h s c = true := by
  have hm : gw_op w h s (-1) = false := by
    have : gw_ce w h (-1) = false := by
      rw [gw_ce_not]
      intro q
      have e : (-1 : Int32).toInt = -1 := by decide
      omega
    simp [gw_op, this]
  simp only [gw_aw, List.any_eq_true, List.mem_range]
  have key : ∀ i, i < 4 → gw_be w h c i = -1 → ∃ x, x < 4 ∧ (!gw_op w h s (gw_be w h c x)) = true := fun i hi e => ⟨i, hi, by rw [e, hm]; rfl⟩
  rcases ho with q | q | q | q
  · exact key 0 (by decide) (by simp only [gw_be]; rw [if_neg (by omega)])
  · exact key 1 (by decide) (by simp only [gw_be]; rw [if_neg (by omega)])
  · exact key 3 (by decide) (by simp only [gw_be]; rw [if_neg (by rw [q]; omega)])
  · exact key 2 (by decide) (by simp only [gw_be]; rw [if_neg (by rw [q]; omega)])
theorem gw_in_nb {w h c : Nat} (hd : gw_dim w h) (hc : c < w * h) (ho : ¬ (c / w = 0 ∨ c % w = 0 ∨ c / w = h - 1 ∨ c % w = w - 1)) : w ≤ c ∧ 1 ≤ c ∧ c + 1 < w * h ∧ c + w < w * h := by
  have hw1 := hd.1
  have hq : c / w < h := Nat.div_lt_of_lt_mul hc
  have hm : c % w < w := Nat.mod_lt _ (by omega)
  have hdm := Nat.div_add_mod c w
  have hp0 : 0 < c / w := Nat.pos_of_ne_zero (fun q => ho (.inl q))
  have h1 : w ≤ c := gw_div_le hp0
  have h2 : w * (c / w + 2) ≤ w * h := Nat.mul_le_mul_left w (by generalize c / w = q at *; omega)
  rw [Nat.mul_add] at h2
  generalize w * (c / w) = z at *
  omega
theorem gw_aw_in {w h : Nat} {s : Nat → Int32} {c : Nat} (hd : gw_dim w h) (hc : c < w * h) (ho : ¬ (c / w = 0 ∨ c % w = 0 ∨ c / w = h - 1 ∨ c % w = w - 1)) : gw_aw w h s c = (!(s (c - w) == 0) || !(s (c - 1) == 0) || !(s (c + 1) == 0) || !(s (c + w) == 0)) := by
  obtain ⟨h1, h2, h3, h4⟩ := gw_in_nb hd hc ho
  have hw1 := hd.1
  have hwh := gw_dim_le hd
  have hq : c / w < h := Nat.div_lt_of_lt_mul hc
  have hm : c % w < w := Nat.mod_lt _ (by omega)
  have e0 : gw_be w h c 0 = nI (c - w) := by simp only [gw_be]; rw [if_pos (Nat.pos_of_ne_zero (fun q => ho (.inl q)))]
  have e1 : gw_be w h c 1 = nI (c - 1) := by simp only [gw_be]; rw [if_pos (by omega)]
  have e2 : gw_be w h c 2 = nI (c + 1) := by simp only [gw_be]; rw [if_pos (by omega)]
  have e3 : gw_be w h c 3 = nI (c + w) := by simp only [gw_be]; rw [if_pos (by generalize c / w = q at *; omega)]
  have o : ∀ x, x < w * h → gw_op w h s (nI x) = (s x == 0) := fun x hx => by rw [gw_op_nI (by omega)]; simp [hx]
  have r4 : List.range 4 = [0, 1, 2, 3] := rfl
  rw [gw_aw, r4]
  simp only [List.any_cons, List.any_nil, e0, e1, e2, e3]
  rw [o _ (by omega), o _ (by omega), o _ (by omega), o _ (by omega)]
  simp [Bool.or_assoc]
theorem sp_Model_hasWall {X : mj_X} {d : Nat} {σ : mj_H} {Q : Value → mj_H → Prop} {w h kp rw : Nat} {tf fu fe fi ma md : Int32} {s : Nat → Int32} (hO : σ.1 55 = gw_mo w h kp rw tf fu fe fi ma md) (hs1 : σ.1 56 = mj_AI 213 s) {c : Nat} (hc : c < w * h) (hd : gw_dim w h) (k : Q (.int (mj_bI (gw_aw w h s c))) σ) : mj_M X (d + 1) y_Model_hasWall [.ref 55, .int (nI c)] σ (mj_V Q) := by
  have hw1 := hd.1
  have hw2 := hd.2.1
  have hh1 := hd.2.2.1
  have hh2 := hd.2.2.2
  have hwh := gw_dim_le hd
  have hq1 : c / w < h := Nat.div_lt_of_lt_mul hc
  have hq2 : c % w < w := Nat.mod_lt _ (by omega)
  have hw0 : ¬ nI w = 0 := nI_ne0 (by omega) (by omega)
  refine mw_in (l0 := [some (.ref 55), some (.int (nI c)), none, none, none]) rfl ?_
  refine mw_ld 1 i_Model_hasWall_0 rfl rfl rfl ?_
  refine mw_ld 2 i_Model_hasWall_1 rfl rfl rfl ?_
  refine mw_get 5 i_Model_hasWall_2 rfl (by assumption) (by rfl) ?_
  refine mw_d 6 i_Model_hasWall_5 rfl hw0 ?_
  rw [pk_div (by omega) (by omega) (by omega)]
  refine mw_st (ls' := [_, _, _, _, _]) 7 i_Model_hasWall_6 rfl rfl rfl rfl ?_
  refine mw_ld 8 i_Model_hasWall_7 rfl rfl rfl ?_
  refine mw_ld 9 i_Model_hasWall_8 rfl rfl rfl ?_
  refine mw_get 12 i_Model_hasWall_9 rfl (by assumption) (by rfl) ?_
  refine mw_d 13 i_Model_hasWall_12 rfl hw0 ?_
  rw [pk_rem (by omega) (by omega) (by omega)]
  refine mw_st (ls' := [_, _, _, _, _]) 14 i_Model_hasWall_13 rfl rfl rfl rfl ?_
  refine mw_ld 15 i_Model_hasWall_14 rfl rfl rfl ?_
  refine mw_if 18 i_Model_hasWall_15 rfl (fun h15 => ?_) (fun h15 => ?_)
  · have hout : c / w = 0 ∨ c % w = 0 ∨ c / w = h - 1 ∨ c % w = w - 1 := by
      first
      | exact .inl ((nI_z (by omega)).mp h15)
      | exact .inr (.inl ((nI_z (by omega)).mp h19))
      | exact .inr (.inr (.inl ((nI_inj (by omega) (by omega)).mp h29)))
      | exact .inr (.inr (.inr ((nI_inj (by omega) (by omega)).mp (Classical.not_not.mp h39))))
    rw [gw_aw_out hd hc hout] at k
    refine mw_k 43 i_Model_hasWall_42 rfl ?_
    refine mw_go i_Model_hasWall_43 ?_
    refine mw_st (ls' := [_, _, _, _, _]) 49 i_Model_hasWall_47 rfl rfl rfl rfl ?_
    refine mw_ld 51 i_Model_hasWall_49 rfl rfl rfl ?_
    refine mw_if1 i_Model_hasWall_51 (by decide) ?_
    refine mw_k 101 i_Model_hasWall_100 rfl ?_
    refine mw_go i_Model_hasWall_101 ?_
    refine mw_ri i_Model_hasWall_105 rfl rfl ?_
    exact k
  · refine mw_ld 19 i_Model_hasWall_18 rfl rfl rfl ?_
    refine mw_if 22 i_Model_hasWall_19 rfl (fun h19 => ?_) (fun h19 => ?_)
    · have hout : c / w = 0 ∨ c % w = 0 ∨ c / w = h - 1 ∨ c % w = w - 1 := by
        first
        | exact .inl ((nI_z (by omega)).mp h15)
        | exact .inr (.inl ((nI_z (by omega)).mp h19))
        | exact .inr (.inr (.inl ((nI_inj (by omega) (by omega)).mp h29)))
        | exact .inr (.inr (.inr ((nI_inj (by omega) (by omega)).mp (Classical.not_not.mp h39))))
      rw [gw_aw_out hd hc hout] at k
      refine mw_k 43 i_Model_hasWall_42 rfl ?_
      refine mw_go i_Model_hasWall_43 ?_
      refine mw_st (ls' := [_, _, _, _, _]) 49 i_Model_hasWall_47 rfl rfl rfl rfl ?_
      refine mw_ld 51 i_Model_hasWall_49 rfl rfl rfl ?_
      refine mw_if1 i_Model_hasWall_51 (by decide) ?_
      refine mw_k 101 i_Model_hasWall_100 rfl ?_
      refine mw_go i_Model_hasWall_101 ?_
      refine mw_ri i_Model_hasWall_105 rfl rfl ?_
      exact k
    · refine mw_ld 23 i_Model_hasWall_22 rfl rfl rfl ?_
      refine mw_ld 24 i_Model_hasWall_23 rfl rfl rfl ?_
      refine mw_get 27 i_Model_hasWall_24 rfl (by assumption) (by rfl) ?_
      refine mw_k 28 i_Model_hasWall_27 rfl ?_
      refine mw_b 29 i_Model_hasWall_28 rfl ?_
      rw [nI_m1 (by omega)]
      refine mw_ic 32 i_Model_hasWall_29 rfl (fun h29 => ?_) (fun h29 => ?_)
      · have hout : c / w = 0 ∨ c % w = 0 ∨ c / w = h - 1 ∨ c % w = w - 1 := by
          first
          | exact .inl ((nI_z (by omega)).mp h15)
          | exact .inr (.inl ((nI_z (by omega)).mp h19))
          | exact .inr (.inr (.inl ((nI_inj (by omega) (by omega)).mp h29)))
          | exact .inr (.inr (.inr ((nI_inj (by omega) (by omega)).mp (Classical.not_not.mp h39))))
        rw [gw_aw_out hd hc hout] at k
        refine mw_k 43 i_Model_hasWall_42 rfl ?_
        refine mw_go i_Model_hasWall_43 ?_
        refine mw_st (ls' := [_, _, _, _, _]) 49 i_Model_hasWall_47 rfl rfl rfl rfl ?_
        refine mw_ld 51 i_Model_hasWall_49 rfl rfl rfl ?_
        refine mw_if1 i_Model_hasWall_51 (by decide) ?_
        refine mw_k 101 i_Model_hasWall_100 rfl ?_
        refine mw_go i_Model_hasWall_101 ?_
        refine mw_ri i_Model_hasWall_105 rfl rfl ?_
        exact k
      · refine mw_ld 33 i_Model_hasWall_32 rfl rfl rfl ?_
        refine mw_ld 34 i_Model_hasWall_33 rfl rfl rfl ?_
        refine mw_get 37 i_Model_hasWall_34 rfl (by assumption) (by rfl) ?_
        refine mw_k 38 i_Model_hasWall_37 rfl ?_
        refine mw_b 39 i_Model_hasWall_38 rfl ?_
        rw [nI_m1 (by omega)]
        refine mw_ic 42 i_Model_hasWall_39 rfl (fun h39 => ?_) (fun h39 => ?_)
        · have hin : ¬ (c / w = 0 ∨ c % w = 0 ∨ c / w = h - 1 ∨ c % w = w - 1) := by
            rintro (q | q | q | q)
            · exact h15 ((nI_z (by omega)).mpr q)
            · exact h19 ((nI_z (by omega)).mpr q)
            · exact h29 (by rw [q])
            · exact h39 (by rw [q])
          obtain ⟨n1, n2, n3, n4⟩ := gw_in_nb hd hc hin
          rw [gw_aw_in hd hc hin] at k
          refine mw_k 47 i_Model_hasWall_46 rfl ?_
          refine mw_st (ls' := [_, _, _, _, _]) 49 i_Model_hasWall_47 rfl rfl rfl rfl ?_
          refine mw_ld 51 i_Model_hasWall_49 rfl rfl rfl ?_
          refine mw_if0 54 i_Model_hasWall_51 rfl (by decide) ?_
          refine mw_ld 55 i_Model_hasWall_54 rfl rfl rfl ?_
          refine mw_ld 56 i_Model_hasWall_55 rfl rfl rfl ?_
          refine mw_k 57 i_Model_hasWall_56 rfl ?_
          refine mw_b 58 i_Model_hasWall_57 rfl ?_
          rw [nI_m1 (by omega)]
          refine mw_cv1 61 i_Model_hasWall_58 rfl (by assumption) (sp_Model_isOpen hO hs1 (by omega) ?_) rfl rfl (Nat.le_of_ble_eq_true rfl) (Nat.le_of_ble_eq_true rfl)
          refine mw_if 64 i_Model_hasWall_61 rfl (fun h61 => ?_) (fun h61 => ?_)
          · refine mw_k 101 i_Model_hasWall_100 rfl ?_
            refine mw_go i_Model_hasWall_101 ?_
            refine mw_ri i_Model_hasWall_105 rfl rfl ?_
            simp only [mj_bI0, mj_bI1, Classical.not_not, Bool.not_eq_true, Bool.not_eq_false] at *
            first
            | exact mj_q0 (by simp [*]) k
            | exact mj_q1 (by simp [*]) k
          · refine mw_ld 65 i_Model_hasWall_64 rfl rfl rfl ?_
            refine mw_ld 66 i_Model_hasWall_65 rfl rfl rfl ?_
            refine mw_k 67 i_Model_hasWall_66 rfl ?_
            refine mw_b 68 i_Model_hasWall_67 rfl ?_
            rw [nI_1]
            refine mw_cv1 71 i_Model_hasWall_68 rfl (by assumption) (sp_Model_isOpen hO hs1 (by omega) ?_) rfl rfl (Nat.le_of_ble_eq_true rfl) (Nat.le_of_ble_eq_true rfl)
            refine mw_if 74 i_Model_hasWall_71 rfl (fun h71 => ?_) (fun h71 => ?_)
            · refine mw_k 101 i_Model_hasWall_100 rfl ?_
              refine mw_go i_Model_hasWall_101 ?_
              refine mw_ri i_Model_hasWall_105 rfl rfl ?_
              simp only [mj_bI0, mj_bI1, Classical.not_not, Bool.not_eq_true, Bool.not_eq_false] at *
              first
              | exact mj_q0 (by simp [*]) k
              | exact mj_q1 (by simp [*]) k
            · refine mw_ld 75 i_Model_hasWall_74 rfl rfl rfl ?_
              refine mw_ld 76 i_Model_hasWall_75 rfl rfl rfl ?_
              refine mw_ld 77 i_Model_hasWall_76 rfl rfl rfl ?_
              refine mw_get 80 i_Model_hasWall_77 rfl (by assumption) (by rfl) ?_
              refine mw_b 81 i_Model_hasWall_80 rfl ?_
              rw [pk_sub (by omega)]
              refine mw_cv1 84 i_Model_hasWall_81 rfl (by assumption) (sp_Model_isOpen hO hs1 (by omega) ?_) rfl rfl (Nat.le_of_ble_eq_true rfl) (Nat.le_of_ble_eq_true rfl)
              refine mw_if 87 i_Model_hasWall_84 rfl (fun h84 => ?_) (fun h84 => ?_)
              · refine mw_k 101 i_Model_hasWall_100 rfl ?_
                refine mw_go i_Model_hasWall_101 ?_
                refine mw_ri i_Model_hasWall_105 rfl rfl ?_
                simp only [mj_bI0, mj_bI1, Classical.not_not, Bool.not_eq_true, Bool.not_eq_false] at *
                first
                | exact mj_q0 (by simp [*]) k
                | exact mj_q1 (by simp [*]) k
              · refine mw_ld 88 i_Model_hasWall_87 rfl rfl rfl ?_
                refine mw_ld 89 i_Model_hasWall_88 rfl rfl rfl ?_
                refine mw_ld 90 i_Model_hasWall_89 rfl rfl rfl ?_
                refine mw_get 93 i_Model_hasWall_90 rfl (by assumption) (by rfl) ?_
                refine mw_b 94 i_Model_hasWall_93 rfl ?_
                rw [nI_add]
                refine mw_cv1 97 i_Model_hasWall_94 rfl (by assumption) (sp_Model_isOpen hO hs1 (by omega) ?_) rfl rfl (Nat.le_of_ble_eq_true rfl) (Nat.le_of_ble_eq_true rfl)
                refine mw_if 100 i_Model_hasWall_97 rfl (fun h97 => ?_) (fun h97 => ?_)
                · refine mw_k 105 i_Model_hasWall_104 rfl ?_
                  refine mw_ri i_Model_hasWall_105 rfl rfl ?_
                  simp only [mj_bI0, mj_bI1, Classical.not_not, Bool.not_eq_true, Bool.not_eq_false] at *
                  first
                  | exact mj_q0 (by simp [*]) k
                  | exact mj_q1 (by simp [*]) k
                · refine mw_k 101 i_Model_hasWall_100 rfl ?_
                  refine mw_go i_Model_hasWall_101 ?_
                  refine mw_ri i_Model_hasWall_105 rfl rfl ?_
                  simp only [mj_bI0, mj_bI1, Classical.not_not, Bool.not_eq_true, Bool.not_eq_false] at *
                  first
                  | exact mj_q0 (by simp [*]) k
                  | exact mj_q1 (by simp [*]) k
        · have hout : c / w = 0 ∨ c % w = 0 ∨ c / w = h - 1 ∨ c % w = w - 1 := by
            first
            | exact .inl ((nI_z (by omega)).mp h15)
            | exact .inr (.inl ((nI_z (by omega)).mp h19))
            | exact .inr (.inr (.inl ((nI_inj (by omega) (by omega)).mp h29)))
            | exact .inr (.inr (.inr ((nI_inj (by omega) (by omega)).mp (Classical.not_not.mp h39))))
          rw [gw_aw_out hd hc hout] at k
          refine mw_k 43 i_Model_hasWall_42 rfl ?_
          refine mw_go i_Model_hasWall_43 ?_
          refine mw_st (ls' := [_, _, _, _, _]) 49 i_Model_hasWall_47 rfl rfl rfl rfl ?_
          refine mw_ld 51 i_Model_hasWall_49 rfl rfl rfl ?_
          refine mw_if1 i_Model_hasWall_51 (by decide) ?_
          refine mw_k 101 i_Model_hasWall_100 rfl ?_
          refine mw_go i_Model_hasWall_101 ?_
          refine mw_ri i_Model_hasWall_105 rfl rfl ?_
          exact k
theorem sp_Model_mayStand {X : mj_X} {d : Nat} {σ : mj_H} {Q : Value → mj_H → Prop} {w h kp rw : Nat} {tf fu fe fi ma md : Int32} {s : Nat → Int32} (hO : σ.1 55 = gw_mo w h kp rw tf fu fe fi ma md) (hs1 : σ.1 56 = mj_AI 213 s) {c : Nat} {q : Int32} (hc : c < w * h) (hd : gw_dim w h) (k : Q (.int (mj_bI (gw_st w h s c q))) σ) : mj_M X (d + 2) y_Model_mayStand [.ref 55, .int (nI c), .int q] σ (mj_V Q) := by
  have hwh := gw_dim_le hd
  refine mw_in (l0 := [some (.ref 55), some (.int (nI c)), some (.int q)]) rfl ?_
  refine mw_ld 1 i_Model_mayStand_0 rfl rfl rfl ?_
  refine mw_ld 2 i_Model_mayStand_1 rfl rfl rfl ?_
  refine mw_cv1 5 i_Model_mayStand_2 rfl (by assumption) (sp_Model_isOpen hO hs1 (by omega) ?_) rfl rfl (Nat.le_of_ble_eq_true rfl) (Nat.le_of_ble_eq_true rfl)
  refine mw_if 8 i_Model_mayStand_5 rfl (fun h5 => ?_) (fun h5 => ?_)
  · refine mw_k 28 i_Model_mayStand_27 rfl ?_
    refine mw_ri i_Model_mayStand_28 rfl rfl ?_
    simp only [mj_bI0, mj_bI1, Classical.not_not, Bool.not_eq_true, Bool.not_eq_false] at *
    first
    | exact mj_q0 (by simp [gw_st, gw_op_nI (show c < 2147483648 by omega), *]) k
    | exact mj_q1 (by simp [gw_st, gw_op_nI (show c < 2147483648 by omega), *]) k
  · refine mw_ld 9 i_Model_mayStand_8 rfl rfl rfl ?_
    refine mw_cs1 12 i_Model_mayStand_9 rfl (sp_Model_isDoor ?_) rfl rfl (Nat.le_of_ble_eq_true rfl) (Nat.le_of_ble_eq_true rfl)
    refine mw_if 15 i_Model_mayStand_12 rfl (fun h12 => ?_) (fun h12 => ?_)
    · refine mw_k 24 i_Model_mayStand_23 rfl ?_
      refine mw_go i_Model_mayStand_24 ?_
      refine mw_ri i_Model_mayStand_28 rfl rfl ?_
      simp only [mj_bI0, mj_bI1, Classical.not_not, Bool.not_eq_true, Bool.not_eq_false] at *
      first
      | exact mj_q0 (by simp [gw_st, gw_op_nI (show c < 2147483648 by omega), *]) k
      | exact mj_q1 (by simp [gw_st, gw_op_nI (show c < 2147483648 by omega), *]) k
    · refine mw_ld 16 i_Model_mayStand_15 rfl rfl rfl ?_
      refine mw_ld 17 i_Model_mayStand_16 rfl rfl rfl ?_
      refine mw_cv1 20 i_Model_mayStand_17 rfl (by assumption) (sp_Model_hasWall hO hs1 (by assumption) hd ?_) rfl rfl (Nat.le_of_ble_eq_true rfl) (Nat.le_of_ble_eq_true rfl)
      refine mw_if 23 i_Model_mayStand_20 rfl (fun h20 => ?_) (fun h20 => ?_)
      · refine mw_k 28 i_Model_mayStand_27 rfl ?_
        refine mw_ri i_Model_mayStand_28 rfl rfl ?_
        simp only [mj_bI0, mj_bI1, Classical.not_not, Bool.not_eq_true, Bool.not_eq_false] at *
        first
        | exact mj_q0 (by simp [gw_st, gw_op_nI (show c < 2147483648 by omega), *]) k
        | exact mj_q1 (by simp [gw_st, gw_op_nI (show c < 2147483648 by omega), *]) k
      · refine mw_k 24 i_Model_mayStand_23 rfl ?_
        refine mw_go i_Model_mayStand_24 ?_
        refine mw_ri i_Model_mayStand_28 rfl rfl ?_
        simp only [mj_bI0, mj_bI1, Classical.not_not, Bool.not_eq_true, Bool.not_eq_false] at *
        first
        | exact mj_q0 (by simp [gw_st, gw_op_nI (show c < 2147483648 by omega), *]) k
        | exact mj_q1 (by simp [gw_st, gw_op_nI (show c < 2147483648 by omega), *]) k
theorem sp_Model_allStand {X : mj_X} {d : Nat} {σ : mj_H} {Q : Value → mj_H → Prop} {w h kp rw : Nat} {tf fu fe fi ma md : Int32} {s : Nat → Int32} (hO : σ.1 55 = gw_mo w h kp rw tf fu fe fi ma md) (hs1 : σ.1 56 = mj_AI 213 s) {n : Nat} (hd : gw_dim w h) (hn14 : n ≤ 14) (hp : s 100 = nI n) (hv : gw_vp w h n s) (k : Q (.int (mj_bI (gw_hp w h n s))) σ) : mj_M X (d + 3) y_Model_allStand [.ref 55] σ (mj_V Q) := by
  have hwh := gw_dim_le hd
  refine mw_in (l0 := [some (.ref 55), none, none]) rfl ?_
  refine mw_k 1 i_Model_allStand_0 rfl ?_
  refine mw_st (ls' := [_, _, _]) 2 i_Model_allStand_1 rfl rfl rfl rfl ?_
  refine mw_k 3 i_Model_allStand_2 rfl ?_
  refine mw_st (ls' := [_, _, _]) 4 i_Model_allStand_3 rfl rfl rfl rfl ?_
  refine mj_for (S := Unit) (fun i _ => mj_Wp X (d + 3) y_Model_allStand 4 [some (.ref 55), some (.int (mj_bI ((List.range i).all fun k => gw_st w h s (s (101 + k)).toNatClampNeg (s (115 + k))))), some (.int (nI i))] [] σ (mj_V Q)) (fun i _ => True) n ?_ ?_ 0 () (Nat.zero_le _) trivial
  · intro _ _
    refine mw_ld 5 i_Model_allStand_4 rfl rfl rfl ?_
    refine mw_ld 6 i_Model_allStand_5 rfl rfl rfl ?_
    refine mw_cv1 9 i_Model_allStand_6 rfl (by assumption) (sp_Model_posts hO hs1 hp ?_) rfl rfl (Nat.le_of_ble_eq_true rfl) (Nat.le_of_ble_eq_true rfl)
    refine mw_ic1 i_Model_allStand_9 (nI_le (Nat.le_refl _) (by omega)) ?_
    refine mw_ld 54 i_Model_allStand_53 rfl rfl rfl ?_
    refine mw_ri i_Model_allStand_54 rfl (mj_bI_nar _) ?_
    exact k
  · intro i _ hi _ ih
    obtain ⟨c, hc, ec⟩ := (hv i hi).1
    have ecc : (s (101 + i)).toNatClampNeg = c := by rw [ec]; exact nI_clamp (by omega)
    have eall : ∀ b, (((List.range i).all fun k => gw_st w h s (s (101 + k)).toNatClampNeg (s (115 + k))) && gw_st w h s c (s (115 + i))) = b → mj_Wp X (d + 3) y_Model_allStand 4 [some (.ref 55), some (.int (mj_bI b)), some (.int (nI (i + 1)))] [] σ (mj_V Q) := by
      intro b hb
      have := ih () trivial
      rw [List.range_succ, List.all_append] at this
      simp only [List.all_cons, List.all_nil, Bool.and_true, ecc] at this
      rw [hb] at this
      exact this
    by_cases hA : ((List.range i).all fun k => gw_st w h s (s (101 + k)).toNatClampNeg (s (115 + k))) = true
    · by_cases hB : gw_st w h s c (s (115 + i)) = true
      · skip
        refine mw_ld 5 i_Model_allStand_4 rfl rfl rfl ?_
        refine mw_ld 6 i_Model_allStand_5 rfl rfl rfl ?_
        refine mw_cv1 9 i_Model_allStand_6 rfl (by assumption) (sp_Model_posts hO hs1 hp ?_) rfl rfl (Nat.le_of_ble_eq_true rfl) (Nat.le_of_ble_eq_true rfl)
        refine mw_ic0 12 i_Model_allStand_9 rfl (nI_ge hi (by omega)) ?_
        refine mw_ld 13 i_Model_allStand_12 rfl rfl rfl ?_
        refine mw_if0 16 i_Model_allStand_13 rfl (mj_bI1.mpr hA) ?_
        refine mw_ld 17 i_Model_allStand_16 rfl rfl rfl ?_
        refine mw_ld 18 i_Model_allStand_17 rfl rfl rfl ?_
        refine mw_get 21 i_Model_allStand_18 rfl (by assumption) (by rfl) ?_
        refine mw_k 23 i_Model_allStand_21 rfl ?_
        refine mw_ld 24 i_Model_allStand_23 rfl rfl rfl ?_
        refine mw_b 25 i_Model_allStand_24 rfl ?_
        rw [show (101 : Int32) = nI 101 from rfl, nI_add]
        refine mw_iald 26 (101 + i) i_Model_allStand_25 rfl hs1 rfl (by omega) (by decide) ?_
        rw [ec]
        refine mw_ld 27 i_Model_allStand_26 rfl rfl rfl ?_
        refine mw_get 30 i_Model_allStand_27 rfl (by assumption) (by rfl) ?_
        refine mw_k 32 i_Model_allStand_30 rfl ?_
        refine mw_ld 33 i_Model_allStand_32 rfl rfl rfl ?_
        refine mw_b 34 i_Model_allStand_33 rfl ?_
        rw [show (115 : Int32) = nI 115 from rfl, nI_add]
        refine mw_iald 35 (115 + i) i_Model_allStand_34 rfl (by assumption) rfl (by omega) (by decide) ?_
        refine mw_cv1 38 i_Model_allStand_35 rfl (by assumption) (sp_Model_mayStand hO hs1 hc hd ?_) rfl rfl (Nat.le_of_ble_eq_true rfl) (Nat.le_of_ble_eq_true rfl)
        refine mw_if0 41 i_Model_allStand_38 rfl (mj_bI1.mpr hB) ?_
        refine mw_k 42 i_Model_allStand_41 rfl ?_
        refine mw_go i_Model_allStand_42 ?_
        refine mw_st (ls' := [_, _, _]) 47 i_Model_allStand_46 rfl rfl rfl rfl ?_
        refine mw_inc (ls' := [_, _, _]) 50 (nI (i + 1)) i_Model_allStand_47 rfl rfl rfl (nI_1 i) rfl ?_
        refine mw_go i_Model_allStand_50 ?_
        exact eall true (by simp [hA, hB])
      · skip
        refine mw_ld 5 i_Model_allStand_4 rfl rfl rfl ?_
        refine mw_ld 6 i_Model_allStand_5 rfl rfl rfl ?_
        refine mw_cv1 9 i_Model_allStand_6 rfl (by assumption) (sp_Model_posts hO hs1 hp ?_) rfl rfl (Nat.le_of_ble_eq_true rfl) (Nat.le_of_ble_eq_true rfl)
        refine mw_ic0 12 i_Model_allStand_9 rfl (nI_ge hi (by omega)) ?_
        refine mw_ld 13 i_Model_allStand_12 rfl rfl rfl ?_
        refine mw_if0 16 i_Model_allStand_13 rfl (mj_bI1.mpr hA) ?_
        refine mw_ld 17 i_Model_allStand_16 rfl rfl rfl ?_
        refine mw_ld 18 i_Model_allStand_17 rfl rfl rfl ?_
        refine mw_get 21 i_Model_allStand_18 rfl (by assumption) (by rfl) ?_
        refine mw_k 23 i_Model_allStand_21 rfl ?_
        refine mw_ld 24 i_Model_allStand_23 rfl rfl rfl ?_
        refine mw_b 25 i_Model_allStand_24 rfl ?_
        rw [show (101 : Int32) = nI 101 from rfl, nI_add]
        refine mw_iald 26 (101 + i) i_Model_allStand_25 rfl hs1 rfl (by omega) (by decide) ?_
        rw [ec]
        refine mw_ld 27 i_Model_allStand_26 rfl rfl rfl ?_
        refine mw_get 30 i_Model_allStand_27 rfl (by assumption) (by rfl) ?_
        refine mw_k 32 i_Model_allStand_30 rfl ?_
        refine mw_ld 33 i_Model_allStand_32 rfl rfl rfl ?_
        refine mw_b 34 i_Model_allStand_33 rfl ?_
        rw [show (115 : Int32) = nI 115 from rfl, nI_add]
        refine mw_iald 35 (115 + i) i_Model_allStand_34 rfl (by assumption) rfl (by omega) (by decide) ?_
        refine mw_cv1 38 i_Model_allStand_35 rfl (by assumption) (sp_Model_mayStand hO hs1 hc hd ?_) rfl rfl (Nat.le_of_ble_eq_true rfl) (Nat.le_of_ble_eq_true rfl)
        refine mw_if1 i_Model_allStand_38 (mj_bI0.mpr (gw_nt hB)) ?_
        refine mw_k 46 i_Model_allStand_45 rfl ?_
        refine mw_st (ls' := [_, _, _]) 47 i_Model_allStand_46 rfl rfl rfl rfl ?_
        refine mw_inc (ls' := [_, _, _]) 50 (nI (i + 1)) i_Model_allStand_47 rfl rfl rfl (nI_1 i) rfl ?_
        refine mw_go i_Model_allStand_50 ?_
        exact eall false (by simp [hB])
    · skip
      refine mw_ld 5 i_Model_allStand_4 rfl rfl rfl ?_
      refine mw_ld 6 i_Model_allStand_5 rfl rfl rfl ?_
      refine mw_cv1 9 i_Model_allStand_6 rfl (by assumption) (sp_Model_posts hO hs1 hp ?_) rfl rfl (Nat.le_of_ble_eq_true rfl) (Nat.le_of_ble_eq_true rfl)
      refine mw_ic0 12 i_Model_allStand_9 rfl (nI_ge hi (by omega)) ?_
      refine mw_ld 13 i_Model_allStand_12 rfl rfl rfl ?_
      refine mw_if1 i_Model_allStand_13 (mj_bI0.mpr (gw_nt hA)) ?_
      refine mw_k 46 i_Model_allStand_45 rfl ?_
      refine mw_st (ls' := [_, _, _]) 47 i_Model_allStand_46 rfl rfl rfl rfl ?_
      refine mw_inc (ls' := [_, _, _]) 50 (nI (i + 1)) i_Model_allStand_47 rfl rfl rfl (nI_1 i) rfl ?_
      refine mw_go i_Model_allStand_50 ?_
      exact eall false (by simp [hA])
theorem sp_Model_isBetween {X : mj_X} {d : Nat} {σ : mj_H} {Q : Value → mj_H → Prop} {w h kp rw : Nat} {tf fu fe fi ma md : Int32} (hO : σ.1 55 = gw_mo w h kp rw tf fu fe fi ma md) {a b c : Nat} (hc : c < w * h) (ha : a < w * h) (hb : b < w * h) (hd : gw_dim w h) (k : Q (.int (mj_bI (gw_rec w h a b c))) σ) : mj_M X d y_Model_isBetween [.ref 55, .int (nI c), .int (nI a), .int (nI b)] σ (mj_V Q) := by
  have hw1 := hd.1
  have hw2 := hd.2.1
  have hh1 := hd.2.2.1
  have hh2 := hd.2.2.2
  have hwh := gw_dim_le hd
  have hw0 : ¬ nI w = 0 := nI_ne0 (by omega) (by omega)
  obtain ⟨rc, erc⟩ : ∃ q, q = c / w := ⟨_, rfl⟩
  obtain ⟨cc, ecc⟩ : ∃ q, q = c % w := ⟨_, rfl⟩
  obtain ⟨ra, era⟩ : ∃ q, q = a / w := ⟨_, rfl⟩
  obtain ⟨ca, eca⟩ : ∃ q, q = a % w := ⟨_, rfl⟩
  obtain ⟨rb, erb⟩ : ∃ q, q = b / w := ⟨_, rfl⟩
  obtain ⟨cb, ecb⟩ : ∃ q, q = b % w := ⟨_, rfl⟩
  have l1 : ra < h := by rw [era]; exact Nat.div_lt_of_lt_mul ha
  have l2 : rb < h := by rw [erb]; exact Nat.div_lt_of_lt_mul hb
  have l5 : rc < h := by rw [erc]; exact Nat.div_lt_of_lt_mul hc
  have l3 : ca < w := by rw [eca]; exact Nat.mod_lt _ (by omega)
  have l4 : cb < w := by rw [ecb]; exact Nat.mod_lt _ (by omega)
  have l6 : cc < w := by rw [ecc]; exact Nat.mod_lt _ (by omega)
  have erec : gw_rec w h a b c = (gw_box ra rb rc && gw_box ca cb cc) := by rw [gw_rec, ← era, ← erb, ← erc, ← eca, ← ecb, ← ecc]; simp [hc]
  rw [erec] at k
  have hbox : ∀ x y z : Nat, gw_box x y z = true ↔ (min x y ≤ z ∧ z ≤ max x y) := fun x y z => by simp [gw_box]
  refine mw_in (l0 := [some (.ref 55), some (.int (nI c)), some (.int (nI a)), some (.int (nI b)), none, none, none]) rfl ?_
  refine mw_ld 1 i_Model_isBetween_0 rfl rfl rfl ?_
  refine mw_ld 2 i_Model_isBetween_1 rfl rfl rfl ?_
  refine mw_get 5 i_Model_isBetween_2 rfl (by assumption) (by rfl) ?_
  refine mw_d 6 i_Model_isBetween_5 rfl hw0 ?_
  rw [pk_div (by omega) (by omega) (by omega), ← erc]
  refine mw_st (ls' := [_, _, _, _, _, _, _]) 8 i_Model_isBetween_6 rfl rfl rfl rfl ?_
  refine mw_ld 9 i_Model_isBetween_8 rfl rfl rfl ?_
  refine mw_ld 10 i_Model_isBetween_9 rfl rfl rfl ?_
  refine mw_get 13 i_Model_isBetween_10 rfl (by assumption) (by rfl) ?_
  refine mw_d 14 i_Model_isBetween_13 rfl hw0 ?_
  rw [pk_rem (by omega) (by omega) (by omega), ← ecc]
  refine mw_st (ls' := [_, _, _, _, _, _, _]) 16 i_Model_isBetween_14 rfl rfl rfl rfl ?_
  refine mw_ld 18 i_Model_isBetween_16 rfl rfl rfl ?_
  refine mw_ld 19 i_Model_isBetween_18 rfl rfl rfl ?_
  refine mw_ld 20 i_Model_isBetween_19 rfl rfl rfl ?_
  refine mw_get 23 i_Model_isBetween_20 rfl (by assumption) (by rfl) ?_
  refine mw_d 24 i_Model_isBetween_23 rfl hw0 ?_
  rw [pk_div (by omega) (by omega) (by omega), ← era]
  refine mw_ic 27 i_Model_isBetween_24 rfl (fun h24 => ?_) (fun h24 => ?_)
  · refine mw_ld 40 i_Model_isBetween_38 rfl rfl rfl ?_
    refine mw_ld 41 i_Model_isBetween_40 rfl rfl rfl ?_
    refine mw_ld 42 i_Model_isBetween_41 rfl rfl rfl ?_
    refine mw_get 45 i_Model_isBetween_42 rfl (by assumption) (by rfl) ?_
    refine mw_d 46 i_Model_isBetween_45 rfl hw0 ?_
    rw [pk_div (by omega) (by omega) (by omega), ← erb]
    refine mw_ic 49 i_Model_isBetween_46 rfl (fun h46 => ?_) (fun h46 => ?_)
    · have hr : gw_box ra rb rc = false := by rw [Bool.eq_false_iff]; intro q; have q := (hbox _ _ _).mp q; simp only [mj_lt, mj_le, mj_nI _ (show rc < 2147483648 by omega), mj_nI _ (show ra < 2147483648 by omega), mj_nI _ (show rb < 2147483648 by omega), mj_nI _ (show cc < 2147483648 by omega), mj_nI _ (show ca < 2147483648 by omega), mj_nI _ (show cb < 2147483648 by omega)] at *; omega
      refine mw_k 65 i_Model_isBetween_64 rfl ?_
      refine mw_st (ls' := [_, _, _, _, _, _, _]) 67 i_Model_isBetween_65 rfl rfl rfl rfl ?_
      refine mw_ld 69 i_Model_isBetween_67 rfl rfl rfl ?_
      refine mw_if1 i_Model_isBetween_69 (by decide) ?_
      refine mw_k 121 i_Model_isBetween_120 rfl ?_
      refine mw_ri i_Model_isBetween_121 rfl rfl ?_
      exact mj_q0 (by rw [hr]; rfl) k
    · refine mw_ld 51 i_Model_isBetween_49 rfl rfl rfl ?_
      refine mw_ld 52 i_Model_isBetween_51 rfl rfl rfl ?_
      refine mw_ld 53 i_Model_isBetween_52 rfl rfl rfl ?_
      refine mw_get 56 i_Model_isBetween_53 rfl (by assumption) (by rfl) ?_
      refine mw_d 57 i_Model_isBetween_56 rfl hw0 ?_
      rw [pk_div (by omega) (by omega) (by omega), ← era]
      refine mw_ic 60 i_Model_isBetween_57 rfl (fun h57 => ?_) (fun h57 => ?_)
      · have hr : gw_box ra rb rc = false := by rw [Bool.eq_false_iff]; intro q; have q := (hbox _ _ _).mp q; simp only [mj_lt, mj_le, mj_nI _ (show rc < 2147483648 by omega), mj_nI _ (show ra < 2147483648 by omega), mj_nI _ (show rb < 2147483648 by omega), mj_nI _ (show cc < 2147483648 by omega), mj_nI _ (show ca < 2147483648 by omega), mj_nI _ (show cb < 2147483648 by omega)] at *; omega
        refine mw_k 65 i_Model_isBetween_64 rfl ?_
        refine mw_st (ls' := [_, _, _, _, _, _, _]) 67 i_Model_isBetween_65 rfl rfl rfl rfl ?_
        refine mw_ld 69 i_Model_isBetween_67 rfl rfl rfl ?_
        refine mw_if1 i_Model_isBetween_69 (by decide) ?_
        refine mw_k 121 i_Model_isBetween_120 rfl ?_
        refine mw_ri i_Model_isBetween_121 rfl rfl ?_
        exact mj_q0 (by rw [hr]; rfl) k
      · have hr : gw_box ra rb rc = true := (hbox _ _ _).mpr (by simp only [mj_lt, mj_le, mj_nI _ (show rc < 2147483648 by omega), mj_nI _ (show ra < 2147483648 by omega), mj_nI _ (show rb < 2147483648 by omega), mj_nI _ (show cc < 2147483648 by omega), mj_nI _ (show ca < 2147483648 by omega), mj_nI _ (show cb < 2147483648 by omega)] at *; omega)
        refine mw_k 61 i_Model_isBetween_60 rfl ?_
        refine mw_go i_Model_isBetween_61 ?_
        refine mw_st (ls' := [_, _, _, _, _, _, _]) 67 i_Model_isBetween_65 rfl rfl rfl rfl ?_
        refine mw_ld 69 i_Model_isBetween_67 rfl rfl rfl ?_
        refine mw_if0 72 i_Model_isBetween_69 rfl (by decide) ?_
        refine mw_ld 74 i_Model_isBetween_72 rfl rfl rfl ?_
        refine mw_ld 75 i_Model_isBetween_74 rfl rfl rfl ?_
        refine mw_ld 76 i_Model_isBetween_75 rfl rfl rfl ?_
        refine mw_get 79 i_Model_isBetween_76 rfl (by assumption) (by rfl) ?_
        refine mw_d 80 i_Model_isBetween_79 rfl hw0 ?_
        rw [pk_rem (by omega) (by omega) (by omega), ← eca]
        refine mw_ic 83 i_Model_isBetween_80 rfl (fun h80 => ?_) (fun h80 => ?_)
        · refine mw_ld 96 i_Model_isBetween_94 rfl rfl rfl ?_
          refine mw_ld 97 i_Model_isBetween_96 rfl rfl rfl ?_
          refine mw_ld 98 i_Model_isBetween_97 rfl rfl rfl ?_
          refine mw_get 101 i_Model_isBetween_98 rfl (by assumption) (by rfl) ?_
          refine mw_d 102 i_Model_isBetween_101 rfl hw0 ?_
          rw [pk_rem (by omega) (by omega) (by omega), ← ecb]
          refine mw_ic 105 i_Model_isBetween_102 rfl (fun h102 => ?_) (fun h102 => ?_)
          · refine mw_k 121 i_Model_isBetween_120 rfl ?_
            refine mw_ri i_Model_isBetween_121 rfl rfl ?_
            first
            | exact mj_q1 (by rw [hr]; exact (hbox _ _ _).mpr (by simp only [mj_lt, mj_le, mj_nI _ (show rc < 2147483648 by omega), mj_nI _ (show ra < 2147483648 by omega), mj_nI _ (show rb < 2147483648 by omega), mj_nI _ (show cc < 2147483648 by omega), mj_nI _ (show ca < 2147483648 by omega), mj_nI _ (show cb < 2147483648 by omega)] at *; omega)) k
            | exact mj_q0 (by rw [hr, Bool.true_and, Bool.eq_false_iff]; intro q; have q := (hbox _ _ _).mp q; simp only [mj_lt, mj_le, mj_nI _ (show rc < 2147483648 by omega), mj_nI _ (show ra < 2147483648 by omega), mj_nI _ (show rb < 2147483648 by omega), mj_nI _ (show cc < 2147483648 by omega), mj_nI _ (show ca < 2147483648 by omega), mj_nI _ (show cb < 2147483648 by omega)] at *; omega) k
          · refine mw_ld 107 i_Model_isBetween_105 rfl rfl rfl ?_
            refine mw_ld 108 i_Model_isBetween_107 rfl rfl rfl ?_
            refine mw_ld 109 i_Model_isBetween_108 rfl rfl rfl ?_
            refine mw_get 112 i_Model_isBetween_109 rfl (by assumption) (by rfl) ?_
            refine mw_d 113 i_Model_isBetween_112 rfl hw0 ?_
            rw [pk_rem (by omega) (by omega) (by omega), ← eca]
            refine mw_ic 116 i_Model_isBetween_113 rfl (fun h113 => ?_) (fun h113 => ?_)
            · refine mw_k 121 i_Model_isBetween_120 rfl ?_
              refine mw_ri i_Model_isBetween_121 rfl rfl ?_
              first
              | exact mj_q1 (by rw [hr]; exact (hbox _ _ _).mpr (by simp only [mj_lt, mj_le, mj_nI _ (show rc < 2147483648 by omega), mj_nI _ (show ra < 2147483648 by omega), mj_nI _ (show rb < 2147483648 by omega), mj_nI _ (show cc < 2147483648 by omega), mj_nI _ (show ca < 2147483648 by omega), mj_nI _ (show cb < 2147483648 by omega)] at *; omega)) k
              | exact mj_q0 (by rw [hr, Bool.true_and, Bool.eq_false_iff]; intro q; have q := (hbox _ _ _).mp q; simp only [mj_lt, mj_le, mj_nI _ (show rc < 2147483648 by omega), mj_nI _ (show ra < 2147483648 by omega), mj_nI _ (show rb < 2147483648 by omega), mj_nI _ (show cc < 2147483648 by omega), mj_nI _ (show ca < 2147483648 by omega), mj_nI _ (show cb < 2147483648 by omega)] at *; omega) k
            · refine mw_k 117 i_Model_isBetween_116 rfl ?_
              refine mw_go i_Model_isBetween_117 ?_
              refine mw_ri i_Model_isBetween_121 rfl rfl ?_
              first
              | exact mj_q1 (by rw [hr]; exact (hbox _ _ _).mpr (by simp only [mj_lt, mj_le, mj_nI _ (show rc < 2147483648 by omega), mj_nI _ (show ra < 2147483648 by omega), mj_nI _ (show rb < 2147483648 by omega), mj_nI _ (show cc < 2147483648 by omega), mj_nI _ (show ca < 2147483648 by omega), mj_nI _ (show cb < 2147483648 by omega)] at *; omega)) k
              | exact mj_q0 (by rw [hr, Bool.true_and, Bool.eq_false_iff]; intro q; have q := (hbox _ _ _).mp q; simp only [mj_lt, mj_le, mj_nI _ (show rc < 2147483648 by omega), mj_nI _ (show ra < 2147483648 by omega), mj_nI _ (show rb < 2147483648 by omega), mj_nI _ (show cc < 2147483648 by omega), mj_nI _ (show ca < 2147483648 by omega), mj_nI _ (show cb < 2147483648 by omega)] at *; omega) k
        · refine mw_ld 85 i_Model_isBetween_83 rfl rfl rfl ?_
          refine mw_ld 86 i_Model_isBetween_85 rfl rfl rfl ?_
          refine mw_ld 87 i_Model_isBetween_86 rfl rfl rfl ?_
          refine mw_get 90 i_Model_isBetween_87 rfl (by assumption) (by rfl) ?_
          refine mw_d 91 i_Model_isBetween_90 rfl hw0 ?_
          rw [pk_rem (by omega) (by omega) (by omega), ← ecb]
          refine mw_ic 94 i_Model_isBetween_91 rfl (fun h91 => ?_) (fun h91 => ?_)
          · refine mw_k 117 i_Model_isBetween_116 rfl ?_
            refine mw_go i_Model_isBetween_117 ?_
            refine mw_ri i_Model_isBetween_121 rfl rfl ?_
            first
            | exact mj_q1 (by rw [hr]; exact (hbox _ _ _).mpr (by simp only [mj_lt, mj_le, mj_nI _ (show rc < 2147483648 by omega), mj_nI _ (show ra < 2147483648 by omega), mj_nI _ (show rb < 2147483648 by omega), mj_nI _ (show cc < 2147483648 by omega), mj_nI _ (show ca < 2147483648 by omega), mj_nI _ (show cb < 2147483648 by omega)] at *; omega)) k
            | exact mj_q0 (by rw [hr, Bool.true_and, Bool.eq_false_iff]; intro q; have q := (hbox _ _ _).mp q; simp only [mj_lt, mj_le, mj_nI _ (show rc < 2147483648 by omega), mj_nI _ (show ra < 2147483648 by omega), mj_nI _ (show rb < 2147483648 by omega), mj_nI _ (show cc < 2147483648 by omega), mj_nI _ (show ca < 2147483648 by omega), mj_nI _ (show cb < 2147483648 by omega)] at *; omega) k
          · refine mw_ld 96 i_Model_isBetween_94 rfl rfl rfl ?_
            refine mw_ld 97 i_Model_isBetween_96 rfl rfl rfl ?_
            refine mw_ld 98 i_Model_isBetween_97 rfl rfl rfl ?_
            refine mw_get 101 i_Model_isBetween_98 rfl (by assumption) (by rfl) ?_
            refine mw_d 102 i_Model_isBetween_101 rfl hw0 ?_
            rw [pk_rem (by omega) (by omega) (by omega), ← ecb]
            refine mw_ic 105 i_Model_isBetween_102 rfl (fun h102 => ?_) (fun h102 => ?_)
            · refine mw_k 121 i_Model_isBetween_120 rfl ?_
              refine mw_ri i_Model_isBetween_121 rfl rfl ?_
              first
              | exact mj_q1 (by rw [hr]; exact (hbox _ _ _).mpr (by simp only [mj_lt, mj_le, mj_nI _ (show rc < 2147483648 by omega), mj_nI _ (show ra < 2147483648 by omega), mj_nI _ (show rb < 2147483648 by omega), mj_nI _ (show cc < 2147483648 by omega), mj_nI _ (show ca < 2147483648 by omega), mj_nI _ (show cb < 2147483648 by omega)] at *; omega)) k
              | exact mj_q0 (by rw [hr, Bool.true_and, Bool.eq_false_iff]; intro q; have q := (hbox _ _ _).mp q; simp only [mj_lt, mj_le, mj_nI _ (show rc < 2147483648 by omega), mj_nI _ (show ra < 2147483648 by omega), mj_nI _ (show rb < 2147483648 by omega), mj_nI _ (show cc < 2147483648 by omega), mj_nI _ (show ca < 2147483648 by omega), mj_nI _ (show cb < 2147483648 by omega)] at *; omega) k
            · refine mw_ld 107 i_Model_isBetween_105 rfl rfl rfl ?_
              refine mw_ld 108 i_Model_isBetween_107 rfl rfl rfl ?_
              refine mw_ld 109 i_Model_isBetween_108 rfl rfl rfl ?_
              refine mw_get 112 i_Model_isBetween_109 rfl (by assumption) (by rfl) ?_
              refine mw_d 113 i_Model_isBetween_112 rfl hw0 ?_
              rw [pk_rem (by omega) (by omega) (by omega), ← eca]
              refine mw_ic 116 i_Model_isBetween_113 rfl (fun h113 => ?_) (fun h113 => ?_)
              · refine mw_k 121 i_Model_isBetween_120 rfl ?_
                refine mw_ri i_Model_isBetween_121 rfl rfl ?_
                first
                | exact mj_q1 (by rw [hr]; exact (hbox _ _ _).mpr (by simp only [mj_lt, mj_le, mj_nI _ (show rc < 2147483648 by omega), mj_nI _ (show ra < 2147483648 by omega), mj_nI _ (show rb < 2147483648 by omega), mj_nI _ (show cc < 2147483648 by omega), mj_nI _ (show ca < 2147483648 by omega), mj_nI _ (show cb < 2147483648 by omega)] at *; omega)) k
                | exact mj_q0 (by rw [hr, Bool.true_and, Bool.eq_false_iff]; intro q; have q := (hbox _ _ _).mp q; simp only [mj_lt, mj_le, mj_nI _ (show rc < 2147483648 by omega), mj_nI _ (show ra < 2147483648 by omega), mj_nI _ (show rb < 2147483648 by omega), mj_nI _ (show cc < 2147483648 by omega), mj_nI _ (show ca < 2147483648 by omega), mj_nI _ (show cb < 2147483648 by omega)] at *; omega) k
              · refine mw_k 117 i_Model_isBetween_116 rfl ?_
                refine mw_go i_Model_isBetween_117 ?_
                refine mw_ri i_Model_isBetween_121 rfl rfl ?_
                first
                | exact mj_q1 (by rw [hr]; exact (hbox _ _ _).mpr (by simp only [mj_lt, mj_le, mj_nI _ (show rc < 2147483648 by omega), mj_nI _ (show ra < 2147483648 by omega), mj_nI _ (show rb < 2147483648 by omega), mj_nI _ (show cc < 2147483648 by omega), mj_nI _ (show ca < 2147483648 by omega), mj_nI _ (show cb < 2147483648 by omega)] at *; omega)) k
                | exact mj_q0 (by rw [hr, Bool.true_and, Bool.eq_false_iff]; intro q; have q := (hbox _ _ _).mp q; simp only [mj_lt, mj_le, mj_nI _ (show rc < 2147483648 by omega), mj_nI _ (show ra < 2147483648 by omega), mj_nI _ (show rb < 2147483648 by omega), mj_nI _ (show cc < 2147483648 by omega), mj_nI _ (show ca < 2147483648 by omega), mj_nI _ (show cb < 2147483648 by omega)] at *; omega) k
  · refine mw_ld 29 i_Model_isBetween_27 rfl rfl rfl ?_
    refine mw_ld 30 i_Model_isBetween_29 rfl rfl rfl ?_
    refine mw_ld 31 i_Model_isBetween_30 rfl rfl rfl ?_
    refine mw_get 34 i_Model_isBetween_31 rfl (by assumption) (by rfl) ?_
    refine mw_d 35 i_Model_isBetween_34 rfl hw0 ?_
    rw [pk_div (by omega) (by omega) (by omega), ← erb]
    refine mw_ic 38 i_Model_isBetween_35 rfl (fun h35 => ?_) (fun h35 => ?_)
    · have hr : gw_box ra rb rc = true := (hbox _ _ _).mpr (by simp only [mj_lt, mj_le, mj_nI _ (show rc < 2147483648 by omega), mj_nI _ (show ra < 2147483648 by omega), mj_nI _ (show rb < 2147483648 by omega), mj_nI _ (show cc < 2147483648 by omega), mj_nI _ (show ca < 2147483648 by omega), mj_nI _ (show cb < 2147483648 by omega)] at *; omega)
      refine mw_k 61 i_Model_isBetween_60 rfl ?_
      refine mw_go i_Model_isBetween_61 ?_
      refine mw_st (ls' := [_, _, _, _, _, _, _]) 67 i_Model_isBetween_65 rfl rfl rfl rfl ?_
      refine mw_ld 69 i_Model_isBetween_67 rfl rfl rfl ?_
      refine mw_if0 72 i_Model_isBetween_69 rfl (by decide) ?_
      refine mw_ld 74 i_Model_isBetween_72 rfl rfl rfl ?_
      refine mw_ld 75 i_Model_isBetween_74 rfl rfl rfl ?_
      refine mw_ld 76 i_Model_isBetween_75 rfl rfl rfl ?_
      refine mw_get 79 i_Model_isBetween_76 rfl (by assumption) (by rfl) ?_
      refine mw_d 80 i_Model_isBetween_79 rfl hw0 ?_
      rw [pk_rem (by omega) (by omega) (by omega), ← eca]
      refine mw_ic 83 i_Model_isBetween_80 rfl (fun h80 => ?_) (fun h80 => ?_)
      · refine mw_ld 96 i_Model_isBetween_94 rfl rfl rfl ?_
        refine mw_ld 97 i_Model_isBetween_96 rfl rfl rfl ?_
        refine mw_ld 98 i_Model_isBetween_97 rfl rfl rfl ?_
        refine mw_get 101 i_Model_isBetween_98 rfl (by assumption) (by rfl) ?_
        refine mw_d 102 i_Model_isBetween_101 rfl hw0 ?_
        rw [pk_rem (by omega) (by omega) (by omega), ← ecb]
        refine mw_ic 105 i_Model_isBetween_102 rfl (fun h102 => ?_) (fun h102 => ?_)
        · refine mw_k 121 i_Model_isBetween_120 rfl ?_
          refine mw_ri i_Model_isBetween_121 rfl rfl ?_
          first
          | exact mj_q1 (by rw [hr]; exact (hbox _ _ _).mpr (by simp only [mj_lt, mj_le, mj_nI _ (show rc < 2147483648 by omega), mj_nI _ (show ra < 2147483648 by omega), mj_nI _ (show rb < 2147483648 by omega), mj_nI _ (show cc < 2147483648 by omega), mj_nI _ (show ca < 2147483648 by omega), mj_nI _ (show cb < 2147483648 by omega)] at *; omega)) k
          | exact mj_q0 (by rw [hr, Bool.true_and, Bool.eq_false_iff]; intro q; have q := (hbox _ _ _).mp q; simp only [mj_lt, mj_le, mj_nI _ (show rc < 2147483648 by omega), mj_nI _ (show ra < 2147483648 by omega), mj_nI _ (show rb < 2147483648 by omega), mj_nI _ (show cc < 2147483648 by omega), mj_nI _ (show ca < 2147483648 by omega), mj_nI _ (show cb < 2147483648 by omega)] at *; omega) k
        · refine mw_ld 107 i_Model_isBetween_105 rfl rfl rfl ?_
          refine mw_ld 108 i_Model_isBetween_107 rfl rfl rfl ?_
          refine mw_ld 109 i_Model_isBetween_108 rfl rfl rfl ?_
          refine mw_get 112 i_Model_isBetween_109 rfl (by assumption) (by rfl) ?_
          refine mw_d 113 i_Model_isBetween_112 rfl hw0 ?_
          rw [pk_rem (by omega) (by omega) (by omega), ← eca]
          refine mw_ic 116 i_Model_isBetween_113 rfl (fun h113 => ?_) (fun h113 => ?_)
          · refine mw_k 121 i_Model_isBetween_120 rfl ?_
            refine mw_ri i_Model_isBetween_121 rfl rfl ?_
            first
            | exact mj_q1 (by rw [hr]; exact (hbox _ _ _).mpr (by simp only [mj_lt, mj_le, mj_nI _ (show rc < 2147483648 by omega), mj_nI _ (show ra < 2147483648 by omega), mj_nI _ (show rb < 2147483648 by omega), mj_nI _ (show cc < 2147483648 by omega), mj_nI _ (show ca < 2147483648 by omega), mj_nI _ (show cb < 2147483648 by omega)] at *; omega)) k
            | exact mj_q0 (by rw [hr, Bool.true_and, Bool.eq_false_iff]; intro q; have q := (hbox _ _ _).mp q; simp only [mj_lt, mj_le, mj_nI _ (show rc < 2147483648 by omega), mj_nI _ (show ra < 2147483648 by omega), mj_nI _ (show rb < 2147483648 by omega), mj_nI _ (show cc < 2147483648 by omega), mj_nI _ (show ca < 2147483648 by omega), mj_nI _ (show cb < 2147483648 by omega)] at *; omega) k
          · refine mw_k 117 i_Model_isBetween_116 rfl ?_
            refine mw_go i_Model_isBetween_117 ?_
            refine mw_ri i_Model_isBetween_121 rfl rfl ?_
            first
            | exact mj_q1 (by rw [hr]; exact (hbox _ _ _).mpr (by simp only [mj_lt, mj_le, mj_nI _ (show rc < 2147483648 by omega), mj_nI _ (show ra < 2147483648 by omega), mj_nI _ (show rb < 2147483648 by omega), mj_nI _ (show cc < 2147483648 by omega), mj_nI _ (show ca < 2147483648 by omega), mj_nI _ (show cb < 2147483648 by omega)] at *; omega)) k
            | exact mj_q0 (by rw [hr, Bool.true_and, Bool.eq_false_iff]; intro q; have q := (hbox _ _ _).mp q; simp only [mj_lt, mj_le, mj_nI _ (show rc < 2147483648 by omega), mj_nI _ (show ra < 2147483648 by omega), mj_nI _ (show rb < 2147483648 by omega), mj_nI _ (show cc < 2147483648 by omega), mj_nI _ (show ca < 2147483648 by omega), mj_nI _ (show cb < 2147483648 by omega)] at *; omega) k
      · refine mw_ld 85 i_Model_isBetween_83 rfl rfl rfl ?_
        refine mw_ld 86 i_Model_isBetween_85 rfl rfl rfl ?_
        refine mw_ld 87 i_Model_isBetween_86 rfl rfl rfl ?_
        refine mw_get 90 i_Model_isBetween_87 rfl (by assumption) (by rfl) ?_
        refine mw_d 91 i_Model_isBetween_90 rfl hw0 ?_
        rw [pk_rem (by omega) (by omega) (by omega), ← ecb]
        refine mw_ic 94 i_Model_isBetween_91 rfl (fun h91 => ?_) (fun h91 => ?_)
        · refine mw_k 117 i_Model_isBetween_116 rfl ?_
          refine mw_go i_Model_isBetween_117 ?_
          refine mw_ri i_Model_isBetween_121 rfl rfl ?_
          first
          | exact mj_q1 (by rw [hr]; exact (hbox _ _ _).mpr (by simp only [mj_lt, mj_le, mj_nI _ (show rc < 2147483648 by omega), mj_nI _ (show ra < 2147483648 by omega), mj_nI _ (show rb < 2147483648 by omega), mj_nI _ (show cc < 2147483648 by omega), mj_nI _ (show ca < 2147483648 by omega), mj_nI _ (show cb < 2147483648 by omega)] at *; omega)) k
          | exact mj_q0 (by rw [hr, Bool.true_and, Bool.eq_false_iff]; intro q; have q := (hbox _ _ _).mp q; simp only [mj_lt, mj_le, mj_nI _ (show rc < 2147483648 by omega), mj_nI _ (show ra < 2147483648 by omega), mj_nI _ (show rb < 2147483648 by omega), mj_nI _ (show cc < 2147483648 by omega), mj_nI _ (show ca < 2147483648 by omega), mj_nI _ (show cb < 2147483648 by omega)] at *; omega) k
        · refine mw_ld 96 i_Model_isBetween_94 rfl rfl rfl ?_
          refine mw_ld 97 i_Model_isBetween_96 rfl rfl rfl ?_
          refine mw_ld 98 i_Model_isBetween_97 rfl rfl rfl ?_
          refine mw_get 101 i_Model_isBetween_98 rfl (by assumption) (by rfl) ?_
          refine mw_d 102 i_Model_isBetween_101 rfl hw0 ?_
          rw [pk_rem (by omega) (by omega) (by omega), ← ecb]
          refine mw_ic 105 i_Model_isBetween_102 rfl (fun h102 => ?_) (fun h102 => ?_)
          · refine mw_k 121 i_Model_isBetween_120 rfl ?_
            refine mw_ri i_Model_isBetween_121 rfl rfl ?_
            first
            | exact mj_q1 (by rw [hr]; exact (hbox _ _ _).mpr (by simp only [mj_lt, mj_le, mj_nI _ (show rc < 2147483648 by omega), mj_nI _ (show ra < 2147483648 by omega), mj_nI _ (show rb < 2147483648 by omega), mj_nI _ (show cc < 2147483648 by omega), mj_nI _ (show ca < 2147483648 by omega), mj_nI _ (show cb < 2147483648 by omega)] at *; omega)) k
            | exact mj_q0 (by rw [hr, Bool.true_and, Bool.eq_false_iff]; intro q; have q := (hbox _ _ _).mp q; simp only [mj_lt, mj_le, mj_nI _ (show rc < 2147483648 by omega), mj_nI _ (show ra < 2147483648 by omega), mj_nI _ (show rb < 2147483648 by omega), mj_nI _ (show cc < 2147483648 by omega), mj_nI _ (show ca < 2147483648 by omega), mj_nI _ (show cb < 2147483648 by omega)] at *; omega) k
          · refine mw_ld 107 i_Model_isBetween_105 rfl rfl rfl ?_
            refine mw_ld 108 i_Model_isBetween_107 rfl rfl rfl ?_
            refine mw_ld 109 i_Model_isBetween_108 rfl rfl rfl ?_
            refine mw_get 112 i_Model_isBetween_109 rfl (by assumption) (by rfl) ?_
            refine mw_d 113 i_Model_isBetween_112 rfl hw0 ?_
            rw [pk_rem (by omega) (by omega) (by omega), ← eca]
            refine mw_ic 116 i_Model_isBetween_113 rfl (fun h113 => ?_) (fun h113 => ?_)
            · refine mw_k 121 i_Model_isBetween_120 rfl ?_
              refine mw_ri i_Model_isBetween_121 rfl rfl ?_
              first
              | exact mj_q1 (by rw [hr]; exact (hbox _ _ _).mpr (by simp only [mj_lt, mj_le, mj_nI _ (show rc < 2147483648 by omega), mj_nI _ (show ra < 2147483648 by omega), mj_nI _ (show rb < 2147483648 by omega), mj_nI _ (show cc < 2147483648 by omega), mj_nI _ (show ca < 2147483648 by omega), mj_nI _ (show cb < 2147483648 by omega)] at *; omega)) k
              | exact mj_q0 (by rw [hr, Bool.true_and, Bool.eq_false_iff]; intro q; have q := (hbox _ _ _).mp q; simp only [mj_lt, mj_le, mj_nI _ (show rc < 2147483648 by omega), mj_nI _ (show ra < 2147483648 by omega), mj_nI _ (show rb < 2147483648 by omega), mj_nI _ (show cc < 2147483648 by omega), mj_nI _ (show ca < 2147483648 by omega), mj_nI _ (show cb < 2147483648 by omega)] at *; omega) k
            · refine mw_k 117 i_Model_isBetween_116 rfl ?_
              refine mw_go i_Model_isBetween_117 ?_
              refine mw_ri i_Model_isBetween_121 rfl rfl ?_
              first
              | exact mj_q1 (by rw [hr]; exact (hbox _ _ _).mpr (by simp only [mj_lt, mj_le, mj_nI _ (show rc < 2147483648 by omega), mj_nI _ (show ra < 2147483648 by omega), mj_nI _ (show rb < 2147483648 by omega), mj_nI _ (show cc < 2147483648 by omega), mj_nI _ (show ca < 2147483648 by omega), mj_nI _ (show cb < 2147483648 by omega)] at *; omega)) k
              | exact mj_q0 (by rw [hr, Bool.true_and, Bool.eq_false_iff]; intro q; have q := (hbox _ _ _).mp q; simp only [mj_lt, mj_le, mj_nI _ (show rc < 2147483648 by omega), mj_nI _ (show ra < 2147483648 by omega), mj_nI _ (show rb < 2147483648 by omega), mj_nI _ (show cc < 2147483648 by omega), mj_nI _ (show ca < 2147483648 by omega), mj_nI _ (show cb < 2147483648 by omega)] at *; omega) k
    · refine mw_ld 40 i_Model_isBetween_38 rfl rfl rfl ?_
      refine mw_ld 41 i_Model_isBetween_40 rfl rfl rfl ?_
      refine mw_ld 42 i_Model_isBetween_41 rfl rfl rfl ?_
      refine mw_get 45 i_Model_isBetween_42 rfl (by assumption) (by rfl) ?_
      refine mw_d 46 i_Model_isBetween_45 rfl hw0 ?_
      rw [pk_div (by omega) (by omega) (by omega), ← erb]
      refine mw_ic 49 i_Model_isBetween_46 rfl (fun h46 => ?_) (fun h46 => ?_)
      · have hr : gw_box ra rb rc = false := by rw [Bool.eq_false_iff]; intro q; have q := (hbox _ _ _).mp q; simp only [mj_lt, mj_le, mj_nI _ (show rc < 2147483648 by omega), mj_nI _ (show ra < 2147483648 by omega), mj_nI _ (show rb < 2147483648 by omega), mj_nI _ (show cc < 2147483648 by omega), mj_nI _ (show ca < 2147483648 by omega), mj_nI _ (show cb < 2147483648 by omega)] at *; omega
        refine mw_k 65 i_Model_isBetween_64 rfl ?_
        refine mw_st (ls' := [_, _, _, _, _, _, _]) 67 i_Model_isBetween_65 rfl rfl rfl rfl ?_
        refine mw_ld 69 i_Model_isBetween_67 rfl rfl rfl ?_
        refine mw_if1 i_Model_isBetween_69 (by decide) ?_
        refine mw_k 121 i_Model_isBetween_120 rfl ?_
        refine mw_ri i_Model_isBetween_121 rfl rfl ?_
        exact mj_q0 (by rw [hr]; rfl) k
      · refine mw_ld 51 i_Model_isBetween_49 rfl rfl rfl ?_
        refine mw_ld 52 i_Model_isBetween_51 rfl rfl rfl ?_
        refine mw_ld 53 i_Model_isBetween_52 rfl rfl rfl ?_
        refine mw_get 56 i_Model_isBetween_53 rfl (by assumption) (by rfl) ?_
        refine mw_d 57 i_Model_isBetween_56 rfl hw0 ?_
        rw [pk_div (by omega) (by omega) (by omega), ← era]
        refine mw_ic 60 i_Model_isBetween_57 rfl (fun h57 => ?_) (fun h57 => ?_)
        · have hr : gw_box ra rb rc = false := by rw [Bool.eq_false_iff]; intro q; have q := (hbox _ _ _).mp q; simp only [mj_lt, mj_le, mj_nI _ (show rc < 2147483648 by omega), mj_nI _ (show ra < 2147483648 by omega), mj_nI _ (show rb < 2147483648 by omega), mj_nI _ (show cc < 2147483648 by omega), mj_nI _ (show ca < 2147483648 by omega), mj_nI _ (show cb < 2147483648 by omega)] at *; omega
          refine mw_k 65 i_Model_isBetween_64 rfl ?_
          refine mw_st (ls' := [_, _, _, _, _, _, _]) 67 i_Model_isBetween_65 rfl rfl rfl rfl ?_
          refine mw_ld 69 i_Model_isBetween_67 rfl rfl rfl ?_
          refine mw_if1 i_Model_isBetween_69 (by decide) ?_
          refine mw_k 121 i_Model_isBetween_120 rfl ?_
          refine mw_ri i_Model_isBetween_121 rfl rfl ?_
          exact mj_q0 (by rw [hr]; rfl) k
        · have hr : gw_box ra rb rc = true := (hbox _ _ _).mpr (by simp only [mj_lt, mj_le, mj_nI _ (show rc < 2147483648 by omega), mj_nI _ (show ra < 2147483648 by omega), mj_nI _ (show rb < 2147483648 by omega), mj_nI _ (show cc < 2147483648 by omega), mj_nI _ (show ca < 2147483648 by omega), mj_nI _ (show cb < 2147483648 by omega)] at *; omega)
          refine mw_k 61 i_Model_isBetween_60 rfl ?_
          refine mw_go i_Model_isBetween_61 ?_
          refine mw_st (ls' := [_, _, _, _, _, _, _]) 67 i_Model_isBetween_65 rfl rfl rfl rfl ?_
          refine mw_ld 69 i_Model_isBetween_67 rfl rfl rfl ?_
          refine mw_if0 72 i_Model_isBetween_69 rfl (by decide) ?_
          refine mw_ld 74 i_Model_isBetween_72 rfl rfl rfl ?_
          refine mw_ld 75 i_Model_isBetween_74 rfl rfl rfl ?_
          refine mw_ld 76 i_Model_isBetween_75 rfl rfl rfl ?_
          refine mw_get 79 i_Model_isBetween_76 rfl (by assumption) (by rfl) ?_
          refine mw_d 80 i_Model_isBetween_79 rfl hw0 ?_
          rw [pk_rem (by omega) (by omega) (by omega), ← eca]
          refine mw_ic 83 i_Model_isBetween_80 rfl (fun h80 => ?_) (fun h80 => ?_)
          · refine mw_ld 96 i_Model_isBetween_94 rfl rfl rfl ?_
            refine mw_ld 97 i_Model_isBetween_96 rfl rfl rfl ?_
            refine mw_ld 98 i_Model_isBetween_97 rfl rfl rfl ?_
            refine mw_get 101 i_Model_isBetween_98 rfl (by assumption) (by rfl) ?_
            refine mw_d 102 i_Model_isBetween_101 rfl hw0 ?_
            rw [pk_rem (by omega) (by omega) (by omega), ← ecb]
            refine mw_ic 105 i_Model_isBetween_102 rfl (fun h102 => ?_) (fun h102 => ?_)
            · refine mw_k 121 i_Model_isBetween_120 rfl ?_
              refine mw_ri i_Model_isBetween_121 rfl rfl ?_
              first
              | exact mj_q1 (by rw [hr]; exact (hbox _ _ _).mpr (by simp only [mj_lt, mj_le, mj_nI _ (show rc < 2147483648 by omega), mj_nI _ (show ra < 2147483648 by omega), mj_nI _ (show rb < 2147483648 by omega), mj_nI _ (show cc < 2147483648 by omega), mj_nI _ (show ca < 2147483648 by omega), mj_nI _ (show cb < 2147483648 by omega)] at *; omega)) k
              | exact mj_q0 (by rw [hr, Bool.true_and, Bool.eq_false_iff]; intro q; have q := (hbox _ _ _).mp q; simp only [mj_lt, mj_le, mj_nI _ (show rc < 2147483648 by omega), mj_nI _ (show ra < 2147483648 by omega), mj_nI _ (show rb < 2147483648 by omega), mj_nI _ (show cc < 2147483648 by omega), mj_nI _ (show ca < 2147483648 by omega), mj_nI _ (show cb < 2147483648 by omega)] at *; omega) k
            · refine mw_ld 107 i_Model_isBetween_105 rfl rfl rfl ?_
              refine mw_ld 108 i_Model_isBetween_107 rfl rfl rfl ?_
              refine mw_ld 109 i_Model_isBetween_108 rfl rfl rfl ?_
              refine mw_get 112 i_Model_isBetween_109 rfl (by assumption) (by rfl) ?_
              refine mw_d 113 i_Model_isBetween_112 rfl hw0 ?_
              rw [pk_rem (by omega) (by omega) (by omega), ← eca]
              refine mw_ic 116 i_Model_isBetween_113 rfl (fun h113 => ?_) (fun h113 => ?_)
              · refine mw_k 121 i_Model_isBetween_120 rfl ?_
                refine mw_ri i_Model_isBetween_121 rfl rfl ?_
                first
                | exact mj_q1 (by rw [hr]; exact (hbox _ _ _).mpr (by simp only [mj_lt, mj_le, mj_nI _ (show rc < 2147483648 by omega), mj_nI _ (show ra < 2147483648 by omega), mj_nI _ (show rb < 2147483648 by omega), mj_nI _ (show cc < 2147483648 by omega), mj_nI _ (show ca < 2147483648 by omega), mj_nI _ (show cb < 2147483648 by omega)] at *; omega)) k
                | exact mj_q0 (by rw [hr, Bool.true_and, Bool.eq_false_iff]; intro q; have q := (hbox _ _ _).mp q; simp only [mj_lt, mj_le, mj_nI _ (show rc < 2147483648 by omega), mj_nI _ (show ra < 2147483648 by omega), mj_nI _ (show rb < 2147483648 by omega), mj_nI _ (show cc < 2147483648 by omega), mj_nI _ (show ca < 2147483648 by omega), mj_nI _ (show cb < 2147483648 by omega)] at *; omega) k
              · refine mw_k 117 i_Model_isBetween_116 rfl ?_
                refine mw_go i_Model_isBetween_117 ?_
                refine mw_ri i_Model_isBetween_121 rfl rfl ?_
                first
                | exact mj_q1 (by rw [hr]; exact (hbox _ _ _).mpr (by simp only [mj_lt, mj_le, mj_nI _ (show rc < 2147483648 by omega), mj_nI _ (show ra < 2147483648 by omega), mj_nI _ (show rb < 2147483648 by omega), mj_nI _ (show cc < 2147483648 by omega), mj_nI _ (show ca < 2147483648 by omega), mj_nI _ (show cb < 2147483648 by omega)] at *; omega)) k
                | exact mj_q0 (by rw [hr, Bool.true_and, Bool.eq_false_iff]; intro q; have q := (hbox _ _ _).mp q; simp only [mj_lt, mj_le, mj_nI _ (show rc < 2147483648 by omega), mj_nI _ (show ra < 2147483648 by omega), mj_nI _ (show rb < 2147483648 by omega), mj_nI _ (show cc < 2147483648 by omega), mj_nI _ (show ca < 2147483648 by omega), mj_nI _ (show cb < 2147483648 by omega)] at *; omega) k
          · refine mw_ld 85 i_Model_isBetween_83 rfl rfl rfl ?_
            refine mw_ld 86 i_Model_isBetween_85 rfl rfl rfl ?_
            refine mw_ld 87 i_Model_isBetween_86 rfl rfl rfl ?_
            refine mw_get 90 i_Model_isBetween_87 rfl (by assumption) (by rfl) ?_
            refine mw_d 91 i_Model_isBetween_90 rfl hw0 ?_
            rw [pk_rem (by omega) (by omega) (by omega), ← ecb]
            refine mw_ic 94 i_Model_isBetween_91 rfl (fun h91 => ?_) (fun h91 => ?_)
            · refine mw_k 117 i_Model_isBetween_116 rfl ?_
              refine mw_go i_Model_isBetween_117 ?_
              refine mw_ri i_Model_isBetween_121 rfl rfl ?_
              first
              | exact mj_q1 (by rw [hr]; exact (hbox _ _ _).mpr (by simp only [mj_lt, mj_le, mj_nI _ (show rc < 2147483648 by omega), mj_nI _ (show ra < 2147483648 by omega), mj_nI _ (show rb < 2147483648 by omega), mj_nI _ (show cc < 2147483648 by omega), mj_nI _ (show ca < 2147483648 by omega), mj_nI _ (show cb < 2147483648 by omega)] at *; omega)) k
              | exact mj_q0 (by rw [hr, Bool.true_and, Bool.eq_false_iff]; intro q; have q := (hbox _ _ _).mp q; simp only [mj_lt, mj_le, mj_nI _ (show rc < 2147483648 by omega), mj_nI _ (show ra < 2147483648 by omega), mj_nI _ (show rb < 2147483648 by omega), mj_nI _ (show cc < 2147483648 by omega), mj_nI _ (show ca < 2147483648 by omega), mj_nI _ (show cb < 2147483648 by omega)] at *; omega) k
            · refine mw_ld 96 i_Model_isBetween_94 rfl rfl rfl ?_
              refine mw_ld 97 i_Model_isBetween_96 rfl rfl rfl ?_
              refine mw_ld 98 i_Model_isBetween_97 rfl rfl rfl ?_
              refine mw_get 101 i_Model_isBetween_98 rfl (by assumption) (by rfl) ?_
              refine mw_d 102 i_Model_isBetween_101 rfl hw0 ?_
              rw [pk_rem (by omega) (by omega) (by omega), ← ecb]
              refine mw_ic 105 i_Model_isBetween_102 rfl (fun h102 => ?_) (fun h102 => ?_)
              · refine mw_k 121 i_Model_isBetween_120 rfl ?_
                refine mw_ri i_Model_isBetween_121 rfl rfl ?_
                first
                | exact mj_q1 (by rw [hr]; exact (hbox _ _ _).mpr (by simp only [mj_lt, mj_le, mj_nI _ (show rc < 2147483648 by omega), mj_nI _ (show ra < 2147483648 by omega), mj_nI _ (show rb < 2147483648 by omega), mj_nI _ (show cc < 2147483648 by omega), mj_nI _ (show ca < 2147483648 by omega), mj_nI _ (show cb < 2147483648 by omega)] at *; omega)) k
                | exact mj_q0 (by rw [hr, Bool.true_and, Bool.eq_false_iff]; intro q; have q := (hbox _ _ _).mp q; simp only [mj_lt, mj_le, mj_nI _ (show rc < 2147483648 by omega), mj_nI _ (show ra < 2147483648 by omega), mj_nI _ (show rb < 2147483648 by omega), mj_nI _ (show cc < 2147483648 by omega), mj_nI _ (show ca < 2147483648 by omega), mj_nI _ (show cb < 2147483648 by omega)] at *; omega) k
              · refine mw_ld 107 i_Model_isBetween_105 rfl rfl rfl ?_
                refine mw_ld 108 i_Model_isBetween_107 rfl rfl rfl ?_
                refine mw_ld 109 i_Model_isBetween_108 rfl rfl rfl ?_
                refine mw_get 112 i_Model_isBetween_109 rfl (by assumption) (by rfl) ?_
                refine mw_d 113 i_Model_isBetween_112 rfl hw0 ?_
                rw [pk_rem (by omega) (by omega) (by omega), ← eca]
                refine mw_ic 116 i_Model_isBetween_113 rfl (fun h113 => ?_) (fun h113 => ?_)
                · refine mw_k 121 i_Model_isBetween_120 rfl ?_
                  refine mw_ri i_Model_isBetween_121 rfl rfl ?_
                  first
                  | exact mj_q1 (by rw [hr]; exact (hbox _ _ _).mpr (by simp only [mj_lt, mj_le, mj_nI _ (show rc < 2147483648 by omega), mj_nI _ (show ra < 2147483648 by omega), mj_nI _ (show rb < 2147483648 by omega), mj_nI _ (show cc < 2147483648 by omega), mj_nI _ (show ca < 2147483648 by omega), mj_nI _ (show cb < 2147483648 by omega)] at *; omega)) k
                  | exact mj_q0 (by rw [hr, Bool.true_and, Bool.eq_false_iff]; intro q; have q := (hbox _ _ _).mp q; simp only [mj_lt, mj_le, mj_nI _ (show rc < 2147483648 by omega), mj_nI _ (show ra < 2147483648 by omega), mj_nI _ (show rb < 2147483648 by omega), mj_nI _ (show cc < 2147483648 by omega), mj_nI _ (show ca < 2147483648 by omega), mj_nI _ (show cb < 2147483648 by omega)] at *; omega) k
                · refine mw_k 117 i_Model_isBetween_116 rfl ?_
                  refine mw_go i_Model_isBetween_117 ?_
                  refine mw_ri i_Model_isBetween_121 rfl rfl ?_
                  first
                  | exact mj_q1 (by rw [hr]; exact (hbox _ _ _).mpr (by simp only [mj_lt, mj_le, mj_nI _ (show rc < 2147483648 by omega), mj_nI _ (show ra < 2147483648 by omega), mj_nI _ (show rb < 2147483648 by omega), mj_nI _ (show cc < 2147483648 by omega), mj_nI _ (show ca < 2147483648 by omega), mj_nI _ (show cb < 2147483648 by omega)] at *; omega)) k
                  | exact mj_q0 (by rw [hr, Bool.true_and, Bool.eq_false_iff]; intro q; have q := (hbox _ _ _).mp q; simp only [mj_lt, mj_le, mj_nI _ (show rc < 2147483648 by omega), mj_nI _ (show ra < 2147483648 by omega), mj_nI _ (show rb < 2147483648 by omega), mj_nI _ (show cc < 2147483648 by omega), mj_nI _ (show ca < 2147483648 by omega), mj_nI _ (show cb < 2147483648 by omega)] at *; omega) k
theorem sp_Model_keep0 {X : mj_X} {d : Nat} {σ : mj_H} {Q : mj_H → Prop} {w h kp rw : Nat} {tf fu fe fi ma md : Int32} {s : Nat → Int32} (hO : σ.1 55 = gw_mo w h kp rw tf fu fe fi ma md) (hs1 : σ.1 56 = mj_AI 213 s) {he : Nat → Int32} (hH : σ.1 63 = mj_AI 100 he) (k : ∀ f he, gw_fr [63] σ.1 f → f 63 = mj_AI 100 he → (∀ i, i < 100 → he i = s i) → Q (f, σ.2)) : mj_M X d y_Model_keep0 [.ref 55] σ (mj_U Q) := by
  refine mw_in (l0 := [some (.ref 55), none]) rfl ?_
  refine mw_k 1 i_Model_keep0_0 rfl ?_
  refine mw_st (ls' := [_, _]) 2 i_Model_keep0_1 rfl rfl rfl rfl ?_
  refine mj_for (S := Nat → mj_C) (fun i f => mj_Wp X d y_Model_keep0 2 [some (.ref 55), some (.int (nI i))] [] (f, σ.2) (mj_U Q)) (fun i f => gw_fr [63] σ.1 f ∧ ∃ he, f 63 = mj_AI 100 he ∧ ∀ x, x < i → he x = s x) 100 ?_ ?_ 0 σ.1 (Nat.zero_le _) ⟨gw_fr_rf _ _, he, hH, fun x hx => absurd hx (Nat.not_lt_zero x)⟩
  · rintro f ⟨g1, he, g2, g3⟩
    refine mw_ld 3 i_Model_keep0_2 rfl rfl rfl ?_
    refine mw_k 5 i_Model_keep0_3 rfl ?_
    refine mw_ic1 i_Model_keep0_5 (by decide) ?_
    refine mw_rv i_Model_keep0_26 rfl ?_
    exact k f he g1 g2 g3
  · rintro i f hi ⟨g1, he, g2, g3⟩ ih
    have go : f 55 = gw_mo w h kp rw tf fu fe fi ma md := (g1 55 (by decide)).trans hO
    have gs : f 56 = mj_AI 213 s := (g1 56 (by decide)).trans hs1
    refine mw_ld 3 i_Model_keep0_2 rfl rfl rfl ?_
    refine mw_k 5 i_Model_keep0_3 rfl ?_
    refine mw_ic0 8 i_Model_keep0_5 rfl (nI_ge (b := 100) hi (by decide)) ?_
    refine mw_ld 9 i_Model_keep0_8 rfl rfl rfl ?_
    refine mw_get 12 i_Model_keep0_9 rfl (by repeat (first | exact mj_hs2 | exact mj_hs | assumption | refine mj_hn2 (by omega) ?_ | refine mj_hn (by omega) ?_)) (by rfl) ?_
    refine mw_ld 13 i_Model_keep0_12 rfl rfl rfl ?_
    refine mw_ld 14 i_Model_keep0_13 rfl rfl rfl ?_
    refine mw_get 17 i_Model_keep0_14 rfl (by repeat (first | exact mj_hs2 | exact mj_hs | assumption | refine mj_hn2 (by omega) ?_ | refine mj_hn (by omega) ?_)) (by rfl) ?_
    refine mw_ld 18 i_Model_keep0_17 rfl rfl rfl ?_
    refine mw_iald 19 i i_Model_keep0_18 rfl (by repeat (first | exact mj_hs2 | exact mj_hs | assumption | refine mj_hn2 (by omega) ?_ | refine mj_hn (by omega) ?_)) rfl (by omega) (by decide) ?_
    refine mw_iast 20 i i_Model_keep0_19 rfl (by repeat (first | exact mj_hs2 | exact mj_hs | assumption | refine mj_hn2 (by omega) ?_ | refine mj_hn (by omega) ?_)) rfl hi (by decide) ?_
    refine mw_inc (ls' := [_, _]) 23 (nI (i + 1)) i_Model_keep0_20 rfl rfl rfl (nI_1 i) rfl ?_
    refine mw_go i_Model_keep0_23 ?_
    refine ih _ ⟨gw_fr_up g1 (by simp), _, mj_hs, fun x hx => ?_⟩
    by_cases e : x = i
    · subst e; exact pk_us
    · rw [pk_un e]; exact g3 x (by omega)
theorem sp_Model_swapBack {X : mj_X} {d : Nat} {σ : mj_H} {Q : mj_H → Prop} {w h kp rw : Nat} {tf fu fe fi ma md : Int32} {s : Nat → Int32} (hO : σ.1 55 = gw_mo w h kp rw tf fu fe fi ma md) (hs1 : σ.1 56 = mj_AI 213 s) {bf : Nat → Int32} (hB : σ.1 57 = mj_AI 2130 bf) {he : Nat → Int32} (hH : σ.1 63 = mj_AI 100 he) {fr : Nat → Int32} (hF : σ.1 64 = mj_AI 100 fr) {hs : Nat → Nat → Int32} {s0 : Nat → Int32} (hk : kp ≤ 10) (hb : ∀ j i, j < kp → i < 213 → bf (213 * j + i) = hs j i) (e0 : ∀ i, i < 100 → he i = s0 i) (e1 : ∀ i, 100 ≤ i → s i = s0 i) (k : ∀ f b, gw_fr [55, 56, 57, 64] σ.1 f → f 55 = gw_mo w h (min (kp + 1) 10) 0 tf fu fe fi ma md → f 56 = mj_AI 213 s → f 57 = mj_AI 2130 b → (∃ r, f 64 = mj_AI 100 r) → (∀ j i, j < min (kp + 1) 10 → i < 213 → b (213 * j + i) = gw_push kp hs s0 j i) → Q (f, σ.2)) : mj_M X (d + 1) y_Model_swapBack [.ref 55] σ (mj_U Q) := by
  have hE := e1
  refine mw_in (l0 := [some (.ref 55), none]) rfl ?_
  refine mw_k 1 i_Model_swapBack_0 rfl ?_
  refine mw_st (ls' := [_, _]) 2 i_Model_swapBack_1 rfl rfl rfl rfl ?_
  refine mj_for (S := Nat → mj_C) (fun i f => mj_Wp X (d + 1) y_Model_swapBack 2 [some (.ref 55), some (.int (nI i))] [] (f, σ.2) (mj_U Q)) (fun i f => gw_fr [56, 64] σ.1 f ∧ (∃ a, f 56 = mj_AI 213 a ∧ (∀ x, x < i → a x = he x) ∧ ∀ x, i ≤ x → a x = s x) ∧ ∃ r, f 64 = mj_AI 100 r ∧ ∀ x, x < i → r x = s x) 100 ?_ ?_ 0 σ.1 (Nat.zero_le _) ⟨gw_fr_rf _ _, ⟨s, hs1, fun x hx => absurd hx (Nat.not_lt_zero x), fun x _ => rfl⟩, fr, hF, fun x hx => absurd hx (Nat.not_lt_zero x)⟩
  · rintro f ⟨g1, ⟨a, g2, g3, g4⟩, r, g5, g6⟩
    have ea : a = s0 := by
      funext x
      rcases Nat.lt_or_ge x 100 with q | q
      · rw [g3 x q, e0 x q]
      · rw [g4 x q, e1 x q]
    subst ea
    have go : f 55 = gw_mo w h kp rw tf fu fe fi ma md := (g1 55 (by decide)).trans hO
    have gb : f 57 = mj_AI 2130 bf := (g1 57 (by decide)).trans hB
    refine mw_ld 3 i_Model_swapBack_2 rfl rfl rfl ?_
    refine mw_k 5 i_Model_swapBack_3 rfl ?_
    refine mw_ic1 i_Model_swapBack_5 (by decide) ?_
    refine mw_ld 39 i_Model_swapBack_38 rfl rfl rfl ?_
    refine mw_cv0 42 i_Model_swapBack_39 rfl (by repeat (first | exact mj_hs2 | exact mj_hs | assumption | refine mj_hn2 (by omega) ?_ | refine mj_hn (by omega) ?_)) (sp_Model_keep (σ := (f, σ.2)) go g2 gb hk hb (fun f2 b e1 e2 e3 e4 => ?_)) rfl rfl (Nat.le_of_ble_eq_true rfl) (Nat.le_of_ble_eq_true rfl)
    refine mw_k 43 i_Model_swapBack_42 rfl ?_
    refine mw_st (ls' := [_, _]) 44 i_Model_swapBack_43 rfl rfl rfl rfl ?_
    refine mj_for (S := Nat → mj_C) (fun i f => mj_Wp X (d + 1) y_Model_swapBack 44 [some (.ref 55), some (.int (nI i))] [] (f, σ.2) (mj_U Q)) (fun i f => gw_fr [55, 56, 57, 64] σ.1 f ∧ f 55 = gw_mo w h (min (kp + 1) 10) 0 tf fu fe fi ma md ∧ f 57 = mj_AI 2130 b ∧ f 64 = mj_AI 100 r ∧ ∃ c, f 56 = mj_AI 213 c ∧ (∀ x, x < i → c x = s x) ∧ ∀ x, i ≤ x → c x = a x) 100 ?_ ?_ 0 f2 (Nat.zero_le _) ⟨gw_fr_tr (gw_fr_sub g1 (by simp)) (gw_fr_sub e1 (by simp)), e2, e3, (e1 64 (by decide)).trans g5, a, (e1 56 (by decide)).trans g2, fun x hx => absurd hx (Nat.not_lt_zero x), fun x _ => rfl⟩
    · rintro f ⟨k1, k2, k3, k4, c, k5, k6, k7⟩
      have ec : c = s := by
        funext x
        rcases Nat.lt_or_ge x 100 with q | q
        · exact k6 x q
        · rw [k7 x q, hE x q]
      subst ec
      refine mw_ld 45 i_Model_swapBack_44 rfl rfl rfl ?_
      refine mw_k 47 i_Model_swapBack_45 rfl ?_
      refine mw_ic1 i_Model_swapBack_47 (by decide) ?_
      refine mw_rv i_Model_swapBack_68 rfl ?_
      exact k f b k1 k2 k5 k3 ⟨r, k4⟩ e4
    · rintro i f hi ⟨k1, k2, k3, k4, c, k5, k6, k7⟩ ih
      refine mw_ld 45 i_Model_swapBack_44 rfl rfl rfl ?_
      refine mw_k 47 i_Model_swapBack_45 rfl ?_
      refine mw_ic0 50 i_Model_swapBack_47 rfl (nI_ge (b := 100) hi (by decide)) ?_
      refine mw_ld 51 i_Model_swapBack_50 rfl rfl rfl ?_
      refine mw_get 54 i_Model_swapBack_51 rfl (by repeat (first | exact mj_hs2 | exact mj_hs | assumption | refine mj_hn2 (by omega) ?_ | refine mj_hn (by omega) ?_)) (by rfl) ?_
      refine mw_ld 55 i_Model_swapBack_54 rfl rfl rfl ?_
      refine mw_ld 56 i_Model_swapBack_55 rfl rfl rfl ?_
      refine mw_get 59 i_Model_swapBack_56 rfl (by repeat (first | exact mj_hs2 | exact mj_hs | assumption | refine mj_hn2 (by omega) ?_ | refine mj_hn (by omega) ?_)) (by rfl) ?_
      refine mw_ld 60 i_Model_swapBack_59 rfl rfl rfl ?_
      refine mw_iald 61 i i_Model_swapBack_60 rfl (by repeat (first | exact mj_hs2 | exact mj_hs | assumption | refine mj_hn2 (by omega) ?_ | refine mj_hn (by omega) ?_)) rfl hi (by decide) ?_
      refine mw_iast 62 i i_Model_swapBack_61 rfl (by repeat (first | exact mj_hs2 | exact mj_hs | assumption | refine mj_hn2 (by omega) ?_ | refine mj_hn (by omega) ?_)) rfl (by omega) (by decide) ?_
      refine mw_inc (ls' := [_, _]) 65 (nI (i + 1)) i_Model_swapBack_62 rfl rfl rfl (nI_1 i) rfl ?_
      refine mw_go i_Model_swapBack_65 ?_
      refine ih _ ⟨gw_fr_up k1 (by simp), mj_hn (by decide) k2, mj_hn (by decide) k3, mj_hn (by decide) k4, _, mj_hs, fun x hx => ?_, fun x hx => ?_⟩
      · by_cases e : x = i
        · subst e; rw [pk_us]; exact g6 _ hi
        · rw [pk_un e]; exact k6 x (by omega)
      · rw [pk_un (by omega)]; exact k7 x (by omega)
  · rintro i f hi ⟨g1, ⟨a, g2, g3, g4⟩, r, g5, g6⟩ ih
    have go : f 55 = gw_mo w h kp rw tf fu fe fi ma md := (g1 55 (by decide)).trans hO
    have gh : f 63 = mj_AI 100 he := (g1 63 (by decide)).trans hH
    refine mw_ld 3 i_Model_swapBack_2 rfl rfl rfl ?_
    refine mw_k 5 i_Model_swapBack_3 rfl ?_
    refine mw_ic0 8 i_Model_swapBack_5 rfl (nI_ge (b := 100) hi (by decide)) ?_
    refine mw_ld 9 i_Model_swapBack_8 rfl rfl rfl ?_
    refine mw_get 12 i_Model_swapBack_9 rfl (by repeat (first | exact mj_hs2 | exact mj_hs | assumption | refine mj_hn2 (by omega) ?_ | refine mj_hn (by omega) ?_)) (by rfl) ?_
    refine mw_ld 13 i_Model_swapBack_12 rfl rfl rfl ?_
    refine mw_ld 14 i_Model_swapBack_13 rfl rfl rfl ?_
    refine mw_get 17 i_Model_swapBack_14 rfl (by repeat (first | exact mj_hs2 | exact mj_hs | assumption | refine mj_hn2 (by omega) ?_ | refine mj_hn (by omega) ?_)) (by rfl) ?_
    refine mw_ld 18 i_Model_swapBack_17 rfl rfl rfl ?_
    refine mw_iald 19 i i_Model_swapBack_18 rfl (by repeat (first | exact mj_hs2 | exact mj_hs | assumption | refine mj_hn2 (by omega) ?_ | refine mj_hn (by omega) ?_)) rfl (by omega) (by decide) ?_
    refine mw_iast 20 i i_Model_swapBack_19 rfl (by repeat (first | exact mj_hs2 | exact mj_hs | assumption | refine mj_hn2 (by omega) ?_ | refine mj_hn (by omega) ?_)) rfl hi (by decide) ?_
    refine mw_ld 21 i_Model_swapBack_20 rfl rfl rfl ?_
    refine mw_get 24 i_Model_swapBack_21 rfl (by repeat (first | exact mj_hs2 | exact mj_hs | assumption | refine mj_hn2 (by omega) ?_ | refine mj_hn (by omega) ?_)) (by rfl) ?_
    refine mw_ld 25 i_Model_swapBack_24 rfl rfl rfl ?_
    refine mw_ld 26 i_Model_swapBack_25 rfl rfl rfl ?_
    refine mw_get 29 i_Model_swapBack_26 rfl (by repeat (first | exact mj_hs2 | exact mj_hs | assumption | refine mj_hn2 (by omega) ?_ | refine mj_hn (by omega) ?_)) (by rfl) ?_
    refine mw_ld 30 i_Model_swapBack_29 rfl rfl rfl ?_
    refine mw_iald 31 i i_Model_swapBack_30 rfl (by repeat (first | exact mj_hs2 | exact mj_hs | assumption | refine mj_hn2 (by omega) ?_ | refine mj_hn (by omega) ?_)) rfl hi (by decide) ?_
    refine mw_iast 32 i i_Model_swapBack_31 rfl (by repeat (first | exact mj_hs2 | exact mj_hs | assumption | refine mj_hn2 (by omega) ?_ | refine mj_hn (by omega) ?_)) rfl (by omega) (by decide) ?_
    refine mw_inc (ls' := [_, _]) 35 (nI (i + 1)) i_Model_swapBack_32 rfl rfl rfl (nI_1 i) rfl ?_
    refine mw_go i_Model_swapBack_35 ?_
    refine ih _ ⟨gw_fr_up (gw_fr_up g1 (by simp)) (by simp), ⟨_, mj_hs, fun x hx => ?_, fun x hx => ?_⟩, _, mj_hn (by decide) mj_hs, fun x hx => ?_⟩
    · by_cases e : x = i
      · subst e; exact pk_us
      · rw [pk_un e]; exact g3 x (by omega)
    · rw [pk_un (by omega)]; exact g4 x (by omega)
    · by_cases e : x = i
      · subst e; rw [pk_us]; exact g4 _ (Nat.le_refl _)
      · rw [pk_un e]; exact g6 x (by omega)
