/-! the model: rows, check -/
theorem gw_andnot {a b : Int32} (hab : a &&& b = 0) : a &&& (b ^^^ (-1)) = a := b_ext (fun x hx => by
  rw [b_and, b_xor, b_m1 x hx]
  have := gw_and0.mp hab x hx
  cases e1 : bt a x <;> cases e2 : bt b x <;> simp_all)
theorem gw_u2 {P : List gw_Row} {rc ra rp ry : Nat → Int32} (u5 : ∀ j, j < P.length → gw_rw P j = (rc j, ra j, rp j, ry j, (gw_rw P j).2.2.2.2)) {j : Nat} (hj : j < P.length) : rc j = (gw_rw P j).1 ∧ ra j = (gw_rw P j).2.1 ∧ rp j = (gw_rw P j).2.2.1 ∧ ry j = (gw_rw P j).2.2.2.1 := by
  have h := u5 j hj
  exact ⟨(congrArg (fun r => r.1) h).symm, (congrArg (fun r => r.2.1) h).symm, (congrArg (fun r => r.2.2.1) h).symm, (congrArg (fun r => r.2.2.2.1) h).symm⟩
theorem sp_Model_below {X : mj_X} {d : Nat} {σ : mj_H} {Q : Value → mj_H → Prop} {w h kp : Nat} {tf fu fe fi ma md : Int32} {P : List gw_Row} (hl6 : P.length ≤ 600) {rc ra rp ry : Nat → Int32} (u5 : ∀ j, j < P.length → gw_rw P j = (rc j, ra j, rp j, ry j, (gw_rw P j).2.2.2.2)) (hO : σ.1 55 = gw_mo w h kp P.length tf fu fe fi ma md) (u2 : σ.1 60 = mj_AI 601 ra) {x : Nat} (k : Q (.int (nI (gw_cn (fun j => decide ((gw_rw P j).2.1 = nI x)) P.length))) σ) : mj_M X d y_Model_below [.ref 55, .int (nI x)] σ (mj_V Q) := by
  refine mw_in (l0 := [some (.ref 55), some (.int (nI x)), none, none]) rfl ?_
  refine mw_k 1 i_Model_below_0 rfl ?_
  refine mw_st (ls' := [_, _, _, _]) 2 i_Model_below_1 rfl rfl rfl rfl ?_
  refine mw_k 3 i_Model_below_2 rfl ?_
  refine mw_st (ls' := [_, _, _, _]) 4 i_Model_below_3 rfl rfl rfl rfl ?_
  refine mj_for (S := Unit) (fun i _ => mj_Wp X d y_Model_below 4 [some (.ref 55), some (.int (nI x)), some (.int (nI (gw_cn (fun j => decide ((gw_rw P j).2.1 = nI x)) i))), some (.int (nI i))] [] σ (mj_V Q)) (fun i _ => True) P.length ?_ ?_ 0 () (Nat.zero_le _) trivial
  · intro _ _
    refine mw_ld 5 i_Model_below_4 rfl rfl rfl ?_
    refine mw_ld 6 i_Model_below_5 rfl rfl rfl ?_
    refine mw_get 9 i_Model_below_6 rfl (by assumption) (by rfl) ?_
    refine mw_ic1 i_Model_below_9 (nI_le (Nat.le_refl _) (by omega)) ?_
    refine mw_ld 37 i_Model_below_36 rfl rfl rfl ?_
    refine mw_ri i_Model_below_37 rfl rfl ?_
    exact k
  · intro i _ hi _ ih
    by_cases hq : (gw_rw P i).2.1 = nI x
    · skip
      refine mw_ld 5 i_Model_below_4 rfl rfl rfl ?_
      refine mw_ld 6 i_Model_below_5 rfl rfl rfl ?_
      refine mw_get 9 i_Model_below_6 rfl (by assumption) (by rfl) ?_
      refine mw_ic0 12 i_Model_below_9 rfl (nI_ge hi (by omega)) ?_
      refine mw_ld 13 i_Model_below_12 rfl rfl rfl ?_
      refine mw_ld 14 i_Model_below_13 rfl rfl rfl ?_
      refine mw_get 17 i_Model_below_14 rfl (by assumption) (by rfl) ?_
      refine mw_ld 18 i_Model_below_17 rfl rfl rfl ?_
      refine mw_iald 19 i i_Model_below_18 rfl u2 rfl (by omega) (by decide) ?_
      rw [(gw_u2 u5 hi).2.1]
      refine mw_ld 20 i_Model_below_19 rfl rfl rfl ?_
      refine mw_ic0 23 i_Model_below_20 rfl (fun q => q hq) ?_
      refine mw_k 24 i_Model_below_23 rfl ?_
      refine mw_go i_Model_below_24 ?_
      refine mw_b 29 i_Model_below_28 rfl ?_
      rw [show (1 : Int32) = nI 1 from rfl, nI_add]
      refine mw_st (ls' := [_, _, _, _]) 30 i_Model_below_29 rfl rfl rfl rfl ?_
      refine mw_inc (ls' := [_, _, _, _]) 33 (nI (i + 1)) i_Model_below_30 rfl rfl rfl (nI_1 i) rfl ?_
      refine mw_go i_Model_below_33 ?_
      have e := ih () trivial
      simp only [gw_cn] at e
      rw [if_pos (by simp [hq])] at e
      exact e
    · skip
      refine mw_ld 5 i_Model_below_4 rfl rfl rfl ?_
      refine mw_ld 6 i_Model_below_5 rfl rfl rfl ?_
      refine mw_get 9 i_Model_below_6 rfl (by assumption) (by rfl) ?_
      refine mw_ic0 12 i_Model_below_9 rfl (nI_ge hi (by omega)) ?_
      refine mw_ld 13 i_Model_below_12 rfl rfl rfl ?_
      refine mw_ld 14 i_Model_below_13 rfl rfl rfl ?_
      refine mw_get 17 i_Model_below_14 rfl (by assumption) (by rfl) ?_
      refine mw_ld 18 i_Model_below_17 rfl rfl rfl ?_
      refine mw_iald 19 i i_Model_below_18 rfl u2 rfl (by omega) (by decide) ?_
      rw [(gw_u2 u5 hi).2.1]
      refine mw_ld 20 i_Model_below_19 rfl rfl rfl ?_
      refine mw_ic1 i_Model_below_20 hq ?_
      refine mw_k 28 i_Model_below_27 rfl ?_
      refine mw_b 29 i_Model_below_28 rfl ?_
      rw [show (0 : Int32) = nI 0 from rfl, nI_add]
      refine mw_st (ls' := [_, _, _, _]) 30 i_Model_below_29 rfl rfl rfl rfl ?_
      refine mw_inc (ls' := [_, _, _, _]) 33 (nI (i + 1)) i_Model_below_30 rfl rfl rfl (nI_1 i) rfl ?_
      refine mw_go i_Model_below_33 ?_
      have e := ih () trivial
      simp only [gw_cn] at e
      rw [if_neg (by simp [hq])] at e
      exact e
theorem sp_Model_postsBelow {X : mj_X} {d : Nat} {σ : mj_H} {Q : Value → mj_H → Prop} {w h kp : Nat} {tf fu fe fi ma md : Int32} {P : List gw_Row} (hl6 : P.length ≤ 600) {rc ra rp ry : Nat → Int32} (u5 : ∀ j, j < P.length → gw_rw P j = (rc j, ra j, rp j, ry j, (gw_rw P j).2.2.2.2)) (hO : σ.1 55 = gw_mo w h kp P.length tf fu fe fi ma md) (u2 : σ.1 60 = mj_AI 601 ra) (u3 : σ.1 61 = mj_AI 601 rp) {x : Nat} (k : Q (.int (gw_pb P x P.length)) σ) : mj_M X d y_Model_postsBelow [.ref 55, .int (nI x)] σ (mj_V Q) := by
  refine mw_in (l0 := [some (.ref 55), some (.int (nI x)), none, none]) rfl ?_
  refine mw_k 1 i_Model_postsBelow_0 rfl ?_
  refine mw_st (ls' := [_, _, _, _]) 2 i_Model_postsBelow_1 rfl rfl rfl rfl ?_
  refine mw_k 3 i_Model_postsBelow_2 rfl ?_
  refine mw_st (ls' := [_, _, _, _]) 4 i_Model_postsBelow_3 rfl rfl rfl rfl ?_
  refine mj_for (S := Unit) (fun i _ => mj_Wp X d y_Model_postsBelow 4 [some (.ref 55), some (.int (nI x)), some (.int (gw_pb P x i)), some (.int (nI i))] [] σ (mj_V Q)) (fun i _ => True) P.length ?_ ?_ 0 () (Nat.zero_le _) trivial
  · intro _ _
    refine mw_ld 5 i_Model_postsBelow_4 rfl rfl rfl ?_
    refine mw_ld 6 i_Model_postsBelow_5 rfl rfl rfl ?_
    refine mw_get 9 i_Model_postsBelow_6 rfl (by assumption) (by rfl) ?_
    refine mw_ic1 i_Model_postsBelow_9 (nI_le (Nat.le_refl _) (by omega)) ?_
    refine mw_ld 44 i_Model_postsBelow_43 rfl rfl rfl ?_
    refine mw_ri i_Model_postsBelow_44 rfl rfl ?_
    exact k
  · intro i _ hi _ ih
    by_cases hq : (gw_rw P i).2.1 = nI x
    · skip
      refine mw_ld 5 i_Model_postsBelow_4 rfl rfl rfl ?_
      refine mw_ld 6 i_Model_postsBelow_5 rfl rfl rfl ?_
      refine mw_get 9 i_Model_postsBelow_6 rfl (by assumption) (by rfl) ?_
      refine mw_ic0 12 i_Model_postsBelow_9 rfl (nI_ge hi (by omega)) ?_
      refine mw_ld 13 i_Model_postsBelow_12 rfl rfl rfl ?_
      refine mw_ld 14 i_Model_postsBelow_13 rfl rfl rfl ?_
      refine mw_get 17 i_Model_postsBelow_14 rfl (by assumption) (by rfl) ?_
      refine mw_ld 18 i_Model_postsBelow_17 rfl rfl rfl ?_
      refine mw_iald 19 i i_Model_postsBelow_18 rfl u2 rfl (by omega) (by decide) ?_
      rw [(gw_u2 u5 hi).2.1]
      refine mw_ld 20 i_Model_postsBelow_19 rfl rfl rfl ?_
      refine mw_ic0 23 i_Model_postsBelow_20 rfl (fun q => q hq) ?_
      refine mw_k 24 i_Model_postsBelow_23 rfl ?_
      refine mw_ld 25 i_Model_postsBelow_24 rfl rfl rfl ?_
      refine mw_get 28 i_Model_postsBelow_25 rfl (by assumption) (by rfl) ?_
      refine mw_ld 29 i_Model_postsBelow_28 rfl rfl rfl ?_
      refine mw_iald 30 i i_Model_postsBelow_29 rfl u3 rfl (by omega) (by decide) ?_
      rw [(gw_u2 u5 hi).2.2.1]
      refine mw_b 31 i_Model_postsBelow_30 rfl ?_
      refine mw_go i_Model_postsBelow_31 ?_
      refine mw_b 36 i_Model_postsBelow_35 rfl ?_
      refine mw_st (ls' := [_, _, _, _]) 37 i_Model_postsBelow_36 rfl rfl rfl rfl ?_
      refine mw_inc (ls' := [_, _, _, _]) 40 (nI (i + 1)) i_Model_postsBelow_37 rfl rfl rfl (nI_1 i) rfl ?_
      refine mw_go i_Model_postsBelow_40 ?_
      have e := ih () trivial
      simp only [gw_pb] at e
      rw [if_pos hq] at e
      exact e
    · skip
      refine mw_ld 5 i_Model_postsBelow_4 rfl rfl rfl ?_
      refine mw_ld 6 i_Model_postsBelow_5 rfl rfl rfl ?_
      refine mw_get 9 i_Model_postsBelow_6 rfl (by assumption) (by rfl) ?_
      refine mw_ic0 12 i_Model_postsBelow_9 rfl (nI_ge hi (by omega)) ?_
      refine mw_ld 13 i_Model_postsBelow_12 rfl rfl rfl ?_
      refine mw_ld 14 i_Model_postsBelow_13 rfl rfl rfl ?_
      refine mw_get 17 i_Model_postsBelow_14 rfl (by assumption) (by rfl) ?_
      refine mw_ld 18 i_Model_postsBelow_17 rfl rfl rfl ?_
      refine mw_iald 19 i i_Model_postsBelow_18 rfl u2 rfl (by omega) (by decide) ?_
      rw [(gw_u2 u5 hi).2.1]
      refine mw_ld 20 i_Model_postsBelow_19 rfl rfl rfl ?_
      refine mw_ic1 i_Model_postsBelow_20 hq ?_
      refine mw_k 35 i_Model_postsBelow_34 rfl ?_
      refine mw_b 36 i_Model_postsBelow_35 rfl ?_
      rw [gw_or0]
      refine mw_st (ls' := [_, _, _, _]) 37 i_Model_postsBelow_36 rfl rfl rfl rfl ?_
      refine mw_inc (ls' := [_, _, _, _]) 40 (nI (i + 1)) i_Model_postsBelow_37 rfl rfl rfl (nI_1 i) rfl ?_
      refine mw_go i_Model_postsBelow_40 ?_
      have e := ih () trivial
      simp only [gw_pb] at e
      rw [if_neg hq] at e
      exact e
theorem sp_Model_row {X : mj_X} {d : Nat} {σ : mj_H} {Q : Value → mj_H → Prop} {w h n : Nat} {s : Nat → Int32} {kp : Nat} {hs : Nat → Nat → Int32} {P : List gw_Row} {sz : Int32} (hM : gw_MI σ.1 w h n s kp hs P sz) (hd : gw_dim w h) (hn14 : n ≤ 14) (hp : s 100 = nI n) (hv : gw_vp w h n s) {z t : Int32} (htr : gw_tr w h n P) (k : Q (.int (a_row P z t)) σ) : mj_M X (d + 20) y_Model_row [.ref 55, .int z, .int t] σ (mj_V Q) := by
  obtain ⟨tf, fu, fe, fi, ma, md, hO, hA, hRr, hSs, htf⟩ := id hM
  obtain ⟨hs1, bf, hB, hb⟩ := id hA
  obtain ⟨⟨wt0, hW⟩, ⟨he0, hH⟩, ⟨fr0, hF⟩, ⟨fa0, hFa⟩, ⟨ct0, hCt⟩, ⟨mc0, hm1⟩, ⟨mb0, hm2⟩, ⟨mp0, hm3⟩, ⟨mw0, hm4⟩⟩ := id hSs
  have hwh := gw_dim_le hd
  obtain ⟨rc, ra, rp, ry, u1, u2, u3, u4, u5⟩ := id hRr
  have hl6 := htr.1
  refine mw_in (l0 := [some (.ref 55), some (.int z), some (.int t)]) rfl ?_
  by_cases hP0 : P.length = 0
  · skip
    refine mw_ld 1 i_Model_row_0 rfl rfl rfl ?_
    refine mw_get 4 i_Model_row_1 rfl (by assumption) (by rfl) ?_
    refine mw_if0 7 i_Model_row_4 rfl (fun q => q (by rw [hP0]; rfl)) ?_
    refine mw_k 9 i_Model_row_7 rfl ?_
    refine mw_ri i_Model_row_9 rfl rfl ?_
    rw [a_row, if_pos hP0] at k
    exact k
  · skip
    rw [a_row, if_neg hP0] at k
    have hP1 : ¬ nI P.length = 0 := fun q => hP0 ((nI_z (by omega)).mp q)
    have hin : gw_in z 0 (nI P.length - 1) = gw_isP P.length z := by rw [Bool.eq_iff_iff, gw_in_iff, gw_isP_iff, nI_m1t (by omega), mj_lit0]; omega
    by_cases hz : gw_isP P.length z = true
    · skip
      obtain ⟨i, hi, rfl⟩ := gw_isP_of hz
      rw [if_pos hz, gw_tn (by omega)] at k
      obtain ⟨d1, d2, d3, d4⟩ := gw_u2 u5 hi
      by_cases ht : gw_in t 0 3 = true
      · skip
        by_cases w0 : t = 0
        · rw [if_pos w0] at k
          refine mw_ld 1 i_Model_row_0 rfl rfl rfl ?_
          refine mw_get 4 i_Model_row_1 rfl (by assumption) (by rfl) ?_
          refine mw_if1 i_Model_row_4 hP1 ?_
          refine mw_ld 11 i_Model_row_10 rfl rfl rfl ?_
          refine mw_k 12 i_Model_row_11 rfl ?_
          refine mw_ld 13 i_Model_row_12 rfl rfl rfl ?_
          refine mw_get 16 i_Model_row_13 rfl (by assumption) (by rfl) ?_
          refine mw_k 17 i_Model_row_16 rfl ?_
          refine mw_b 18 i_Model_row_17 rfl ?_
          refine mw_cs1 21 i_Model_row_18 rfl (sp_Model_isIn ?_) rfl rfl (Nat.le_of_ble_eq_true rfl) (Nat.le_of_ble_eq_true rfl)
          refine mw_if0 24 i_Model_row_21 rfl (mj_bI1.mpr (by rw [hin]; exact hz)) ?_
          refine mw_ld 25 i_Model_row_24 rfl rfl rfl ?_
          refine mw_k 26 i_Model_row_25 rfl ?_
          refine mw_k 27 i_Model_row_26 rfl ?_
          refine mw_cs1 30 i_Model_row_27 rfl (sp_Model_isIn ?_) rfl rfl (Nat.le_of_ble_eq_true rfl) (Nat.le_of_ble_eq_true rfl)
          refine mw_if1 i_Model_row_30 (mj_bI1.mpr ht) ?_
          refine mw_ld 37 i_Model_row_36 rfl rfl rfl ?_
          refine mw_if0 40 i_Model_row_37 rfl (fun q => q w0) ?_
          refine mw_ld 41 i_Model_row_40 rfl rfl rfl ?_
          refine mw_get 44 i_Model_row_41 rfl (by assumption) (by rfl) ?_
          refine mw_ld 45 i_Model_row_44 rfl rfl rfl ?_
          refine mw_iald 46 i i_Model_row_45 rfl u1 rfl (by omega) (by decide) ?_
          rw [d1]
          refine mw_go i_Model_row_46 ?_
          refine mw_ri i_Model_row_82 rfl rfl ?_
          exact k
        · by_cases w1 : t = 1
          · rw [if_neg w0, if_pos w1] at k
            refine mw_ld 1 i_Model_row_0 rfl rfl rfl ?_
            refine mw_get 4 i_Model_row_1 rfl (by assumption) (by rfl) ?_
            refine mw_if1 i_Model_row_4 hP1 ?_
            refine mw_ld 11 i_Model_row_10 rfl rfl rfl ?_
            refine mw_k 12 i_Model_row_11 rfl ?_
            refine mw_ld 13 i_Model_row_12 rfl rfl rfl ?_
            refine mw_get 16 i_Model_row_13 rfl (by assumption) (by rfl) ?_
            refine mw_k 17 i_Model_row_16 rfl ?_
            refine mw_b 18 i_Model_row_17 rfl ?_
            refine mw_cs1 21 i_Model_row_18 rfl (sp_Model_isIn ?_) rfl rfl (Nat.le_of_ble_eq_true rfl) (Nat.le_of_ble_eq_true rfl)
            refine mw_if0 24 i_Model_row_21 rfl (mj_bI1.mpr (by rw [hin]; exact hz)) ?_
            refine mw_ld 25 i_Model_row_24 rfl rfl rfl ?_
            refine mw_k 26 i_Model_row_25 rfl ?_
            refine mw_k 27 i_Model_row_26 rfl ?_
            refine mw_cs1 30 i_Model_row_27 rfl (sp_Model_isIn ?_) rfl rfl (Nat.le_of_ble_eq_true rfl) (Nat.le_of_ble_eq_true rfl)
            refine mw_if1 i_Model_row_30 (mj_bI1.mpr ht) ?_
            refine mw_ld 37 i_Model_row_36 rfl rfl rfl ?_
            refine mw_if1 i_Model_row_37 w0 ?_
            refine mw_ld 50 i_Model_row_49 rfl rfl rfl ?_
            refine mw_k 51 i_Model_row_50 rfl ?_
            refine mw_ic0 54 i_Model_row_51 rfl (fun q => q w1) ?_
            refine mw_ld 55 i_Model_row_54 rfl rfl rfl ?_
            refine mw_get 58 i_Model_row_55 rfl (by assumption) (by rfl) ?_
            refine mw_ld 59 i_Model_row_58 rfl rfl rfl ?_
            refine mw_iald 60 i i_Model_row_59 rfl u2 rfl (by omega) (by decide) ?_
            rw [d2]
            refine mw_go i_Model_row_60 ?_
            refine mw_ri i_Model_row_82 rfl rfl ?_
            exact k
          · by_cases w2 : t = 2
            · rw [if_neg w0, if_neg w1, if_pos w2] at k
              refine mw_ld 1 i_Model_row_0 rfl rfl rfl ?_
              refine mw_get 4 i_Model_row_1 rfl (by assumption) (by rfl) ?_
              refine mw_if1 i_Model_row_4 hP1 ?_
              refine mw_ld 11 i_Model_row_10 rfl rfl rfl ?_
              refine mw_k 12 i_Model_row_11 rfl ?_
              refine mw_ld 13 i_Model_row_12 rfl rfl rfl ?_
              refine mw_get 16 i_Model_row_13 rfl (by assumption) (by rfl) ?_
              refine mw_k 17 i_Model_row_16 rfl ?_
              refine mw_b 18 i_Model_row_17 rfl ?_
              refine mw_cs1 21 i_Model_row_18 rfl (sp_Model_isIn ?_) rfl rfl (Nat.le_of_ble_eq_true rfl) (Nat.le_of_ble_eq_true rfl)
              refine mw_if0 24 i_Model_row_21 rfl (mj_bI1.mpr (by rw [hin]; exact hz)) ?_
              refine mw_ld 25 i_Model_row_24 rfl rfl rfl ?_
              refine mw_k 26 i_Model_row_25 rfl ?_
              refine mw_k 27 i_Model_row_26 rfl ?_
              refine mw_cs1 30 i_Model_row_27 rfl (sp_Model_isIn ?_) rfl rfl (Nat.le_of_ble_eq_true rfl) (Nat.le_of_ble_eq_true rfl)
              refine mw_if1 i_Model_row_30 (mj_bI1.mpr ht) ?_
              refine mw_ld 37 i_Model_row_36 rfl rfl rfl ?_
              refine mw_if1 i_Model_row_37 w0 ?_
              refine mw_ld 50 i_Model_row_49 rfl rfl rfl ?_
              refine mw_k 51 i_Model_row_50 rfl ?_
              refine mw_ic1 i_Model_row_51 w1 ?_
              refine mw_ld 64 i_Model_row_63 rfl rfl rfl ?_
              refine mw_k 65 i_Model_row_64 rfl ?_
              refine mw_ic0 68 i_Model_row_65 rfl (fun q => q w2) ?_
              refine mw_ld 69 i_Model_row_68 rfl rfl rfl ?_
              refine mw_get 72 i_Model_row_69 rfl (by assumption) (by rfl) ?_
              refine mw_ld 73 i_Model_row_72 rfl rfl rfl ?_
              refine mw_iald 74 i i_Model_row_73 rfl u3 rfl (by omega) (by decide) ?_
              rw [d3]
              refine mw_go i_Model_row_74 ?_
              refine mw_ri i_Model_row_82 rfl rfl ?_
              exact k
            · have w3 : t = 3 := by
                have q0 := gw_ne_lit (k := 0) (by decide) w0; have q1 := gw_ne_lit (k := 1) (by decide) w1; have q2 := gw_ne_lit (k := 2) (by decide) w2
                have q5 := gw_in_iff.mp ht
                have p5 : (3 : Int32).toInt = 3 := by decide
                rw [mj_lit0, p5] at q5
                rw [mj_eq, p5]; omega
              rw [if_neg w0, if_neg w1, if_neg w2, if_pos w3] at k
              obtain ⟨t1, t2, t3, t4⟩ := htr.2 i hi
              have ev : nI (gw_cn (fun j => decide ((gw_rw P j).2.1 = nI i)) P.length) = gw_pc (gw_rw P i).2.2.2.2 := by rw [gw_cn_kd, t1, gw_cn_blk, gw_pc_eq hn14 t4]
              refine mw_ld 1 i_Model_row_0 rfl rfl rfl ?_
              refine mw_get 4 i_Model_row_1 rfl (by assumption) (by rfl) ?_
              refine mw_if1 i_Model_row_4 hP1 ?_
              refine mw_ld 11 i_Model_row_10 rfl rfl rfl ?_
              refine mw_k 12 i_Model_row_11 rfl ?_
              refine mw_ld 13 i_Model_row_12 rfl rfl rfl ?_
              refine mw_get 16 i_Model_row_13 rfl (by assumption) (by rfl) ?_
              refine mw_k 17 i_Model_row_16 rfl ?_
              refine mw_b 18 i_Model_row_17 rfl ?_
              refine mw_cs1 21 i_Model_row_18 rfl (sp_Model_isIn ?_) rfl rfl (Nat.le_of_ble_eq_true rfl) (Nat.le_of_ble_eq_true rfl)
              refine mw_if0 24 i_Model_row_21 rfl (mj_bI1.mpr (by rw [hin]; exact hz)) ?_
              refine mw_ld 25 i_Model_row_24 rfl rfl rfl ?_
              refine mw_k 26 i_Model_row_25 rfl ?_
              refine mw_k 27 i_Model_row_26 rfl ?_
              refine mw_cs1 30 i_Model_row_27 rfl (sp_Model_isIn ?_) rfl rfl (Nat.le_of_ble_eq_true rfl) (Nat.le_of_ble_eq_true rfl)
              refine mw_if1 i_Model_row_30 (mj_bI1.mpr ht) ?_
              refine mw_ld 37 i_Model_row_36 rfl rfl rfl ?_
              refine mw_if1 i_Model_row_37 w0 ?_
              refine mw_ld 50 i_Model_row_49 rfl rfl rfl ?_
              refine mw_k 51 i_Model_row_50 rfl ?_
              refine mw_ic1 i_Model_row_51 w1 ?_
              refine mw_ld 64 i_Model_row_63 rfl rfl rfl ?_
              refine mw_k 65 i_Model_row_64 rfl ?_
              refine mw_ic1 i_Model_row_65 w2 ?_
              refine mw_ld 78 i_Model_row_77 rfl rfl rfl ?_
              refine mw_ld 79 i_Model_row_78 rfl rfl rfl ?_
              refine mw_cv1 82 i_Model_row_79 rfl (by assumption) (sp_Model_below hl6 u5 hO u2 ?_) rfl rfl (Nat.le_of_ble_eq_true rfl) (Nat.le_of_ble_eq_true rfl)
              refine mw_ri i_Model_row_82 rfl rfl ?_
              rw [ev]
              exact k
      · skip
        have wn : ∀ j : Nat, j ≤ 3 → ¬ t = nI j := fun j hj q => ht (by
          rw [q, gw_in_iff, mj_nI j (by omega)]
          have p5 : (3 : Int32).toInt = 3 := by decide
          rw [mj_lit0, p5]; omega)
        refine mw_ld 1 i_Model_row_0 rfl rfl rfl ?_
        refine mw_get 4 i_Model_row_1 rfl (by assumption) (by rfl) ?_
        refine mw_if1 i_Model_row_4 hP1 ?_
        refine mw_ld 11 i_Model_row_10 rfl rfl rfl ?_
        refine mw_k 12 i_Model_row_11 rfl ?_
        refine mw_ld 13 i_Model_row_12 rfl rfl rfl ?_
        refine mw_get 16 i_Model_row_13 rfl (by assumption) (by rfl) ?_
        refine mw_k 17 i_Model_row_16 rfl ?_
        refine mw_b 18 i_Model_row_17 rfl ?_
        refine mw_cs1 21 i_Model_row_18 rfl (sp_Model_isIn ?_) rfl rfl (Nat.le_of_ble_eq_true rfl) (Nat.le_of_ble_eq_true rfl)
        refine mw_if0 24 i_Model_row_21 rfl (mj_bI1.mpr (by rw [hin]; exact hz)) ?_
        refine mw_ld 25 i_Model_row_24 rfl rfl rfl ?_
        refine mw_k 26 i_Model_row_25 rfl ?_
        refine mw_k 27 i_Model_row_26 rfl ?_
        refine mw_cs1 30 i_Model_row_27 rfl (sp_Model_isIn ?_) rfl rfl (Nat.le_of_ble_eq_true rfl) (Nat.le_of_ble_eq_true rfl)
        refine mw_if0 33 i_Model_row_30 rfl (fun q => q (mj_bI0.mpr (gw_nt ht))) ?_
        refine mw_k 35 i_Model_row_33 rfl ?_
        refine mw_ri i_Model_row_35 rfl rfl ?_
        rw [if_neg (show ¬ t = 0 from wn 0 (by decide)), if_neg (show ¬ t = 1 from wn 1 (by decide)), if_neg (show ¬ t = 2 from wn 2 (by decide)), if_neg (show ¬ t = 3 from wn 3 (by decide))] at k
        exact k
    · skip
      refine mw_ld 1 i_Model_row_0 rfl rfl rfl ?_
      refine mw_get 4 i_Model_row_1 rfl (by assumption) (by rfl) ?_
      refine mw_if1 i_Model_row_4 hP1 ?_
      refine mw_ld 11 i_Model_row_10 rfl rfl rfl ?_
      refine mw_k 12 i_Model_row_11 rfl ?_
      refine mw_ld 13 i_Model_row_12 rfl rfl rfl ?_
      refine mw_get 16 i_Model_row_13 rfl (by assumption) (by rfl) ?_
      refine mw_k 17 i_Model_row_16 rfl ?_
      refine mw_b 18 i_Model_row_17 rfl ?_
      refine mw_cs1 21 i_Model_row_18 rfl (sp_Model_isIn ?_) rfl rfl (Nat.le_of_ble_eq_true rfl) (Nat.le_of_ble_eq_true rfl)
      refine mw_if1 i_Model_row_21 (mj_bI0.mpr (by rw [hin]; exact gw_nt hz)) ?_
      refine mw_k 35 i_Model_row_33 rfl ?_
      refine mw_ri i_Model_row_35 rfl rfl ?_
      rw [if_neg hz] at k
      exact k
theorem sp_Model_forge {X : mj_X} {d : Nat} {σ : mj_H} {Q : Value → mj_H → Prop} {w h n : Nat} {s : Nat → Int32} {kp : Nat} {hs : Nat → Nat → Int32} {P : List gw_Row} {sz : Int32} (hM : gw_MI σ.1 w h n s kp hs P sz) (hd : gw_dim w h) (hn14 : n ≤ 14) (hp : s 100 = nI n) (hv : gw_vp w h n s) {z c : Int32} (htr : gw_tr w h n P) (k1 : gw_okForge w h P z c = false → Q (.int (a_forge P)) σ) (k2 : gw_okForge w h P z c = true → ∀ f, gw_fr gw_ML σ.1 f → gw_MI f w h n s kp hs (P.set z.toInt.toNat (c, (gw_rw P z.toInt.toNat).2)) sz → Q (.int (gw_rw P z.toInt.toNat).1) (f, σ.2)) : mj_M X (d + 20) y_Model_forge [.ref 55, .int z, .int c] σ (mj_V Q) := by
  obtain ⟨tf, fu, fe, fi, ma, md, hO, hA, hRr, hSs, htf⟩ := id hM
  obtain ⟨hs1, bf, hB, hb⟩ := id hA
  obtain ⟨⟨wt0, hW⟩, ⟨he0, hH⟩, ⟨fr0, hF⟩, ⟨fa0, hFa⟩, ⟨ct0, hCt⟩, ⟨mc0, hm1⟩, ⟨mb0, hm2⟩, ⟨mp0, hm3⟩, ⟨mw0, hm4⟩⟩ := id hSs
  have hwh := gw_dim_le hd
  obtain ⟨rc, ra, rp, ry, u1, u2, u3, u4, u5⟩ := id hRr
  have hl6 := htr.1
  refine mw_in (l0 := [some (.ref 55), some (.int z), some (.int c), none]) rfl ?_
  by_cases hP0 : P.length = 0
  · skip
    refine mw_ld 1 i_Model_forge_0 rfl rfl rfl ?_
    refine mw_get 4 i_Model_forge_1 rfl (by assumption) (by rfl) ?_
    refine mw_if0 7 i_Model_forge_4 rfl (fun q => q (by rw [hP0]; rfl)) ?_
    refine mw_k 9 i_Model_forge_7 rfl ?_
    refine mw_ri i_Model_forge_9 rfl rfl ?_
    rw [a_forge, if_pos hP0] at k1
    exact k1 (by simp [gw_okForge, hP0])
  · skip
    rw [a_forge, if_neg hP0] at k1
    have hP1 : ¬ nI P.length = 0 := fun q => hP0 ((nI_z (by omega)).mp q)
    have hin : gw_in z 0 (nI P.length - 1) = gw_isP P.length z := by rw [Bool.eq_iff_iff, gw_in_iff, gw_isP_iff, nI_m1t (by omega), mj_lit0]; omega
    by_cases hz : gw_isP P.length z = true
    · skip
      by_cases hc : gw_ce w h c = true
      · skip
        have hok : gw_okForge w h P z c = true := by simp [gw_okForge, hz, hc, hP0]
        obtain ⟨i, hi, rfl⟩ := gw_isP_of hz
        rw [gw_tn (by omega)] at k2
        obtain ⟨d1, d2, d3, d4⟩ := gw_u2 u5 hi
        refine mw_ld 1 i_Model_forge_0 rfl rfl rfl ?_
        refine mw_get 4 i_Model_forge_1 rfl (by assumption) (by rfl) ?_
        refine mw_if1 i_Model_forge_4 hP1 ?_
        refine mw_ld 11 i_Model_forge_10 rfl rfl rfl ?_
        refine mw_k 12 i_Model_forge_11 rfl ?_
        refine mw_ld 13 i_Model_forge_12 rfl rfl rfl ?_
        refine mw_get 16 i_Model_forge_13 rfl (by assumption) (by rfl) ?_
        refine mw_k 17 i_Model_forge_16 rfl ?_
        refine mw_b 18 i_Model_forge_17 rfl ?_
        refine mw_cs1 21 i_Model_forge_18 rfl (sp_Model_isIn ?_) rfl rfl (Nat.le_of_ble_eq_true rfl) (Nat.le_of_ble_eq_true rfl)
        refine mw_if0 24 i_Model_forge_21 rfl (mj_bI1.mpr (by rw [hin]; exact hz)) ?_
        refine mw_ld 25 i_Model_forge_24 rfl rfl rfl ?_
        refine mw_ld 26 i_Model_forge_25 rfl rfl rfl ?_
        refine mw_cv1 29 i_Model_forge_26 rfl (by assumption) (sp_Model_isCell hO hd ?_) rfl rfl (Nat.le_of_ble_eq_true rfl) (Nat.le_of_ble_eq_true rfl)
        refine mw_if1 i_Model_forge_29 (mj_bI1.mpr hc) ?_
        refine mw_ld 36 i_Model_forge_35 rfl rfl rfl ?_
        refine mw_get 39 i_Model_forge_36 rfl (by assumption) (by rfl) ?_
        refine mw_ld 40 i_Model_forge_39 rfl rfl rfl ?_
        refine mw_iald 41 i i_Model_forge_40 rfl u1 rfl (by omega) (by decide) ?_
        rw [d1]
        refine mw_st (ls' := [_, _, _, _]) 42 i_Model_forge_41 rfl rfl rfl rfl ?_
        refine mw_ld 43 i_Model_forge_42 rfl rfl rfl ?_
        refine mw_get 46 i_Model_forge_43 rfl (by assumption) (by rfl) ?_
        refine mw_ld 47 i_Model_forge_46 rfl rfl rfl ?_
        refine mw_ld 48 i_Model_forge_47 rfl rfl rfl ?_
        refine mw_iast 49 i i_Model_forge_48 rfl u1 rfl (by omega) (by decide) ?_
        refine mw_ld 50 i_Model_forge_49 rfl rfl rfl ?_
        refine mw_ri i_Model_forge_50 rfl rfl ?_
        have hf : gw_fr [59] σ.1 (va_up σ.1 59 (mj_AI 601 (upd rc i c))) := gw_fr_up (gw_fr_rf _ _) (by simp)
        refine k2 hok _ (gw_fr_sub hf (by decide)) ⟨tf, fu, fe, fi, ma, md, ?_, gw_mA_fr hf (by decide) (by decide) hA, ⟨upd rc i c, ra, rp, ry, mj_hs, mj_hn (by decide) u2, mj_hn (by decide) u3, mj_hn (by decide) u4, fun j hj => ?_⟩, gw_mS_fr hf (gw_no_in (by decide)) (gw_no_in (by decide)) (gw_no_in (by decide)) (gw_no_in (by decide)) (gw_no_in (by decide)) (gw_no_in (by decide)) (gw_no_in (by decide)) (gw_no_in (by decide)) (gw_no_in (by decide)) hSs, ?_⟩
        · rw [List.length_set]; exact mj_hn (by decide) hO
        · rw [List.length_set] at hj
          by_cases e : j = i
          · subst e
            have : gw_rw (P.set j (c, (gw_rw P j).2)) j = (c, (gw_rw P j).2) := by rw [gw_rw, List.getElem?_set, if_pos rfl, if_pos hj]; rfl
            rw [this, pk_us]
            show (c, (gw_rw P j).2) = (c, ra j, rp j, ry j, (gw_rw P j).2.2.2.2)
            rw [d2, d3, d4]
          · have : gw_rw (P.set i (c, (gw_rw P i).2)) j = gw_rw P j := by rw [gw_rw, List.getElem?_set, if_neg (fun q => e q.symm)]; rfl
            rw [this, pk_un e]; exact u5 j hj
        · rw [List.length_set]; exact htf
      · skip
        refine mw_ld 1 i_Model_forge_0 rfl rfl rfl ?_
        refine mw_get 4 i_Model_forge_1 rfl (by assumption) (by rfl) ?_
        refine mw_if1 i_Model_forge_4 hP1 ?_
        refine mw_ld 11 i_Model_forge_10 rfl rfl rfl ?_
        refine mw_k 12 i_Model_forge_11 rfl ?_
        refine mw_ld 13 i_Model_forge_12 rfl rfl rfl ?_
        refine mw_get 16 i_Model_forge_13 rfl (by assumption) (by rfl) ?_
        refine mw_k 17 i_Model_forge_16 rfl ?_
        refine mw_b 18 i_Model_forge_17 rfl ?_
        refine mw_cs1 21 i_Model_forge_18 rfl (sp_Model_isIn ?_) rfl rfl (Nat.le_of_ble_eq_true rfl) (Nat.le_of_ble_eq_true rfl)
        refine mw_if0 24 i_Model_forge_21 rfl (mj_bI1.mpr (by rw [hin]; exact hz)) ?_
        refine mw_ld 25 i_Model_forge_24 rfl rfl rfl ?_
        refine mw_ld 26 i_Model_forge_25 rfl rfl rfl ?_
        refine mw_cv1 29 i_Model_forge_26 rfl (by assumption) (sp_Model_isCell hO hd ?_) rfl rfl (Nat.le_of_ble_eq_true rfl) (Nat.le_of_ble_eq_true rfl)
        refine mw_if0 32 i_Model_forge_29 rfl (fun q => q (mj_bI0.mpr (gw_nt hc))) ?_
        refine mw_k 34 i_Model_forge_32 rfl ?_
        refine mw_ri i_Model_forge_34 rfl rfl ?_
        exact k1 (by simp [gw_okForge, hc])
    · skip
      refine mw_ld 1 i_Model_forge_0 rfl rfl rfl ?_
      refine mw_get 4 i_Model_forge_1 rfl (by assumption) (by rfl) ?_
      refine mw_if1 i_Model_forge_4 hP1 ?_
      refine mw_ld 11 i_Model_forge_10 rfl rfl rfl ?_
      refine mw_k 12 i_Model_forge_11 rfl ?_
      refine mw_ld 13 i_Model_forge_12 rfl rfl rfl ?_
      refine mw_get 16 i_Model_forge_13 rfl (by assumption) (by rfl) ?_
      refine mw_k 17 i_Model_forge_16 rfl ?_
      refine mw_b 18 i_Model_forge_17 rfl ?_
      refine mw_cs1 21 i_Model_forge_18 rfl (sp_Model_isIn ?_) rfl rfl (Nat.le_of_ble_eq_true rfl) (Nat.le_of_ble_eq_true rfl)
      refine mw_if1 i_Model_forge_21 (mj_bI0.mpr (by rw [hin]; exact gw_nt hz)) ?_
      refine mw_k 34 i_Model_forge_32 rfl ?_
      refine mw_ri i_Model_forge_34 rfl rfl ?_
      exact k1 (by simp [gw_okForge, hz])
theorem sp_Model_isRight {X : mj_X} {d : Nat} {σ : mj_H} {Q : Value → mj_H → Prop} {w h kp : Nat} {tf fu fe fi ma md : Int32} {s : Nat → Int32} {P : List gw_Row} (hl6 : P.length ≤ 600) {rc ra rp ry : Nat → Int32} (u5 : ∀ j, j < P.length → gw_rw P j = (rc j, ra j, rp j, ry j, (gw_rw P j).2.2.2.2)) (hO : σ.1 55 = gw_mo w h kp P.length tf fu fe fi ma md) (hs1 : σ.1 56 = mj_AI 213 s) {n : Nat} {wt : Nat → Int32} (hd : gw_dim w h) (hW : σ.1 58 = mj_AI 100 wt) (hwt : ∀ c, c < w * h → wt c = gw_wt w h n s c) (hn14 : n ≤ 14) (htr : gw_tr w h n P) (u1 : σ.1 59 = mj_AI 601 rc) (u2 : σ.1 60 = mj_AI 601 ra) (u3 : σ.1 61 = mj_AI 601 rp) (u4 : σ.1 62 = mj_AI 601 ry) {i : Nat} (hi : i < P.length) (k : Q (.int (mj_bI (gw_rg w h n s tf (gw_rw P i).1 (gw_rw P i).2.2.2.1 (gw_rw P i).2.2.2.2))) σ) : mj_M X (d + 1) y_Model_isRight [.ref 55, .int (nI i)] σ (mj_V Q) := by
  have hwh := gw_dim_le hd
  obtain ⟨t1, t2, t3, t4⟩ := htr.2 i hi
  obtain ⟨d1, d2, d3, d4⟩ := gw_u2 u5 hi
  obtain ⟨q, hq, eq⟩ := gw_ce_of hd t2
  have epb := gw_pb_eq hn14 htr hi
  have erg : gw_rg w h n s tf (gw_rw P i).1 (gw_rw P i).2.2.2.1 (gw_rw P i).2.2.2.2 = ((s q == 0) && (gw_wt w h n s q &&& (gw_rw P i).2.2.2.1 == 0) && (decide (tf ≤ nI (gw_cn (bt (gw_rw P i).2.2.2.1) 14)) || ((gw_rw P i).2.2.2.2 == gw_wt w h n s q))) := by
    rw [gw_rg, eq, gw_op_nI (by omega), gw_wo_nI (by omega), if_pos hq, gw_pc_eq hn14 t3]; simp [hq]
  rw [erg] at k
  rw [eq] at d1
  refine mw_in (l0 := [some (.ref 55), some (.int (nI i)), none]) rfl ?_
  by_cases hA : (s q == 0) = true
  · by_cases hB : gw_wt w h n s q &&& (gw_rw P i).2.2.2.1 = 0
    · rw [hA, hB] at k
      have ew2 := gw_andnot hB
      by_cases hC : tf ≤ nI (gw_cn (bt (gw_rw P i).2.2.2.1) 14)
      · skip
        refine mw_ld 1 i_Model_isRight_0 rfl rfl rfl ?_
        refine mw_get 4 i_Model_isRight_1 rfl (by assumption) (by rfl) ?_
        refine mw_ld 5 i_Model_isRight_4 rfl rfl rfl ?_
        refine mw_iald 6 i i_Model_isRight_5 rfl u1 rfl (by omega) (by decide) ?_
        rw [d1]
        refine mw_st (ls' := [_, _, _]) 7 i_Model_isRight_6 rfl rfl rfl rfl ?_
        refine mw_ld 8 i_Model_isRight_7 rfl rfl rfl ?_
        refine mw_ld 9 i_Model_isRight_8 rfl rfl rfl ?_
        refine mw_cv1 12 i_Model_isRight_9 rfl (by assumption) (sp_Model_isOpen hO hs1 (by omega) ?_) rfl rfl (Nat.le_of_ble_eq_true rfl) (Nat.le_of_ble_eq_true rfl)
        refine mw_if0 15 i_Model_isRight_12 rfl (mj_bI1.mpr hA) ?_
        refine mw_ld 16 i_Model_isRight_15 rfl rfl rfl ?_
        refine mw_get 19 i_Model_isRight_16 rfl (by assumption) (by rfl) ?_
        refine mw_ld 20 i_Model_isRight_19 rfl rfl rfl ?_
        refine mw_iald 21 q i_Model_isRight_20 rfl hW rfl (by omega) (by decide) ?_
        rw [hwt q hq]
        refine mw_ld 22 i_Model_isRight_21 rfl rfl rfl ?_
        refine mw_get 25 i_Model_isRight_22 rfl (by assumption) (by rfl) ?_
        refine mw_ld 26 i_Model_isRight_25 rfl rfl rfl ?_
        refine mw_iald 27 i i_Model_isRight_26 rfl u4 rfl (by omega) (by decide) ?_
        rw [d4]
        refine mw_b 28 i_Model_isRight_27 rfl ?_
        refine mw_if1 i_Model_isRight_28 hB ?_
        refine mw_ld 34 i_Model_isRight_33 rfl rfl rfl ?_
        refine mw_get 37 i_Model_isRight_34 rfl (by assumption) (by rfl) ?_
        refine mw_ld 38 i_Model_isRight_37 rfl rfl rfl ?_
        refine mw_iald 39 i i_Model_isRight_38 rfl u4 rfl (by omega) (by decide) ?_
        rw [d4]
        refine mw_cs1 42 i_Model_isRight_39 rfl (sp_Model_manyOf ?_) rfl rfl (Nat.le_of_ble_eq_true rfl) (Nat.le_of_ble_eq_true rfl)
        refine mw_ld 43 i_Model_isRight_42 rfl rfl rfl ?_
        refine mw_get 46 i_Model_isRight_43 rfl (by assumption) (by rfl) ?_
        refine mw_ic1 i_Model_isRight_46 hC ?_
        refine mw_k 73 i_Model_isRight_72 rfl ?_
        refine mw_go i_Model_isRight_73 ?_
        refine mw_ri i_Model_isRight_77 rfl rfl ?_
        exact mj_q1 (by simp [hC]) k
      · by_cases hD : (gw_rw P i).2.2.2.2 = gw_wt w h n s q
        · skip
          refine mw_ld 1 i_Model_isRight_0 rfl rfl rfl ?_
          refine mw_get 4 i_Model_isRight_1 rfl (by assumption) (by rfl) ?_
          refine mw_ld 5 i_Model_isRight_4 rfl rfl rfl ?_
          refine mw_iald 6 i i_Model_isRight_5 rfl u1 rfl (by omega) (by decide) ?_
          rw [d1]
          refine mw_st (ls' := [_, _, _]) 7 i_Model_isRight_6 rfl rfl rfl rfl ?_
          refine mw_ld 8 i_Model_isRight_7 rfl rfl rfl ?_
          refine mw_ld 9 i_Model_isRight_8 rfl rfl rfl ?_
          refine mw_cv1 12 i_Model_isRight_9 rfl (by assumption) (sp_Model_isOpen hO hs1 (by omega) ?_) rfl rfl (Nat.le_of_ble_eq_true rfl) (Nat.le_of_ble_eq_true rfl)
          refine mw_if0 15 i_Model_isRight_12 rfl (mj_bI1.mpr hA) ?_
          refine mw_ld 16 i_Model_isRight_15 rfl rfl rfl ?_
          refine mw_get 19 i_Model_isRight_16 rfl (by assumption) (by rfl) ?_
          refine mw_ld 20 i_Model_isRight_19 rfl rfl rfl ?_
          refine mw_iald 21 q i_Model_isRight_20 rfl hW rfl (by omega) (by decide) ?_
          rw [hwt q hq]
          refine mw_ld 22 i_Model_isRight_21 rfl rfl rfl ?_
          refine mw_get 25 i_Model_isRight_22 rfl (by assumption) (by rfl) ?_
          refine mw_ld 26 i_Model_isRight_25 rfl rfl rfl ?_
          refine mw_iald 27 i i_Model_isRight_26 rfl u4 rfl (by omega) (by decide) ?_
          rw [d4]
          refine mw_b 28 i_Model_isRight_27 rfl ?_
          refine mw_if1 i_Model_isRight_28 hB ?_
          refine mw_ld 34 i_Model_isRight_33 rfl rfl rfl ?_
          refine mw_get 37 i_Model_isRight_34 rfl (by assumption) (by rfl) ?_
          refine mw_ld 38 i_Model_isRight_37 rfl rfl rfl ?_
          refine mw_iald 39 i i_Model_isRight_38 rfl u4 rfl (by omega) (by decide) ?_
          rw [d4]
          refine mw_cs1 42 i_Model_isRight_39 rfl (sp_Model_manyOf ?_) rfl rfl (Nat.le_of_ble_eq_true rfl) (Nat.le_of_ble_eq_true rfl)
          refine mw_ld 43 i_Model_isRight_42 rfl rfl rfl ?_
          refine mw_get 46 i_Model_isRight_43 rfl (by assumption) (by rfl) ?_
          refine mw_ic0 49 i_Model_isRight_46 rfl hC ?_
          refine mw_ld 50 i_Model_isRight_49 rfl rfl rfl ?_
          refine mw_ld 51 i_Model_isRight_50 rfl rfl rfl ?_
          refine mw_cv1 54 i_Model_isRight_51 rfl (by assumption) (sp_Model_postsBelow hl6 u5 hO u2 u3 ?_) rfl rfl (Nat.le_of_ble_eq_true rfl) (Nat.le_of_ble_eq_true rfl)
          refine mw_ld 55 i_Model_isRight_54 rfl rfl rfl ?_
          refine mw_get 58 i_Model_isRight_55 rfl (by assumption) (by rfl) ?_
          refine mw_ld 59 i_Model_isRight_58 rfl rfl rfl ?_
          refine mw_iald 60 q i_Model_isRight_59 rfl hW rfl (by omega) (by decide) ?_
          rw [hwt q hq]
          refine mw_ld 61 i_Model_isRight_60 rfl rfl rfl ?_
          refine mw_get 64 i_Model_isRight_61 rfl (by assumption) (by rfl) ?_
          refine mw_ld 65 i_Model_isRight_64 rfl rfl rfl ?_
          refine mw_iald 66 i i_Model_isRight_65 rfl u4 rfl (by omega) (by decide) ?_
          rw [d4]
          refine mw_k 67 i_Model_isRight_66 rfl ?_
          refine mw_b 68 i_Model_isRight_67 rfl ?_
          refine mw_b 69 i_Model_isRight_68 rfl ?_
          refine mw_ic0 72 i_Model_isRight_69 rfl (fun z => z (by rw [epb, ew2]; exact hD)) ?_
          refine mw_k 73 i_Model_isRight_72 rfl ?_
          refine mw_go i_Model_isRight_73 ?_
          refine mw_ri i_Model_isRight_77 rfl rfl ?_
          exact mj_q1 (by simp [hD]) k
        · skip
          refine mw_ld 1 i_Model_isRight_0 rfl rfl rfl ?_
          refine mw_get 4 i_Model_isRight_1 rfl (by assumption) (by rfl) ?_
          refine mw_ld 5 i_Model_isRight_4 rfl rfl rfl ?_
          refine mw_iald 6 i i_Model_isRight_5 rfl u1 rfl (by omega) (by decide) ?_
          rw [d1]
          refine mw_st (ls' := [_, _, _]) 7 i_Model_isRight_6 rfl rfl rfl rfl ?_
          refine mw_ld 8 i_Model_isRight_7 rfl rfl rfl ?_
          refine mw_ld 9 i_Model_isRight_8 rfl rfl rfl ?_
          refine mw_cv1 12 i_Model_isRight_9 rfl (by assumption) (sp_Model_isOpen hO hs1 (by omega) ?_) rfl rfl (Nat.le_of_ble_eq_true rfl) (Nat.le_of_ble_eq_true rfl)
          refine mw_if0 15 i_Model_isRight_12 rfl (mj_bI1.mpr hA) ?_
          refine mw_ld 16 i_Model_isRight_15 rfl rfl rfl ?_
          refine mw_get 19 i_Model_isRight_16 rfl (by assumption) (by rfl) ?_
          refine mw_ld 20 i_Model_isRight_19 rfl rfl rfl ?_
          refine mw_iald 21 q i_Model_isRight_20 rfl hW rfl (by omega) (by decide) ?_
          rw [hwt q hq]
          refine mw_ld 22 i_Model_isRight_21 rfl rfl rfl ?_
          refine mw_get 25 i_Model_isRight_22 rfl (by assumption) (by rfl) ?_
          refine mw_ld 26 i_Model_isRight_25 rfl rfl rfl ?_
          refine mw_iald 27 i i_Model_isRight_26 rfl u4 rfl (by omega) (by decide) ?_
          rw [d4]
          refine mw_b 28 i_Model_isRight_27 rfl ?_
          refine mw_if1 i_Model_isRight_28 hB ?_
          refine mw_ld 34 i_Model_isRight_33 rfl rfl rfl ?_
          refine mw_get 37 i_Model_isRight_34 rfl (by assumption) (by rfl) ?_
          refine mw_ld 38 i_Model_isRight_37 rfl rfl rfl ?_
          refine mw_iald 39 i i_Model_isRight_38 rfl u4 rfl (by omega) (by decide) ?_
          rw [d4]
          refine mw_cs1 42 i_Model_isRight_39 rfl (sp_Model_manyOf ?_) rfl rfl (Nat.le_of_ble_eq_true rfl) (Nat.le_of_ble_eq_true rfl)
          refine mw_ld 43 i_Model_isRight_42 rfl rfl rfl ?_
          refine mw_get 46 i_Model_isRight_43 rfl (by assumption) (by rfl) ?_
          refine mw_ic0 49 i_Model_isRight_46 rfl hC ?_
          refine mw_ld 50 i_Model_isRight_49 rfl rfl rfl ?_
          refine mw_ld 51 i_Model_isRight_50 rfl rfl rfl ?_
          refine mw_cv1 54 i_Model_isRight_51 rfl (by assumption) (sp_Model_postsBelow hl6 u5 hO u2 u3 ?_) rfl rfl (Nat.le_of_ble_eq_true rfl) (Nat.le_of_ble_eq_true rfl)
          refine mw_ld 55 i_Model_isRight_54 rfl rfl rfl ?_
          refine mw_get 58 i_Model_isRight_55 rfl (by assumption) (by rfl) ?_
          refine mw_ld 59 i_Model_isRight_58 rfl rfl rfl ?_
          refine mw_iald 60 q i_Model_isRight_59 rfl hW rfl (by omega) (by decide) ?_
          rw [hwt q hq]
          refine mw_ld 61 i_Model_isRight_60 rfl rfl rfl ?_
          refine mw_get 64 i_Model_isRight_61 rfl (by assumption) (by rfl) ?_
          refine mw_ld 65 i_Model_isRight_64 rfl rfl rfl ?_
          refine mw_iald 66 i i_Model_isRight_65 rfl u4 rfl (by omega) (by decide) ?_
          rw [d4]
          refine mw_k 67 i_Model_isRight_66 rfl ?_
          refine mw_b 68 i_Model_isRight_67 rfl ?_
          refine mw_b 69 i_Model_isRight_68 rfl ?_
          refine mw_ic1 i_Model_isRight_69 (fun z => hD (by rw [epb, ew2] at z; exact z)) ?_
          refine mw_k 77 i_Model_isRight_76 rfl ?_
          refine mw_ri i_Model_isRight_77 rfl rfl ?_
          exact mj_q0 (by simp [hC, hD]) k
    · skip
      refine mw_ld 1 i_Model_isRight_0 rfl rfl rfl ?_
      refine mw_get 4 i_Model_isRight_1 rfl (by assumption) (by rfl) ?_
      refine mw_ld 5 i_Model_isRight_4 rfl rfl rfl ?_
      refine mw_iald 6 i i_Model_isRight_5 rfl u1 rfl (by omega) (by decide) ?_
      rw [d1]
      refine mw_st (ls' := [_, _, _]) 7 i_Model_isRight_6 rfl rfl rfl rfl ?_
      refine mw_ld 8 i_Model_isRight_7 rfl rfl rfl ?_
      refine mw_ld 9 i_Model_isRight_8 rfl rfl rfl ?_
      refine mw_cv1 12 i_Model_isRight_9 rfl (by assumption) (sp_Model_isOpen hO hs1 (by omega) ?_) rfl rfl (Nat.le_of_ble_eq_true rfl) (Nat.le_of_ble_eq_true rfl)
      refine mw_if0 15 i_Model_isRight_12 rfl (mj_bI1.mpr hA) ?_
      refine mw_ld 16 i_Model_isRight_15 rfl rfl rfl ?_
      refine mw_get 19 i_Model_isRight_16 rfl (by assumption) (by rfl) ?_
      refine mw_ld 20 i_Model_isRight_19 rfl rfl rfl ?_
      refine mw_iald 21 q i_Model_isRight_20 rfl hW rfl (by omega) (by decide) ?_
      rw [hwt q hq]
      refine mw_ld 22 i_Model_isRight_21 rfl rfl rfl ?_
      refine mw_get 25 i_Model_isRight_22 rfl (by assumption) (by rfl) ?_
      refine mw_ld 26 i_Model_isRight_25 rfl rfl rfl ?_
      refine mw_iald 27 i i_Model_isRight_26 rfl u4 rfl (by omega) (by decide) ?_
      rw [d4]
      refine mw_b 28 i_Model_isRight_27 rfl ?_
      refine mw_if0 31 i_Model_isRight_28 rfl hB ?_
      refine mw_k 32 i_Model_isRight_31 rfl ?_
      refine mw_ri i_Model_isRight_32 rfl rfl ?_
      exact mj_q0 (by simp [hB]) k
  · skip
    refine mw_ld 1 i_Model_isRight_0 rfl rfl rfl ?_
    refine mw_get 4 i_Model_isRight_1 rfl (by assumption) (by rfl) ?_
    refine mw_ld 5 i_Model_isRight_4 rfl rfl rfl ?_
    refine mw_iald 6 i i_Model_isRight_5 rfl u1 rfl (by omega) (by decide) ?_
    rw [d1]
    refine mw_st (ls' := [_, _, _]) 7 i_Model_isRight_6 rfl rfl rfl rfl ?_
    refine mw_ld 8 i_Model_isRight_7 rfl rfl rfl ?_
    refine mw_ld 9 i_Model_isRight_8 rfl rfl rfl ?_
    refine mw_cv1 12 i_Model_isRight_9 rfl (by assumption) (sp_Model_isOpen hO hs1 (by omega) ?_) rfl rfl (Nat.le_of_ble_eq_true rfl) (Nat.le_of_ble_eq_true rfl)
    refine mw_if1 i_Model_isRight_12 (mj_bI0.mpr (gw_nt hA)) ?_
    refine mw_k 32 i_Model_isRight_31 rfl ?_
    refine mw_ri i_Model_isRight_32 rfl rfl ?_
    exact mj_q0 (by simp [gw_nt hA]) k
theorem sp_Model_check {X : mj_X} {d : Nat} {σ : mj_H} {Q : Value → mj_H → Prop} {w h n : Nat} {s : Nat → Int32} {kp : Nat} {hs : Nat → Nat → Int32} {P : List gw_Row} {sz : Int32} (hM : gw_MI σ.1 w h n s kp hs P sz) (hd : gw_dim w h) (hn14 : n ≤ 14) (hp : s 100 = nI n) (hv : gw_vp w h n s) (htr : gw_tr w h n P) (k : ∀ f, gw_fr gw_ML σ.1 f → gw_MI f w h n s kp hs P sz → Q (.int (a_check w h n s P sz)) (f, σ.2)) : mj_M X (d + 20) y_Model_check [.ref 55] σ (mj_V Q) := by
  obtain ⟨tf, fu, fe, fi, ma, md, hO, hA, hRr, hSs, htf⟩ := id hM
  obtain ⟨hs1, bf, hB, hb⟩ := id hA
  obtain ⟨⟨wt0, hW⟩, ⟨he0, hH⟩, ⟨fr0, hF⟩, ⟨fa0, hFa⟩, ⟨ct0, hCt⟩, ⟨mc0, hm1⟩, ⟨mb0, hm2⟩, ⟨mp0, hm3⟩, ⟨mw0, hm4⟩⟩ := id hSs
  have hwh := gw_dim_le hd
  obtain ⟨rc, ra, rp, ry, u1, u2, u3, u4, u5⟩ := id hRr
  have hl6 := htr.1
  refine mw_in (l0 := [some (.ref 55), none]) rfl ?_
  by_cases hP0 : P.length = 0
  · skip
    refine mw_ld 1 i_Model_check_0 rfl rfl rfl ?_
    refine mw_get 4 i_Model_check_1 rfl (by assumption) (by rfl) ?_
    refine mw_if0 7 i_Model_check_4 rfl (fun q => q (by rw [hP0]; rfl)) ?_
    refine mw_k 9 i_Model_check_7 rfl ?_
    refine mw_ri i_Model_check_9 rfl rfl ?_
    rw [a_check, if_pos hP0] at k
    exact k σ.1 (gw_fr_rf _ _) hM
  · skip
    rw [a_check, if_neg hP0] at k
    have hP1 : ¬ nI P.length = 0 := fun q => hP0 ((nI_z (by omega)).mp q)
    have etf : tf = sz := htf.resolve_left hP0
    subst etf
    refine mw_ld 1 i_Model_check_0 rfl rfl rfl ?_
    refine mw_get 4 i_Model_check_1 rfl (by assumption) (by rfl) ?_
    refine mw_if1 i_Model_check_4 hP1 ?_
    refine mw_ld 11 i_Model_check_10 rfl rfl rfl ?_
    refine mw_cv0 14 i_Model_check_11 rfl (by assumption) (sp_Model_look hO hs1 hd hn14 hp hv hW (fun f wt g1 g2 g3 => ?_)) rfl rfl (Nat.le_of_ble_eq_true rfl) (Nat.le_of_ble_eq_true rfl)
    have go : f 55 = gw_mo w h kp P.length tf fu fe fi ma md := (g1 _ (by decide)).trans hO
    have gs : f 56 = mj_AI 213 s := (g1 _ (by decide)).trans hs1
    have hMf := gw_MI_look g1 g2 hM
    have hff : gw_fr gw_ML σ.1 f := gw_fr_sub g1 (by decide)
    refine mw_k 15 i_Model_check_14 rfl ?_
    refine mw_st (ls' := [_, _]) 16 i_Model_check_15 rfl rfl rfl rfl ?_
    refine mj_for (S := Unit) (fun i _ => mj_Wp X (d + 20) y_Model_check 16 [some (.ref 55), some (.int (nI i))] [] (f, σ.2) (mj_V Q)) (fun i _ => ∀ j, j < i → (fun i => !gw_rg w h n s tf (gw_rw P i).1 (gw_rw P i).2.2.2.1 (gw_rw P i).2.2.2.2) j = false) P.length ?_ ?_ 0 () (Nat.zero_le _) (fun j hj => absurd hj (Nat.not_lt_zero j))
    · intro _ hI
      refine mw_ld 17 i_Model_check_16 rfl rfl rfl ?_
      refine mw_ld 18 i_Model_check_17 rfl rfl rfl ?_
      refine mw_get 21 i_Model_check_18 rfl (by assumption) (by rfl) ?_
      refine mw_ic1 i_Model_check_21 (nI_le (Nat.le_refl _) (by omega)) ?_
      refine mw_k 43 i_Model_check_42 rfl ?_
      refine mw_ri i_Model_check_43 rfl rfl ?_
      rw [gw_ff_none.mpr hI] at k
      exact k f hff hMf
    · intro i _ hi hI ih
      by_cases hr : gw_rg w h n s tf (gw_rw P i).1 (gw_rw P i).2.2.2.1 (gw_rw P i).2.2.2.2 = true
      · skip
        refine mw_ld 17 i_Model_check_16 rfl rfl rfl ?_
        refine mw_ld 18 i_Model_check_17 rfl rfl rfl ?_
        refine mw_get 21 i_Model_check_18 rfl (by assumption) (by rfl) ?_
        refine mw_ic0 24 i_Model_check_21 rfl (nI_ge hi (by omega)) ?_
        refine mw_ld 25 i_Model_check_24 rfl rfl rfl ?_
        refine mw_ld 26 i_Model_check_25 rfl rfl rfl ?_
        refine mw_cv1 29 i_Model_check_26 rfl (by assumption) (sp_Model_isRight (σ := (f, σ.2)) hl6 u5 go gs hd g2 g3 hn14 htr ((g1 59 (by decide)).trans u1) ((g1 60 (by decide)).trans u2) ((g1 61 (by decide)).trans u3) ((g1 62 (by decide)).trans u4) hi ?_) rfl rfl (Nat.le_of_ble_eq_true rfl) (Nat.le_of_ble_eq_true rfl)
        refine mw_if1 i_Model_check_29 (mj_bI1.mpr hr) ?_
        refine mw_inc (ls' := [_, _]) 39 (nI (i + 1)) i_Model_check_36 rfl rfl rfl (nI_1 i) rfl ?_
        refine mw_go i_Model_check_39 ?_
        refine ih () (fun j hj => ?_)
        by_cases e : j = i
        · subst e; simp [hr]
        · exact hI j (by omega)
      · skip
        refine mw_ld 17 i_Model_check_16 rfl rfl rfl ?_
        refine mw_ld 18 i_Model_check_17 rfl rfl rfl ?_
        refine mw_get 21 i_Model_check_18 rfl (by assumption) (by rfl) ?_
        refine mw_ic0 24 i_Model_check_21 rfl (nI_ge hi (by omega)) ?_
        refine mw_ld 25 i_Model_check_24 rfl rfl rfl ?_
        refine mw_ld 26 i_Model_check_25 rfl rfl rfl ?_
        refine mw_cv1 29 i_Model_check_26 rfl (by assumption) (sp_Model_isRight (σ := (f, σ.2)) hl6 u5 go gs hd g2 g3 hn14 htr ((g1 59 (by decide)).trans u1) ((g1 60 (by decide)).trans u2) ((g1 61 (by decide)).trans u3) ((g1 62 (by decide)).trans u4) hi ?_) rfl rfl (Nat.le_of_ble_eq_true rfl) (Nat.le_of_ble_eq_true rfl)
        refine mw_if0 32 i_Model_check_29 rfl (fun q => q (mj_bI0.mpr (gw_nt hr))) ?_
        refine mw_k 33 i_Model_check_32 rfl ?_
        refine mw_ld 34 i_Model_check_33 rfl rfl rfl ?_
        refine mw_b 35 i_Model_check_34 rfl ?_
        refine mw_ri i_Model_check_35 rfl rfl ?_
        rw [gw_ff_some hi (by simp [gw_nt hr]) hI] at k
        exact k f hff hMf
