/-! the model: who sees what -/
theorem gw_rch {x y r : Int32} (hx : -9 ≤ x.toInt ∧ x.toInt ≤ 9) (hy : -9 ≤ y.toInt ∧ y.toInt ≤ 9) (hr : 1 ≤ r.toInt ∧ r.toInt ≤ 9) : (gw_in x (-r) r && gw_in y (-r) r) = decide (gw_mx (gw_ab x) (gw_ab y) ≤ r) := by
  obtain ⟨X, hX⟩ : ∃ X, X = x.toInt := ⟨_, rfl⟩
  obtain ⟨Y, hY⟩ : ∃ Y, Y = y.toInt := ⟨_, rfl⟩
  obtain ⟨R, hR⟩ : ∃ R, R = r.toInt := ⟨_, rfl⟩
  have ex : x = iI X := by rw [hX]; exact iI_of x
  have ey : y = iI Y := by rw [hY]; exact iI_of y
  have er : r = iI R := by rw [hR]; exact iI_of r
  rw [← hX] at hx; rw [← hY] at hy; rw [← hR] at hr
  subst ex; subst ey; subst er
  have a1 : gw_ab (iI X) = iI (X.natAbs : Int) := iI_abs (by omega)
  have a2 : gw_ab (iI Y) = iI (Y.natAbs : Int) := iI_abs (by omega)
  rw [Bool.eq_iff_iff, Bool.and_eq_true, gw_in_iff, gw_in_iff, decide_eq_true_iff, iI_neg, a1, a2, gw_mx]
  rw [iI_toInt (by omega) (by omega), iI_toInt (by omega) (by omega), iI_toInt (by omega) (by omega), iI_toInt (by omega) (by omega)]
  by_cases q : (X.natAbs : Int) < (Y.natAbs : Int)
  · rw [if_pos ((iI_lt (by omega) (by omega)).mpr q), iI_le (by omega) (by omega)]; omega
  · rw [if_neg (fun z => q ((iI_lt (by omega) (by omega)).mp z)), iI_le (by omega) (by omega)]; omega
theorem sp_Model_looks {X : mj_X} {d : Nat} {σ : mj_H} {Q : Value → mj_H → Prop} {w h kp rw : Nat} {tf fu fe fi ma md : Int32} {s : Nat → Int32} (hO : σ.1 55 = gw_mo w h kp rw tf fu fe fi ma md) (hs1 : σ.1 56 = mj_AI 213 s) {i : Nat} {x y : Int32} (hi : i < 14) (k : Q (.int (mj_bI (((x == 0) && (y == 0)) || gw_lk (s (129 + i)) (s (143 + i)) (s (157 + i)) (s (171 + i)) x y))) σ) : mj_M X d y_Model_looks [.ref 55, .int (nI i), .int x, .int y] σ (mj_V Q) := by
  refine mw_in (l0 := [some (.ref 55), some (.int (nI i)), some (.int x), some (.int y), none, none, none, none, none, none]) rfl ?_
  by_cases hxy : x = 0 ∧ y = 0
  · skip
    refine mw_ld 1 i_Model_looks_0 rfl rfl rfl ?_
    refine mw_if0 4 i_Model_looks_1 rfl (fun q => q hxy.1) ?_
    refine mw_ld 5 i_Model_looks_4 rfl rfl rfl ?_
    refine mw_if0 8 i_Model_looks_5 rfl (fun q => q hxy.2) ?_
    refine mw_k 9 i_Model_looks_8 rfl ?_
    refine mw_ri i_Model_looks_9 rfl rfl ?_
    exact mj_q1 (by simp [hxy.1, hxy.2]) k
  · have e1 : ((x == 0) && (y == 0)) = false := by
      rw [Bool.eq_false_iff]; intro q; simp only [Bool.and_eq_true, beq_iff_eq] at q; exact hxy q
    rw [e1, Bool.false_or, gw_lk] at k
    by_cases hx : x = 0
    · have hy : ¬ y = 0 := fun q => hxy ⟨hx, q⟩
      refine mw_ld 1 i_Model_looks_0 rfl rfl rfl ?_
      refine mw_if0 4 i_Model_looks_1 rfl (fun q => q hx) ?_
      refine mw_ld 5 i_Model_looks_4 rfl rfl rfl ?_
      refine mw_if1 i_Model_looks_5 hy ?_
      refine mw_ld 11 i_Model_looks_10 rfl rfl rfl ?_
      refine mw_get 14 i_Model_looks_11 rfl (by assumption) (by rfl) ?_
      refine mw_k 17 i_Model_looks_14 rfl ?_
      refine mw_ld 18 i_Model_looks_17 rfl rfl rfl ?_
      refine mw_b 19 i_Model_looks_18 rfl ?_
      rw [show (129 : Int32) = nI 129 from rfl, nI_add]
      refine mw_iald 20 (129 + i) i_Model_looks_19 rfl (by assumption) rfl (by omega) (by decide) ?_
      refine mw_st (ls' := [_, _, _, _, _, _, _, _, _, _]) 22 i_Model_looks_20 rfl rfl rfl rfl ?_
      refine mw_ld 23 i_Model_looks_22 rfl rfl rfl ?_
      refine mw_get 26 i_Model_looks_23 rfl (by assumption) (by rfl) ?_
      refine mw_k 29 i_Model_looks_26 rfl ?_
      refine mw_ld 30 i_Model_looks_29 rfl rfl rfl ?_
      refine mw_b 31 i_Model_looks_30 rfl ?_
      rw [show (143 : Int32) = nI 143 from rfl, nI_add]
      refine mw_iald 32 (143 + i) i_Model_looks_31 rfl (by assumption) rfl (by omega) (by decide) ?_
      refine mw_st (ls' := [_, _, _, _, _, _, _, _, _, _]) 34 i_Model_looks_32 rfl rfl rfl rfl ?_
      refine mw_ld 35 i_Model_looks_34 rfl rfl rfl ?_
      refine mw_get 38 i_Model_looks_35 rfl (by assumption) (by rfl) ?_
      refine mw_k 41 i_Model_looks_38 rfl ?_
      refine mw_ld 42 i_Model_looks_41 rfl rfl rfl ?_
      refine mw_b 43 i_Model_looks_42 rfl ?_
      rw [show (157 : Int32) = nI 157 from rfl, nI_add]
      refine mw_iald 44 (157 + i) i_Model_looks_43 rfl (by assumption) rfl (by omega) (by decide) ?_
      refine mw_st (ls' := [_, _, _, _, _, _, _, _, _, _]) 46 i_Model_looks_44 rfl rfl rfl rfl ?_
      refine mw_ld 47 i_Model_looks_46 rfl rfl rfl ?_
      refine mw_get 50 i_Model_looks_47 rfl (by assumption) (by rfl) ?_
      refine mw_k 53 i_Model_looks_50 rfl ?_
      refine mw_ld 54 i_Model_looks_53 rfl rfl rfl ?_
      refine mw_b 55 i_Model_looks_54 rfl ?_
      rw [show (171 : Int32) = nI 171 from rfl, nI_add]
      refine mw_iald 56 (171 + i) i_Model_looks_55 rfl (by assumption) rfl (by omega) (by decide) ?_
      refine mw_st (ls' := [_, _, _, _, _, _, _, _, _, _]) 58 i_Model_looks_56 rfl rfl rfl rfl ?_
      refine mw_ld 60 i_Model_looks_58 rfl rfl rfl ?_
      refine mw_ld 61 i_Model_looks_60 rfl rfl rfl ?_
      refine mw_b 62 i_Model_looks_61 rfl ?_
      refine mw_ld 64 i_Model_looks_62 rfl rfl rfl ?_
      refine mw_ld 65 i_Model_looks_64 rfl rfl rfl ?_
      refine mw_b 66 i_Model_looks_65 rfl ?_
      refine mw_b 67 i_Model_looks_66 rfl ?_
      refine mw_st (ls' := [_, _, _, _, _, _, _, _, _, _]) 69 i_Model_looks_67 rfl rfl rfl rfl ?_
      refine mw_ld 70 i_Model_looks_69 rfl rfl rfl ?_
      refine mw_ld 72 i_Model_looks_70 rfl rfl rfl ?_
      refine mw_b 73 i_Model_looks_72 rfl ?_
      refine mw_ld 74 i_Model_looks_73 rfl rfl rfl ?_
      refine mw_ld 76 i_Model_looks_74 rfl rfl rfl ?_
      refine mw_b 77 i_Model_looks_76 rfl ?_
      refine mw_b 78 i_Model_looks_77 rfl ?_
      refine mw_st (ls' := [_, _, _, _, _, _, _, _, _, _]) 80 i_Model_looks_78 rfl rfl rfl rfl ?_
      refine mw_ld 82 i_Model_looks_80 rfl rfl rfl ?_
      refine mw_ld 84 i_Model_looks_82 rfl rfl rfl ?_
      refine mw_b 85 i_Model_looks_84 rfl ?_
      refine mw_ld 87 i_Model_looks_85 rfl rfl rfl ?_
      refine mw_ld 89 i_Model_looks_87 rfl rfl rfl ?_
      refine mw_b 90 i_Model_looks_89 rfl ?_
      refine mw_b 91 i_Model_looks_90 rfl ?_
      refine mw_if 94 i_Model_looks_91 rfl (fun h91 => ?_) (fun h91 => ?_)
      · refine mw_ld 124 i_Model_looks_122 rfl rfl rfl ?_
        refine mw_if 127 i_Model_looks_124 rfl (fun h124 => ?_) (fun h124 => ?_)
        · refine mw_k 137 i_Model_looks_136 rfl ?_
          refine mw_ri i_Model_looks_137 rfl rfl ?_
          clear hxy e1 hx hy
          try clear h1
          try clear h5
          generalize s (129 + i) * y - s (143 + i) * x = p1 at *
          generalize x * s (171 + i) - y * s (157 + i) = p2 at *
          generalize s (129 + i) * s (171 + i) - s (143 + i) * s (157 + i) = p3 at *
          generalize s (129 + i) * x + s (143 + i) * y = p4 at *
          first
          | exact mj_q0 (by simp_all) k
          | exact mj_q1 (by simp_all) k
        · refine mw_ld 129 i_Model_looks_127 rfl rfl rfl ?_
          refine mw_if 132 i_Model_looks_129 rfl (fun h129 => ?_) (fun h129 => ?_)
          · refine mw_k 137 i_Model_looks_136 rfl ?_
            refine mw_ri i_Model_looks_137 rfl rfl ?_
            clear hxy e1 hx hy
            try clear h1
            try clear h5
            generalize s (129 + i) * y - s (143 + i) * x = p1 at *
            generalize x * s (171 + i) - y * s (157 + i) = p2 at *
            generalize s (129 + i) * s (171 + i) - s (143 + i) * s (157 + i) = p3 at *
            generalize s (129 + i) * x + s (143 + i) * y = p4 at *
            first
            | exact mj_q0 (by simp_all) k
            | exact mj_q1 (by simp_all) k
          · refine mw_k 133 i_Model_looks_132 rfl ?_
            refine mw_go i_Model_looks_133 ?_
            refine mw_ri i_Model_looks_137 rfl rfl ?_
            clear hxy e1 hx hy
            try clear h1
            try clear h5
            generalize s (129 + i) * y - s (143 + i) * x = p1 at *
            generalize x * s (171 + i) - y * s (157 + i) = p2 at *
            generalize s (129 + i) * s (171 + i) - s (143 + i) * s (157 + i) = p3 at *
            generalize s (129 + i) * x + s (143 + i) * y = p4 at *
            first
            | exact mj_q0 (by simp_all) k
            | exact mj_q1 (by simp_all) k
      · refine mw_ld 96 i_Model_looks_94 rfl rfl rfl ?_
        refine mw_if 99 i_Model_looks_96 rfl (fun h96 => ?_) (fun h96 => ?_)
        · refine mw_k 121 i_Model_looks_120 rfl ?_
          refine mw_ri i_Model_looks_121 rfl rfl ?_
          clear hxy e1 hx hy
          try clear h1
          try clear h5
          generalize s (129 + i) * y - s (143 + i) * x = p1 at *
          generalize x * s (171 + i) - y * s (157 + i) = p2 at *
          generalize s (129 + i) * s (171 + i) - s (143 + i) * s (157 + i) = p3 at *
          generalize s (129 + i) * x + s (143 + i) * y = p4 at *
          first
          | exact mj_q0 (by simp_all) k
          | exact mj_q1 (by simp_all) k
        · refine mw_ld 101 i_Model_looks_99 rfl rfl rfl ?_
          refine mw_if 104 i_Model_looks_101 rfl (fun h101 => ?_) (fun h101 => ?_)
          · refine mw_k 121 i_Model_looks_120 rfl ?_
            refine mw_ri i_Model_looks_121 rfl rfl ?_
            clear hxy e1 hx hy
            try clear h1
            try clear h5
            generalize s (129 + i) * y - s (143 + i) * x = p1 at *
            generalize x * s (171 + i) - y * s (157 + i) = p2 at *
            generalize s (129 + i) * s (171 + i) - s (143 + i) * s (157 + i) = p3 at *
            generalize s (129 + i) * x + s (143 + i) * y = p4 at *
            first
            | exact mj_q0 (by simp_all) k
            | exact mj_q1 (by simp_all) k
          · refine mw_ld 106 i_Model_looks_104 rfl rfl rfl ?_
            refine mw_ld 107 i_Model_looks_106 rfl rfl rfl ?_
            refine mw_b 108 i_Model_looks_107 rfl ?_
            refine mw_ld 110 i_Model_looks_108 rfl rfl rfl ?_
            refine mw_ld 111 i_Model_looks_110 rfl rfl rfl ?_
            refine mw_b 112 i_Model_looks_111 rfl ?_
            refine mw_b 113 i_Model_looks_112 rfl ?_
            refine mw_if 116 i_Model_looks_113 rfl (fun h113 => ?_) (fun h113 => ?_)
            · refine mw_k 121 i_Model_looks_120 rfl ?_
              refine mw_ri i_Model_looks_121 rfl rfl ?_
              clear hxy e1 hx hy
              try clear h1
              try clear h5
              generalize s (129 + i) * y - s (143 + i) * x = p1 at *
              generalize x * s (171 + i) - y * s (157 + i) = p2 at *
              generalize s (129 + i) * s (171 + i) - s (143 + i) * s (157 + i) = p3 at *
              generalize s (129 + i) * x + s (143 + i) * y = p4 at *
              first
              | exact mj_q0 (by simp_all) k
              | exact mj_q1 (by simp_all) k
            · refine mw_k 117 i_Model_looks_116 rfl ?_
              refine mw_go i_Model_looks_117 ?_
              refine mw_ri i_Model_looks_121 rfl rfl ?_
              clear hxy e1 hx hy
              try clear h1
              try clear h5
              generalize s (129 + i) * y - s (143 + i) * x = p1 at *
              generalize x * s (171 + i) - y * s (157 + i) = p2 at *
              generalize s (129 + i) * s (171 + i) - s (143 + i) * s (157 + i) = p3 at *
              generalize s (129 + i) * x + s (143 + i) * y = p4 at *
              first
              | exact mj_q0 (by simp_all) k
              | exact mj_q1 (by simp_all) k
    · skip
      refine mw_ld 1 i_Model_looks_0 rfl rfl rfl ?_
      refine mw_if1 i_Model_looks_1 hx ?_
      refine mw_ld 11 i_Model_looks_10 rfl rfl rfl ?_
      refine mw_get 14 i_Model_looks_11 rfl (by assumption) (by rfl) ?_
      refine mw_k 17 i_Model_looks_14 rfl ?_
      refine mw_ld 18 i_Model_looks_17 rfl rfl rfl ?_
      refine mw_b 19 i_Model_looks_18 rfl ?_
      rw [show (129 : Int32) = nI 129 from rfl, nI_add]
      refine mw_iald 20 (129 + i) i_Model_looks_19 rfl (by assumption) rfl (by omega) (by decide) ?_
      refine mw_st (ls' := [_, _, _, _, _, _, _, _, _, _]) 22 i_Model_looks_20 rfl rfl rfl rfl ?_
      refine mw_ld 23 i_Model_looks_22 rfl rfl rfl ?_
      refine mw_get 26 i_Model_looks_23 rfl (by assumption) (by rfl) ?_
      refine mw_k 29 i_Model_looks_26 rfl ?_
      refine mw_ld 30 i_Model_looks_29 rfl rfl rfl ?_
      refine mw_b 31 i_Model_looks_30 rfl ?_
      rw [show (143 : Int32) = nI 143 from rfl, nI_add]
      refine mw_iald 32 (143 + i) i_Model_looks_31 rfl (by assumption) rfl (by omega) (by decide) ?_
      refine mw_st (ls' := [_, _, _, _, _, _, _, _, _, _]) 34 i_Model_looks_32 rfl rfl rfl rfl ?_
      refine mw_ld 35 i_Model_looks_34 rfl rfl rfl ?_
      refine mw_get 38 i_Model_looks_35 rfl (by assumption) (by rfl) ?_
      refine mw_k 41 i_Model_looks_38 rfl ?_
      refine mw_ld 42 i_Model_looks_41 rfl rfl rfl ?_
      refine mw_b 43 i_Model_looks_42 rfl ?_
      rw [show (157 : Int32) = nI 157 from rfl, nI_add]
      refine mw_iald 44 (157 + i) i_Model_looks_43 rfl (by assumption) rfl (by omega) (by decide) ?_
      refine mw_st (ls' := [_, _, _, _, _, _, _, _, _, _]) 46 i_Model_looks_44 rfl rfl rfl rfl ?_
      refine mw_ld 47 i_Model_looks_46 rfl rfl rfl ?_
      refine mw_get 50 i_Model_looks_47 rfl (by assumption) (by rfl) ?_
      refine mw_k 53 i_Model_looks_50 rfl ?_
      refine mw_ld 54 i_Model_looks_53 rfl rfl rfl ?_
      refine mw_b 55 i_Model_looks_54 rfl ?_
      rw [show (171 : Int32) = nI 171 from rfl, nI_add]
      refine mw_iald 56 (171 + i) i_Model_looks_55 rfl (by assumption) rfl (by omega) (by decide) ?_
      refine mw_st (ls' := [_, _, _, _, _, _, _, _, _, _]) 58 i_Model_looks_56 rfl rfl rfl rfl ?_
      refine mw_ld 60 i_Model_looks_58 rfl rfl rfl ?_
      refine mw_ld 61 i_Model_looks_60 rfl rfl rfl ?_
      refine mw_b 62 i_Model_looks_61 rfl ?_
      refine mw_ld 64 i_Model_looks_62 rfl rfl rfl ?_
      refine mw_ld 65 i_Model_looks_64 rfl rfl rfl ?_
      refine mw_b 66 i_Model_looks_65 rfl ?_
      refine mw_b 67 i_Model_looks_66 rfl ?_
      refine mw_st (ls' := [_, _, _, _, _, _, _, _, _, _]) 69 i_Model_looks_67 rfl rfl rfl rfl ?_
      refine mw_ld 70 i_Model_looks_69 rfl rfl rfl ?_
      refine mw_ld 72 i_Model_looks_70 rfl rfl rfl ?_
      refine mw_b 73 i_Model_looks_72 rfl ?_
      refine mw_ld 74 i_Model_looks_73 rfl rfl rfl ?_
      refine mw_ld 76 i_Model_looks_74 rfl rfl rfl ?_
      refine mw_b 77 i_Model_looks_76 rfl ?_
      refine mw_b 78 i_Model_looks_77 rfl ?_
      refine mw_st (ls' := [_, _, _, _, _, _, _, _, _, _]) 80 i_Model_looks_78 rfl rfl rfl rfl ?_
      refine mw_ld 82 i_Model_looks_80 rfl rfl rfl ?_
      refine mw_ld 84 i_Model_looks_82 rfl rfl rfl ?_
      refine mw_b 85 i_Model_looks_84 rfl ?_
      refine mw_ld 87 i_Model_looks_85 rfl rfl rfl ?_
      refine mw_ld 89 i_Model_looks_87 rfl rfl rfl ?_
      refine mw_b 90 i_Model_looks_89 rfl ?_
      refine mw_b 91 i_Model_looks_90 rfl ?_
      refine mw_if 94 i_Model_looks_91 rfl (fun h91 => ?_) (fun h91 => ?_)
      · refine mw_ld 124 i_Model_looks_122 rfl rfl rfl ?_
        refine mw_if 127 i_Model_looks_124 rfl (fun h124 => ?_) (fun h124 => ?_)
        · refine mw_k 137 i_Model_looks_136 rfl ?_
          refine mw_ri i_Model_looks_137 rfl rfl ?_
          clear hxy e1 hx
          try clear h1
          try clear h5
          generalize s (129 + i) * y - s (143 + i) * x = p1 at *
          generalize x * s (171 + i) - y * s (157 + i) = p2 at *
          generalize s (129 + i) * s (171 + i) - s (143 + i) * s (157 + i) = p3 at *
          generalize s (129 + i) * x + s (143 + i) * y = p4 at *
          first
          | exact mj_q0 (by simp_all) k
          | exact mj_q1 (by simp_all) k
        · refine mw_ld 129 i_Model_looks_127 rfl rfl rfl ?_
          refine mw_if 132 i_Model_looks_129 rfl (fun h129 => ?_) (fun h129 => ?_)
          · refine mw_k 137 i_Model_looks_136 rfl ?_
            refine mw_ri i_Model_looks_137 rfl rfl ?_
            clear hxy e1 hx
            try clear h1
            try clear h5
            generalize s (129 + i) * y - s (143 + i) * x = p1 at *
            generalize x * s (171 + i) - y * s (157 + i) = p2 at *
            generalize s (129 + i) * s (171 + i) - s (143 + i) * s (157 + i) = p3 at *
            generalize s (129 + i) * x + s (143 + i) * y = p4 at *
            first
            | exact mj_q0 (by simp_all) k
            | exact mj_q1 (by simp_all) k
          · refine mw_k 133 i_Model_looks_132 rfl ?_
            refine mw_go i_Model_looks_133 ?_
            refine mw_ri i_Model_looks_137 rfl rfl ?_
            clear hxy e1 hx
            try clear h1
            try clear h5
            generalize s (129 + i) * y - s (143 + i) * x = p1 at *
            generalize x * s (171 + i) - y * s (157 + i) = p2 at *
            generalize s (129 + i) * s (171 + i) - s (143 + i) * s (157 + i) = p3 at *
            generalize s (129 + i) * x + s (143 + i) * y = p4 at *
            first
            | exact mj_q0 (by simp_all) k
            | exact mj_q1 (by simp_all) k
      · refine mw_ld 96 i_Model_looks_94 rfl rfl rfl ?_
        refine mw_if 99 i_Model_looks_96 rfl (fun h96 => ?_) (fun h96 => ?_)
        · refine mw_k 121 i_Model_looks_120 rfl ?_
          refine mw_ri i_Model_looks_121 rfl rfl ?_
          clear hxy e1 hx
          try clear h1
          try clear h5
          generalize s (129 + i) * y - s (143 + i) * x = p1 at *
          generalize x * s (171 + i) - y * s (157 + i) = p2 at *
          generalize s (129 + i) * s (171 + i) - s (143 + i) * s (157 + i) = p3 at *
          generalize s (129 + i) * x + s (143 + i) * y = p4 at *
          first
          | exact mj_q0 (by simp_all) k
          | exact mj_q1 (by simp_all) k
        · refine mw_ld 101 i_Model_looks_99 rfl rfl rfl ?_
          refine mw_if 104 i_Model_looks_101 rfl (fun h101 => ?_) (fun h101 => ?_)
          · refine mw_k 121 i_Model_looks_120 rfl ?_
            refine mw_ri i_Model_looks_121 rfl rfl ?_
            clear hxy e1 hx
            try clear h1
            try clear h5
            generalize s (129 + i) * y - s (143 + i) * x = p1 at *
            generalize x * s (171 + i) - y * s (157 + i) = p2 at *
            generalize s (129 + i) * s (171 + i) - s (143 + i) * s (157 + i) = p3 at *
            generalize s (129 + i) * x + s (143 + i) * y = p4 at *
            first
            | exact mj_q0 (by simp_all) k
            | exact mj_q1 (by simp_all) k
          · refine mw_ld 106 i_Model_looks_104 rfl rfl rfl ?_
            refine mw_ld 107 i_Model_looks_106 rfl rfl rfl ?_
            refine mw_b 108 i_Model_looks_107 rfl ?_
            refine mw_ld 110 i_Model_looks_108 rfl rfl rfl ?_
            refine mw_ld 111 i_Model_looks_110 rfl rfl rfl ?_
            refine mw_b 112 i_Model_looks_111 rfl ?_
            refine mw_b 113 i_Model_looks_112 rfl ?_
            refine mw_if 116 i_Model_looks_113 rfl (fun h113 => ?_) (fun h113 => ?_)
            · refine mw_k 121 i_Model_looks_120 rfl ?_
              refine mw_ri i_Model_looks_121 rfl rfl ?_
              clear hxy e1 hx
              try clear h1
              try clear h5
              generalize s (129 + i) * y - s (143 + i) * x = p1 at *
              generalize x * s (171 + i) - y * s (157 + i) = p2 at *
              generalize s (129 + i) * s (171 + i) - s (143 + i) * s (157 + i) = p3 at *
              generalize s (129 + i) * x + s (143 + i) * y = p4 at *
              first
              | exact mj_q0 (by simp_all) k
              | exact mj_q1 (by simp_all) k
            · refine mw_k 117 i_Model_looks_116 rfl ?_
              refine mw_go i_Model_looks_117 ?_
              refine mw_ri i_Model_looks_121 rfl rfl ?_
              clear hxy e1 hx
              try clear h1
              try clear h5
              generalize s (129 + i) * y - s (143 + i) * x = p1 at *
              generalize x * s (171 + i) - y * s (157 + i) = p2 at *
              generalize s (129 + i) * s (171 + i) - s (143 + i) * s (157 + i) = p3 at *
              generalize s (129 + i) * x + s (143 + i) * y = p4 at *
              first
              | exact mj_q0 (by simp_all) k
              | exact mj_q1 (by simp_all) k
theorem sp_Model_letsSee {X : mj_X} {d : Nat} {σ : mj_H} {Q : Value → mj_H → Prop} {w h kp rw : Nat} {tf fu fe fi ma md : Int32} {s : Nat → Int32} (hO : σ.1 55 = gw_mo w h kp rw tf fu fe fi ma md) (hs1 : σ.1 56 = mj_AI 213 s) {n : Nat} (hd : gw_dim w h) (hn14 : n ≤ 14) (hp : s 100 = nI n) (hv : gw_vp w h n s) {i c : Nat} (hi : i < n) (hc : c < w * h) (k : Q (.int (mj_bI (gw_let s i (nI (c % w) - nI ((s (101 + i)).toNatClampNeg % w)) (nI (c / w) - nI ((s (101 + i)).toNatClampNeg / w))))) σ) : mj_M X (d + 1) y_Model_letsSee [.ref 55, .int (nI i), .int (nI c)] σ (mj_V Q) := by
  have hw1 := hd.1
  have hw2 := hd.2.1
  have hh1 := hd.2.2.1
  have hh2 := hd.2.2.2
  have hwh := gw_dim_le hd
  have hw0 : ¬ nI w = 0 := nI_ne0 (by omega) (by omega)
  obtain ⟨⟨b, hb, eb⟩, hkd, -, -, -, -, hre, hli⟩ := hv i hi
  have ebc : (s (101 + i)).toNatClampNeg = b := by rw [eb]; exact nI_clamp (by omega)
  rw [ebc] at k
  obtain ⟨rc, erc⟩ : ∃ q, q = c / w := ⟨_, rfl⟩
  obtain ⟨cc, ecc⟩ : ∃ q, q = c % w := ⟨_, rfl⟩
  obtain ⟨rb, erb⟩ : ∃ q, q = b / w := ⟨_, rfl⟩
  obtain ⟨cb, ecb⟩ : ∃ q, q = b % w := ⟨_, rfl⟩
  have l2 : rb < h := by rw [erb]; exact Nat.div_lt_of_lt_mul hb
  have l5 : rc < h := by rw [erc]; exact Nat.div_lt_of_lt_mul hc
  have l4 : cb < w := by rw [ecb]; exact Nat.mod_lt _ (by omega)
  have l6 : cc < w := by rw [ecc]; exact Nat.mod_lt _ (by omega)
  rw [← erc, ← ecc, ← erb, ← ecb] at k
  have hxr : -9 ≤ (nI cc - nI cb).toInt ∧ (nI cc - nI cb).toInt ≤ 9 := by rw [pk_sub_toInt (by omega) (by omega)]; omega
  have hyr : -9 ≤ (nI rc - nI rb).toInt ∧ (nI rc - nI rb).toInt ≤ 9 := by rw [pk_sub_toInt (by omega) (by omega)]; omega
  have hrch := gw_rch hxr hyr hre
  refine mw_in (l0 := [some (.ref 55), some (.int (nI i)), some (.int (nI c)), none, none, none]) rfl ?_
  refine mw_ld 1 i_Model_letsSee_0 rfl rfl rfl ?_
  refine mw_get 4 i_Model_letsSee_1 rfl (by assumption) (by rfl) ?_
  refine mw_k 6 i_Model_letsSee_4 rfl ?_
  refine mw_ld 7 i_Model_letsSee_6 rfl rfl rfl ?_
  refine mw_b 8 i_Model_letsSee_7 rfl ?_
  rw [show (115 : Int32) = nI 115 from rfl, nI_add]
  refine mw_iald 9 (115 + i) i_Model_letsSee_8 rfl hs1 rfl (by omega) (by decide) ?_
  refine mw_st (ls' := [_, _, _, _, _, _]) 10 i_Model_letsSee_9 rfl rfl rfl rfl ?_
  refine mw_ld 11 i_Model_letsSee_10 rfl rfl rfl ?_
  refine mw_ld 12 i_Model_letsSee_11 rfl rfl rfl ?_
  refine mw_get 15 i_Model_letsSee_12 rfl (by assumption) (by rfl) ?_
  refine mw_d 16 i_Model_letsSee_15 rfl hw0 ?_
  rw [pk_rem (by omega) (by omega) (by omega), ← ecc]
  refine mw_ld 17 i_Model_letsSee_16 rfl rfl rfl ?_
  refine mw_get 20 i_Model_letsSee_17 rfl (by assumption) (by rfl) ?_
  refine mw_k 22 i_Model_letsSee_20 rfl ?_
  refine mw_ld 23 i_Model_letsSee_22 rfl rfl rfl ?_
  refine mw_b 24 i_Model_letsSee_23 rfl ?_
  rw [show (101 : Int32) = nI 101 from rfl, nI_add]
  refine mw_iald 25 (101 + i) i_Model_letsSee_24 rfl hs1 rfl (by omega) (by decide) ?_
  rw [eb]
  refine mw_ld 26 i_Model_letsSee_25 rfl rfl rfl ?_
  refine mw_get 29 i_Model_letsSee_26 rfl (by assumption) (by rfl) ?_
  refine mw_d 30 i_Model_letsSee_29 rfl hw0 ?_
  rw [pk_rem (by omega) (by omega) (by omega), ← ecb]
  refine mw_b 31 i_Model_letsSee_30 rfl ?_
  refine mw_st (ls' := [_, _, _, _, _, _]) 33 i_Model_letsSee_31 rfl rfl rfl rfl ?_
  refine mw_ld 34 i_Model_letsSee_33 rfl rfl rfl ?_
  refine mw_ld 35 i_Model_letsSee_34 rfl rfl rfl ?_
  refine mw_get 38 i_Model_letsSee_35 rfl (by assumption) (by rfl) ?_
  refine mw_d 39 i_Model_letsSee_38 rfl hw0 ?_
  rw [pk_div (by omega) (by omega) (by omega), ← erc]
  refine mw_ld 40 i_Model_letsSee_39 rfl rfl rfl ?_
  refine mw_get 43 i_Model_letsSee_40 rfl (by assumption) (by rfl) ?_
  refine mw_k 45 i_Model_letsSee_43 rfl ?_
  refine mw_ld 46 i_Model_letsSee_45 rfl rfl rfl ?_
  refine mw_b 47 i_Model_letsSee_46 rfl ?_
  rw [show (101 : Int32) = nI 101 from rfl, nI_add]
  refine mw_iald 48 (101 + i) i_Model_letsSee_47 rfl hs1 rfl (by omega) (by decide) ?_
  rw [eb]
  refine mw_ld 49 i_Model_letsSee_48 rfl rfl rfl ?_
  refine mw_get 52 i_Model_letsSee_49 rfl (by assumption) (by rfl) ?_
  refine mw_d 53 i_Model_letsSee_52 rfl hw0 ?_
  rw [pk_div (by omega) (by omega) (by omega), ← erb]
  refine mw_b 54 i_Model_letsSee_53 rfl ?_
  refine mw_st (ls' := [_, _, _, _, _, _]) 56 i_Model_letsSee_54 rfl rfl rfl rfl ?_
  generalize nI cc - nI cb = x at *
  generalize nI rc - nI rb = y at *
  rw [gw_let] at k
  refine mw_ld 57 i_Model_letsSee_56 rfl rfl rfl ?_
  refine mw_k 58 i_Model_letsSee_57 rfl ?_
  refine mw_ic 61 i_Model_letsSee_58 rfl (fun h58 => ?_) (fun h58 => ?_)
  · refine mw_ld 82 i_Model_letsSee_81 rfl rfl rfl ?_
    refine mw_k 83 i_Model_letsSee_82 rfl ?_
    refine mw_ic 86 i_Model_letsSee_83 rfl (fun h83 => ?_) (fun h83 => ?_)
    · refine mw_ld 147 i_Model_letsSee_146 rfl rfl rfl ?_
      refine mw_cs1 150 i_Model_letsSee_147 rfl (sp_Model_isWedge ?_) rfl rfl (Nat.le_of_ble_eq_true rfl) (Nat.le_of_ble_eq_true rfl)
      refine mw_if 153 i_Model_letsSee_150 rfl (fun h150 => ?_) (fun h150 => ?_)
      · refine mw_k 166 i_Model_letsSee_165 rfl ?_
        refine mw_go i_Model_letsSee_166 ?_
        refine mw_ri i_Model_letsSee_170 rfl rfl ?_
        simp only [mj_bI0, mj_bI1, Classical.not_not, Bool.not_eq_true, Bool.not_eq_false] at *
        first
        | exact mj_q0 (by simp_all) k
        | exact mj_q1 (by simp_all) k
      · refine mw_ld 154 i_Model_letsSee_153 rfl rfl rfl ?_
        refine mw_ld 155 i_Model_letsSee_154 rfl rfl rfl ?_
        refine mw_ld 157 i_Model_letsSee_155 rfl rfl rfl ?_
        refine mw_ld 159 i_Model_letsSee_157 rfl rfl rfl ?_
        refine mw_cv1 162 i_Model_letsSee_159 rfl (by assumption) (sp_Model_looks hO hs1 (by omega) ?_) rfl rfl (Nat.le_of_ble_eq_true rfl) (Nat.le_of_ble_eq_true rfl)
        refine mw_if 165 i_Model_letsSee_162 rfl (fun h162 => ?_) (fun h162 => ?_)
        · refine mw_k 170 i_Model_letsSee_169 rfl ?_
          refine mw_ri i_Model_letsSee_170 rfl rfl ?_
          simp only [mj_bI0, mj_bI1, Classical.not_not, Bool.not_eq_true, Bool.not_eq_false] at *
          first
          | exact mj_q0 (by simp_all) k
          | exact mj_q1 (by simp_all) k
        · refine mw_k 166 i_Model_letsSee_165 rfl ?_
          refine mw_go i_Model_letsSee_166 ?_
          refine mw_ri i_Model_letsSee_170 rfl rfl ?_
          simp only [mj_bI0, mj_bI1, Classical.not_not, Bool.not_eq_true, Bool.not_eq_false] at *
          first
          | exact mj_q0 (by simp_all) k
          | exact mj_q1 (by simp_all) k
    · refine mw_ld 88 i_Model_letsSee_86 rfl rfl rfl ?_
      refine mw_ld 89 i_Model_letsSee_88 rfl rfl rfl ?_
      refine mw_get 92 i_Model_letsSee_89 rfl (by assumption) (by rfl) ?_
      refine mw_k 95 i_Model_letsSee_92 rfl ?_
      refine mw_ld 96 i_Model_letsSee_95 rfl rfl rfl ?_
      refine mw_b 97 i_Model_letsSee_96 rfl ?_
      rw [show (185 : Int32) = nI 185 from rfl, nI_add]
      refine mw_iald 98 (185 + i) i_Model_letsSee_97 rfl hs1 rfl (by omega) (by decide) ?_
      refine mw_ineg 99 i_Model_letsSee_98 rfl ?_
      refine mw_ld 100 i_Model_letsSee_99 rfl rfl rfl ?_
      refine mw_get 103 i_Model_letsSee_100 rfl (by assumption) (by rfl) ?_
      refine mw_k 106 i_Model_letsSee_103 rfl ?_
      refine mw_ld 107 i_Model_letsSee_106 rfl rfl rfl ?_
      refine mw_b 108 i_Model_letsSee_107 rfl ?_
      rw [show (185 : Int32) = nI 185 from rfl, nI_add]
      refine mw_iald 109 (185 + i) i_Model_letsSee_108 rfl hs1 rfl (by omega) (by decide) ?_
      refine mw_cs1 112 i_Model_letsSee_109 rfl (sp_Model_isIn ?_) rfl rfl (Nat.le_of_ble_eq_true rfl) (Nat.le_of_ble_eq_true rfl)
      refine mw_if 115 i_Model_letsSee_112 rfl (fun h112 => ?_) (fun h112 => ?_)
      · refine mw_k 145 i_Model_letsSee_144 rfl ?_
        refine mw_ri i_Model_letsSee_145 rfl rfl ?_
        simp only [mj_bI0, mj_bI1, Classical.not_not, Bool.not_eq_true, Bool.not_eq_false] at *
        first
        | exact mj_q0 (by simp_all) k
        | exact mj_q1 (by simp_all) k
      · refine mw_ld 117 i_Model_letsSee_115 rfl rfl rfl ?_
        refine mw_ld 118 i_Model_letsSee_117 rfl rfl rfl ?_
        refine mw_get 121 i_Model_letsSee_118 rfl (by assumption) (by rfl) ?_
        refine mw_k 124 i_Model_letsSee_121 rfl ?_
        refine mw_ld 125 i_Model_letsSee_124 rfl rfl rfl ?_
        refine mw_b 126 i_Model_letsSee_125 rfl ?_
        rw [show (185 : Int32) = nI 185 from rfl, nI_add]
        refine mw_iald 127 (185 + i) i_Model_letsSee_126 rfl hs1 rfl (by omega) (by decide) ?_
        refine mw_ineg 128 i_Model_letsSee_127 rfl ?_
        refine mw_ld 129 i_Model_letsSee_128 rfl rfl rfl ?_
        refine mw_get 132 i_Model_letsSee_129 rfl (by assumption) (by rfl) ?_
        refine mw_k 135 i_Model_letsSee_132 rfl ?_
        refine mw_ld 136 i_Model_letsSee_135 rfl rfl rfl ?_
        refine mw_b 137 i_Model_letsSee_136 rfl ?_
        rw [show (185 : Int32) = nI 185 from rfl, nI_add]
        refine mw_iald 138 (185 + i) i_Model_letsSee_137 rfl hs1 rfl (by omega) (by decide) ?_
        refine mw_cs1 141 i_Model_letsSee_138 rfl (sp_Model_isIn ?_) rfl rfl (Nat.le_of_ble_eq_true rfl) (Nat.le_of_ble_eq_true rfl)
        refine mw_if 144 i_Model_letsSee_141 rfl (fun h141 => ?_) (fun h141 => ?_)
        · refine mw_ld 147 i_Model_letsSee_146 rfl rfl rfl ?_
          refine mw_cs1 150 i_Model_letsSee_147 rfl (sp_Model_isWedge ?_) rfl rfl (Nat.le_of_ble_eq_true rfl) (Nat.le_of_ble_eq_true rfl)
          refine mw_if 153 i_Model_letsSee_150 rfl (fun h150 => ?_) (fun h150 => ?_)
          · refine mw_k 166 i_Model_letsSee_165 rfl ?_
            refine mw_go i_Model_letsSee_166 ?_
            refine mw_ri i_Model_letsSee_170 rfl rfl ?_
            simp only [mj_bI0, mj_bI1, Classical.not_not, Bool.not_eq_true, Bool.not_eq_false] at *
            first
            | exact mj_q0 (by simp_all) k
            | exact mj_q1 (by simp_all) k
          · refine mw_ld 154 i_Model_letsSee_153 rfl rfl rfl ?_
            refine mw_ld 155 i_Model_letsSee_154 rfl rfl rfl ?_
            refine mw_ld 157 i_Model_letsSee_155 rfl rfl rfl ?_
            refine mw_ld 159 i_Model_letsSee_157 rfl rfl rfl ?_
            refine mw_cv1 162 i_Model_letsSee_159 rfl (by assumption) (sp_Model_looks hO hs1 (by omega) ?_) rfl rfl (Nat.le_of_ble_eq_true rfl) (Nat.le_of_ble_eq_true rfl)
            refine mw_if 165 i_Model_letsSee_162 rfl (fun h162 => ?_) (fun h162 => ?_)
            · refine mw_k 170 i_Model_letsSee_169 rfl ?_
              refine mw_ri i_Model_letsSee_170 rfl rfl ?_
              simp only [mj_bI0, mj_bI1, Classical.not_not, Bool.not_eq_true, Bool.not_eq_false] at *
              first
              | exact mj_q0 (by simp_all) k
              | exact mj_q1 (by simp_all) k
            · refine mw_k 166 i_Model_letsSee_165 rfl ?_
              refine mw_go i_Model_letsSee_166 ?_
              refine mw_ri i_Model_letsSee_170 rfl rfl ?_
              simp only [mj_bI0, mj_bI1, Classical.not_not, Bool.not_eq_true, Bool.not_eq_false] at *
              first
              | exact mj_q0 (by simp_all) k
              | exact mj_q1 (by simp_all) k
        · refine mw_k 145 i_Model_letsSee_144 rfl ?_
          refine mw_ri i_Model_letsSee_145 rfl rfl ?_
          simp only [mj_bI0, mj_bI1, Classical.not_not, Bool.not_eq_true, Bool.not_eq_false] at *
          first
          | exact mj_q0 (by simp_all) k
          | exact mj_q1 (by simp_all) k
  · refine mw_ld 62 i_Model_letsSee_61 rfl rfl rfl ?_
    refine mw_get 65 i_Model_letsSee_62 rfl (by assumption) (by rfl) ?_
    refine mw_k 68 i_Model_letsSee_65 rfl ?_
    refine mw_ld 69 i_Model_letsSee_68 rfl rfl rfl ?_
    refine mw_b 70 i_Model_letsSee_69 rfl ?_
    rw [show (199 : Int32) = nI 199 from rfl, nI_add]
    refine mw_iald 71 (199 + i) i_Model_letsSee_70 rfl hs1 rfl (by omega) (by decide) ?_
    refine mw_k 72 i_Model_letsSee_71 rfl ?_
    refine mw_ic 75 i_Model_letsSee_72 rfl (fun h72 => ?_) (fun h72 => ?_)
    · refine mw_k 80 i_Model_letsSee_79 rfl ?_
      refine mw_ri i_Model_letsSee_80 rfl rfl ?_
      simp only [mj_bI0, mj_bI1, Classical.not_not, Bool.not_eq_true, Bool.not_eq_false] at *
      first
      | exact mj_q0 (by simp_all) k
      | exact mj_q1 (by simp_all) k
    · refine mw_k 76 i_Model_letsSee_75 rfl ?_
      refine mw_go i_Model_letsSee_76 ?_
      refine mw_ri i_Model_letsSee_80 rfl rfl ?_
      simp only [mj_bI0, mj_bI1, Classical.not_not, Bool.not_eq_true, Bool.not_eq_false] at *
      first
      | exact mj_q0 (by simp_all) k
      | exact mj_q1 (by simp_all) k
theorem sp_Model_look {X : mj_X} {d : Nat} {σ : mj_H} {Q : mj_H → Prop} {w h kp rw : Nat} {tf fu fe fi ma md : Int32} {s : Nat → Int32} (hO : σ.1 55 = gw_mo w h kp rw tf fu fe fi ma md) (hs1 : σ.1 56 = mj_AI 213 s) {n : Nat} (hd : gw_dim w h) (hn14 : n ≤ 14) (hp : s 100 = nI n) (hv : gw_vp w h n s) {wt : Nat → Int32} (hW : σ.1 58 = mj_AI 100 wt) (k : ∀ f wt, gw_fr [58] σ.1 f → f 58 = mj_AI 100 wt → (∀ c, c < w * h → wt c = gw_wt w h n s c) → Q (f, σ.2)) : mj_M X (d + 3) y_Model_look [.ref 55] σ (mj_U Q) := by
  have hwh := gw_dim_le hd
  refine mw_in (l0 := [some (.ref 55), none, none]) rfl ?_
  refine mw_k 1 i_Model_look_0 rfl ?_
  refine mw_st (ls' := [_, _, _]) 2 i_Model_look_1 rfl rfl rfl rfl ?_
  refine mj_for (S := (Nat → mj_C) × Option Value) (fun i u => mj_Wp X (d + 3) y_Model_look 2 [some (.ref 55), some (.int (nI i)), u.2] [] (u.1, σ.2) (mj_U Q)) (fun i u => gw_fr [58] σ.1 u.1 ∧ ∃ wt, u.1 58 = mj_AI 100 wt ∧ ∀ c, c < i → wt c = gw_wt w h n s c) (w * h) ?_ ?_ 0 (σ.1, none) (Nat.zero_le _) ⟨gw_fr_rf _ _, wt, hW, fun c hc => absurd hc (Nat.not_lt_zero c)⟩
  · rintro ⟨f, u⟩ ⟨g1, wt, g2, g3⟩
    dsimp only at g1 g2 ⊢
    have go : f 55 = gw_mo w h kp rw tf fu fe fi ma md := (g1 55 (by decide)).trans hO
    refine mw_ld 3 i_Model_look_2 rfl rfl rfl ?_
    refine mw_ld 4 i_Model_look_3 rfl rfl rfl ?_
    refine mw_cv1 7 i_Model_look_4 rfl (by assumption) (sp_Model_cells (σ := (f, σ.2)) go ?_) rfl rfl (Nat.le_of_ble_eq_true rfl) (Nat.le_of_ble_eq_true rfl)
    refine mw_ic1 i_Model_look_7 (nI_le (Nat.le_refl _) (by omega)) ?_
    refine mw_rv i_Model_look_81 rfl ?_
    exact k f wt g1 g2 g3
  · rintro i ⟨f, u⟩ hi ⟨g1, wt, g2, g3⟩ ih
    dsimp only at g1 g2 ⊢
    have go : f 55 = gw_mo w h kp rw tf fu fe fi ma md := (g1 55 (by decide)).trans hO
    refine mw_ld 3 i_Model_look_2 rfl rfl rfl ?_
    refine mw_ld 4 i_Model_look_3 rfl rfl rfl ?_
    refine mw_cv1 7 i_Model_look_4 rfl (by repeat (first | exact mj_hs2 | exact mj_hs | assumption | refine mj_hn2 (by omega) ?_ | refine mj_hn (by omega) ?_)) (sp_Model_cells (σ := (f, σ.2)) go ?_) rfl rfl (Nat.le_of_ble_eq_true rfl) (Nat.le_of_ble_eq_true rfl)
    refine mw_ic0 10 i_Model_look_7 rfl (nI_ge hi (by omega)) ?_
    refine mw_ld 11 i_Model_look_10 rfl rfl rfl ?_
    refine mw_get 14 i_Model_look_11 rfl (by repeat (first | exact mj_hs2 | exact mj_hs | assumption | refine mj_hn2 (by omega) ?_ | refine mj_hn (by omega) ?_)) (by rfl) ?_
    refine mw_ld 15 i_Model_look_14 rfl rfl rfl ?_
    refine mw_k 16 i_Model_look_15 rfl ?_
    refine mw_iast 17 i i_Model_look_16 rfl (by repeat (first | exact mj_hs2 | exact mj_hs | assumption | refine mj_hn2 (by omega) ?_ | refine mj_hn (by omega) ?_)) rfl (by omega) (by decide) ?_
    refine mw_k 18 i_Model_look_17 rfl ?_
    refine mw_st (ls' := [_, _, _]) 19 i_Model_look_18 rfl rfl rfl rfl ?_
    refine mj_for (S := Nat → mj_C) (fun j f => mj_Wp X (d + 3) y_Model_look 19 [some (.ref 55), some (.int (nI i)), some (.int (nI j))] [] (f, σ.2) (mj_U Q)) (fun j f => gw_fr [58] σ.1 f ∧ ∃ wt, f 58 = mj_AI 100 wt ∧ (∀ c, c < i → wt c = gw_wt w h n s c) ∧ wt i = gw_fm (fun k => gw_see w h s k i) j) n ?_ ?_ 0 _ (Nat.zero_le _) ⟨gw_fr_up g1 (by simp), _, mj_hs, fun c hc => by rw [pk_un (by omega)]; exact g3 c hc, pk_us⟩
    · rintro f ⟨g1, wt, g2, g3, g4⟩
      have go : f 55 = gw_mo w h kp rw tf fu fe fi ma md := (g1 55 (by decide)).trans hO
      have gs : f 56 = mj_AI 213 s := (g1 56 (by decide)).trans hs1
      refine mw_ld 20 i_Model_look_19 rfl rfl rfl ?_
      refine mw_ld 21 i_Model_look_20 rfl rfl rfl ?_
      refine mw_cv1 24 i_Model_look_21 rfl (by assumption) (sp_Model_posts (σ := (f, σ.2)) go gs hp ?_) rfl rfl (Nat.le_of_ble_eq_true rfl) (Nat.le_of_ble_eq_true rfl)
      refine mw_ic1 i_Model_look_24 (nI_le (Nat.le_refl _) (by omega)) ?_
      refine mw_inc (ls' := [_, _, _]) 78 (nI (i + 1)) i_Model_look_75 rfl rfl rfl (nI_1 i) rfl ?_
      refine mw_go i_Model_look_78 ?_
      refine ih (f, _) ⟨g1, wt, g2, fun c hc => ?_⟩
      by_cases e : c = i
      · subst e; exact g4
      · exact g3 c (by omega)
    · rintro j f hj ⟨g1, wt, g2, g3, g4⟩ ih2
      have go : f 55 = gw_mo w h kp rw tf fu fe fi ma md := (g1 55 (by decide)).trans hO
      have gs : f 56 = mj_AI 213 s := (g1 56 (by decide)).trans hs1
      obtain ⟨b, hb, eb⟩ := (hv j hj).1
      have ebc : (s (101 + j)).toNatClampNeg = b := by rw [eb]; exact nI_clamp (by omega)
      by_cases hA : gw_let s j (nI (i % w) - nI ((s (101 + j)).toNatClampNeg % w)) (nI (i / w) - nI ((s (101 + j)).toNatClampNeg / w)) = true
      · by_cases hB : gw_si w h s b i = true
        · skip
          refine mw_ld 20 i_Model_look_19 rfl rfl rfl ?_
          refine mw_ld 21 i_Model_look_20 rfl rfl rfl ?_
          refine mw_cv1 24 i_Model_look_21 rfl (by repeat (first | exact mj_hs2 | exact mj_hs | assumption | refine mj_hn2 (by omega) ?_ | refine mj_hn (by omega) ?_)) (sp_Model_posts (σ := (f, σ.2)) go gs hp ?_) rfl rfl (Nat.le_of_ble_eq_true rfl) (Nat.le_of_ble_eq_true rfl)
          refine mw_ic0 27 i_Model_look_24 rfl (nI_ge hj (by omega)) ?_
          refine mw_ld 28 i_Model_look_27 rfl rfl rfl ?_
          refine mw_get 31 i_Model_look_28 rfl (by repeat (first | exact mj_hs2 | exact mj_hs | assumption | refine mj_hn2 (by omega) ?_ | refine mj_hn (by omega) ?_)) (by rfl) ?_
          refine mw_ld 32 i_Model_look_31 rfl rfl rfl ?_
          refine mw_dup2 33 i_Model_look_32 rfl rfl rfl ?_
          refine mw_iald 34 i i_Model_look_33 rfl g2 rfl (by omega) (by decide) ?_
          rw [g4]
          refine mw_ld 35 i_Model_look_34 rfl rfl rfl ?_
          refine mw_ld 36 i_Model_look_35 rfl rfl rfl ?_
          refine mw_ld 37 i_Model_look_36 rfl rfl rfl ?_
          refine mw_cv1 40 i_Model_look_37 rfl (by repeat (first | exact mj_hs2 | exact mj_hs | assumption | refine mj_hn2 (by omega) ?_ | refine mj_hn (by omega) ?_)) (sp_Model_letsSee (σ := (f, σ.2)) go gs hd hn14 hp hv hj hi ?_) rfl rfl (Nat.le_of_ble_eq_true rfl) (Nat.le_of_ble_eq_true rfl)
          refine mw_if0 43 i_Model_look_40 rfl (mj_bI1.mpr hA) ?_
          refine mw_ld 44 i_Model_look_43 rfl rfl rfl ?_
          refine mw_ld 45 i_Model_look_44 rfl rfl rfl ?_
          refine mw_get 48 i_Model_look_45 rfl (by repeat (first | exact mj_hs2 | exact mj_hs | assumption | refine mj_hn2 (by omega) ?_ | refine mj_hn (by omega) ?_)) (by rfl) ?_
          refine mw_k 50 i_Model_look_48 rfl ?_
          refine mw_ld 51 i_Model_look_50 rfl rfl rfl ?_
          refine mw_b 52 i_Model_look_51 rfl ?_
          rw [show (101 : Int32) = nI 101 from rfl, nI_add]
          refine mw_iald 53 (101 + j) i_Model_look_52 rfl gs rfl (by omega) (by decide) ?_
          rw [eb]
          refine mw_ld 54 i_Model_look_53 rfl rfl rfl ?_
          refine mw_cv1 57 i_Model_look_54 rfl (by repeat (first | exact mj_hs2 | exact mj_hs | assumption | refine mj_hn2 (by omega) ?_ | refine mj_hn (by omega) ?_)) (sp_Model_inSight (σ := (f, σ.2)) go gs hb hi hd ?_) rfl rfl (Nat.le_of_ble_eq_true rfl) (Nat.le_of_ble_eq_true rfl)
          refine mw_if0 60 i_Model_look_57 rfl (mj_bI1.mpr hB) ?_
          refine mw_k 61 i_Model_look_60 rfl ?_
          refine mw_ld 62 i_Model_look_61 rfl rfl rfl ?_
          refine mw_b 63 i_Model_look_62 rfl ?_
          refine mw_go i_Model_look_63 ?_
          refine mw_b 68 i_Model_look_67 rfl ?_
          refine mw_iast 69 i i_Model_look_68 rfl (by repeat (first | exact mj_hs2 | exact mj_hs | assumption | refine mj_hn2 (by omega) ?_ | refine mj_hn (by omega) ?_)) rfl (by omega) (by decide) ?_
          refine mw_inc (ls' := [_, _, _]) 72 (nI (j + 1)) i_Model_look_69 rfl rfl rfl (nI_1 j) rfl ?_
          refine mw_go i_Model_look_72 ?_
          refine ih2 _ ⟨gw_fr_up g1 (by simp), _, mj_hs, fun c hc => ?_, ?_⟩
          · rw [pk_un (by omega)]; exact g3 c hc
          · rw [pk_us, gw_fm]
            rw [if_pos (by rw [gw_see, hA, ebc, hB]; rfl)]; rfl
        · skip
          refine mw_ld 20 i_Model_look_19 rfl rfl rfl ?_
          refine mw_ld 21 i_Model_look_20 rfl rfl rfl ?_
          refine mw_cv1 24 i_Model_look_21 rfl (by repeat (first | exact mj_hs2 | exact mj_hs | assumption | refine mj_hn2 (by omega) ?_ | refine mj_hn (by omega) ?_)) (sp_Model_posts (σ := (f, σ.2)) go gs hp ?_) rfl rfl (Nat.le_of_ble_eq_true rfl) (Nat.le_of_ble_eq_true rfl)
          refine mw_ic0 27 i_Model_look_24 rfl (nI_ge hj (by omega)) ?_
          refine mw_ld 28 i_Model_look_27 rfl rfl rfl ?_
          refine mw_get 31 i_Model_look_28 rfl (by repeat (first | exact mj_hs2 | exact mj_hs | assumption | refine mj_hn2 (by omega) ?_ | refine mj_hn (by omega) ?_)) (by rfl) ?_
          refine mw_ld 32 i_Model_look_31 rfl rfl rfl ?_
          refine mw_dup2 33 i_Model_look_32 rfl rfl rfl ?_
          refine mw_iald 34 i i_Model_look_33 rfl g2 rfl (by omega) (by decide) ?_
          rw [g4]
          refine mw_ld 35 i_Model_look_34 rfl rfl rfl ?_
          refine mw_ld 36 i_Model_look_35 rfl rfl rfl ?_
          refine mw_ld 37 i_Model_look_36 rfl rfl rfl ?_
          refine mw_cv1 40 i_Model_look_37 rfl (by repeat (first | exact mj_hs2 | exact mj_hs | assumption | refine mj_hn2 (by omega) ?_ | refine mj_hn (by omega) ?_)) (sp_Model_letsSee (σ := (f, σ.2)) go gs hd hn14 hp hv hj hi ?_) rfl rfl (Nat.le_of_ble_eq_true rfl) (Nat.le_of_ble_eq_true rfl)
          refine mw_if0 43 i_Model_look_40 rfl (mj_bI1.mpr hA) ?_
          refine mw_ld 44 i_Model_look_43 rfl rfl rfl ?_
          refine mw_ld 45 i_Model_look_44 rfl rfl rfl ?_
          refine mw_get 48 i_Model_look_45 rfl (by repeat (first | exact mj_hs2 | exact mj_hs | assumption | refine mj_hn2 (by omega) ?_ | refine mj_hn (by omega) ?_)) (by rfl) ?_
          refine mw_k 50 i_Model_look_48 rfl ?_
          refine mw_ld 51 i_Model_look_50 rfl rfl rfl ?_
          refine mw_b 52 i_Model_look_51 rfl ?_
          rw [show (101 : Int32) = nI 101 from rfl, nI_add]
          refine mw_iald 53 (101 + j) i_Model_look_52 rfl gs rfl (by omega) (by decide) ?_
          rw [eb]
          refine mw_ld 54 i_Model_look_53 rfl rfl rfl ?_
          refine mw_cv1 57 i_Model_look_54 rfl (by repeat (first | exact mj_hs2 | exact mj_hs | assumption | refine mj_hn2 (by omega) ?_ | refine mj_hn (by omega) ?_)) (sp_Model_inSight (σ := (f, σ.2)) go gs hb hi hd ?_) rfl rfl (Nat.le_of_ble_eq_true rfl) (Nat.le_of_ble_eq_true rfl)
          refine mw_if1 i_Model_look_57 (mj_bI0.mpr (gw_nt hB)) ?_
          refine mw_k 67 i_Model_look_66 rfl ?_
          refine mw_b 68 i_Model_look_67 rfl ?_
          refine mw_iast 69 i i_Model_look_68 rfl (by repeat (first | exact mj_hs2 | exact mj_hs | assumption | refine mj_hn2 (by omega) ?_ | refine mj_hn (by omega) ?_)) rfl (by omega) (by decide) ?_
          refine mw_inc (ls' := [_, _, _]) 72 (nI (j + 1)) i_Model_look_69 rfl rfl rfl (nI_1 j) rfl ?_
          refine mw_go i_Model_look_72 ?_
          refine ih2 _ ⟨gw_fr_up g1 (by simp), _, mj_hs, fun c hc => ?_, ?_⟩
          · rw [pk_un (by omega)]; exact g3 c hc
          · rw [pk_us, gw_fm]
            rw [if_neg (by rw [gw_see, ebc, gw_nt hB]; simp), gw_or0]
      · skip
        refine mw_ld 20 i_Model_look_19 rfl rfl rfl ?_
        refine mw_ld 21 i_Model_look_20 rfl rfl rfl ?_
        refine mw_cv1 24 i_Model_look_21 rfl (by repeat (first | exact mj_hs2 | exact mj_hs | assumption | refine mj_hn2 (by omega) ?_ | refine mj_hn (by omega) ?_)) (sp_Model_posts (σ := (f, σ.2)) go gs hp ?_) rfl rfl (Nat.le_of_ble_eq_true rfl) (Nat.le_of_ble_eq_true rfl)
        refine mw_ic0 27 i_Model_look_24 rfl (nI_ge hj (by omega)) ?_
        refine mw_ld 28 i_Model_look_27 rfl rfl rfl ?_
        refine mw_get 31 i_Model_look_28 rfl (by repeat (first | exact mj_hs2 | exact mj_hs | assumption | refine mj_hn2 (by omega) ?_ | refine mj_hn (by omega) ?_)) (by rfl) ?_
        refine mw_ld 32 i_Model_look_31 rfl rfl rfl ?_
        refine mw_dup2 33 i_Model_look_32 rfl rfl rfl ?_
        refine mw_iald 34 i i_Model_look_33 rfl g2 rfl (by omega) (by decide) ?_
        rw [g4]
        refine mw_ld 35 i_Model_look_34 rfl rfl rfl ?_
        refine mw_ld 36 i_Model_look_35 rfl rfl rfl ?_
        refine mw_ld 37 i_Model_look_36 rfl rfl rfl ?_
        refine mw_cv1 40 i_Model_look_37 rfl (by repeat (first | exact mj_hs2 | exact mj_hs | assumption | refine mj_hn2 (by omega) ?_ | refine mj_hn (by omega) ?_)) (sp_Model_letsSee (σ := (f, σ.2)) go gs hd hn14 hp hv hj hi ?_) rfl rfl (Nat.le_of_ble_eq_true rfl) (Nat.le_of_ble_eq_true rfl)
        refine mw_if1 i_Model_look_40 (mj_bI0.mpr (gw_nt hA)) ?_
        refine mw_k 67 i_Model_look_66 rfl ?_
        refine mw_b 68 i_Model_look_67 rfl ?_
        refine mw_iast 69 i i_Model_look_68 rfl (by repeat (first | exact mj_hs2 | exact mj_hs | assumption | refine mj_hn2 (by omega) ?_ | refine mj_hn (by omega) ?_)) rfl (by omega) (by decide) ?_
        refine mw_inc (ls' := [_, _, _]) 72 (nI (j + 1)) i_Model_look_69 rfl rfl rfl (nI_1 j) rfl ?_
        refine mw_go i_Model_look_72 ?_
        refine ih2 _ ⟨gw_fr_up g1 (by simp), _, mj_hs, fun c hc => ?_, ?_⟩
        · rw [pk_un (by omega)]; exact g3 c hc
        · rw [pk_us, gw_fm]
          rw [if_neg (by rw [gw_see, gw_nt hA]; simp), gw_or0]
theorem sp_Model_unseenBy {X : mj_X} {d : Nat} {σ : mj_H} {Q : Value → mj_H → Prop} {w h kp rw : Nat} {tf fu fe fi ma md : Int32} {s : Nat → Int32} (hO : σ.1 55 = gw_mo w h kp rw tf fu fe fi ma md) (hs1 : σ.1 56 = mj_AI 213 s) {n : Nat} {wt : Nat → Int32} (hd : gw_dim w h) (hW : σ.1 58 = mj_AI 100 wt) (hwt : ∀ c, c < w * h → wt c = gw_wt w h n s c) {z : Int32} (k : Q (.int (gw_dI (gw_lo w h n s z))) σ) : mj_M X (d + 1) y_Model_unseenBy [.ref 55, .int z] σ (mj_V Q) := by
  have hwh := gw_dim_le hd
  refine mw_in (l0 := [some (.ref 55), some (.int z), none]) rfl ?_
  refine mw_k 1 i_Model_unseenBy_0 rfl ?_
  refine mw_st (ls' := [_, _, _]) 2 i_Model_unseenBy_1 rfl rfl rfl rfl ?_
  refine mj_for (S := Unit) (fun i _ => mj_Wp X (d + 1) y_Model_unseenBy 2 [some (.ref 55), some (.int z), some (.int (nI i))] [] σ (mj_V Q)) (fun i _ => ∀ j, j < i → gw_up w h n s z j = false) (w * h) ?_ ?_ 0 () (Nat.zero_le _) (fun j hj => absurd hj (Nat.not_lt_zero j))
  · intro _ hI
    refine mw_ld 3 i_Model_unseenBy_2 rfl rfl rfl ?_
    refine mw_ld 4 i_Model_unseenBy_3 rfl rfl rfl ?_
    refine mw_cv1 7 i_Model_unseenBy_4 rfl (by assumption) (sp_Model_cells hO ?_) rfl rfl (Nat.le_of_ble_eq_true rfl) (Nat.le_of_ble_eq_true rfl)
    refine mw_ic1 i_Model_unseenBy_7 (nI_le (Nat.le_refl _) (by omega)) ?_
    refine mw_k 38 i_Model_unseenBy_37 rfl ?_
    refine mw_ri i_Model_unseenBy_38 rfl rfl ?_
    rw [gw_lo, gw_ff_none.mpr hI] at k
    exact k
  · intro i _ hi hI ih
    by_cases hA : (s i == 0) = true
    · by_cases hB : gw_wt w h n s i &&& z = 0
      · skip
        refine mw_ld 3 i_Model_unseenBy_2 rfl rfl rfl ?_
        refine mw_ld 4 i_Model_unseenBy_3 rfl rfl rfl ?_
        refine mw_cv1 7 i_Model_unseenBy_4 rfl (by assumption) (sp_Model_cells hO ?_) rfl rfl (Nat.le_of_ble_eq_true rfl) (Nat.le_of_ble_eq_true rfl)
        refine mw_ic0 10 i_Model_unseenBy_7 rfl (nI_ge hi (by omega)) ?_
        refine mw_ld 11 i_Model_unseenBy_10 rfl rfl rfl ?_
        refine mw_ld 12 i_Model_unseenBy_11 rfl rfl rfl ?_
        refine mw_cv1 15 i_Model_unseenBy_12 rfl (by assumption) (sp_Model_isOpen hO hs1 (by omega) ?_) rfl rfl (Nat.le_of_ble_eq_true rfl) (Nat.le_of_ble_eq_true rfl)
        refine mw_if0 18 i_Model_unseenBy_15 rfl (mj_bI1.mpr hA) ?_
        refine mw_ld 19 i_Model_unseenBy_18 rfl rfl rfl ?_
        refine mw_get 22 i_Model_unseenBy_19 rfl (by assumption) (by rfl) ?_
        refine mw_ld 23 i_Model_unseenBy_22 rfl rfl rfl ?_
        refine mw_iald 24 i i_Model_unseenBy_23 rfl hW rfl (by omega) (by decide) ?_
        rw [hwt i hi]
        refine mw_ld 25 i_Model_unseenBy_24 rfl rfl rfl ?_
        refine mw_b 26 i_Model_unseenBy_25 rfl ?_
        refine mw_if0 29 i_Model_unseenBy_26 rfl (fun q => q hB) ?_
        refine mw_ld 30 i_Model_unseenBy_29 rfl rfl rfl ?_
        refine mw_ri i_Model_unseenBy_30 rfl rfl ?_
        rw [gw_lo, gw_ff_some hi (by rw [gw_up, hA, hB]; rfl) hI] at k
        exact k
      · skip
        refine mw_ld 3 i_Model_unseenBy_2 rfl rfl rfl ?_
        refine mw_ld 4 i_Model_unseenBy_3 rfl rfl rfl ?_
        refine mw_cv1 7 i_Model_unseenBy_4 rfl (by assumption) (sp_Model_cells hO ?_) rfl rfl (Nat.le_of_ble_eq_true rfl) (Nat.le_of_ble_eq_true rfl)
        refine mw_ic0 10 i_Model_unseenBy_7 rfl (nI_ge hi (by omega)) ?_
        refine mw_ld 11 i_Model_unseenBy_10 rfl rfl rfl ?_
        refine mw_ld 12 i_Model_unseenBy_11 rfl rfl rfl ?_
        refine mw_cv1 15 i_Model_unseenBy_12 rfl (by assumption) (sp_Model_isOpen hO hs1 (by omega) ?_) rfl rfl (Nat.le_of_ble_eq_true rfl) (Nat.le_of_ble_eq_true rfl)
        refine mw_if0 18 i_Model_unseenBy_15 rfl (mj_bI1.mpr hA) ?_
        refine mw_ld 19 i_Model_unseenBy_18 rfl rfl rfl ?_
        refine mw_get 22 i_Model_unseenBy_19 rfl (by assumption) (by rfl) ?_
        refine mw_ld 23 i_Model_unseenBy_22 rfl rfl rfl ?_
        refine mw_iald 24 i i_Model_unseenBy_23 rfl hW rfl (by omega) (by decide) ?_
        rw [hwt i hi]
        refine mw_ld 25 i_Model_unseenBy_24 rfl rfl rfl ?_
        refine mw_b 26 i_Model_unseenBy_25 rfl ?_
        refine mw_if1 i_Model_unseenBy_26 hB ?_
        refine mw_inc (ls' := [_, _, _]) 34 (nI (i + 1)) i_Model_unseenBy_31 rfl rfl rfl (nI_1 i) rfl ?_
        refine mw_go i_Model_unseenBy_34 ?_
        refine ih () (fun j hj => ?_)
        by_cases e : j = i
        · subst e; rw [gw_up]; simp [hB]
        · exact hI j (by omega)
    · skip
      refine mw_ld 3 i_Model_unseenBy_2 rfl rfl rfl ?_
      refine mw_ld 4 i_Model_unseenBy_3 rfl rfl rfl ?_
      refine mw_cv1 7 i_Model_unseenBy_4 rfl (by assumption) (sp_Model_cells hO ?_) rfl rfl (Nat.le_of_ble_eq_true rfl) (Nat.le_of_ble_eq_true rfl)
      refine mw_ic0 10 i_Model_unseenBy_7 rfl (nI_ge hi (by omega)) ?_
      refine mw_ld 11 i_Model_unseenBy_10 rfl rfl rfl ?_
      refine mw_ld 12 i_Model_unseenBy_11 rfl rfl rfl ?_
      refine mw_cv1 15 i_Model_unseenBy_12 rfl (by assumption) (sp_Model_isOpen hO hs1 (by omega) ?_) rfl rfl (Nat.le_of_ble_eq_true rfl) (Nat.le_of_ble_eq_true rfl)
      refine mw_if1 i_Model_unseenBy_15 (mj_bI0.mpr (gw_nt hA)) ?_
      refine mw_inc (ls' := [_, _, _]) 34 (nI (i + 1)) i_Model_unseenBy_31 rfl rfl rfl (nI_1 i) rfl ?_
      refine mw_go i_Model_unseenBy_34 ?_
      refine ih () (fun j hj => ?_)
      by_cases e : j = i
      · subst e; rw [gw_up, gw_nt hA]; rfl
      · exact hI j (by omega)
