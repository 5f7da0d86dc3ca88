/-! the model: tree -/
theorem sp_Model_make {X : mj_X} {w h kp rw n N : Nat} {tf fe fi ma : Int32} {s wt : Nat → Int32} (hd : gw_dim w h) (hn14 : n ≤ 14) (hp : s 100 = nI n) (hN : N ≤ 6) (hwt : ∀ c, c < w * h → wt c = gw_wt w h n s c) (hno : ∀ z, gw_has n z = true → gw_cn (bt z) 14 ≤ N → gw_wa w h n s z = false) {d : Nat} {σ : mj_H} {Q : mj_H → Prop} (h1 : σ.1 56 = mj_AI 213 s) (h2 : σ.1 58 = mj_AI 100 wt) (h3 : gw_re σ.1 w h kp rw tf fe fi ma []) (k : ∀ f, gw_fr [55, 67, 68, 69, 70] σ.1 f → gw_re f w h kp rw tf fe fi ma (gw_T w h n s N) → Q (f, σ.2)) : mj_M X (d + 8) y_Model_make [.ref 55, .int gw_NONE, .int gw_NONE, .int 0, .int (nI N)] σ (mj_U Q) := by
  have hh := sp_Model_make_all (X := X) (kp := kp) (rw := rw) (tf := tf) (fe := fe) (fi := fi) (ma := ma) hd hn14 hp hN hwt hno N (d := d + (6 - N)) (P := []) (a := gw_NONE) (c := gw_NONE) (z := 0) (gw_has0 hn14) (by rw [gw_cn00]; omega) h1 h2 h3 k
  rwa [show d + (6 - N) + N + 2 = d + 8 by omega] at hh
theorem gw_slg (w h n : Nat) (s : Nat → Int32) : ∃ a b c, (gw_sl w h n s).1 = a ∧ (gw_sl w h n s).2.1 = b ∧ nI (gw_sl w h n s).2.2 = c := ⟨_, _, _, rfl, rfl, rfl⟩
theorem sp_Model_tree {X : mj_X} {d : Nat} {σ : mj_H} {Q : Value → mj_H → Prop} {w h n : Nat} {s : Nat → Int32} {kp : Nat} {hs : Nat → Nat → Int32} {P : List gw_Row} {sz : Int32} (hM : gw_MI σ.1 w h n s kp hs P sz) (hd : gw_dim w h) (hn14 : n ≤ 14) (hp : s 100 = nI n) (hv : gw_vp w h n s) {z : Int32} (k1 : gw_okTree w h n s z = false → ∀ f, gw_fr gw_ML σ.1 f → gw_MI f w h n s kp hs P sz → Q (.int (a_tree w h n s z)) (f, σ.2)) (k2 : gw_okTree w h n s z = true → ∀ f, gw_fr gw_ML σ.1 f → gw_MI f w h n s kp hs (gw_T w h n s z.toInt.toNat) z → Q (.int (nI (gw_T w h n s z.toInt.toNat).length)) (f, σ.2)) : mj_M X (d + 20) y_Model_tree [.ref 55, .int z] σ (mj_V Q) := by
  obtain ⟨tf, fu, fe, fi, ma, md, hO, hA, hRr, hSs, htf⟩ := id hM
  obtain ⟨hs1, bf, hB, hb⟩ := id hA
  obtain ⟨⟨wt0, hW⟩, ⟨he0, hH⟩, ⟨fr0, hF⟩, ⟨fa0, hFa⟩, ⟨ct0, hCt⟩, ⟨mc0, hm1⟩, ⟨mb0, hm2⟩, ⟨mp0, hm3⟩, ⟨mw0, hm4⟩⟩ := id hSs
  have hwh := gw_dim_le hd
  refine mw_in (l0 := [some (.ref 55), some (.int z), none]) rfl ?_
  by_cases hz : gw_in z 0 6 = true
  · skip
    obtain ⟨N, hN, rfl⟩ := gw_in_of (k := 6) (by decide) hz
    rw [gw_tn (show N < 2147483648 by omega)] at k2
    obtain ⟨sl1, sl2, sl3, he⟩ := gw_slg w h n s
    by_cases hq1 : sl1 = gw_NONE
    · skip
      have hq : (gw_sl w h n s).1 = gw_NONE ∨ ¬ (gw_sl w h n s).1 ≤ nI N := .inl (he.1.trans hq1)
      have hno := gw_no_of hn14 hN hq
      rcases Nat.lt_or_ge 600 (gw_T w h n s N).length with hful | hful
      · have hnok : gw_okTree w h n s (nI N) = false := by
          simp only [gw_okTree, gw_tn (show N < 2147483648 by omega)]; rw [show decide (gw_tl w h n s N 0 ≤ 600) = false by rw [← gw_T_len]; simp; omega]; simp
        refine mw_ld 1 i_Model_tree_0 rfl rfl rfl ?_
        refine mw_k 2 i_Model_tree_1 rfl ?_
        refine mw_k 4 i_Model_tree_2 rfl ?_
        refine mw_cs1 7 i_Model_tree_4 rfl (sp_Model_isIn ?_) rfl rfl (Nat.le_of_ble_eq_true rfl) (Nat.le_of_ble_eq_true rfl)
        refine mw_if1 i_Model_tree_7 (mj_bI1.mpr hz) ?_
        refine mw_ld 14 i_Model_tree_13 rfl rfl rfl ?_
        refine mw_cv0 17 i_Model_tree_14 rfl (by repeat (first | exact mj_hs2 | exact mj_hs | assumption | refine mj_hn2 (by omega) ?_ | refine mj_hn (by omega) ?_)) (sp_Model_seek hO hs1 hd hn14 hp hv hW (fun f wt g1 g2 g3 g4 => ?_)) rfl rfl (Nat.le_of_ble_eq_true rfl) (Nat.le_of_ble_eq_true rfl)
        have gs : f 56 = mj_AI 213 s := (g1 _ (by decide)).trans hs1
        have hMf := gw_MI_seek g1 hO g2 g3 hM
        have hff : gw_fr gw_ML σ.1 f := gw_fr_sub g1 (by decide)
        rw [he.1, he.2.1, he.2.2] at g2
        refine mw_ld 18 i_Model_tree_17 rfl rfl rfl ?_
        refine mw_get 21 i_Model_tree_18 rfl g2 (by rfl) ?_
        refine mw_k 23 i_Model_tree_21 rfl ?_
        refine mw_ic1 i_Model_tree_23 hq1 ?_
        refine mw_ld 38 i_Model_tree_37 rfl rfl rfl ?_
        refine mw_k 39 i_Model_tree_38 rfl ?_
        refine mw_put (fs' := [_, _, _, _, _, _, _, _, _, _, _, _, _, _, _, _, _, _, _, _, _, _, _, _, _]) 42 i_Model_tree_39 rfl (by repeat (first | exact mj_hs2 | exact mj_hs | assumption | refine mj_hn2 (by omega) ?_ | refine mj_hn (by omega) ?_)) (Nat.le_of_ble_eq_true rfl) rfl rfl (fun _ h => by cases h) (by rfl) ?_
        refine mw_ld 43 i_Model_tree_42 rfl rfl rfl ?_
        refine mw_k 44 i_Model_tree_43 rfl ?_
        refine mw_put (fs' := [_, _, _, _, _, _, _, _, _, _, _, _, _, _, _, _, _, _, _, _, _, _, _, _, _]) 47 i_Model_tree_44 rfl (by repeat (first | exact mj_hs2 | exact mj_hs | assumption | refine mj_hn2 (by omega) ?_ | refine mj_hn (by omega) ?_)) (Nat.le_of_ble_eq_true rfl) rfl rfl (fun _ h => by cases h) (by rfl) ?_
        have hre0 : gw_re (va_up (va_up f 55 (gw_mo w h kp P.length tf fu sl1 sl2 sl3 0)) 55 (gw_mo w h kp P.length tf 0 sl1 sl2 sl3 0)) w h kp P.length tf sl1 sl2 sl3 [] := ⟨mj_hs, mc0, mb0, mp0, mw0, mj_hn (by decide) (mj_hn (by decide) ((g1 _ (by decide)).trans hm1)), mj_hn (by decide) (mj_hn (by decide) ((g1 _ (by decide)).trans hm2)), mj_hn (by decide) (mj_hn (by decide) ((g1 _ (by decide)).trans hm3)), mj_hn (by decide) (mj_hn (by decide) ((g1 _ (by decide)).trans hm4)), fun j hj => by cases hj⟩
        refine mw_ld 48 i_Model_tree_47 rfl rfl rfl ?_
        refine mw_k 50 i_Model_tree_48 rfl ?_
        refine mw_k 52 i_Model_tree_50 rfl ?_
        refine mw_k 53 i_Model_tree_52 rfl ?_
        refine mw_ld 54 i_Model_tree_53 rfl rfl rfl ?_
        refine mw_cv0 57 i_Model_tree_54 rfl (by repeat (first | exact mj_hs2 | exact mj_hs | assumption | refine mj_hn2 (by omega) ?_ | refine mj_hn (by omega) ?_)) (sp_Model_make (d := d + 11) (σ := (_, σ.2)) hd hn14 hp hN g4 hno (by repeat (first | exact mj_hs2 | exact mj_hs | assumption | refine mj_hn2 (by omega) ?_ | refine mj_hn (by omega) ?_)) (by repeat (first | exact mj_hs2 | exact mj_hs | assumption | refine mj_hn2 (by omega) ?_ | refine mj_hn (by omega) ?_)) hre0 (fun f2 y1 y2 => ?_)) rfl rfl (Nat.le_of_ble_eq_true rfl) (Nat.le_of_ble_eq_true rfl)
        obtain ⟨y55, mc, mb, mp, mw, c1, c2, c3, c4, a5⟩ := id y2
        refine mw_ld 58 i_Model_tree_57 rfl rfl rfl ?_
        refine mw_get 61 i_Model_tree_58 rfl (by repeat (first | exact mj_hs2 | exact mj_hs | assumption | refine mj_hn2 (by omega) ?_ | refine mj_hn (by omega) ?_)) (by rfl) ?_
        refine mw_if0 64 i_Model_tree_61 rfl (by rw [show decide (600 < (gw_T w h n s N).length) = true by simp; omega]; decide) ?_
        refine mw_k 66 i_Model_tree_64 rfl ?_
        refine mw_ri i_Model_tree_66 rfl rfl ?_
        have e : a_tree w h n s (nI N) = gw_FULL := by rw [a_tree, if_pos hz, if_pos hq]
        rw [e] at k1
        have hfr : gw_fr [55, 58, 67, 68, 69, 70] σ.1 f2 := gw_fr_tr (gw_fr_tr (gw_fr_sub g1 (by simp)) (gw_fr_up (gw_fr_up (gw_fr_rf _ _) (by simp)) (by simp))) (gw_fr_sub y1 (by simp))
        exact k1 hnok f2 (gw_fr_sub hfr (by decide)) ⟨tf, _, sl1, sl2, sl3, _, y55, gw_mA_fr hfr (by decide) (by decide) hA, gw_mR_fr hfr (fun a _ _ => by simp; omega) hRr, gw_mS_fr hfr (fun _ => ⟨wt, (y1 58 (by decide)).trans (by repeat (first | exact mj_hs2 | exact mj_hs | assumption | refine mj_hn2 (by omega) ?_ | refine mj_hn (by omega) ?_))⟩) (gw_no_in (by decide)) (gw_no_in (by decide)) (gw_no_in (by decide)) (gw_no_in (by decide)) (fun _ => ⟨mc, c1⟩) (fun _ => ⟨mb, c2⟩) (fun _ => ⟨mp, c3⟩) (fun _ => ⟨mw, c4⟩) hSs, htf⟩
      · have hok : gw_okTree w h n s (nI N) = true := by
          simp only [gw_okTree, gw_tn (show N < 2147483648 by omega), hz, Bool.true_and, Bool.and_eq_true, Bool.or_eq_true, beq_iff_eq, Bool.not_eq_true', decide_eq_false_iff_not, decide_eq_true_eq]
          exact ⟨hq, by rw [← gw_T_len]; exact hful⟩
        refine mw_ld 1 i_Model_tree_0 rfl rfl rfl ?_
        refine mw_k 2 i_Model_tree_1 rfl ?_
        refine mw_k 4 i_Model_tree_2 rfl ?_
        refine mw_cs1 7 i_Model_tree_4 rfl (sp_Model_isIn ?_) rfl rfl (Nat.le_of_ble_eq_true rfl) (Nat.le_of_ble_eq_true rfl)
        refine mw_if1 i_Model_tree_7 (mj_bI1.mpr hz) ?_
        refine mw_ld 14 i_Model_tree_13 rfl rfl rfl ?_
        refine mw_cv0 17 i_Model_tree_14 rfl (by repeat (first | exact mj_hs2 | exact mj_hs | assumption | refine mj_hn2 (by omega) ?_ | refine mj_hn (by omega) ?_)) (sp_Model_seek hO hs1 hd hn14 hp hv hW (fun f wt g1 g2 g3 g4 => ?_)) rfl rfl (Nat.le_of_ble_eq_true rfl) (Nat.le_of_ble_eq_true rfl)
        have gs : f 56 = mj_AI 213 s := (g1 _ (by decide)).trans hs1
        have hMf := gw_MI_seek g1 hO g2 g3 hM
        have hff : gw_fr gw_ML σ.1 f := gw_fr_sub g1 (by decide)
        rw [he.1, he.2.1, he.2.2] at g2
        refine mw_ld 18 i_Model_tree_17 rfl rfl rfl ?_
        refine mw_get 21 i_Model_tree_18 rfl g2 (by rfl) ?_
        refine mw_k 23 i_Model_tree_21 rfl ?_
        refine mw_ic1 i_Model_tree_23 hq1 ?_
        refine mw_ld 38 i_Model_tree_37 rfl rfl rfl ?_
        refine mw_k 39 i_Model_tree_38 rfl ?_
        refine mw_put (fs' := [_, _, _, _, _, _, _, _, _, _, _, _, _, _, _, _, _, _, _, _, _, _, _, _, _]) 42 i_Model_tree_39 rfl (by repeat (first | exact mj_hs2 | exact mj_hs | assumption | refine mj_hn2 (by omega) ?_ | refine mj_hn (by omega) ?_)) (Nat.le_of_ble_eq_true rfl) rfl rfl (fun _ h => by cases h) (by rfl) ?_
        refine mw_ld 43 i_Model_tree_42 rfl rfl rfl ?_
        refine mw_k 44 i_Model_tree_43 rfl ?_
        refine mw_put (fs' := [_, _, _, _, _, _, _, _, _, _, _, _, _, _, _, _, _, _, _, _, _, _, _, _, _]) 47 i_Model_tree_44 rfl (by repeat (first | exact mj_hs2 | exact mj_hs | assumption | refine mj_hn2 (by omega) ?_ | refine mj_hn (by omega) ?_)) (Nat.le_of_ble_eq_true rfl) rfl rfl (fun _ h => by cases h) (by rfl) ?_
        have hre0 : gw_re (va_up (va_up f 55 (gw_mo w h kp P.length tf fu sl1 sl2 sl3 0)) 55 (gw_mo w h kp P.length tf 0 sl1 sl2 sl3 0)) w h kp P.length tf sl1 sl2 sl3 [] := ⟨mj_hs, mc0, mb0, mp0, mw0, mj_hn (by decide) (mj_hn (by decide) ((g1 _ (by decide)).trans hm1)), mj_hn (by decide) (mj_hn (by decide) ((g1 _ (by decide)).trans hm2)), mj_hn (by decide) (mj_hn (by decide) ((g1 _ (by decide)).trans hm3)), mj_hn (by decide) (mj_hn (by decide) ((g1 _ (by decide)).trans hm4)), fun j hj => by cases hj⟩
        refine mw_ld 48 i_Model_tree_47 rfl rfl rfl ?_
        refine mw_k 50 i_Model_tree_48 rfl ?_
        refine mw_k 52 i_Model_tree_50 rfl ?_
        refine mw_k 53 i_Model_tree_52 rfl ?_
        refine mw_ld 54 i_Model_tree_53 rfl rfl rfl ?_
        refine mw_cv0 57 i_Model_tree_54 rfl (by repeat (first | exact mj_hs2 | exact mj_hs | assumption | refine mj_hn2 (by omega) ?_ | refine mj_hn (by omega) ?_)) (sp_Model_make (d := d + 11) (σ := (_, σ.2)) hd hn14 hp hN g4 hno (by repeat (first | exact mj_hs2 | exact mj_hs | assumption | refine mj_hn2 (by omega) ?_ | refine mj_hn (by omega) ?_)) (by repeat (first | exact mj_hs2 | exact mj_hs | assumption | refine mj_hn2 (by omega) ?_ | refine mj_hn (by omega) ?_)) hre0 (fun f2 y1 y2 => ?_)) rfl rfl (Nat.le_of_ble_eq_true rfl) (Nat.le_of_ble_eq_true rfl)
        obtain ⟨y55, mc, mb, mp, mw, c1, c2, c3, c4, a5⟩ := id y2
        refine mw_ld 58 i_Model_tree_57 rfl rfl rfl ?_
        refine mw_get 61 i_Model_tree_58 rfl (by repeat (first | exact mj_hs2 | exact mj_hs | assumption | refine mj_hn2 (by omega) ?_ | refine mj_hn (by omega) ?_)) (by rfl) ?_
        refine mw_if1 i_Model_tree_61 (by rw [show decide (600 < (gw_T w h n s N).length) = false by simp; omega]; rfl) ?_
        rw [show decide (600 < (gw_T w h n s N).length) = false by simp; omega, show min (gw_T w h n s N).length 600 = (gw_T w h n s N).length by omega] at y55
        refine mw_ld 68 i_Model_tree_67 rfl rfl rfl ?_
        refine mw_ld 69 i_Model_tree_68 rfl rfl rfl ?_
        refine mw_get 72 i_Model_tree_69 rfl (by repeat (first | exact mj_hs2 | exact mj_hs | assumption | refine mj_hn2 (by omega) ?_ | refine mj_hn (by omega) ?_)) (by rfl) ?_
        refine mw_put (fs' := [_, _, _, _, _, _, _, _, _, _, _, _, _, _, _, _, _, _, _, _, _, _, _, _, _]) 75 i_Model_tree_72 rfl (by repeat (first | exact mj_hs2 | exact mj_hs | assumption | refine mj_hn2 (by omega) ?_ | refine mj_hn (by omega) ?_)) (Nat.le_of_ble_eq_true rfl) rfl rfl (fun _ h => by cases h) (by rfl) ?_
        refine mw_ld 76 i_Model_tree_75 rfl rfl rfl ?_
        refine mw_ld 77 i_Model_tree_76 rfl rfl rfl ?_
        refine mw_put (fs' := [_, _, _, _, _, _, _, _, _, _, _, _, _, _, _, _, _, _, _, _, _, _, _, _, _]) 80 i_Model_tree_77 rfl (by repeat (first | exact mj_hs2 | exact mj_hs | assumption | refine mj_hn2 (by omega) ?_ | refine mj_hn (by omega) ?_)) (Nat.le_of_ble_eq_true rfl) rfl rfl (fun _ h => by cases h) (by rfl) ?_
        refine mw_k 81 i_Model_tree_80 rfl ?_
        refine mw_st (ls' := [_, _, _]) 82 i_Model_tree_81 rfl rfl rfl rfl ?_
        obtain ⟨rc0, ra0, rp0, ry0, u1, u2, u3, u4, -⟩ := id hRr
        refine gw_heap (Q := fun fx => mj_Wp X (d + 20) y_Model_tree 82 _ [] (fx, σ.2) (mj_V Q)) ?_
        intro fx efx
        have q55 : fx 55 = gw_mo w h kp (gw_T w h n s N).length (nI N) 0 sl1 sl2 sl3 (nI (gw_T w h n s N).length) := by rw [efx]; exact mj_hs
        have hfx : gw_fr [55, 58, 67, 68, 69, 70] σ.1 fx := by rw [efx]; exact gw_fr_up (gw_fr_up (gw_fr_tr (gw_fr_tr (gw_fr_sub g1 (by simp)) (gw_fr_up (gw_fr_up (gw_fr_rf _ _) (by simp)) (by simp))) (gw_fr_sub y1 (by simp))) (by simp)) (by simp)
        have k67 : fx 67 = mj_AI 601 mc := by rw [efx]; exact (by repeat (first | exact mj_hs2 | exact mj_hs | assumption | refine mj_hn2 (by omega) ?_ | refine mj_hn (by omega) ?_))
        have k68 : fx 68 = mj_AI 601 mb := by rw [efx]; exact (by repeat (first | exact mj_hs2 | exact mj_hs | assumption | refine mj_hn2 (by omega) ?_ | refine mj_hn (by omega) ?_))
        have k69 : fx 69 = mj_AI 601 mp := by rw [efx]; exact (by repeat (first | exact mj_hs2 | exact mj_hs | assumption | refine mj_hn2 (by omega) ?_ | refine mj_hn (by omega) ?_))
        have k70 : fx 70 = mj_AI 601 mw := by rw [efx]; exact (by repeat (first | exact mj_hs2 | exact mj_hs | assumption | refine mj_hn2 (by omega) ?_ | refine mj_hn (by omega) ?_))
        have k58 : fx 58 = mj_AI 100 wt := by rw [efx]; exact mj_hn (by decide) (mj_hn (by decide) ((y1 58 (by decide)).trans (by repeat (first | exact mj_hs2 | exact mj_hs | assumption | refine mj_hn2 (by omega) ?_ | refine mj_hn (by omega) ?_))))
        clear efx
        refine mj_for (S := Nat → mj_C) (fun i f4 => mj_Wp X (d + 20) y_Model_tree 82 [some (.ref 55), some (.int (nI N)), some (.int (nI i))] [] (f4, σ.2) (mj_V Q)) (fun i f4 => gw_fr [59, 60, 61, 62] fx f4 ∧ ∃ r1 r2 r3 r4, f4 59 = mj_AI 601 r1 ∧ f4 60 = mj_AI 601 r2 ∧ f4 61 = mj_AI 601 r3 ∧ f4 62 = mj_AI 601 r4 ∧ ∀ j, j < i → r1 j = mc j ∧ r2 j = mb j ∧ r3 j = mp j ∧ r4 j = mw j) (gw_T w h n s N).length ?_ ?_ 0 fx (Nat.zero_le _) ⟨gw_fr_rf _ _, rc0, ra0, rp0, ry0, (hfx 59 (by decide)).trans u1, (hfx 60 (by decide)).trans u2, (hfx 61 (by decide)).trans u3, (hfx 62 (by decide)).trans u4, fun j hj => absurd hj (Nat.not_lt_zero j)⟩
        · rintro f4 ⟨v1, r1, r2, r3, r4, v2, v3, v4, v5, v6⟩
          have p55 : f4 55 = gw_mo w h kp (gw_T w h n s N).length (nI N) 0 sl1 sl2 sl3 (nI (gw_T w h n s N).length) := (v1 55 (by decide)).trans q55
          refine mw_ld 83 i_Model_tree_82 rfl rfl rfl ?_
          refine mw_ld 84 i_Model_tree_83 rfl rfl rfl ?_
          refine mw_get 87 i_Model_tree_84 rfl (by assumption) (by rfl) ?_
          refine mw_ic1 i_Model_tree_87 (nI_le (Nat.le_refl _) (by omega)) ?_
          refine mw_ld 145 i_Model_tree_144 rfl rfl rfl ?_
          refine mw_get 148 i_Model_tree_145 rfl (by assumption) (by rfl) ?_
          refine mw_ri i_Model_tree_148 rfl rfl ?_
          have hfr4 : gw_fr gw_ML σ.1 f4 := gw_fr_tr (gw_fr_sub hfx (by decide)) (gw_fr_sub v1 (by decide))
          have hfr5 : gw_fr [55, 58, 59, 60, 61, 62, 67, 68, 69, 70] σ.1 f4 := gw_fr_tr (gw_fr_sub hfx (by decide)) (gw_fr_sub v1 (by decide))
          refine k2 hok f4 hfr4 ⟨nI N, 0, sl1, sl2, sl3, nI (gw_T w h n s N).length, p55, gw_mA_fr hfr5 (by decide) (by decide) hA, ⟨r1, r2, r3, r4, v2, v3, v4, v5, fun j hj => ?_⟩, gw_mS_fr hfr5 (fun _ => ⟨wt, (v1 58 (by decide)).trans k58⟩) (gw_no_in (by decide)) (gw_no_in (by decide)) (gw_no_in (by decide)) (gw_no_in (by decide)) (fun _ => ⟨mc, (v1 67 (by decide)).trans k67⟩) (fun _ => ⟨mb, (v1 68 (by decide)).trans k68⟩) (fun _ => ⟨mp, (v1 69 (by decide)).trans k69⟩) (fun _ => ⟨mw, (v1 70 (by decide)).trans k70⟩) hSs, .inr rfl⟩
          obtain ⟨w1, w2, w3, w4⟩ := v6 j hj
          rw [w1, w2, w3, w4]
          exact a5 j hj (by omega)
        · rintro i f4 hi ⟨v1, r1, r2, r3, r4, v2, v3, v4, v5, v6⟩ ih
          have p55 : f4 55 = gw_mo w h kp (gw_T w h n s N).length (nI N) 0 sl1 sl2 sl3 (nI (gw_T w h n s N).length) := (v1 55 (by decide)).trans q55
          have p67 : f4 67 = mj_AI 601 mc := (v1 67 (by decide)).trans k67
          have p68 : f4 68 = mj_AI 601 mb := (v1 68 (by decide)).trans k68
          have p69 : f4 69 = mj_AI 601 mp := (v1 69 (by decide)).trans k69
          have p70 : f4 70 = mj_AI 601 mw := (v1 70 (by decide)).trans k70
          refine mw_ld 83 i_Model_tree_82 rfl rfl rfl ?_
          refine mw_ld 84 i_Model_tree_83 rfl rfl rfl ?_
          refine mw_get 87 i_Model_tree_84 rfl (by repeat (first | exact mj_hs2 | exact mj_hs | assumption | refine mj_hn2 (by omega) ?_ | refine mj_hn (by omega) ?_)) (by rfl) ?_
          refine mw_ic0 90 i_Model_tree_87 rfl (nI_ge hi (by omega)) ?_
          refine mw_ld 91 i_Model_tree_90 rfl rfl rfl ?_
          refine mw_get 94 i_Model_tree_91 rfl (by repeat (first | exact mj_hs2 | exact mj_hs | assumption | refine mj_hn2 (by omega) ?_ | refine mj_hn (by omega) ?_)) (by rfl) ?_
          refine mw_ld 95 i_Model_tree_94 rfl rfl rfl ?_
          refine mw_ld 96 i_Model_tree_95 rfl rfl rfl ?_
          refine mw_get 99 i_Model_tree_96 rfl (by repeat (first | exact mj_hs2 | exact mj_hs | assumption | refine mj_hn2 (by omega) ?_ | refine mj_hn (by omega) ?_)) (by rfl) ?_
          refine mw_ld 100 i_Model_tree_99 rfl rfl rfl ?_
          refine mw_iald 101 i i_Model_tree_100 rfl (by repeat (first | exact mj_hs2 | exact mj_hs | assumption | refine mj_hn2 (by omega) ?_ | refine mj_hn (by omega) ?_)) rfl (by omega) (by decide) ?_
          refine mw_iast 102 i i_Model_tree_101 rfl (by repeat (first | exact mj_hs2 | exact mj_hs | assumption | refine mj_hn2 (by omega) ?_ | refine mj_hn (by omega) ?_)) rfl (by omega) (by decide) ?_
          refine mw_ld 103 i_Model_tree_102 rfl rfl rfl ?_
          refine mw_get 106 i_Model_tree_103 rfl (by repeat (first | exact mj_hs2 | exact mj_hs | assumption | refine mj_hn2 (by omega) ?_ | refine mj_hn (by omega) ?_)) (by rfl) ?_
          refine mw_ld 107 i_Model_tree_106 rfl rfl rfl ?_
          refine mw_ld 108 i_Model_tree_107 rfl rfl rfl ?_
          refine mw_get 111 i_Model_tree_108 rfl (by repeat (first | exact mj_hs2 | exact mj_hs | assumption | refine mj_hn2 (by omega) ?_ | refine mj_hn (by omega) ?_)) (by rfl) ?_
          refine mw_ld 112 i_Model_tree_111 rfl rfl rfl ?_
          refine mw_iald 113 i i_Model_tree_112 rfl (by repeat (first | exact mj_hs2 | exact mj_hs | assumption | refine mj_hn2 (by omega) ?_ | refine mj_hn (by omega) ?_)) rfl (by omega) (by decide) ?_
          refine mw_iast 114 i i_Model_tree_113 rfl (by repeat (first | exact mj_hs2 | exact mj_hs | assumption | refine mj_hn2 (by omega) ?_ | refine mj_hn (by omega) ?_)) rfl (by omega) (by decide) ?_
          refine mw_ld 115 i_Model_tree_114 rfl rfl rfl ?_
          refine mw_get 118 i_Model_tree_115 rfl (by repeat (first | exact mj_hs2 | exact mj_hs | assumption | refine mj_hn2 (by omega) ?_ | refine mj_hn (by omega) ?_)) (by rfl) ?_
          refine mw_ld 119 i_Model_tree_118 rfl rfl rfl ?_
          refine mw_ld 120 i_Model_tree_119 rfl rfl rfl ?_
          refine mw_get 123 i_Model_tree_120 rfl (by repeat (first | exact mj_hs2 | exact mj_hs | assumption | refine mj_hn2 (by omega) ?_ | refine mj_hn (by omega) ?_)) (by rfl) ?_
          refine mw_ld 124 i_Model_tree_123 rfl rfl rfl ?_
          refine mw_iald 125 i i_Model_tree_124 rfl (by repeat (first | exact mj_hs2 | exact mj_hs | assumption | refine mj_hn2 (by omega) ?_ | refine mj_hn (by omega) ?_)) rfl (by omega) (by decide) ?_
          refine mw_iast 126 i i_Model_tree_125 rfl (by repeat (first | exact mj_hs2 | exact mj_hs | assumption | refine mj_hn2 (by omega) ?_ | refine mj_hn (by omega) ?_)) rfl (by omega) (by decide) ?_
          refine mw_ld 127 i_Model_tree_126 rfl rfl rfl ?_
          refine mw_get 130 i_Model_tree_127 rfl (by repeat (first | exact mj_hs2 | exact mj_hs | assumption | refine mj_hn2 (by omega) ?_ | refine mj_hn (by omega) ?_)) (by rfl) ?_
          refine mw_ld 131 i_Model_tree_130 rfl rfl rfl ?_
          refine mw_ld 132 i_Model_tree_131 rfl rfl rfl ?_
          refine mw_get 135 i_Model_tree_132 rfl (by repeat (first | exact mj_hs2 | exact mj_hs | assumption | refine mj_hn2 (by omega) ?_ | refine mj_hn (by omega) ?_)) (by rfl) ?_
          refine mw_ld 136 i_Model_tree_135 rfl rfl rfl ?_
          refine mw_iald 137 i i_Model_tree_136 rfl (by repeat (first | exact mj_hs2 | exact mj_hs | assumption | refine mj_hn2 (by omega) ?_ | refine mj_hn (by omega) ?_)) rfl (by omega) (by decide) ?_
          refine mw_iast 138 i i_Model_tree_137 rfl (by repeat (first | exact mj_hs2 | exact mj_hs | assumption | refine mj_hn2 (by omega) ?_ | refine mj_hn (by omega) ?_)) rfl (by omega) (by decide) ?_
          refine mw_inc (ls' := [_, _, _]) 141 (nI (i + 1)) i_Model_tree_138 rfl rfl rfl (nI_1 i) rfl ?_
          refine mw_go i_Model_tree_141 ?_
          refine ih _ ⟨gw_fr_up (gw_fr_up (gw_fr_up (gw_fr_up v1 (by simp)) (by simp)) (by simp)) (by simp), _, _, _, _, mj_hn (by decide) (mj_hn (by decide) (mj_hn (by decide) mj_hs)), mj_hn (by decide) (mj_hn (by decide) mj_hs), mj_hn (by decide) mj_hs, mj_hs, fun j hj => ?_⟩
          by_cases e : j = i
          · subst e; rw [pk_us, pk_us, pk_us, pk_us]; exact ⟨rfl, rfl, rfl, rfl⟩
          · rw [pk_un e, pk_un e, pk_un e, pk_un e]; exact v6 j (by omega)
    · skip
      by_cases hq2 : sl1 ≤ nI N
      · skip
        refine mw_ld 1 i_Model_tree_0 rfl rfl rfl ?_
        refine mw_k 2 i_Model_tree_1 rfl ?_
        refine mw_k 4 i_Model_tree_2 rfl ?_
        refine mw_cs1 7 i_Model_tree_4 rfl (sp_Model_isIn ?_) rfl rfl (Nat.le_of_ble_eq_true rfl) (Nat.le_of_ble_eq_true rfl)
        refine mw_if1 i_Model_tree_7 (mj_bI1.mpr hz) ?_
        refine mw_ld 14 i_Model_tree_13 rfl rfl rfl ?_
        refine mw_cv0 17 i_Model_tree_14 rfl (by assumption) (sp_Model_seek hO hs1 hd hn14 hp hv hW (fun f wt g1 g2 g3 g4 => ?_)) rfl rfl (Nat.le_of_ble_eq_true rfl) (Nat.le_of_ble_eq_true rfl)
        have gs : f 56 = mj_AI 213 s := (g1 _ (by decide)).trans hs1
        have hMf := gw_MI_seek g1 hO g2 g3 hM
        have hff : gw_fr gw_ML σ.1 f := gw_fr_sub g1 (by decide)
        rw [he.1, he.2.1, he.2.2] at g2
        refine mw_ld 18 i_Model_tree_17 rfl rfl rfl ?_
        refine mw_get 21 i_Model_tree_18 rfl g2 (by rfl) ?_
        refine mw_k 23 i_Model_tree_21 rfl ?_
        refine mw_ic0 26 i_Model_tree_23 rfl hq1 ?_
        refine mw_ld 27 i_Model_tree_26 rfl rfl rfl ?_
        refine mw_get 30 i_Model_tree_27 rfl g2 (by rfl) ?_
        refine mw_ld 31 i_Model_tree_30 rfl rfl rfl ?_
        refine mw_ic0 34 i_Model_tree_31 rfl (fun q => absurd hq2 (Int32.not_le.mpr q)) ?_
        refine mw_k 36 i_Model_tree_34 rfl ?_
        refine mw_ri i_Model_tree_36 rfl rfl ?_
        have hq : ¬ ((gw_sl w h n s).1 = gw_NONE ∨ ¬ (gw_sl w h n s).1 ≤ nI N) := fun q => by rw [he.1] at q; rcases q with q | q; exact hq1 q; exact q hq2
        have e : a_tree w h n s (nI N) = gw_NO := by rw [a_tree, if_pos hz, if_neg hq]
        rw [e] at k1
        exact k1 (by simp only [gw_okTree]; rw [he.1]; simp [hq1, hq2]) f hff hMf
      · skip
        have hq : (gw_sl w h n s).1 = gw_NONE ∨ ¬ (gw_sl w h n s).1 ≤ nI N := .inr (by rw [he.1]; exact hq2)
        have hno := gw_no_of hn14 hN hq
        rcases Nat.lt_or_ge 600 (gw_T w h n s N).length with hful | hful
        · have hnok : gw_okTree w h n s (nI N) = false := by
            simp only [gw_okTree, gw_tn (show N < 2147483648 by omega)]; rw [show decide (gw_tl w h n s N 0 ≤ 600) = false by rw [← gw_T_len]; simp; omega]; simp
          refine mw_ld 1 i_Model_tree_0 rfl rfl rfl ?_
          refine mw_k 2 i_Model_tree_1 rfl ?_
          refine mw_k 4 i_Model_tree_2 rfl ?_
          refine mw_cs1 7 i_Model_tree_4 rfl (sp_Model_isIn ?_) rfl rfl (Nat.le_of_ble_eq_true rfl) (Nat.le_of_ble_eq_true rfl)
          refine mw_if1 i_Model_tree_7 (mj_bI1.mpr hz) ?_
          refine mw_ld 14 i_Model_tree_13 rfl rfl rfl ?_
          refine mw_cv0 17 i_Model_tree_14 rfl (by repeat (first | exact mj_hs2 | exact mj_hs | assumption | refine mj_hn2 (by omega) ?_ | refine mj_hn (by omega) ?_)) (sp_Model_seek hO hs1 hd hn14 hp hv hW (fun f wt g1 g2 g3 g4 => ?_)) rfl rfl (Nat.le_of_ble_eq_true rfl) (Nat.le_of_ble_eq_true rfl)
          have gs : f 56 = mj_AI 213 s := (g1 _ (by decide)).trans hs1
          have hMf := gw_MI_seek g1 hO g2 g3 hM
          have hff : gw_fr gw_ML σ.1 f := gw_fr_sub g1 (by decide)
          rw [he.1, he.2.1, he.2.2] at g2
          refine mw_ld 18 i_Model_tree_17 rfl rfl rfl ?_
          refine mw_get 21 i_Model_tree_18 rfl g2 (by rfl) ?_
          refine mw_k 23 i_Model_tree_21 rfl ?_
          refine mw_ic0 26 i_Model_tree_23 rfl hq1 ?_
          refine mw_ld 27 i_Model_tree_26 rfl rfl rfl ?_
          refine mw_get 30 i_Model_tree_27 rfl g2 (by rfl) ?_
          refine mw_ld 31 i_Model_tree_30 rfl rfl rfl ?_
          refine mw_ic1 i_Model_tree_31 (Int32.not_le.mp hq2) ?_
          refine mw_ld 38 i_Model_tree_37 rfl rfl rfl ?_
          refine mw_k 39 i_Model_tree_38 rfl ?_
          refine mw_put (fs' := [_, _, _, _, _, _, _, _, _, _, _, _, _, _, _, _, _, _, _, _, _, _, _, _, _]) 42 i_Model_tree_39 rfl (by repeat (first | exact mj_hs2 | exact mj_hs | assumption | refine mj_hn2 (by omega) ?_ | refine mj_hn (by omega) ?_)) (Nat.le_of_ble_eq_true rfl) rfl rfl (fun _ h => by cases h) (by rfl) ?_
          refine mw_ld 43 i_Model_tree_42 rfl rfl rfl ?_
          refine mw_k 44 i_Model_tree_43 rfl ?_
          refine mw_put (fs' := [_, _, _, _, _, _, _, _, _, _, _, _, _, _, _, _, _, _, _, _, _, _, _, _, _]) 47 i_Model_tree_44 rfl (by repeat (first | exact mj_hs2 | exact mj_hs | assumption | refine mj_hn2 (by omega) ?_ | refine mj_hn (by omega) ?_)) (Nat.le_of_ble_eq_true rfl) rfl rfl (fun _ h => by cases h) (by rfl) ?_
          have hre0 : gw_re (va_up (va_up f 55 (gw_mo w h kp P.length tf fu sl1 sl2 sl3 0)) 55 (gw_mo w h kp P.length tf 0 sl1 sl2 sl3 0)) w h kp P.length tf sl1 sl2 sl3 [] := ⟨mj_hs, mc0, mb0, mp0, mw0, mj_hn (by decide) (mj_hn (by decide) ((g1 _ (by decide)).trans hm1)), mj_hn (by decide) (mj_hn (by decide) ((g1 _ (by decide)).trans hm2)), mj_hn (by decide) (mj_hn (by decide) ((g1 _ (by decide)).trans hm3)), mj_hn (by decide) (mj_hn (by decide) ((g1 _ (by decide)).trans hm4)), fun j hj => by cases hj⟩
          refine mw_ld 48 i_Model_tree_47 rfl rfl rfl ?_
          refine mw_k 50 i_Model_tree_48 rfl ?_
          refine mw_k 52 i_Model_tree_50 rfl ?_
          refine mw_k 53 i_Model_tree_52 rfl ?_
          refine mw_ld 54 i_Model_tree_53 rfl rfl rfl ?_
          refine mw_cv0 57 i_Model_tree_54 rfl (by repeat (first | exact mj_hs2 | exact mj_hs | assumption | refine mj_hn2 (by omega) ?_ | refine mj_hn (by omega) ?_)) (sp_Model_make (d := d + 11) (σ := (_, σ.2)) hd hn14 hp hN g4 hno (by repeat (first | exact mj_hs2 | exact mj_hs | assumption | refine mj_hn2 (by omega) ?_ | refine mj_hn (by omega) ?_)) (by repeat (first | exact mj_hs2 | exact mj_hs | assumption | refine mj_hn2 (by omega) ?_ | refine mj_hn (by omega) ?_)) hre0 (fun f2 y1 y2 => ?_)) rfl rfl (Nat.le_of_ble_eq_true rfl) (Nat.le_of_ble_eq_true rfl)
          obtain ⟨y55, mc, mb, mp, mw, c1, c2, c3, c4, a5⟩ := id y2
          refine mw_ld 58 i_Model_tree_57 rfl rfl rfl ?_
          refine mw_get 61 i_Model_tree_58 rfl (by repeat (first | exact mj_hs2 | exact mj_hs | assumption | refine mj_hn2 (by omega) ?_ | refine mj_hn (by omega) ?_)) (by rfl) ?_
          refine mw_if0 64 i_Model_tree_61 rfl (by rw [show decide (600 < (gw_T w h n s N).length) = true by simp; omega]; decide) ?_
          refine mw_k 66 i_Model_tree_64 rfl ?_
          refine mw_ri i_Model_tree_66 rfl rfl ?_
          have e : a_tree w h n s (nI N) = gw_FULL := by rw [a_tree, if_pos hz, if_pos hq]
          rw [e] at k1
          have hfr : gw_fr [55, 58, 67, 68, 69, 70] σ.1 f2 := gw_fr_tr (gw_fr_tr (gw_fr_sub g1 (by simp)) (gw_fr_up (gw_fr_up (gw_fr_rf _ _) (by simp)) (by simp))) (gw_fr_sub y1 (by simp))
          exact k1 hnok f2 (gw_fr_sub hfr (by decide)) ⟨tf, _, sl1, sl2, sl3, _, y55, gw_mA_fr hfr (by decide) (by decide) hA, gw_mR_fr hfr (fun a _ _ => by simp; omega) hRr, gw_mS_fr hfr (fun _ => ⟨wt, (y1 58 (by decide)).trans (by repeat (first | exact mj_hs2 | exact mj_hs | assumption | refine mj_hn2 (by omega) ?_ | refine mj_hn (by omega) ?_))⟩) (gw_no_in (by decide)) (gw_no_in (by decide)) (gw_no_in (by decide)) (gw_no_in (by decide)) (fun _ => ⟨mc, c1⟩) (fun _ => ⟨mb, c2⟩) (fun _ => ⟨mp, c3⟩) (fun _ => ⟨mw, c4⟩) hSs, htf⟩
        · have hok : gw_okTree w h n s (nI N) = true := by
            simp only [gw_okTree, gw_tn (show N < 2147483648 by omega), hz, Bool.true_and, Bool.and_eq_true, Bool.or_eq_true, beq_iff_eq, Bool.not_eq_true', decide_eq_false_iff_not, decide_eq_true_eq]
            exact ⟨hq, by rw [← gw_T_len]; exact hful⟩
          refine mw_ld 1 i_Model_tree_0 rfl rfl rfl ?_
          refine mw_k 2 i_Model_tree_1 rfl ?_
          refine mw_k 4 i_Model_tree_2 rfl ?_
          refine mw_cs1 7 i_Model_tree_4 rfl (sp_Model_isIn ?_) rfl rfl (Nat.le_of_ble_eq_true rfl) (Nat.le_of_ble_eq_true rfl)
          refine mw_if1 i_Model_tree_7 (mj_bI1.mpr hz) ?_
          refine mw_ld 14 i_Model_tree_13 rfl rfl rfl ?_
          refine mw_cv0 17 i_Model_tree_14 rfl (by repeat (first | exact mj_hs2 | exact mj_hs | assumption | refine mj_hn2 (by omega) ?_ | refine mj_hn (by omega) ?_)) (sp_Model_seek hO hs1 hd hn14 hp hv hW (fun f wt g1 g2 g3 g4 => ?_)) rfl rfl (Nat.le_of_ble_eq_true rfl) (Nat.le_of_ble_eq_true rfl)
          have gs : f 56 = mj_AI 213 s := (g1 _ (by decide)).trans hs1
          have hMf := gw_MI_seek g1 hO g2 g3 hM
          have hff : gw_fr gw_ML σ.1 f := gw_fr_sub g1 (by decide)
          rw [he.1, he.2.1, he.2.2] at g2
          refine mw_ld 18 i_Model_tree_17 rfl rfl rfl ?_
          refine mw_get 21 i_Model_tree_18 rfl g2 (by rfl) ?_
          refine mw_k 23 i_Model_tree_21 rfl ?_
          refine mw_ic0 26 i_Model_tree_23 rfl hq1 ?_
          refine mw_ld 27 i_Model_tree_26 rfl rfl rfl ?_
          refine mw_get 30 i_Model_tree_27 rfl g2 (by rfl) ?_
          refine mw_ld 31 i_Model_tree_30 rfl rfl rfl ?_
          refine mw_ic1 i_Model_tree_31 (Int32.not_le.mp hq2) ?_
          refine mw_ld 38 i_Model_tree_37 rfl rfl rfl ?_
          refine mw_k 39 i_Model_tree_38 rfl ?_
          refine mw_put (fs' := [_, _, _, _, _, _, _, _, _, _, _, _, _, _, _, _, _, _, _, _, _, _, _, _, _]) 42 i_Model_tree_39 rfl (by repeat (first | exact mj_hs2 | exact mj_hs | assumption | refine mj_hn2 (by omega) ?_ | refine mj_hn (by omega) ?_)) (Nat.le_of_ble_eq_true rfl) rfl rfl (fun _ h => by cases h) (by rfl) ?_
          refine mw_ld 43 i_Model_tree_42 rfl rfl rfl ?_
          refine mw_k 44 i_Model_tree_43 rfl ?_
          refine mw_put (fs' := [_, _, _, _, _, _, _, _, _, _, _, _, _, _, _, _, _, _, _, _, _, _, _, _, _]) 47 i_Model_tree_44 rfl (by repeat (first | exact mj_hs2 | exact mj_hs | assumption | refine mj_hn2 (by omega) ?_ | refine mj_hn (by omega) ?_)) (Nat.le_of_ble_eq_true rfl) rfl rfl (fun _ h => by cases h) (by rfl) ?_
          have hre0 : gw_re (va_up (va_up f 55 (gw_mo w h kp P.length tf fu sl1 sl2 sl3 0)) 55 (gw_mo w h kp P.length tf 0 sl1 sl2 sl3 0)) w h kp P.length tf sl1 sl2 sl3 [] := ⟨mj_hs, mc0, mb0, mp0, mw0, mj_hn (by decide) (mj_hn (by decide) ((g1 _ (by decide)).trans hm1)), mj_hn (by decide) (mj_hn (by decide) ((g1 _ (by decide)).trans hm2)), mj_hn (by decide) (mj_hn (by decide) ((g1 _ (by decide)).trans hm3)), mj_hn (by decide) (mj_hn (by decide) ((g1 _ (by decide)).trans hm4)), fun j hj => by cases hj⟩
          refine mw_ld 48 i_Model_tree_47 rfl rfl rfl ?_
          refine mw_k 50 i_Model_tree_48 rfl ?_
          refine mw_k 52 i_Model_tree_50 rfl ?_
          refine mw_k 53 i_Model_tree_52 rfl ?_
          refine mw_ld 54 i_Model_tree_53 rfl rfl rfl ?_
          refine mw_cv0 57 i_Model_tree_54 rfl (by repeat (first | exact mj_hs2 | exact mj_hs | assumption | refine mj_hn2 (by omega) ?_ | refine mj_hn (by omega) ?_)) (sp_Model_make (d := d + 11) (σ := (_, σ.2)) hd hn14 hp hN g4 hno (by repeat (first | exact mj_hs2 | exact mj_hs | assumption | refine mj_hn2 (by omega) ?_ | refine mj_hn (by omega) ?_)) (by repeat (first | exact mj_hs2 | exact mj_hs | assumption | refine mj_hn2 (by omega) ?_ | refine mj_hn (by omega) ?_)) hre0 (fun f2 y1 y2 => ?_)) rfl rfl (Nat.le_of_ble_eq_true rfl) (Nat.le_of_ble_eq_true rfl)
          obtain ⟨y55, mc, mb, mp, mw, c1, c2, c3, c4, a5⟩ := id y2
          refine mw_ld 58 i_Model_tree_57 rfl rfl rfl ?_
          refine mw_get 61 i_Model_tree_58 rfl (by repeat (first | exact mj_hs2 | exact mj_hs | assumption | refine mj_hn2 (by omega) ?_ | refine mj_hn (by omega) ?_)) (by rfl) ?_
          refine mw_if1 i_Model_tree_61 (by rw [show decide (600 < (gw_T w h n s N).length) = false by simp; omega]; rfl) ?_
          rw [show decide (600 < (gw_T w h n s N).length) = false by simp; omega, show min (gw_T w h n s N).length 600 = (gw_T w h n s N).length by omega] at y55
          refine mw_ld 68 i_Model_tree_67 rfl rfl rfl ?_
          refine mw_ld 69 i_Model_tree_68 rfl rfl rfl ?_
          refine mw_get 72 i_Model_tree_69 rfl (by repeat (first | exact mj_hs2 | exact mj_hs | assumption | refine mj_hn2 (by omega) ?_ | refine mj_hn (by omega) ?_)) (by rfl) ?_
          refine mw_put (fs' := [_, _, _, _, _, _, _, _, _, _, _, _, _, _, _, _, _, _, _, _, _, _, _, _, _]) 75 i_Model_tree_72 rfl (by repeat (first | exact mj_hs2 | exact mj_hs | assumption | refine mj_hn2 (by omega) ?_ | refine mj_hn (by omega) ?_)) (Nat.le_of_ble_eq_true rfl) rfl rfl (fun _ h => by cases h) (by rfl) ?_
          refine mw_ld 76 i_Model_tree_75 rfl rfl rfl ?_
          refine mw_ld 77 i_Model_tree_76 rfl rfl rfl ?_
          refine mw_put (fs' := [_, _, _, _, _, _, _, _, _, _, _, _, _, _, _, _, _, _, _, _, _, _, _, _, _]) 80 i_Model_tree_77 rfl (by repeat (first | exact mj_hs2 | exact mj_hs | assumption | refine mj_hn2 (by omega) ?_ | refine mj_hn (by omega) ?_)) (Nat.le_of_ble_eq_true rfl) rfl rfl (fun _ h => by cases h) (by rfl) ?_
          refine mw_k 81 i_Model_tree_80 rfl ?_
          refine mw_st (ls' := [_, _, _]) 82 i_Model_tree_81 rfl rfl rfl rfl ?_
          obtain ⟨rc0, ra0, rp0, ry0, u1, u2, u3, u4, -⟩ := id hRr
          refine gw_heap (Q := fun fx => mj_Wp X (d + 20) y_Model_tree 82 _ [] (fx, σ.2) (mj_V Q)) ?_
          intro fx efx
          have q55 : fx 55 = gw_mo w h kp (gw_T w h n s N).length (nI N) 0 sl1 sl2 sl3 (nI (gw_T w h n s N).length) := by rw [efx]; exact mj_hs
          have hfx : gw_fr [55, 58, 67, 68, 69, 70] σ.1 fx := by rw [efx]; exact gw_fr_up (gw_fr_up (gw_fr_tr (gw_fr_tr (gw_fr_sub g1 (by simp)) (gw_fr_up (gw_fr_up (gw_fr_rf _ _) (by simp)) (by simp))) (gw_fr_sub y1 (by simp))) (by simp)) (by simp)
          have k67 : fx 67 = mj_AI 601 mc := by rw [efx]; exact (by repeat (first | exact mj_hs2 | exact mj_hs | assumption | refine mj_hn2 (by omega) ?_ | refine mj_hn (by omega) ?_))
          have k68 : fx 68 = mj_AI 601 mb := by rw [efx]; exact (by repeat (first | exact mj_hs2 | exact mj_hs | assumption | refine mj_hn2 (by omega) ?_ | refine mj_hn (by omega) ?_))
          have k69 : fx 69 = mj_AI 601 mp := by rw [efx]; exact (by repeat (first | exact mj_hs2 | exact mj_hs | assumption | refine mj_hn2 (by omega) ?_ | refine mj_hn (by omega) ?_))
          have k70 : fx 70 = mj_AI 601 mw := by rw [efx]; exact (by repeat (first | exact mj_hs2 | exact mj_hs | assumption | refine mj_hn2 (by omega) ?_ | refine mj_hn (by omega) ?_))
          have k58 : fx 58 = mj_AI 100 wt := by rw [efx]; exact mj_hn (by decide) (mj_hn (by decide) ((y1 58 (by decide)).trans (by repeat (first | exact mj_hs2 | exact mj_hs | assumption | refine mj_hn2 (by omega) ?_ | refine mj_hn (by omega) ?_))))
          clear efx
          refine mj_for (S := Nat → mj_C) (fun i f4 => mj_Wp X (d + 20) y_Model_tree 82 [some (.ref 55), some (.int (nI N)), some (.int (nI i))] [] (f4, σ.2) (mj_V Q)) (fun i f4 => gw_fr [59, 60, 61, 62] fx f4 ∧ ∃ r1 r2 r3 r4, f4 59 = mj_AI 601 r1 ∧ f4 60 = mj_AI 601 r2 ∧ f4 61 = mj_AI 601 r3 ∧ f4 62 = mj_AI 601 r4 ∧ ∀ j, j < i → r1 j = mc j ∧ r2 j = mb j ∧ r3 j = mp j ∧ r4 j = mw j) (gw_T w h n s N).length ?_ ?_ 0 fx (Nat.zero_le _) ⟨gw_fr_rf _ _, rc0, ra0, rp0, ry0, (hfx 59 (by decide)).trans u1, (hfx 60 (by decide)).trans u2, (hfx 61 (by decide)).trans u3, (hfx 62 (by decide)).trans u4, fun j hj => absurd hj (Nat.not_lt_zero j)⟩
          · rintro f4 ⟨v1, r1, r2, r3, r4, v2, v3, v4, v5, v6⟩
            have p55 : f4 55 = gw_mo w h kp (gw_T w h n s N).length (nI N) 0 sl1 sl2 sl3 (nI (gw_T w h n s N).length) := (v1 55 (by decide)).trans q55
            refine mw_ld 83 i_Model_tree_82 rfl rfl rfl ?_
            refine mw_ld 84 i_Model_tree_83 rfl rfl rfl ?_
            refine mw_get 87 i_Model_tree_84 rfl (by assumption) (by rfl) ?_
            refine mw_ic1 i_Model_tree_87 (nI_le (Nat.le_refl _) (by omega)) ?_
            refine mw_ld 145 i_Model_tree_144 rfl rfl rfl ?_
            refine mw_get 148 i_Model_tree_145 rfl (by assumption) (by rfl) ?_
            refine mw_ri i_Model_tree_148 rfl rfl ?_
            have hfr4 : gw_fr gw_ML σ.1 f4 := gw_fr_tr (gw_fr_sub hfx (by decide)) (gw_fr_sub v1 (by decide))
            have hfr5 : gw_fr [55, 58, 59, 60, 61, 62, 67, 68, 69, 70] σ.1 f4 := gw_fr_tr (gw_fr_sub hfx (by decide)) (gw_fr_sub v1 (by decide))
            refine k2 hok f4 hfr4 ⟨nI N, 0, sl1, sl2, sl3, nI (gw_T w h n s N).length, p55, gw_mA_fr hfr5 (by decide) (by decide) hA, ⟨r1, r2, r3, r4, v2, v3, v4, v5, fun j hj => ?_⟩, gw_mS_fr hfr5 (fun _ => ⟨wt, (v1 58 (by decide)).trans k58⟩) (gw_no_in (by decide)) (gw_no_in (by decide)) (gw_no_in (by decide)) (gw_no_in (by decide)) (fun _ => ⟨mc, (v1 67 (by decide)).trans k67⟩) (fun _ => ⟨mb, (v1 68 (by decide)).trans k68⟩) (fun _ => ⟨mp, (v1 69 (by decide)).trans k69⟩) (fun _ => ⟨mw, (v1 70 (by decide)).trans k70⟩) hSs, .inr rfl⟩
            obtain ⟨w1, w2, w3, w4⟩ := v6 j hj
            rw [w1, w2, w3, w4]
            exact a5 j hj (by omega)
          · rintro i f4 hi ⟨v1, r1, r2, r3, r4, v2, v3, v4, v5, v6⟩ ih
            have p55 : f4 55 = gw_mo w h kp (gw_T w h n s N).length (nI N) 0 sl1 sl2 sl3 (nI (gw_T w h n s N).length) := (v1 55 (by decide)).trans q55
            have p67 : f4 67 = mj_AI 601 mc := (v1 67 (by decide)).trans k67
            have p68 : f4 68 = mj_AI 601 mb := (v1 68 (by decide)).trans k68
            have p69 : f4 69 = mj_AI 601 mp := (v1 69 (by decide)).trans k69
            have p70 : f4 70 = mj_AI 601 mw := (v1 70 (by decide)).trans k70
            refine mw_ld 83 i_Model_tree_82 rfl rfl rfl ?_
            refine mw_ld 84 i_Model_tree_83 rfl rfl rfl ?_
            refine mw_get 87 i_Model_tree_84 rfl (by repeat (first | exact mj_hs2 | exact mj_hs | assumption | refine mj_hn2 (by omega) ?_ | refine mj_hn (by omega) ?_)) (by rfl) ?_
            refine mw_ic0 90 i_Model_tree_87 rfl (nI_ge hi (by omega)) ?_
            refine mw_ld 91 i_Model_tree_90 rfl rfl rfl ?_
            refine mw_get 94 i_Model_tree_91 rfl (by repeat (first | exact mj_hs2 | exact mj_hs | assumption | refine mj_hn2 (by omega) ?_ | refine mj_hn (by omega) ?_)) (by rfl) ?_
            refine mw_ld 95 i_Model_tree_94 rfl rfl rfl ?_
            refine mw_ld 96 i_Model_tree_95 rfl rfl rfl ?_
            refine mw_get 99 i_Model_tree_96 rfl (by repeat (first | exact mj_hs2 | exact mj_hs | assumption | refine mj_hn2 (by omega) ?_ | refine mj_hn (by omega) ?_)) (by rfl) ?_
            refine mw_ld 100 i_Model_tree_99 rfl rfl rfl ?_
            refine mw_iald 101 i i_Model_tree_100 rfl (by repeat (first | exact mj_hs2 | exact mj_hs | assumption | refine mj_hn2 (by omega) ?_ | refine mj_hn (by omega) ?_)) rfl (by omega) (by decide) ?_
            refine mw_iast 102 i i_Model_tree_101 rfl (by repeat (first | exact mj_hs2 | exact mj_hs | assumption | refine mj_hn2 (by omega) ?_ | refine mj_hn (by omega) ?_)) rfl (by omega) (by decide) ?_
            refine mw_ld 103 i_Model_tree_102 rfl rfl rfl ?_
            refine mw_get 106 i_Model_tree_103 rfl (by repeat (first | exact mj_hs2 | exact mj_hs | assumption | refine mj_hn2 (by omega) ?_ | refine mj_hn (by omega) ?_)) (by rfl) ?_
            refine mw_ld 107 i_Model_tree_106 rfl rfl rfl ?_
            refine mw_ld 108 i_Model_tree_107 rfl rfl rfl ?_
            refine mw_get 111 i_Model_tree_108 rfl (by repeat (first | exact mj_hs2 | exact mj_hs | assumption | refine mj_hn2 (by omega) ?_ | refine mj_hn (by omega) ?_)) (by rfl) ?_
            refine mw_ld 112 i_Model_tree_111 rfl rfl rfl ?_
            refine mw_iald 113 i i_Model_tree_112 rfl (by repeat (first | exact mj_hs2 | exact mj_hs | assumption | refine mj_hn2 (by omega) ?_ | refine mj_hn (by omega) ?_)) rfl (by omega) (by decide) ?_
            refine mw_iast 114 i i_Model_tree_113 rfl (by repeat (first | exact mj_hs2 | exact mj_hs | assumption | refine mj_hn2 (by omega) ?_ | refine mj_hn (by omega) ?_)) rfl (by omega) (by decide) ?_
            refine mw_ld 115 i_Model_tree_114 rfl rfl rfl ?_
            refine mw_get 118 i_Model_tree_115 rfl (by repeat (first | exact mj_hs2 | exact mj_hs | assumption | refine mj_hn2 (by omega) ?_ | refine mj_hn (by omega) ?_)) (by rfl) ?_
            refine mw_ld 119 i_Model_tree_118 rfl rfl rfl ?_
            refine mw_ld 120 i_Model_tree_119 rfl rfl rfl ?_
            refine mw_get 123 i_Model_tree_120 rfl (by repeat (first | exact mj_hs2 | exact mj_hs | assumption | refine mj_hn2 (by omega) ?_ | refine mj_hn (by omega) ?_)) (by rfl) ?_
            refine mw_ld 124 i_Model_tree_123 rfl rfl rfl ?_
            refine mw_iald 125 i i_Model_tree_124 rfl (by repeat (first | exact mj_hs2 | exact mj_hs | assumption | refine mj_hn2 (by omega) ?_ | refine mj_hn (by omega) ?_)) rfl (by omega) (by decide) ?_
            refine mw_iast 126 i i_Model_tree_125 rfl (by repeat (first | exact mj_hs2 | exact mj_hs | assumption | refine mj_hn2 (by omega) ?_ | refine mj_hn (by omega) ?_)) rfl (by omega) (by decide) ?_
            refine mw_ld 127 i_Model_tree_126 rfl rfl rfl ?_
            refine mw_get 130 i_Model_tree_127 rfl (by repeat (first | exact mj_hs2 | exact mj_hs | assumption | refine mj_hn2 (by omega) ?_ | refine mj_hn (by omega) ?_)) (by rfl) ?_
            refine mw_ld 131 i_Model_tree_130 rfl rfl rfl ?_
            refine mw_ld 132 i_Model_tree_131 rfl rfl rfl ?_
            refine mw_get 135 i_Model_tree_132 rfl (by repeat (first | exact mj_hs2 | exact mj_hs | assumption | refine mj_hn2 (by omega) ?_ | refine mj_hn (by omega) ?_)) (by rfl) ?_
            refine mw_ld 136 i_Model_tree_135 rfl rfl rfl ?_
            refine mw_iald 137 i i_Model_tree_136 rfl (by repeat (first | exact mj_hs2 | exact mj_hs | assumption | refine mj_hn2 (by omega) ?_ | refine mj_hn (by omega) ?_)) rfl (by omega) (by decide) ?_
            refine mw_iast 138 i i_Model_tree_137 rfl (by repeat (first | exact mj_hs2 | exact mj_hs | assumption | refine mj_hn2 (by omega) ?_ | refine mj_hn (by omega) ?_)) rfl (by omega) (by decide) ?_
            refine mw_inc (ls' := [_, _, _]) 141 (nI (i + 1)) i_Model_tree_138 rfl rfl rfl (nI_1 i) rfl ?_
            refine mw_go i_Model_tree_141 ?_
            refine ih _ ⟨gw_fr_up (gw_fr_up (gw_fr_up (gw_fr_up v1 (by simp)) (by simp)) (by simp)) (by simp), _, _, _, _, mj_hn (by decide) (mj_hn (by decide) (mj_hn (by decide) mj_hs)), mj_hn (by decide) (mj_hn (by decide) mj_hs), mj_hn (by decide) mj_hs, mj_hs, fun j hj => ?_⟩
            by_cases e : j = i
            · subst e; rw [pk_us, pk_us, pk_us, pk_us]; exact ⟨rfl, rfl, rfl, rfl⟩
            · rw [pk_un e, pk_un e, pk_un e, pk_un e]; exact v6 j (by omega)
  · skip
    refine mw_ld 1 i_Model_tree_0 rfl rfl rfl ?_
    refine mw_k 2 i_Model_tree_1 rfl ?_
    refine mw_k 4 i_Model_tree_2 rfl ?_
    refine mw_cs1 7 i_Model_tree_4 rfl (sp_Model_isIn ?_) rfl rfl (Nat.le_of_ble_eq_true rfl) (Nat.le_of_ble_eq_true rfl)
    refine mw_if0 10 i_Model_tree_7 rfl (fun q => q (mj_bI0.mpr (gw_nt hz))) ?_
    refine mw_k 12 i_Model_tree_10 rfl ?_
    refine mw_ri i_Model_tree_12 rfl rfl ?_
    have e : a_tree w h n s z = gw_BAD := by rw [a_tree, if_neg hz]
    rw [e] at k1
    exact k1 (by simp [gw_okTree, hz]) σ.1 (gw_fr_rf _ _) hM
