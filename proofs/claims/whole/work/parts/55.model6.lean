/-! the model: spare, only, count -/
theorem gw_sp_iff {w h n : Nat} {s : Nat → Int32} {z : Int32} {k : Nat} (hd : gw_dim w h) (hk : k < 32) : gw_sp w h n s z k = (bt z k && (gw_lo w h n s (z &&& (gw_bit k ^^^ (-1)))).isNone) := by
  rw [gw_sp, Bool.eq_iff_iff, Bool.and_eq_true, Bool.and_eq_true, beq_iff_eq, gw_lu_none hd, Option.isNone_iff_eq_none]
  have e : (!(z &&& gw_bit k == 0)) = bt z k := by
    have := gw_ab0 z hk
    cases hb : bt z k
    · rw [this.mpr hb]; rfl
    · have : ¬ z &&& gw_bit k = 0 := fun q => by rw [this.mp q] at hb; cases hb
      simp [this]
  rw [e]
theorem gw_sp_cut {w h n : Nat} {s : Nat → Int32} {z : Int32} (hd : gw_dim w h) (hn : n ≤ 14) (hz : gw_has n z = true) : gw_fm (gw_sp w h n s z) 14 = gw_fm (gw_sp w h n s z) n := by
  rw [gw_fm_cg (q := fun k => decide (k < 14) && gw_sp w h n s z k) (fun k hk => by simp [hk])]
  refine gw_fm_cut (fun k hk => by have : k < 14 := by omega
                                   simp [this]) (fun k hk => ?_) 14 hn
  by_cases q : k < 14
  · rw [gw_sp_iff hd (by omega), (gw_has_iff hn).mp hz k hk (by omega)]; simp
  · simp [q]
theorem gw_has_all {n : Nat} (hn : n ≤ 14) : gw_has n (gw_all n) = true := (gw_has_iff hn).mpr (fun i h1 h2 => by rw [gw_all_bt n (by omega) i h2]; simp; omega)
theorem gw_only_eq {w h n : Nat} {s : Nat → Int32} (hd : gw_dim w h) (hn : n ≤ 14) : gw_all n &&& (gw_fm (gw_sp w h n s (gw_all n)) 14 ^^^ (-1)) = gw_fm (fun k => !(gw_lo w h n s (gw_all n &&& (gw_bit k ^^^ (-1)))).isNone) n := by
  rw [gw_sp_cut hd hn (gw_has_all hn)]
  refine b_ext (fun i hi => ?_)
  rw [b_and, b_xor, b_m1 i hi, gw_all_bt n (by omega) i hi, gw_fm_bt _ (by omega), gw_fm_bt _ (by omega)]
  by_cases q : i < n
  · rw [gw_sp_iff hd (by omega), gw_all_bt n (by omega) i hi]; simp [q]
  · simp [q]
theorem sp_Model_spare {X : mj_X} {d : Nat} {σ : mj_H} {Q : Value → mj_H → Prop} {w h n : Nat} {s : Nat → Int32} {kp : Nat} {hs : Nat → Nat → Int32} {P : List gw_Row} {sz : Int32} (hM : gw_MI σ.1 w h n s kp hs P sz) (hd : gw_dim w h) (hn14 : n ≤ 14) (hp : s 100 = nI n) (hv : gw_vp w h n s) {z : Int32} (k : ∀ f, gw_fr gw_ML σ.1 f → gw_MI f w h n s kp hs P sz → Q (.int (a_spare w h n s z)) (f, σ.2)) : mj_M X (d + 20) y_Model_spare [.ref 55, .int z] σ (mj_V Q) := by
  obtain ⟨tf, fu, fe, fi, ma, md, hO, hA, hRr, hSs, htf⟩ := id hM
  obtain ⟨hs1, bf, hB, hb⟩ := id hA
  obtain ⟨⟨wt0, hW⟩, ⟨he0, hH⟩, ⟨fr0, hF⟩, ⟨fa0, hFa⟩, ⟨ct0, hCt⟩, ⟨mc0, hm1⟩, ⟨mb0, hm2⟩, ⟨mp0, hm3⟩, ⟨mw0, hm4⟩⟩ := id hSs
  have hwh := gw_dim_le hd
  refine mw_in (l0 := [some (.ref 55), some (.int z), none, none, none]) rfl ?_
  by_cases hz : gw_has n z = true
  · skip
    rw [a_spare, if_pos hz, gw_sp_cut hd hn14 hz] at k
    have hlun := gw_lu_none (w := w) (h := h) (n := n) (s := s) (z := z) hd
    have hl := fun z => gw_lo_lt (w := w) (h := h) (n := n) (s := s) (z := z) hd
    by_cases ho : gw_lo w h n s z = none
    · skip
      rw [if_pos (hlun.mpr ho)] at k
      refine mw_ld 1 i_Model_spare_0 rfl rfl rfl ?_
      refine mw_ld 2 i_Model_spare_1 rfl rfl rfl ?_
      refine mw_cv1 5 i_Model_spare_2 rfl (by assumption) (sp_Model_isSet hO hs1 hn14 hp ?_) rfl rfl (Nat.le_of_ble_eq_true rfl) (Nat.le_of_ble_eq_true rfl)
      refine mw_if1 i_Model_spare_5 (mj_bI1.mpr hz) ?_
      refine mw_ld 12 i_Model_spare_11 rfl rfl rfl ?_
      refine mw_cv0 15 i_Model_spare_12 rfl (by assumption) (sp_Model_look hO hs1 hd hn14 hp hv hW (fun f wt g1 g2 g3 => ?_)) rfl rfl (Nat.le_of_ble_eq_true rfl) (Nat.le_of_ble_eq_true rfl)
      have go : f 55 = gw_mo w h kp P.length tf fu fe fi ma md := (g1 _ (by decide)).trans hO
      have gs : f 56 = mj_AI 213 s := (g1 _ (by decide)).trans hs1
      have hMf := gw_MI_look g1 g2 hM
      have hff : gw_fr gw_ML σ.1 f := gw_fr_sub g1 (by decide)
      refine mw_ld 16 i_Model_spare_15 rfl rfl rfl ?_
      refine mw_ld 17 i_Model_spare_16 rfl rfl rfl ?_
      refine mw_cv1 20 i_Model_spare_17 rfl (by assumption) (sp_Model_unseenBy (σ := (f, σ.2)) go gs hd g2 g3 ?_) rfl rfl (Nat.le_of_ble_eq_true rfl) (Nat.le_of_ble_eq_true rfl)
      refine mw_if1 i_Model_spare_20 ((gw_dI_neg (hl z)).mpr ho) ?_
      refine mw_k 27 i_Model_spare_26 rfl ?_
      refine mw_st (ls' := [_, _, _, _, _]) 28 i_Model_spare_27 rfl rfl rfl rfl ?_
      refine mw_k 29 i_Model_spare_28 rfl ?_
      refine mw_st (ls' := [_, _, _, _, _]) 30 i_Model_spare_29 rfl rfl rfl rfl ?_
      refine mj_for (S := Option Value) (fun i u => mj_Wp X (d + 20) y_Model_spare 30 [some (.ref 55), some (.int z), some (.int (gw_fm (gw_sp w h n s z) i)), some (.int (nI i)), u] [] (f, σ.2) (mj_V Q)) (fun i _ => True) n ?_ ?_ 0 none (Nat.zero_le _) trivial
      · intro u _
        refine mw_ld 31 i_Model_spare_30 rfl rfl rfl ?_
        refine mw_ld 32 i_Model_spare_31 rfl rfl rfl ?_
        refine mw_cv1 35 i_Model_spare_32 rfl (by assumption) (sp_Model_posts (σ := (f, σ.2)) go gs hp ?_) rfl rfl (Nat.le_of_ble_eq_true rfl) (Nat.le_of_ble_eq_true rfl)
        refine mw_ic1 i_Model_spare_35 (nI_le (Nat.le_refl _) (by omega)) ?_
        refine mw_ld 90 i_Model_spare_89 rfl rfl rfl ?_
        refine mw_ri i_Model_spare_90 rfl rfl ?_
        exact k f hff hMf
      · intro i u hi _ ih
        have htb := gw_tb z (k := i) (by omega)
        cases hx : bt z i with
        | true =>
          cases hy : (gw_lo w h n s (z &&& (gw_bit i ^^^ (-1)))).isNone with
          | true =>
            have hneg := (gw_dI_neg (hl (z &&& (gw_bit i ^^^ (-1))))).mpr (Option.isNone_iff_eq_none.mp hy)
            refine mw_ld 31 i_Model_spare_30 rfl rfl rfl ?_
            refine mw_ld 32 i_Model_spare_31 rfl rfl rfl ?_
            refine mw_cv1 35 i_Model_spare_32 rfl (by assumption) (sp_Model_posts (σ := (f, σ.2)) go gs hp ?_) rfl rfl (Nat.le_of_ble_eq_true rfl) (Nat.le_of_ble_eq_true rfl)
            refine mw_ic0 38 i_Model_spare_35 rfl (nI_ge hi (by omega)) ?_
            refine mw_ld 39 i_Model_spare_38 rfl rfl rfl ?_
            refine mw_ld 40 i_Model_spare_39 rfl rfl rfl ?_
            refine mw_b 41 i_Model_spare_40 rfl ?_
            refine mw_k 42 i_Model_spare_41 rfl ?_
            refine mw_b 43 i_Model_spare_42 rfl ?_
            refine mw_k 44 i_Model_spare_43 rfl ?_
            refine mw_ic0 47 i_Model_spare_44 rfl (fun q => q (htb.mpr hx)) ?_
            refine mw_k 48 i_Model_spare_47 rfl ?_
            refine mw_go i_Model_spare_48 ?_
            refine mw_st (ls' := [_, _, _, _, _]) 54 i_Model_spare_52 rfl rfl rfl rfl ?_
            refine mw_ld 55 i_Model_spare_54 rfl rfl rfl ?_
            refine mw_ld 57 i_Model_spare_55 rfl rfl rfl ?_
            refine mw_if0 60 i_Model_spare_57 rfl (by decide) ?_
            refine mw_ld 61 i_Model_spare_60 rfl rfl rfl ?_
            refine mw_ld 62 i_Model_spare_61 rfl rfl rfl ?_
            refine mw_k 63 i_Model_spare_62 rfl ?_
            refine mw_ld 64 i_Model_spare_63 rfl rfl rfl ?_
            refine mw_b 65 i_Model_spare_64 rfl ?_
            refine mw_k 66 i_Model_spare_65 rfl ?_
            refine mw_b 67 i_Model_spare_66 rfl ?_
            refine mw_b 68 i_Model_spare_67 rfl ?_
            refine mw_cv1 71 i_Model_spare_68 rfl (by assumption) (sp_Model_unseenBy (σ := (f, σ.2)) go gs hd g2 g3 ?_) rfl rfl (Nat.le_of_ble_eq_true rfl) (Nat.le_of_ble_eq_true rfl)
            refine mw_if0 74 i_Model_spare_71 rfl (fun q => absurd hneg (Int32.not_lt.mpr q)) ?_
            refine mw_k 75 i_Model_spare_74 rfl ?_
            refine mw_ld 76 i_Model_spare_75 rfl rfl rfl ?_
            refine mw_b 77 i_Model_spare_76 rfl ?_
            refine mw_go i_Model_spare_77 ?_
            refine mw_b 82 i_Model_spare_81 rfl ?_
            refine mw_st (ls' := [_, _, _, _, _]) 83 i_Model_spare_82 rfl rfl rfl rfl ?_
            refine mw_inc (ls' := [_, _, _, _, _]) 86 (nI (i + 1)) i_Model_spare_83 rfl rfl rfl (nI_1 i) rfl ?_
            refine mw_go i_Model_spare_86 ?_
            have e := fun u => ih u trivial
            simp only [gw_fm] at e
            rw [if_pos (by rw [gw_sp_iff hd (by omega), hx, hy]; rfl)] at e
            first
            | exact e _
            | exact e ()
          | false =>
            have hneg := (gw_dI_ge (hl (z &&& (gw_bit i ^^^ (-1))))).mpr (fun q => by rw [Option.isNone_iff_eq_none.mpr q] at hy; cases hy)
            refine mw_ld 31 i_Model_spare_30 rfl rfl rfl ?_
            refine mw_ld 32 i_Model_spare_31 rfl rfl rfl ?_
            refine mw_cv1 35 i_Model_spare_32 rfl (by assumption) (sp_Model_posts (σ := (f, σ.2)) go gs hp ?_) rfl rfl (Nat.le_of_ble_eq_true rfl) (Nat.le_of_ble_eq_true rfl)
            refine mw_ic0 38 i_Model_spare_35 rfl (nI_ge hi (by omega)) ?_
            refine mw_ld 39 i_Model_spare_38 rfl rfl rfl ?_
            refine mw_ld 40 i_Model_spare_39 rfl rfl rfl ?_
            refine mw_b 41 i_Model_spare_40 rfl ?_
            refine mw_k 42 i_Model_spare_41 rfl ?_
            refine mw_b 43 i_Model_spare_42 rfl ?_
            refine mw_k 44 i_Model_spare_43 rfl ?_
            refine mw_ic0 47 i_Model_spare_44 rfl (fun q => q (htb.mpr hx)) ?_
            refine mw_k 48 i_Model_spare_47 rfl ?_
            refine mw_go i_Model_spare_48 ?_
            refine mw_st (ls' := [_, _, _, _, _]) 54 i_Model_spare_52 rfl rfl rfl rfl ?_
            refine mw_ld 55 i_Model_spare_54 rfl rfl rfl ?_
            refine mw_ld 57 i_Model_spare_55 rfl rfl rfl ?_
            refine mw_if0 60 i_Model_spare_57 rfl (by decide) ?_
            refine mw_ld 61 i_Model_spare_60 rfl rfl rfl ?_
            refine mw_ld 62 i_Model_spare_61 rfl rfl rfl ?_
            refine mw_k 63 i_Model_spare_62 rfl ?_
            refine mw_ld 64 i_Model_spare_63 rfl rfl rfl ?_
            refine mw_b 65 i_Model_spare_64 rfl ?_
            refine mw_k 66 i_Model_spare_65 rfl ?_
            refine mw_b 67 i_Model_spare_66 rfl ?_
            refine mw_b 68 i_Model_spare_67 rfl ?_
            refine mw_cv1 71 i_Model_spare_68 rfl (by assumption) (sp_Model_unseenBy (σ := (f, σ.2)) go gs hd g2 g3 ?_) rfl rfl (Nat.le_of_ble_eq_true rfl) (Nat.le_of_ble_eq_true rfl)
            refine mw_if1 i_Model_spare_71 hneg ?_
            refine mw_k 81 i_Model_spare_80 rfl ?_
            refine mw_b 82 i_Model_spare_81 rfl ?_
            rw [gw_or0]
            refine mw_st (ls' := [_, _, _, _, _]) 83 i_Model_spare_82 rfl rfl rfl rfl ?_
            refine mw_inc (ls' := [_, _, _, _, _]) 86 (nI (i + 1)) i_Model_spare_83 rfl rfl rfl (nI_1 i) rfl ?_
            refine mw_go i_Model_spare_86 ?_
            have e := fun u => ih u trivial
            simp only [gw_fm] at e
            rw [if_neg (by rw [gw_sp_iff hd (by omega), hx, hy]; simp)] at e
            first
            | exact e _
            | exact e ()
        | false =>
          have hnx : ¬ ((z >>> (nI i &&& 31)) &&& 1 = 1) := fun q => by rw [htb.mp q] at hx; cases hx
          refine mw_ld 31 i_Model_spare_30 rfl rfl rfl ?_
          refine mw_ld 32 i_Model_spare_31 rfl rfl rfl ?_
          refine mw_cv1 35 i_Model_spare_32 rfl (by assumption) (sp_Model_posts (σ := (f, σ.2)) go gs hp ?_) rfl rfl (Nat.le_of_ble_eq_true rfl) (Nat.le_of_ble_eq_true rfl)
          refine mw_ic0 38 i_Model_spare_35 rfl (nI_ge hi (by omega)) ?_
          refine mw_ld 39 i_Model_spare_38 rfl rfl rfl ?_
          refine mw_ld 40 i_Model_spare_39 rfl rfl rfl ?_
          refine mw_b 41 i_Model_spare_40 rfl ?_
          refine mw_k 42 i_Model_spare_41 rfl ?_
          refine mw_b 43 i_Model_spare_42 rfl ?_
          refine mw_k 44 i_Model_spare_43 rfl ?_
          refine mw_ic1 i_Model_spare_44 hnx ?_
          refine mw_k 52 i_Model_spare_51 rfl ?_
          refine mw_st (ls' := [_, _, _, _, _]) 54 i_Model_spare_52 rfl rfl rfl rfl ?_
          refine mw_ld 55 i_Model_spare_54 rfl rfl rfl ?_
          refine mw_ld 57 i_Model_spare_55 rfl rfl rfl ?_
          refine mw_if1 i_Model_spare_57 (by decide) ?_
          refine mw_k 81 i_Model_spare_80 rfl ?_
          refine mw_b 82 i_Model_spare_81 rfl ?_
          rw [gw_or0]
          refine mw_st (ls' := [_, _, _, _, _]) 83 i_Model_spare_82 rfl rfl rfl rfl ?_
          refine mw_inc (ls' := [_, _, _, _, _]) 86 (nI (i + 1)) i_Model_spare_83 rfl rfl rfl (nI_1 i) rfl ?_
          refine mw_go i_Model_spare_86 ?_
          have e := fun u => ih u trivial
          simp only [gw_fm] at e
          rw [if_neg (by rw [gw_sp_iff hd (by omega), hx]; simp)] at e
          first
          | exact e _
          | exact e ()
    · skip
      refine mw_ld 1 i_Model_spare_0 rfl rfl rfl ?_
      refine mw_ld 2 i_Model_spare_1 rfl rfl rfl ?_
      refine mw_cv1 5 i_Model_spare_2 rfl (by assumption) (sp_Model_isSet hO hs1 hn14 hp ?_) rfl rfl (Nat.le_of_ble_eq_true rfl) (Nat.le_of_ble_eq_true rfl)
      refine mw_if1 i_Model_spare_5 (mj_bI1.mpr hz) ?_
      refine mw_ld 12 i_Model_spare_11 rfl rfl rfl ?_
      refine mw_cv0 15 i_Model_spare_12 rfl (by assumption) (sp_Model_look hO hs1 hd hn14 hp hv hW (fun f wt g1 g2 g3 => ?_)) rfl rfl (Nat.le_of_ble_eq_true rfl) (Nat.le_of_ble_eq_true rfl)
      have go : f 55 = gw_mo w h kp P.length tf fu fe fi ma md := (g1 _ (by decide)).trans hO
      have gs : f 56 = mj_AI 213 s := (g1 _ (by decide)).trans hs1
      have hMf := gw_MI_look g1 g2 hM
      have hff : gw_fr gw_ML σ.1 f := gw_fr_sub g1 (by decide)
      refine mw_ld 16 i_Model_spare_15 rfl rfl rfl ?_
      refine mw_ld 17 i_Model_spare_16 rfl rfl rfl ?_
      refine mw_cv1 20 i_Model_spare_17 rfl (by assumption) (sp_Model_unseenBy (σ := (f, σ.2)) go gs hd g2 g3 ?_) rfl rfl (Nat.le_of_ble_eq_true rfl) (Nat.le_of_ble_eq_true rfl)
      refine mw_if0 23 i_Model_spare_20 rfl (fun q => ho ((gw_dI_neg (hl z)).mp q)) ?_
      refine mw_k 25 i_Model_spare_23 rfl ?_
      refine mw_ri i_Model_spare_25 rfl rfl ?_
      rw [if_neg (fun q => ho (hlun.mp q))] at k
      exact k f hff hMf
  · skip
    refine mw_ld 1 i_Model_spare_0 rfl rfl rfl ?_
    refine mw_ld 2 i_Model_spare_1 rfl rfl rfl ?_
    refine mw_cv1 5 i_Model_spare_2 rfl (by assumption) (sp_Model_isSet hO hs1 hn14 hp ?_) rfl rfl (Nat.le_of_ble_eq_true rfl) (Nat.le_of_ble_eq_true rfl)
    refine mw_if0 8 i_Model_spare_5 rfl (fun q => q (mj_bI0.mpr (gw_nt hz))) ?_
    refine mw_k 10 i_Model_spare_8 rfl ?_
    refine mw_ri i_Model_spare_10 rfl rfl ?_
    rw [a_spare, if_neg hz] at k
    exact k σ.1 (gw_fr_rf _ _) hM
theorem sp_Model_only {X : mj_X} {d : Nat} {σ : mj_H} {Q : Value → mj_H → Prop} {w h n : Nat} {s : Nat → Int32} {kp : Nat} {hs : Nat → Nat → Int32} {P : List gw_Row} {sz : Int32} (hM : gw_MI σ.1 w h n s kp hs P sz) (hd : gw_dim w h) (hn14 : n ≤ 14) (hp : s 100 = nI n) (hv : gw_vp w h n s)  (k : ∀ f, gw_fr gw_ML σ.1 f → gw_MI f w h n s kp hs P sz → Q (.int (a_only w h n s)) (f, σ.2)) : mj_M X (d + 20) y_Model_only [.ref 55] σ (mj_V Q) := by
  obtain ⟨tf, fu, fe, fi, ma, md, hO, hA, hRr, hSs, htf⟩ := id hM
  obtain ⟨hs1, bf, hB, hb⟩ := id hA
  obtain ⟨⟨wt0, hW⟩, ⟨he0, hH⟩, ⟨fr0, hF⟩, ⟨fa0, hFa⟩, ⟨ct0, hCt⟩, ⟨mc0, hm1⟩, ⟨mb0, hm2⟩, ⟨mp0, hm3⟩, ⟨mw0, hm4⟩⟩ := id hSs
  have hwh := gw_dim_le hd
  refine mw_in (l0 := [some (.ref 55), none, none, none]) rfl ?_
  rw [a_only, gw_only_eq hd hn14] at k
  have hlun := gw_lu_none (w := w) (h := h) (n := n) (s := s) (z := gw_all n) hd
  have hl := fun z => gw_lo_lt (w := w) (h := h) (n := n) (s := s) (z := z) hd
  by_cases ho : gw_lo w h n s (gw_all n) = none
  · skip
    rw [if_pos (hlun.mpr ho)] at k
    refine mw_ld 1 i_Model_only_0 rfl rfl rfl ?_
    refine mw_cv0 4 i_Model_only_1 rfl (by assumption) (sp_Model_look hO hs1 hd hn14 hp hv hW (fun f wt g1 g2 g3 => ?_)) rfl rfl (Nat.le_of_ble_eq_true rfl) (Nat.le_of_ble_eq_true rfl)
    have go : f 55 = gw_mo w h kp P.length tf fu fe fi ma md := (g1 _ (by decide)).trans hO
    have gs : f 56 = mj_AI 213 s := (g1 _ (by decide)).trans hs1
    have hMf := gw_MI_look g1 g2 hM
    have hff : gw_fr gw_ML σ.1 f := gw_fr_sub g1 (by decide)
    refine mw_k 5 i_Model_only_4 rfl ?_
    refine mw_ld 6 i_Model_only_5 rfl rfl rfl ?_
    refine mw_cv1 9 i_Model_only_6 rfl (by assumption) (sp_Model_posts (σ := (f, σ.2)) go gs hp ?_) rfl rfl (Nat.le_of_ble_eq_true rfl) (Nat.le_of_ble_eq_true rfl)
    refine mw_b 10 i_Model_only_9 rfl ?_
    refine mw_k 11 i_Model_only_10 rfl ?_
    refine mw_b 12 i_Model_only_11 rfl ?_
    refine mw_st (ls' := [_, _, _, _]) 13 i_Model_only_12 rfl rfl rfl rfl ?_
    refine mw_ld 14 i_Model_only_13 rfl rfl rfl ?_
    refine mw_ld 15 i_Model_only_14 rfl rfl rfl ?_
    refine mw_cv1 18 i_Model_only_15 rfl (by assumption) (sp_Model_unseenBy (σ := (f, σ.2)) go gs hd g2 g3 ?_) rfl rfl (Nat.le_of_ble_eq_true rfl) (Nat.le_of_ble_eq_true rfl)
    refine mw_if1 i_Model_only_18 ((gw_dI_neg (hl _)).mpr ho) ?_
    refine mw_k 25 i_Model_only_24 rfl ?_
    refine mw_st (ls' := [_, _, _, _]) 26 i_Model_only_25 rfl rfl rfl rfl ?_
    refine mw_k 27 i_Model_only_26 rfl ?_
    refine mw_st (ls' := [_, _, _, _]) 28 i_Model_only_27 rfl rfl rfl rfl ?_
    refine mj_for (S := Unit) (fun i _ => mj_Wp X (d + 20) y_Model_only 28 [some (.ref 55), some (.int (gw_all n)), some (.int (gw_fm (fun k => !(gw_lo w h n s (gw_all n &&& (gw_bit k ^^^ (-1)))).isNone) i)), some (.int (nI i))] [] (f, σ.2) (mj_V Q)) (fun i _ => True) n ?_ ?_ 0 () (Nat.zero_le _) trivial
    · intro _ _
      refine mw_ld 29 i_Model_only_28 rfl rfl rfl ?_
      refine mw_ld 30 i_Model_only_29 rfl rfl rfl ?_
      refine mw_cv1 33 i_Model_only_30 rfl (by assumption) (sp_Model_posts (σ := (f, σ.2)) go gs hp ?_) rfl rfl (Nat.le_of_ble_eq_true rfl) (Nat.le_of_ble_eq_true rfl)
      refine mw_ic1 i_Model_only_33 (nI_le (Nat.le_refl _) (by omega)) ?_
      refine mw_ld 67 i_Model_only_66 rfl rfl rfl ?_
      refine mw_ri i_Model_only_67 rfl rfl ?_
      exact k f hff hMf
    · intro i _ hi _ ih
      cases hy : (gw_lo w h n s (gw_all n &&& (gw_bit i ^^^ (-1)))).isNone with
      | true =>
        have hneg := (gw_dI_neg (hl (gw_all n &&& (gw_bit i ^^^ (-1))))).mpr (Option.isNone_iff_eq_none.mp hy)
        refine mw_ld 29 i_Model_only_28 rfl rfl rfl ?_
        refine mw_ld 30 i_Model_only_29 rfl rfl rfl ?_
        refine mw_cv1 33 i_Model_only_30 rfl (by assumption) (sp_Model_posts (σ := (f, σ.2)) go gs hp ?_) rfl rfl (Nat.le_of_ble_eq_true rfl) (Nat.le_of_ble_eq_true rfl)
        refine mw_ic0 36 i_Model_only_33 rfl (nI_ge hi (by omega)) ?_
        refine mw_ld 37 i_Model_only_36 rfl rfl rfl ?_
        refine mw_ld 38 i_Model_only_37 rfl rfl rfl ?_
        refine mw_ld 39 i_Model_only_38 rfl rfl rfl ?_
        refine mw_k 40 i_Model_only_39 rfl ?_
        refine mw_ld 41 i_Model_only_40 rfl rfl rfl ?_
        refine mw_b 42 i_Model_only_41 rfl ?_
        refine mw_k 43 i_Model_only_42 rfl ?_
        refine mw_b 44 i_Model_only_43 rfl ?_
        refine mw_b 45 i_Model_only_44 rfl ?_
        refine mw_cv1 48 i_Model_only_45 rfl (by assumption) (sp_Model_unseenBy (σ := (f, σ.2)) go gs hd g2 g3 ?_) rfl rfl (Nat.le_of_ble_eq_true rfl) (Nat.le_of_ble_eq_true rfl)
        refine mw_if1 i_Model_only_48 hneg ?_
        refine mw_k 58 i_Model_only_57 rfl ?_
        refine mw_b 59 i_Model_only_58 rfl ?_
        rw [gw_or0]
        refine mw_st (ls' := [_, _, _, _]) 60 i_Model_only_59 rfl rfl rfl rfl ?_
        refine mw_inc (ls' := [_, _, _, _]) 63 (nI (i + 1)) i_Model_only_60 rfl rfl rfl (nI_1 i) rfl ?_
        refine mw_go i_Model_only_63 ?_
        have e := fun u => ih u trivial
        simp only [gw_fm] at e
        rw [if_neg (by rw [hy]; simp)] at e
        first
        | exact e _
        | exact e ()
      | false =>
        have hneg := (gw_dI_ge (hl (gw_all n &&& (gw_bit i ^^^ (-1))))).mpr (fun q => by rw [Option.isNone_iff_eq_none.mpr q] at hy; cases hy)
        refine mw_ld 29 i_Model_only_28 rfl rfl rfl ?_
        refine mw_ld 30 i_Model_only_29 rfl rfl rfl ?_
        refine mw_cv1 33 i_Model_only_30 rfl (by assumption) (sp_Model_posts (σ := (f, σ.2)) go gs hp ?_) rfl rfl (Nat.le_of_ble_eq_true rfl) (Nat.le_of_ble_eq_true rfl)
        refine mw_ic0 36 i_Model_only_33 rfl (nI_ge hi (by omega)) ?_
        refine mw_ld 37 i_Model_only_36 rfl rfl rfl ?_
        refine mw_ld 38 i_Model_only_37 rfl rfl rfl ?_
        refine mw_ld 39 i_Model_only_38 rfl rfl rfl ?_
        refine mw_k 40 i_Model_only_39 rfl ?_
        refine mw_ld 41 i_Model_only_40 rfl rfl rfl ?_
        refine mw_b 42 i_Model_only_41 rfl ?_
        refine mw_k 43 i_Model_only_42 rfl ?_
        refine mw_b 44 i_Model_only_43 rfl ?_
        refine mw_b 45 i_Model_only_44 rfl ?_
        refine mw_cv1 48 i_Model_only_45 rfl (by assumption) (sp_Model_unseenBy (σ := (f, σ.2)) go gs hd g2 g3 ?_) rfl rfl (Nat.le_of_ble_eq_true rfl) (Nat.le_of_ble_eq_true rfl)
        refine mw_if0 51 i_Model_only_48 rfl (fun q => absurd hneg (Int32.not_le.mpr q)) ?_
        refine mw_k 52 i_Model_only_51 rfl ?_
        refine mw_ld 53 i_Model_only_52 rfl rfl rfl ?_
        refine mw_b 54 i_Model_only_53 rfl ?_
        refine mw_go i_Model_only_54 ?_
        refine mw_b 59 i_Model_only_58 rfl ?_
        refine mw_st (ls' := [_, _, _, _]) 60 i_Model_only_59 rfl rfl rfl rfl ?_
        refine mw_inc (ls' := [_, _, _, _]) 63 (nI (i + 1)) i_Model_only_60 rfl rfl rfl (nI_1 i) rfl ?_
        refine mw_go i_Model_only_63 ?_
        have e := fun u => ih u trivial
        simp only [gw_fm] at e
        rw [if_pos (by rw [hy]; rfl)] at e
        first
        | exact e _
        | exact e ()
  · skip
    refine mw_ld 1 i_Model_only_0 rfl rfl rfl ?_
    refine mw_cv0 4 i_Model_only_1 rfl (by assumption) (sp_Model_look hO hs1 hd hn14 hp hv hW (fun f wt g1 g2 g3 => ?_)) rfl rfl (Nat.le_of_ble_eq_true rfl) (Nat.le_of_ble_eq_true rfl)
    have go : f 55 = gw_mo w h kp P.length tf fu fe fi ma md := (g1 _ (by decide)).trans hO
    have gs : f 56 = mj_AI 213 s := (g1 _ (by decide)).trans hs1
    have hMf := gw_MI_look g1 g2 hM
    have hff : gw_fr gw_ML σ.1 f := gw_fr_sub g1 (by decide)
    refine mw_k 5 i_Model_only_4 rfl ?_
    refine mw_ld 6 i_Model_only_5 rfl rfl rfl ?_
    refine mw_cv1 9 i_Model_only_6 rfl (by assumption) (sp_Model_posts (σ := (f, σ.2)) go gs hp ?_) rfl rfl (Nat.le_of_ble_eq_true rfl) (Nat.le_of_ble_eq_true rfl)
    refine mw_b 10 i_Model_only_9 rfl ?_
    refine mw_k 11 i_Model_only_10 rfl ?_
    refine mw_b 12 i_Model_only_11 rfl ?_
    refine mw_st (ls' := [_, _, _, _]) 13 i_Model_only_12 rfl rfl rfl rfl ?_
    refine mw_ld 14 i_Model_only_13 rfl rfl rfl ?_
    refine mw_ld 15 i_Model_only_14 rfl rfl rfl ?_
    refine mw_cv1 18 i_Model_only_15 rfl (by assumption) (sp_Model_unseenBy (σ := (f, σ.2)) go gs hd g2 g3 ?_) rfl rfl (Nat.le_of_ble_eq_true rfl) (Nat.le_of_ble_eq_true rfl)
    refine mw_if0 21 i_Model_only_18 rfl (fun q => ho ((gw_dI_neg (hl _)).mp q)) ?_
    refine mw_k 23 i_Model_only_21 rfl ?_
    refine mw_ri i_Model_only_23 rfl rfl ?_
    rw [if_neg (fun q => ho (hlun.mp q))] at k
    exact k f hff hMf
theorem sp_Model_isUnseen {X : mj_X} {d : Nat} {σ : mj_H} {Q : Value → mj_H → Prop} {w h kp rw : Nat} {tf fu fe fi ma md : Int32} {s : Nat → Int32} (hO : σ.1 55 = gw_mo w h kp rw tf fu fe fi ma md) (hs1 : σ.1 56 = mj_AI 213 s) {n : Nat} {wt : Nat → Int32} (hd : gw_dim w h) (hW : σ.1 58 = mj_AI 100 wt) (hwt : ∀ c, c < w * h → wt c = gw_wt w h n s c) {c : Nat} (hc : c < w * h) (k : Q (.int (mj_bI (gw_us w h n s c))) σ) : mj_M X (d + 1) y_Model_isUnseen [.ref 55, .int (nI c)] σ (mj_V Q) := by
  have hwh := gw_dim_le hd
  refine mw_in (l0 := [some (.ref 55), some (.int (nI c))]) rfl ?_
  refine mw_ld 1 i_Model_isUnseen_0 rfl rfl rfl ?_
  refine mw_ld 2 i_Model_isUnseen_1 rfl rfl rfl ?_
  refine mw_cv1 5 i_Model_isUnseen_2 rfl (by assumption) (sp_Model_isOpen hO hs1 (by omega) ?_) rfl rfl (Nat.le_of_ble_eq_true rfl) (Nat.le_of_ble_eq_true rfl)
  refine mw_if 8 i_Model_isUnseen_5 rfl (fun h5 => ?_) (fun h5 => ?_)
  · refine mw_k 22 i_Model_isUnseen_21 rfl ?_
    refine mw_ri i_Model_isUnseen_22 rfl rfl ?_
    simp only [mj_bI0, mj_bI1, Classical.not_not, Bool.not_eq_true, Bool.not_eq_false] at *
    first
    | exact mj_q0 (by simp [gw_us, *]) k
    | exact mj_q1 (by simp [gw_us, *]) k
  · refine mw_ld 9 i_Model_isUnseen_8 rfl rfl rfl ?_
    refine mw_get 12 i_Model_isUnseen_9 rfl (by assumption) (by rfl) ?_
    refine mw_ld 13 i_Model_isUnseen_12 rfl rfl rfl ?_
    refine mw_iald 14 c i_Model_isUnseen_13 rfl hW rfl (by omega) (by decide) ?_
    rw [hwt c hc]
    refine mw_if 17 i_Model_isUnseen_14 rfl (fun h14 => ?_) (fun h14 => ?_)
    · refine mw_k 22 i_Model_isUnseen_21 rfl ?_
      refine mw_ri i_Model_isUnseen_22 rfl rfl ?_
      simp only [mj_bI0, mj_bI1, Classical.not_not, Bool.not_eq_true, Bool.not_eq_false] at *
      first
      | exact mj_q0 (by simp [gw_us, *]) k
      | exact mj_q1 (by simp [gw_us, *]) k
    · refine mw_k 18 i_Model_isUnseen_17 rfl ?_
      refine mw_go i_Model_isUnseen_18 ?_
      refine mw_ri i_Model_isUnseen_22 rfl rfl ?_
      simp only [mj_bI0, mj_bI1, Classical.not_not, Bool.not_eq_true, Bool.not_eq_false] at *
      first
      | exact mj_q0 (by simp [gw_us, *]) k
      | exact mj_q1 (by simp [gw_us, *]) k
theorem sp_Model_count {X : mj_X} {d : Nat} {σ : mj_H} {Q : Value → mj_H → Prop} {w h n : Nat} {s : Nat → Int32} {kp : Nat} {hs : Nat → Nat → Int32} {P : List gw_Row} {sz : Int32} (hM : gw_MI σ.1 w h n s kp hs P sz) (hd : gw_dim w h) (hn14 : n ≤ 14) (hp : s 100 = nI n) (hv : gw_vp w h n s) {z : Int32} (k : ∀ f, gw_fr gw_ML σ.1 f → gw_MI f w h n s kp hs P sz → Q (.int (a_count w h n s kp P z)) (f, σ.2)) : mj_M X (d + 20) y_Model_count [.ref 55, .int z] σ (mj_V Q) := by
  obtain ⟨tf, fu, fe, fi, ma, md, hO, hA, hRr, hSs, htf⟩ := id hM
  obtain ⟨hs1, bf, hB, hb⟩ := id hA
  obtain ⟨⟨wt0, hW⟩, ⟨he0, hH⟩, ⟨fr0, hF⟩, ⟨fa0, hFa⟩, ⟨ct0, hCt⟩, ⟨mc0, hm1⟩, ⟨mb0, hm2⟩, ⟨mp0, hm3⟩, ⟨mw0, hm4⟩⟩ := id hSs
  have hwh := gw_dim_le hd
  refine mw_in (l0 := [some (.ref 55), some (.int z), none, none]) rfl ?_
  rw [a_count] at k
  refine mw_k 1 i_Model_count_0 rfl ?_
  refine mw_st (ls' := [_, _, _, _]) 2 i_Model_count_1 rfl rfl rfl rfl ?_
  refine mw_ld 3 i_Model_count_2 rfl rfl rfl ?_
  by_cases w0 : z = 0
  · subst w0
    refine mw_sw i_Model_count_3_0 ?_
    refine mw_ld 45 i_Model_count_44 rfl rfl rfl ?_
    refine mw_cv1 48 i_Model_count_45 rfl (by assumption) (sp_Model_cells hO ?_) rfl rfl (Nat.le_of_ble_eq_true rfl) (Nat.le_of_ble_eq_true rfl)
    refine mw_ri i_Model_count_48 rfl rfl ?_
    rw [if_pos rfl] at k
    exact k σ.1 (gw_fr_rf _ _) hM
  by_cases w1 : z = 1
  · subst w1
    refine mw_sw i_Model_count_3_1 ?_
    refine mw_k 50 i_Model_count_49 rfl ?_
    refine mw_st (ls' := [_, _, _, _]) 51 i_Model_count_50 rfl rfl rfl rfl ?_
    refine mj_for (S := Unit) (fun i _ => mj_Wp X (d + 20) y_Model_count 51 [some (.ref 55), some (.int 1), some (.int (nI (gw_cn (fun c => s c == 0) i))), some (.int (nI i))] [] σ (mj_V Q)) (fun i _ => True) (w * h) ?_ ?_ 0 () (Nat.zero_le _) trivial
    · intro _ _
      refine mw_ld 52 i_Model_count_51 rfl rfl rfl ?_
      refine mw_ld 53 i_Model_count_52 rfl rfl rfl ?_
      refine mw_cv1 56 i_Model_count_53 rfl (by assumption) (sp_Model_cells hO ?_) rfl rfl (Nat.le_of_ble_eq_true rfl) (Nat.le_of_ble_eq_true rfl)
      refine mw_ic1 i_Model_count_56 (nI_le (Nat.le_refl _) (by omega)) ?_
      refine mw_ld 82 i_Model_count_81 rfl rfl rfl ?_
      refine mw_ri i_Model_count_82 rfl rfl ?_
      rw [if_neg (by decide), if_pos rfl] at k
      exact k σ.1 (gw_fr_rf _ _) hM
    · intro i _ hi _ ih
      by_cases hq : (s i == 0) = true
      · skip
        refine mw_ld 52 i_Model_count_51 rfl rfl rfl ?_
        refine mw_ld 53 i_Model_count_52 rfl rfl rfl ?_
        refine mw_cv1 56 i_Model_count_53 rfl (by assumption) (sp_Model_cells hO ?_) rfl rfl (Nat.le_of_ble_eq_true rfl) (Nat.le_of_ble_eq_true rfl)
        refine mw_ic0 59 i_Model_count_56 rfl (nI_ge hi (by omega)) ?_
        refine mw_ld 60 i_Model_count_59 rfl rfl rfl ?_
        refine mw_ld 61 i_Model_count_60 rfl rfl rfl ?_
        refine mw_ld 62 i_Model_count_61 rfl rfl rfl ?_
        refine mw_cv1 65 i_Model_count_62 rfl (by assumption) (sp_Model_isOpen hO hs1 (by omega) ?_) rfl rfl (Nat.le_of_ble_eq_true rfl) (Nat.le_of_ble_eq_true rfl)
        refine mw_if0 68 i_Model_count_65 rfl (mj_bI1.mpr hq) ?_
        refine mw_k 69 i_Model_count_68 rfl ?_
        refine mw_go i_Model_count_69 ?_
        refine mw_b 74 i_Model_count_73 rfl ?_
        rw [show (1 : Int32) = nI 1 from rfl, nI_add]
        refine mw_st (ls' := [_, _, _, _]) 75 i_Model_count_74 rfl rfl rfl rfl ?_
        refine mw_inc (ls' := [_, _, _, _]) 78 (nI (i + 1)) i_Model_count_75 rfl rfl rfl (nI_1 i) rfl ?_
        refine mw_go i_Model_count_78 ?_
        have e := ih () trivial
        simp only [gw_cn] at e
        rw [if_pos hq] at e
        exact e
      · skip
        refine mw_ld 52 i_Model_count_51 rfl rfl rfl ?_
        refine mw_ld 53 i_Model_count_52 rfl rfl rfl ?_
        refine mw_cv1 56 i_Model_count_53 rfl (by assumption) (sp_Model_cells hO ?_) rfl rfl (Nat.le_of_ble_eq_true rfl) (Nat.le_of_ble_eq_true rfl)
        refine mw_ic0 59 i_Model_count_56 rfl (nI_ge hi (by omega)) ?_
        refine mw_ld 60 i_Model_count_59 rfl rfl rfl ?_
        refine mw_ld 61 i_Model_count_60 rfl rfl rfl ?_
        refine mw_ld 62 i_Model_count_61 rfl rfl rfl ?_
        refine mw_cv1 65 i_Model_count_62 rfl (by assumption) (sp_Model_isOpen hO hs1 (by omega) ?_) rfl rfl (Nat.le_of_ble_eq_true rfl) (Nat.le_of_ble_eq_true rfl)
        refine mw_if1 i_Model_count_65 (mj_bI0.mpr (gw_nt hq)) ?_
        refine mw_k 73 i_Model_count_72 rfl ?_
        refine mw_b 74 i_Model_count_73 rfl ?_
        rw [show (0 : Int32) = nI 0 from rfl, nI_add]
        refine mw_st (ls' := [_, _, _, _]) 75 i_Model_count_74 rfl rfl rfl rfl ?_
        refine mw_inc (ls' := [_, _, _, _]) 78 (nI (i + 1)) i_Model_count_75 rfl rfl rfl (nI_1 i) rfl ?_
        refine mw_go i_Model_count_78 ?_
        have e := ih () trivial
        simp only [gw_cn] at e
        rw [if_neg hq] at e
        exact e
  by_cases w2 : z = 2
  · subst w2
    refine mw_sw i_Model_count_3_2 ?_
    refine mw_ld 84 i_Model_count_83 rfl rfl rfl ?_
    refine mw_cv1 87 i_Model_count_84 rfl (by assumption) (sp_Model_posts hO hs1 hp ?_) rfl rfl (Nat.le_of_ble_eq_true rfl) (Nat.le_of_ble_eq_true rfl)
    refine mw_ri i_Model_count_87 rfl rfl ?_
    rw [if_neg (by decide), if_neg (by decide), if_pos rfl] at k
    exact k σ.1 (gw_fr_rf _ _) hM
  by_cases w3 : z = 3
  · subst w3
    refine mw_sw i_Model_count_3_3 ?_
    refine mw_ld 89 i_Model_count_88 rfl rfl rfl ?_
    refine mw_get 92 i_Model_count_89 rfl (by assumption) (by rfl) ?_
    refine mw_ri i_Model_count_92 rfl rfl ?_
    rw [if_neg (by decide), if_neg (by decide), if_neg (by decide), if_pos rfl] at k
    exact k σ.1 (gw_fr_rf _ _) hM
  by_cases w4 : z = 4
  · subst w4
    refine mw_sw i_Model_count_3_4 ?_
    refine mw_ld 94 i_Model_count_93 rfl rfl rfl ?_
    refine mw_get 97 i_Model_count_94 rfl (by assumption) (by rfl) ?_
    refine mw_ri i_Model_count_97 rfl rfl ?_
    rw [if_neg (by decide), if_neg (by decide), if_neg (by decide), if_neg (by decide), if_pos rfl] at k
    exact k σ.1 (gw_fr_rf _ _) hM
  by_cases w5 : z = 5
  · subst w5
    refine mw_sw i_Model_count_3_5 ?_
    refine mw_ld 99 i_Model_count_98 rfl rfl rfl ?_
    refine mw_cv0 102 i_Model_count_99 rfl (by assumption) (sp_Model_look hO hs1 hd hn14 hp hv hW (fun f wt g1 g2 g3 => ?_)) rfl rfl (Nat.le_of_ble_eq_true rfl) (Nat.le_of_ble_eq_true rfl)
    have go : f 55 = gw_mo w h kp P.length tf fu fe fi ma md := (g1 _ (by decide)).trans hO
    have gs : f 56 = mj_AI 213 s := (g1 _ (by decide)).trans hs1
    have hMf := gw_MI_look g1 g2 hM
    have hff : gw_fr gw_ML σ.1 f := gw_fr_sub g1 (by decide)
    refine mw_k 103 i_Model_count_102 rfl ?_
    refine mw_st (ls' := [_, _, _, _]) 104 i_Model_count_103 rfl rfl rfl rfl ?_
    refine mj_for (S := Unit) (fun i _ => mj_Wp X (d + 20) y_Model_count 104 [some (.ref 55), some (.int 5), some (.int (nI (gw_cn (gw_us w h n s) i))), some (.int (nI i))] [] (f, σ.2) (mj_V Q)) (fun i _ => True) (w * h) ?_ ?_ 0 () (Nat.zero_le _) trivial
    · intro _ _
      refine mw_ld 105 i_Model_count_104 rfl rfl rfl ?_
      refine mw_ld 106 i_Model_count_105 rfl rfl rfl ?_
      refine mw_cv1 109 i_Model_count_106 rfl (by assumption) (sp_Model_cells (σ := (f, σ.2)) go ?_) rfl rfl (Nat.le_of_ble_eq_true rfl) (Nat.le_of_ble_eq_true rfl)
      refine mw_ic1 i_Model_count_109 (nI_le (Nat.le_refl _) (by omega)) ?_
      refine mw_ld 135 i_Model_count_134 rfl rfl rfl ?_
      refine mw_ri i_Model_count_135 rfl rfl ?_
      rw [if_neg (by decide), if_neg (by decide), if_neg (by decide), if_neg (by decide), if_neg (by decide), if_pos rfl] at k
      exact k f hff hMf
    · intro i _ hi _ ih
      by_cases hq : gw_us w h n s i = true
      · skip
        refine mw_ld 105 i_Model_count_104 rfl rfl rfl ?_
        refine mw_ld 106 i_Model_count_105 rfl rfl rfl ?_
        refine mw_cv1 109 i_Model_count_106 rfl (by assumption) (sp_Model_cells (σ := (f, σ.2)) go ?_) rfl rfl (Nat.le_of_ble_eq_true rfl) (Nat.le_of_ble_eq_true rfl)
        refine mw_ic0 112 i_Model_count_109 rfl (nI_ge hi (by omega)) ?_
        refine mw_ld 113 i_Model_count_112 rfl rfl rfl ?_
        refine mw_ld 114 i_Model_count_113 rfl rfl rfl ?_
        refine mw_ld 115 i_Model_count_114 rfl rfl rfl ?_
        refine mw_cv1 118 i_Model_count_115 rfl (by assumption) (sp_Model_isUnseen (σ := (f, σ.2)) go gs hd g2 g3 hi ?_) rfl rfl (Nat.le_of_ble_eq_true rfl) (Nat.le_of_ble_eq_true rfl)
        refine mw_if0 121 i_Model_count_118 rfl (mj_bI1.mpr hq) ?_
        refine mw_k 122 i_Model_count_121 rfl ?_
        refine mw_go i_Model_count_122 ?_
        refine mw_b 127 i_Model_count_126 rfl ?_
        rw [show (1 : Int32) = nI 1 from rfl, nI_add]
        refine mw_st (ls' := [_, _, _, _]) 128 i_Model_count_127 rfl rfl rfl rfl ?_
        refine mw_inc (ls' := [_, _, _, _]) 131 (nI (i + 1)) i_Model_count_128 rfl rfl rfl (nI_1 i) rfl ?_
        refine mw_go i_Model_count_131 ?_
        have e := ih () trivial
        simp only [gw_cn] at e
        rw [if_pos hq] at e
        exact e
      · skip
        refine mw_ld 105 i_Model_count_104 rfl rfl rfl ?_
        refine mw_ld 106 i_Model_count_105 rfl rfl rfl ?_
        refine mw_cv1 109 i_Model_count_106 rfl (by assumption) (sp_Model_cells (σ := (f, σ.2)) go ?_) rfl rfl (Nat.le_of_ble_eq_true rfl) (Nat.le_of_ble_eq_true rfl)
        refine mw_ic0 112 i_Model_count_109 rfl (nI_ge hi (by omega)) ?_
        refine mw_ld 113 i_Model_count_112 rfl rfl rfl ?_
        refine mw_ld 114 i_Model_count_113 rfl rfl rfl ?_
        refine mw_ld 115 i_Model_count_114 rfl rfl rfl ?_
        refine mw_cv1 118 i_Model_count_115 rfl (by assumption) (sp_Model_isUnseen (σ := (f, σ.2)) go gs hd g2 g3 hi ?_) rfl rfl (Nat.le_of_ble_eq_true rfl) (Nat.le_of_ble_eq_true rfl)
        refine mw_if1 i_Model_count_118 (mj_bI0.mpr (gw_nt hq)) ?_
        refine mw_k 126 i_Model_count_125 rfl ?_
        refine mw_b 127 i_Model_count_126 rfl ?_
        rw [show (0 : Int32) = nI 0 from rfl, nI_add]
        refine mw_st (ls' := [_, _, _, _]) 128 i_Model_count_127 rfl rfl rfl rfl ?_
        refine mw_inc (ls' := [_, _, _, _]) 131 (nI (i + 1)) i_Model_count_128 rfl rfl rfl (nI_1 i) rfl ?_
        refine mw_go i_Model_count_131 ?_
        have e := ih () trivial
        simp only [gw_cn] at e
        rw [if_neg hq] at e
        exact e
  by_cases w6 : z = 6
  · subst w6
    refine mw_sw i_Model_count_3_6 ?_
    refine mw_ld 137 i_Model_count_136 rfl rfl rfl ?_
    refine mw_get 140 i_Model_count_137 rfl (by assumption) (by rfl) ?_
    refine mw_ri i_Model_count_140 rfl rfl ?_
    rw [if_neg (by decide), if_neg (by decide), if_neg (by decide), if_neg (by decide), if_neg (by decide), if_neg (by decide), if_pos rfl] at k
    exact k σ.1 (gw_fr_rf _ _) hM
  refine mw_sw (i_Model_count_3_o (by have q0 := gw_ne_lit (k := 0) (by decide) w0; have q1 := gw_ne_lit (k := 1) (by decide) w1; have q2 := gw_ne_lit (k := 2) (by decide) w2; have q3 := gw_ne_lit (k := 3) (by decide) w3; have q4 := gw_ne_lit (k := 4) (by decide) w4; have q5 := gw_ne_lit (k := 5) (by decide) w5; have q6 := gw_ne_lit (k := 6) (by decide) w6; omega)) ?_
  refine mw_k 143 i_Model_count_141 rfl ?_
  refine mw_ri i_Model_count_143 rfl rfl ?_
  rw [if_neg w0, if_neg w1, if_neg w2, if_neg w3, if_neg w4, if_neg w5, if_neg w6] at k
  exact k σ.1 (gw_fr_rf _ _) hM
