/-! the model: seek -/
theorem gw_heap {Q : (Nat → mj_C) → Prop} {f : Nat → mj_C} (h : ∀ fx, fx = f → Q fx) : Q f := h f rfl
theorem gw_tbI (z : Int32) {k : Nat} (hk : k < 32) : (z >>> (nI k &&& 31)) &&& 1 = mj_bI (bt z k) := by
  cases e : bt z k with
  | true => exact (gw_tb z hk).mpr e
  | false =>
    refine b_ext (fun i hi => ?_)
    rw [b_and, show mj_bI false = 0 from rfl, b_0]
    rcases Nat.eq_zero_or_pos i with q | q
    · subst q
      rw [b_sshr k hk z (by decide), if_pos (by omega), Nat.add_zero, e]; rfl
    · have h1 : bt 1 i = false := (by decide +kernel : ∀ i, i < 32 → 0 < i → bt 1 i = false) i hi q
      rw [h1, Bool.and_false]
theorem gw_pw : ∀ n, n < 15 → (1 : Int32) <<< (nI n &&& 31) = nI (2 ^ n) := by decide +kernel
theorem sp_Model_manyOf {X : mj_X} {d : Nat} {σ : mj_H} {Q : Value → mj_H → Prop} {z : Int32} (k : Q (.int (nI (gw_cn (bt z) 14))) σ) : mj_M X d y_Model_manyOf [.int z] σ (mj_V Q) := by
  refine mw_in (l0 := [some (.int z), none, none]) rfl ?_
  refine mw_k 1 i_Model_manyOf_0 rfl ?_
  refine mw_st (ls' := [_, _, _]) 2 i_Model_manyOf_1 rfl rfl rfl rfl ?_
  refine mw_k 3 i_Model_manyOf_2 rfl ?_
  refine mw_st (ls' := [_, _, _]) 4 i_Model_manyOf_3 rfl rfl rfl rfl ?_
  refine mj_for (S := Unit) (fun i _ => mj_Wp X d y_Model_manyOf 4 [some (.int z), some (.int (nI (gw_cn (bt z) i))), some (.int (nI i))] [] σ (mj_V Q)) (fun i _ => True) 14 ?_ ?_ 0 () (Nat.zero_le _) trivial
  · intro _ _
    refine mw_ld 5 i_Model_manyOf_4 rfl rfl rfl ?_
    refine mw_k 7 i_Model_manyOf_5 rfl ?_
    refine mw_ic1 i_Model_manyOf_7 (by decide) ?_
    refine mw_ld 25 i_Model_manyOf_24 rfl rfl rfl ?_
    refine mw_ri i_Model_manyOf_25 rfl rfl ?_
    exact k
  · intro i _ hi _ ih
    refine mw_ld 5 i_Model_manyOf_4 rfl rfl rfl ?_
    refine mw_k 7 i_Model_manyOf_5 rfl ?_
    refine mw_ic0 10 i_Model_manyOf_7 rfl (nI_ge (b := 14) hi (by decide)) ?_
    refine mw_ld 11 i_Model_manyOf_10 rfl rfl rfl ?_
    refine mw_ld 12 i_Model_manyOf_11 rfl rfl rfl ?_
    refine mw_ld 13 i_Model_manyOf_12 rfl rfl rfl ?_
    refine mw_b 14 i_Model_manyOf_13 rfl ?_
    refine mw_k 15 i_Model_manyOf_14 rfl ?_
    refine mw_b 16 i_Model_manyOf_15 rfl ?_
    rw [gw_tbI z (by omega)]
    refine mw_b 17 i_Model_manyOf_16 rfl ?_
    rw [nI_bI]
    refine mw_st (ls' := [_, _, _]) 18 i_Model_manyOf_17 rfl rfl rfl rfl ?_
    refine mw_inc (ls' := [_, _, _]) 21 (nI (i + 1)) i_Model_manyOf_18 rfl rfl rfl (nI_1 i) rfl ?_
    refine mw_go i_Model_manyOf_21 ?_
    exact ih () trivial
noncomputable def gw_lxb (z u : Int32) : Bool := @decide (gw_lx z u) (Classical.propDecidable _)
theorem gw_lxb_t {z u : Int32} : gw_lxb z u = true ↔ gw_lx z u := by rw [gw_lxb]; exact @decide_eq_true_iff _ (Classical.propDecidable _)
theorem sp_Model_isFirst {X : mj_X} {d : Nat} {σ : mj_H} {Q : Value → mj_H → Prop} {z u : Int32} (k : Q (.int (mj_bI (gw_lxb z u))) σ) : mj_M X d y_Model_isFirst [.int z, .int u] σ (mj_V Q) := by
  have hf := gw_isf (z := z) (u := u)
  refine mw_in (l0 := [some (.int z), some (.int u), none]) rfl ?_
  refine mw_ld 1 i_Model_isFirst_0 rfl rfl rfl ?_
  refine mw_ld 2 i_Model_isFirst_1 rfl rfl rfl ?_
  refine mw_b 3 i_Model_isFirst_2 rfl ?_
  refine mw_st (ls' := [_, _, _]) 4 i_Model_isFirst_3 rfl rfl rfl rfl ?_
  refine mw_ld 5 i_Model_isFirst_4 rfl rfl rfl ?_
  refine mw_ld 6 i_Model_isFirst_5 rfl rfl rfl ?_
  refine mw_b 7 i_Model_isFirst_6 rfl ?_
  refine mw_ld 8 i_Model_isFirst_7 rfl rfl rfl ?_
  refine mw_ineg 9 i_Model_isFirst_8 rfl ?_
  refine mw_b 10 i_Model_isFirst_9 rfl ?_
  refine mw_if 13 i_Model_isFirst_10 rfl (fun h10 => ?_) (fun h10 => ?_)
  · refine mw_k 18 i_Model_isFirst_17 rfl ?_
    refine mw_ri i_Model_isFirst_18 rfl rfl ?_
    first
    | exact mj_q0 (by rw [Bool.eq_false_iff]; exact fun q => hf.mpr (gw_lxb_t.mp q) h10) k
    | exact mj_q1 (gw_lxb_t.mpr (hf.mp h10)) k
  · refine mw_k 14 i_Model_isFirst_13 rfl ?_
    refine mw_go i_Model_isFirst_14 ?_
    refine mw_ri i_Model_isFirst_18 rfl rfl ?_
    first
    | exact mj_q0 (by rw [Bool.eq_false_iff]; exact fun q => hf.mpr (gw_lxb_t.mp q) h10) k
    | exact mj_q1 (gw_lxb_t.mpr (hf.mp h10)) k
theorem sp_Model_seek {X : mj_X} {d : Nat} {σ : mj_H} {Q : mj_H → Prop} {w h kp rw : Nat} {tf fu fe fi ma md : Int32} {s : Nat → Int32} (hO : σ.1 55 = gw_mo w h kp rw tf fu fe fi ma md) (hs1 : σ.1 56 = mj_AI 213 s) {n : Nat} (hd : gw_dim w h) (hn14 : n ≤ 14) (hp : s 100 = nI n) (hv : gw_vp w h n s) {wt : Nat → Int32} (hW : σ.1 58 = mj_AI 100 wt) (k : ∀ f wt, gw_fr [55, 58] σ.1 f → f 55 = gw_mo w h kp rw tf fu (gw_sl w h n s).1 (gw_sl w h n s).2.1 (nI (gw_sl w h n s).2.2) md → f 58 = mj_AI 100 wt → (∀ c, c < w * h → wt c = gw_wt w h n s c) → Q (f, σ.2)) : mj_M X (d + 4) y_Model_seek [.ref 55] σ (mj_U Q) := by
  have hwh := gw_dim_le hd
  have h14 : 2 ^ n ≤ 2 ^ 14 := Nat.pow_le_pow_right (by decide) hn14
  have h15 : (2 : Nat) ^ 14 = 16384 := by decide
  refine mw_in (l0 := [some (.ref 55), none, none, none]) rfl ?_
  refine mw_ld 1 i_Model_seek_0 rfl rfl rfl ?_
  refine mw_cv0 4 i_Model_seek_1 rfl (by repeat (first | exact mj_hs2 | exact mj_hs | assumption | refine mj_hn2 (by omega) ?_ | refine mj_hn (by omega) ?_)) (sp_Model_look hO hs1 hd hn14 hp hv hW (fun f0 wt g1 g2 hwt => ?_)) rfl rfl (Nat.le_of_ble_eq_true rfl) (Nat.le_of_ble_eq_true rfl)
  have go : f0 55 = gw_mo w h kp rw tf fu fe fi ma md := (g1 55 (by decide)).trans hO
  have gs0 : f0 56 = mj_AI 213 s := (g1 56 (by decide)).trans hs1
  refine mw_ld 5 i_Model_seek_4 rfl rfl rfl ?_
  refine mw_k 7 i_Model_seek_5 rfl ?_
  refine mw_put (fs' := [_, _, _, _, _, _, _, _, _, _, _, _, _, _, _, _, _, _, _, _, _, _, _, _, _]) 10 i_Model_seek_7 rfl (by repeat (first | exact mj_hs2 | exact mj_hs | assumption | refine mj_hn2 (by omega) ?_ | refine mj_hn (by omega) ?_)) (Nat.le_of_ble_eq_true rfl) rfl rfl (fun _ h => by cases h) (by rfl) ?_
  refine mw_ld 11 i_Model_seek_10 rfl rfl rfl ?_
  refine mw_k 13 i_Model_seek_11 rfl ?_
  refine mw_put (fs' := [_, _, _, _, _, _, _, _, _, _, _, _, _, _, _, _, _, _, _, _, _, _, _, _, _]) 16 i_Model_seek_13 rfl (by repeat (first | exact mj_hs2 | exact mj_hs | assumption | refine mj_hn2 (by omega) ?_ | refine mj_hn (by omega) ?_)) (Nat.le_of_ble_eq_true rfl) rfl rfl (fun _ h => by cases h) (by rfl) ?_
  refine mw_ld 17 i_Model_seek_16 rfl rfl rfl ?_
  refine mw_k 18 i_Model_seek_17 rfl ?_
  refine mw_put (fs' := [_, _, _, _, _, _, _, _, _, _, _, _, _, _, _, _, _, _, _, _, _, _, _, _, _]) 21 i_Model_seek_18 rfl (by repeat (first | exact mj_hs2 | exact mj_hs | assumption | refine mj_hn2 (by omega) ?_ | refine mj_hn (by omega) ?_)) (Nat.le_of_ble_eq_true rfl) rfl rfl (fun _ h => by cases h) (by rfl) ?_
  refine mw_k 22 i_Model_seek_21 rfl ?_
  refine mw_st (ls' := [_, _, _, _]) 23 i_Model_seek_22 rfl rfl rfl rfl ?_
  refine gw_heap (Q := fun fx => mj_Wp X (d + 4) y_Model_seek 23 _ [] (fx, σ.2) (mj_U Q)) ?_
  intro fx efx
  have hfr0 : gw_fr [55] f0 fx := by rw [efx]; exact gw_fr_up (gw_fr_up (gw_fr_up (gw_fr_rf _ _) (by simp)) (by simp)) (by simp)
  have q550 : fx 55 = gw_mo w h kp rw tf fu gw_NONE gw_NONE 0 md := by rw [efx]; exact mj_hs
  clear efx
  refine mj_for (S := (Nat → mj_C) × Option Value × Option Value) (fun i u => mj_Wp X (d + 4) y_Model_seek 23 [some (.ref 55), some (.int (nI i)), u.2.1, u.2.2] [] (u.1, σ.2) (mj_U Q)) (fun i u => gw_fr [55] f0 u.1 ∧ ∃ e1 e2 e3, u.1 55 = gw_mo w h kp rw tf fu e1 e2 e3 md ∧ gw_ms (fun v => gw_wa w h n s (nI v)) i e1 e2 e3) (2 ^ n) ?_ ?_ 0 (fx, none, none) (Nat.zero_le _) ⟨hfr0, gw_NONE, gw_NONE, 0, q550, .inl ⟨fun v hv => absurd hv (Nat.not_lt_zero v), rfl, rfl, rfl⟩⟩
  · rintro ⟨f, l2, l3⟩ ⟨x1, e1, e2, e3, x2, x3⟩
    dsimp only at x1 x2 ⊢
    have gs : f 56 = mj_AI 213 s := (x1 56 (by decide)).trans gs0
    obtain ⟨q1, q2, q3⟩ := gw_seek_eq hn14 x3
    refine mw_ld 24 i_Model_seek_23 rfl rfl rfl ?_
    refine mw_k 25 i_Model_seek_24 rfl ?_
    refine mw_ld 26 i_Model_seek_25 rfl rfl rfl ?_
    refine mw_cv1 29 i_Model_seek_26 rfl (by repeat (first | exact mj_hs2 | exact mj_hs | assumption | refine mj_hn2 (by omega) ?_ | refine mj_hn (by omega) ?_)) (sp_Model_posts (σ := (f, σ.2)) x2 gs hp ?_) rfl rfl (Nat.le_of_ble_eq_true rfl) (Nat.le_of_ble_eq_true rfl)
    refine mw_b 30 i_Model_seek_29 rfl ?_
    rw [gw_pw n (by omega)]
    refine mw_ic1 i_Model_seek_30 (nI_le (Nat.le_refl _) (by omega)) ?_
    refine mw_rv i_Model_seek_142 rfl ?_
    rw [q1, q2, q3] at x2
    exact k f wt (gw_fr_tr (gw_fr_sub g1 (by simp)) (gw_fr_sub x1 (by simp))) x2 ((x1 58 (by decide)).trans g2) hwt
  · rintro i ⟨f, l2, l3⟩ hi ⟨x1, e1, e2, e3, x2, x3⟩ ih
    dsimp only at x1 x2 ⊢
    have gs : f 56 = mj_AI 213 s := (x1 56 (by decide)).trans gs0
    have gw : f 58 = mj_AI 100 wt := (x1 58 (by decide)).trans g2
    have hpi : gw_cn (bt (nI i)) 14 = gw_pn i := rfl
    have hp14 : gw_pn i ≤ 14 := gw_cn_le _ _
    rcases id x3 with ⟨m0, m1, m2, m3⟩ | ⟨mn, t, c, m0, m1, m2, m3⟩
    · subst m1; subst m2; subst m3
      by_cases hA : gw_wa w h n s (nI i) = true
      · skip
        refine mw_ld 24 i_Model_seek_23 rfl rfl rfl ?_
        refine mw_k 25 i_Model_seek_24 rfl ?_
        refine mw_ld 26 i_Model_seek_25 rfl rfl rfl ?_
        refine mw_cv1 29 i_Model_seek_26 rfl (by repeat (first | exact mj_hs2 | exact mj_hs | assumption | refine mj_hn2 (by omega) ?_ | refine mj_hn (by omega) ?_)) (sp_Model_posts (σ := (f, σ.2)) x2 gs hp ?_) rfl rfl (Nat.le_of_ble_eq_true rfl) (Nat.le_of_ble_eq_true rfl)
        refine mw_b 30 i_Model_seek_29 rfl ?_
        rw [gw_pw n (by omega)]
        refine mw_ic0 33 i_Model_seek_30 rfl (nI_ge hi (by omega)) ?_
        refine mw_ld 34 i_Model_seek_33 rfl rfl rfl ?_
        refine mw_cs1 37 i_Model_seek_34 rfl (sp_Model_manyOf ?_) rfl rfl (Nat.le_of_ble_eq_true rfl) (Nat.le_of_ble_eq_true rfl)
        refine mw_st (ls' := [_, _, _, _]) 38 i_Model_seek_37 rfl rfl rfl rfl ?_
        refine mw_ld 39 i_Model_seek_38 rfl rfl rfl ?_
        refine mw_get 42 i_Model_seek_39 rfl (by repeat (first | exact mj_hs2 | exact mj_hs | assumption | refine mj_hn2 (by omega) ?_ | refine mj_hn (by omega) ?_)) (by rfl) ?_
        refine mw_k 44 i_Model_seek_42 rfl ?_
        refine mw_ic1 i_Model_seek_44 rfl ?_
        refine mw_ld 56 i_Model_seek_55 rfl rfl rfl ?_
        refine mw_ld 57 i_Model_seek_56 rfl rfl rfl ?_
        refine mw_cv1 60 i_Model_seek_57 rfl (by repeat (first | exact mj_hs2 | exact mj_hs | assumption | refine mj_hn2 (by omega) ?_ | refine mj_hn (by omega) ?_)) (sp_Model_unseenBy (σ := (f, σ.2)) x2 gs hd gw hwt ?_) rfl rfl (Nat.le_of_ble_eq_true rfl) (Nat.le_of_ble_eq_true rfl)
        refine mw_if0 63 i_Model_seek_60 rfl (fun q => (gw_dI_ge (gw_lo_lt hd)).mp q (Option.isNone_iff_eq_none.mp hA)) ?_
        refine mw_ld 64 i_Model_seek_63 rfl rfl rfl ?_
        refine mw_get 67 i_Model_seek_64 rfl (by repeat (first | exact mj_hs2 | exact mj_hs | assumption | refine mj_hn2 (by omega) ?_ | refine mj_hn (by omega) ?_)) (by rfl) ?_
        refine mw_k 69 i_Model_seek_67 rfl ?_
        refine mw_ic1 i_Model_seek_69 rfl ?_
        refine mw_k 81 i_Model_seek_80 rfl ?_
        refine mw_go i_Model_seek_81 ?_
        refine mw_st (ls' := [_, _, _, _]) 86 i_Model_seek_85 rfl rfl rfl rfl ?_
        refine mw_ld 87 i_Model_seek_86 rfl rfl rfl ?_
        refine mw_ld 88 i_Model_seek_87 rfl rfl rfl ?_
        refine mw_if1 i_Model_seek_88 (by decide) ?_
        refine mw_ld 103 i_Model_seek_102 rfl rfl rfl ?_
        refine mw_go i_Model_seek_103 ?_
        refine mw_put (fs' := [_, _, _, _, _, _, _, _, _, _, _, _, _, _, _, _, _, _, _, _, _, _, _, _, _]) 113 i_Model_seek_110 rfl (by repeat (first | exact mj_hs2 | exact mj_hs | assumption | refine mj_hn2 (by omega) ?_ | refine mj_hn (by omega) ?_)) (Nat.le_of_ble_eq_true rfl) rfl rfl (fun _ h => by cases h) (by rfl) ?_
        refine mw_ld 114 i_Model_seek_113 rfl rfl rfl ?_
        refine mw_ld 115 i_Model_seek_114 rfl rfl rfl ?_
        refine mw_if0 118 i_Model_seek_115 rfl (by decide) ?_
        refine mw_k 119 i_Model_seek_118 rfl ?_
        refine mw_go i_Model_seek_119 ?_
        refine mw_put (fs' := [_, _, _, _, _, _, _, _, _, _, _, _, _, _, _, _, _, _, _, _, _, _, _, _, _]) 131 i_Model_seek_128 rfl (by repeat (first | exact mj_hs2 | exact mj_hs | assumption | refine mj_hn2 (by omega) ?_ | refine mj_hn (by omega) ?_)) (Nat.le_of_ble_eq_true rfl) rfl rfl (fun _ h => by cases h) (by rfl) ?_
        refine mw_ld 132 i_Model_seek_131 rfl rfl rfl ?_
        refine mw_ld 133 i_Model_seek_132 rfl rfl rfl ?_
        refine mw_put (fs' := [_, _, _, _, _, _, _, _, _, _, _, _, _, _, _, _, _, _, _, _, _, _, _, _, _]) 136 i_Model_seek_133 rfl (by repeat (first | exact mj_hs2 | exact mj_hs | assumption | refine mj_hn2 (by omega) ?_ | refine mj_hn (by omega) ?_)) (Nat.le_of_ble_eq_true rfl) rfl rfl (fun _ h => by cases h) (by rfl) ?_
        refine mw_inc (ls' := [_, _, _, _]) 139 (nI (i + 1)) i_Model_seek_136 rfl rfl rfl (nI_1 i) rfl ?_
        refine mw_go i_Model_seek_139 ?_
        refine gw_heap (Q := fun fx => mj_Wp X (d + 4) y_Model_seek 23 _ [] (fx, σ.2) (mj_U Q)) ?_
        intro fx efx
        have hfr : gw_fr [55] f0 fx := by rw [efx]; exact gw_fr_up (gw_fr_up (gw_fr_up x1 (by simp)) (by simp)) (by simp)
        have q55 : fx 55 = gw_mo w h kp rw tf fu (nI (gw_pn i)) (nI i) (1) md := by rw [efx]; exact mj_hs
        clear efx
        exact ih (fx, _, _) ⟨hfr, _, _, _, q55, .inr ⟨_, _, _, gw_m0_yes m0 hA, rfl, rfl, rfl⟩⟩
      · skip
        refine mw_ld 24 i_Model_seek_23 rfl rfl rfl ?_
        refine mw_k 25 i_Model_seek_24 rfl ?_
        refine mw_ld 26 i_Model_seek_25 rfl rfl rfl ?_
        refine mw_cv1 29 i_Model_seek_26 rfl (by repeat (first | exact mj_hs2 | exact mj_hs | assumption | refine mj_hn2 (by omega) ?_ | refine mj_hn (by omega) ?_)) (sp_Model_posts (σ := (f, σ.2)) x2 gs hp ?_) rfl rfl (Nat.le_of_ble_eq_true rfl) (Nat.le_of_ble_eq_true rfl)
        refine mw_b 30 i_Model_seek_29 rfl ?_
        rw [gw_pw n (by omega)]
        refine mw_ic0 33 i_Model_seek_30 rfl (nI_ge hi (by omega)) ?_
        refine mw_ld 34 i_Model_seek_33 rfl rfl rfl ?_
        refine mw_cs1 37 i_Model_seek_34 rfl (sp_Model_manyOf ?_) rfl rfl (Nat.le_of_ble_eq_true rfl) (Nat.le_of_ble_eq_true rfl)
        refine mw_st (ls' := [_, _, _, _]) 38 i_Model_seek_37 rfl rfl rfl rfl ?_
        refine mw_ld 39 i_Model_seek_38 rfl rfl rfl ?_
        refine mw_get 42 i_Model_seek_39 rfl (by repeat (first | exact mj_hs2 | exact mj_hs | assumption | refine mj_hn2 (by omega) ?_ | refine mj_hn (by omega) ?_)) (by rfl) ?_
        refine mw_k 44 i_Model_seek_42 rfl ?_
        refine mw_ic1 i_Model_seek_44 rfl ?_
        refine mw_ld 56 i_Model_seek_55 rfl rfl rfl ?_
        refine mw_ld 57 i_Model_seek_56 rfl rfl rfl ?_
        refine mw_cv1 60 i_Model_seek_57 rfl (by repeat (first | exact mj_hs2 | exact mj_hs | assumption | refine mj_hn2 (by omega) ?_ | refine mj_hn (by omega) ?_)) (sp_Model_unseenBy (σ := (f, σ.2)) x2 gs hd gw hwt ?_) rfl rfl (Nat.le_of_ble_eq_true rfl) (Nat.le_of_ble_eq_true rfl)
        refine mw_if1 i_Model_seek_60 ((gw_dI_ge (gw_lo_lt hd)).mpr (fun q => hA (by rw [gw_wa, q]; rfl))) ?_
        refine mw_inc (ls' := [_, _, _, _]) 139 (nI (i + 1)) i_Model_seek_136 rfl rfl rfl (nI_1 i) rfl ?_
        refine mw_go i_Model_seek_139 ?_
        refine ih (f, _, _) ⟨x1, _, _, _, x2, .inl ⟨fun v hv => ?_, rfl, rfl, rfl⟩⟩
        by_cases e : v = i
        · subst e; exact gw_nt hA
        · exact m0 v (by omega)
    · subst m1; subst m2; subst m3
      have hmn : mn ≤ 14 := by rw [← m0.2.2.1]; exact gw_cn_le _ _
      have hnn : ¬ nI mn = gw_NONE := gw_NONE_ne (by omega)
      rcases Nat.lt_or_ge mn (gw_pn i) with hgt | hle
      · skip
        refine mw_ld 24 i_Model_seek_23 rfl rfl rfl ?_
        refine mw_k 25 i_Model_seek_24 rfl ?_
        refine mw_ld 26 i_Model_seek_25 rfl rfl rfl ?_
        refine mw_cv1 29 i_Model_seek_26 rfl (by repeat (first | exact mj_hs2 | exact mj_hs | assumption | refine mj_hn2 (by omega) ?_ | refine mj_hn (by omega) ?_)) (sp_Model_posts (σ := (f, σ.2)) x2 gs hp ?_) rfl rfl (Nat.le_of_ble_eq_true rfl) (Nat.le_of_ble_eq_true rfl)
        refine mw_b 30 i_Model_seek_29 rfl ?_
        rw [gw_pw n (by omega)]
        refine mw_ic0 33 i_Model_seek_30 rfl (nI_ge hi (by omega)) ?_
        refine mw_ld 34 i_Model_seek_33 rfl rfl rfl ?_
        refine mw_cs1 37 i_Model_seek_34 rfl (sp_Model_manyOf ?_) rfl rfl (Nat.le_of_ble_eq_true rfl) (Nat.le_of_ble_eq_true rfl)
        refine mw_st (ls' := [_, _, _, _]) 38 i_Model_seek_37 rfl rfl rfl rfl ?_
        refine mw_ld 39 i_Model_seek_38 rfl rfl rfl ?_
        refine mw_get 42 i_Model_seek_39 rfl (by repeat (first | exact mj_hs2 | exact mj_hs | assumption | refine mj_hn2 (by omega) ?_ | refine mj_hn (by omega) ?_)) (by rfl) ?_
        refine mw_k 44 i_Model_seek_42 rfl ?_
        refine mw_ic0 47 i_Model_seek_44 rfl hnn ?_
        refine mw_ld 48 i_Model_seek_47 rfl rfl rfl ?_
        refine mw_ld 49 i_Model_seek_48 rfl rfl rfl ?_
        refine mw_get 52 i_Model_seek_49 rfl (by repeat (first | exact mj_hs2 | exact mj_hs | assumption | refine mj_hn2 (by omega) ?_ | refine mj_hn (by omega) ?_)) (by rfl) ?_
        refine mw_ic1 i_Model_seek_52 (nI_lt hgt (by omega)) ?_
        refine mw_inc (ls' := [_, _, _, _]) 139 (nI (i + 1)) i_Model_seek_136 rfl rfl rfl (nI_1 i) rfl ?_
        refine mw_go i_Model_seek_139 ?_
        exact ih (f, _, _) ⟨x1, _, _, _, x2, .inr ⟨mn, t, c, gw_m1_no m0 (.inr hgt), rfl, rfl, rfl⟩⟩
      · by_cases hA : gw_wa w h n s (nI i) = true
        · rcases Nat.lt_or_ge (gw_pn i) mn with hlt | hge
          · skip
            refine mw_ld 24 i_Model_seek_23 rfl rfl rfl ?_
            refine mw_k 25 i_Model_seek_24 rfl ?_
            refine mw_ld 26 i_Model_seek_25 rfl rfl rfl ?_
            refine mw_cv1 29 i_Model_seek_26 rfl (by repeat (first | exact mj_hs2 | exact mj_hs | assumption | refine mj_hn2 (by omega) ?_ | refine mj_hn (by omega) ?_)) (sp_Model_posts (σ := (f, σ.2)) x2 gs hp ?_) rfl rfl (Nat.le_of_ble_eq_true rfl) (Nat.le_of_ble_eq_true rfl)
            refine mw_b 30 i_Model_seek_29 rfl ?_
            rw [gw_pw n (by omega)]
            refine mw_ic0 33 i_Model_seek_30 rfl (nI_ge hi (by omega)) ?_
            refine mw_ld 34 i_Model_seek_33 rfl rfl rfl ?_
            refine mw_cs1 37 i_Model_seek_34 rfl (sp_Model_manyOf ?_) rfl rfl (Nat.le_of_ble_eq_true rfl) (Nat.le_of_ble_eq_true rfl)
            refine mw_st (ls' := [_, _, _, _]) 38 i_Model_seek_37 rfl rfl rfl rfl ?_
            refine mw_ld 39 i_Model_seek_38 rfl rfl rfl ?_
            refine mw_get 42 i_Model_seek_39 rfl (by repeat (first | exact mj_hs2 | exact mj_hs | assumption | refine mj_hn2 (by omega) ?_ | refine mj_hn (by omega) ?_)) (by rfl) ?_
            refine mw_k 44 i_Model_seek_42 rfl ?_
            refine mw_ic0 47 i_Model_seek_44 rfl hnn ?_
            refine mw_ld 48 i_Model_seek_47 rfl rfl rfl ?_
            refine mw_ld 49 i_Model_seek_48 rfl rfl rfl ?_
            refine mw_get 52 i_Model_seek_49 rfl (by repeat (first | exact mj_hs2 | exact mj_hs | assumption | refine mj_hn2 (by omega) ?_ | refine mj_hn (by omega) ?_)) (by rfl) ?_
            refine mw_ic0 55 i_Model_seek_52 rfl (nI_nlt hle (by omega)) ?_
            refine mw_ld 56 i_Model_seek_55 rfl rfl rfl ?_
            refine mw_ld 57 i_Model_seek_56 rfl rfl rfl ?_
            refine mw_cv1 60 i_Model_seek_57 rfl (by repeat (first | exact mj_hs2 | exact mj_hs | assumption | refine mj_hn2 (by omega) ?_ | refine mj_hn (by omega) ?_)) (sp_Model_unseenBy (σ := (f, σ.2)) x2 gs hd gw hwt ?_) rfl rfl (Nat.le_of_ble_eq_true rfl) (Nat.le_of_ble_eq_true rfl)
            refine mw_if0 63 i_Model_seek_60 rfl (fun q => (gw_dI_ge (gw_lo_lt hd)).mp q (Option.isNone_iff_eq_none.mp hA)) ?_
            refine mw_ld 64 i_Model_seek_63 rfl rfl rfl ?_
            refine mw_get 67 i_Model_seek_64 rfl (by repeat (first | exact mj_hs2 | exact mj_hs | assumption | refine mj_hn2 (by omega) ?_ | refine mj_hn (by omega) ?_)) (by rfl) ?_
            refine mw_k 69 i_Model_seek_67 rfl ?_
            refine mw_ic0 72 i_Model_seek_69 rfl hnn ?_
            refine mw_ld 73 i_Model_seek_72 rfl rfl rfl ?_
            refine mw_ld 74 i_Model_seek_73 rfl rfl rfl ?_
            refine mw_get 77 i_Model_seek_74 rfl (by repeat (first | exact mj_hs2 | exact mj_hs | assumption | refine mj_hn2 (by omega) ?_ | refine mj_hn (by omega) ?_)) (by rfl) ?_
            refine mw_ic0 80 i_Model_seek_77 rfl (nI_ge hlt (by omega)) ?_
            refine mw_k 81 i_Model_seek_80 rfl ?_
            refine mw_go i_Model_seek_81 ?_
            refine mw_st (ls' := [_, _, _, _]) 86 i_Model_seek_85 rfl rfl rfl rfl ?_
            refine mw_ld 87 i_Model_seek_86 rfl rfl rfl ?_
            refine mw_ld 88 i_Model_seek_87 rfl rfl rfl ?_
            refine mw_if1 i_Model_seek_88 (by decide) ?_
            refine mw_ld 103 i_Model_seek_102 rfl rfl rfl ?_
            refine mw_go i_Model_seek_103 ?_
            refine mw_put (fs' := [_, _, _, _, _, _, _, _, _, _, _, _, _, _, _, _, _, _, _, _, _, _, _, _, _]) 113 i_Model_seek_110 rfl (by repeat (first | exact mj_hs2 | exact mj_hs | assumption | refine mj_hn2 (by omega) ?_ | refine mj_hn (by omega) ?_)) (Nat.le_of_ble_eq_true rfl) rfl rfl (fun _ h => by cases h) (by rfl) ?_
            refine mw_ld 114 i_Model_seek_113 rfl rfl rfl ?_
            refine mw_ld 115 i_Model_seek_114 rfl rfl rfl ?_
            refine mw_if0 118 i_Model_seek_115 rfl (by decide) ?_
            refine mw_k 119 i_Model_seek_118 rfl ?_
            refine mw_go i_Model_seek_119 ?_
            refine mw_put (fs' := [_, _, _, _, _, _, _, _, _, _, _, _, _, _, _, _, _, _, _, _, _, _, _, _, _]) 131 i_Model_seek_128 rfl (by repeat (first | exact mj_hs2 | exact mj_hs | assumption | refine mj_hn2 (by omega) ?_ | refine mj_hn (by omega) ?_)) (Nat.le_of_ble_eq_true rfl) rfl rfl (fun _ h => by cases h) (by rfl) ?_
            refine mw_ld 132 i_Model_seek_131 rfl rfl rfl ?_
            refine mw_ld 133 i_Model_seek_132 rfl rfl rfl ?_
            refine mw_put (fs' := [_, _, _, _, _, _, _, _, _, _, _, _, _, _, _, _, _, _, _, _, _, _, _, _, _]) 136 i_Model_seek_133 rfl (by repeat (first | exact mj_hs2 | exact mj_hs | assumption | refine mj_hn2 (by omega) ?_ | refine mj_hn (by omega) ?_)) (Nat.le_of_ble_eq_true rfl) rfl rfl (fun _ h => by cases h) (by rfl) ?_
            refine mw_inc (ls' := [_, _, _, _]) 139 (nI (i + 1)) i_Model_seek_136 rfl rfl rfl (nI_1 i) rfl ?_
            refine mw_go i_Model_seek_139 ?_
            refine gw_heap (Q := fun fx => mj_Wp X (d + 4) y_Model_seek 23 _ [] (fx, σ.2) (mj_U Q)) ?_
            intro fx efx
            have hfr : gw_fr [55] f0 fx := by rw [efx]; exact gw_fr_up (gw_fr_up (gw_fr_up x1 (by simp)) (by simp)) (by simp)
            have q55 : fx 55 = gw_mo w h kp rw tf fu (nI (gw_pn i)) (nI i) (1) md := by rw [efx]; exact mj_hs
            clear efx
            exact ih (fx, _, _) ⟨hfr, _, _, _, q55, .inr ⟨_, _, _, gw_m1_less m0 hA hlt, rfl, rfl, rfl⟩⟩
          · have heq : gw_pn i = mn := by omega
            by_cases hx : gw_lxb (nI i) (nI t) = true
            · skip
              refine mw_ld 24 i_Model_seek_23 rfl rfl rfl ?_
              refine mw_k 25 i_Model_seek_24 rfl ?_
              refine mw_ld 26 i_Model_seek_25 rfl rfl rfl ?_
              refine mw_cv1 29 i_Model_seek_26 rfl (by repeat (first | exact mj_hs2 | exact mj_hs | assumption | refine mj_hn2 (by omega) ?_ | refine mj_hn (by omega) ?_)) (sp_Model_posts (σ := (f, σ.2)) x2 gs hp ?_) rfl rfl (Nat.le_of_ble_eq_true rfl) (Nat.le_of_ble_eq_true rfl)
              refine mw_b 30 i_Model_seek_29 rfl ?_
              rw [gw_pw n (by omega)]
              refine mw_ic0 33 i_Model_seek_30 rfl (nI_ge hi (by omega)) ?_
              refine mw_ld 34 i_Model_seek_33 rfl rfl rfl ?_
              refine mw_cs1 37 i_Model_seek_34 rfl (sp_Model_manyOf ?_) rfl rfl (Nat.le_of_ble_eq_true rfl) (Nat.le_of_ble_eq_true rfl)
              refine mw_st (ls' := [_, _, _, _]) 38 i_Model_seek_37 rfl rfl rfl rfl ?_
              refine mw_ld 39 i_Model_seek_38 rfl rfl rfl ?_
              refine mw_get 42 i_Model_seek_39 rfl (by repeat (first | exact mj_hs2 | exact mj_hs | assumption | refine mj_hn2 (by omega) ?_ | refine mj_hn (by omega) ?_)) (by rfl) ?_
              refine mw_k 44 i_Model_seek_42 rfl ?_
              refine mw_ic0 47 i_Model_seek_44 rfl hnn ?_
              refine mw_ld 48 i_Model_seek_47 rfl rfl rfl ?_
              refine mw_ld 49 i_Model_seek_48 rfl rfl rfl ?_
              refine mw_get 52 i_Model_seek_49 rfl (by repeat (first | exact mj_hs2 | exact mj_hs | assumption | refine mj_hn2 (by omega) ?_ | refine mj_hn (by omega) ?_)) (by rfl) ?_
              refine mw_ic0 55 i_Model_seek_52 rfl (nI_nlt hle (by omega)) ?_
              refine mw_ld 56 i_Model_seek_55 rfl rfl rfl ?_
              refine mw_ld 57 i_Model_seek_56 rfl rfl rfl ?_
              refine mw_cv1 60 i_Model_seek_57 rfl (by repeat (first | exact mj_hs2 | exact mj_hs | assumption | refine mj_hn2 (by omega) ?_ | refine mj_hn (by omega) ?_)) (sp_Model_unseenBy (σ := (f, σ.2)) x2 gs hd gw hwt ?_) rfl rfl (Nat.le_of_ble_eq_true rfl) (Nat.le_of_ble_eq_true rfl)
              refine mw_if0 63 i_Model_seek_60 rfl (fun q => (gw_dI_ge (gw_lo_lt hd)).mp q (Option.isNone_iff_eq_none.mp hA)) ?_
              refine mw_ld 64 i_Model_seek_63 rfl rfl rfl ?_
              refine mw_get 67 i_Model_seek_64 rfl (by repeat (first | exact mj_hs2 | exact mj_hs | assumption | refine mj_hn2 (by omega) ?_ | refine mj_hn (by omega) ?_)) (by rfl) ?_
              refine mw_k 69 i_Model_seek_67 rfl ?_
              refine mw_ic0 72 i_Model_seek_69 rfl hnn ?_
              refine mw_ld 73 i_Model_seek_72 rfl rfl rfl ?_
              refine mw_ld 74 i_Model_seek_73 rfl rfl rfl ?_
              refine mw_get 77 i_Model_seek_74 rfl (by repeat (first | exact mj_hs2 | exact mj_hs | assumption | refine mj_hn2 (by omega) ?_ | refine mj_hn (by omega) ?_)) (by rfl) ?_
              refine mw_ic1 i_Model_seek_77 (nI_le hge (by omega)) ?_
              refine mw_k 85 i_Model_seek_84 rfl ?_
              refine mw_st (ls' := [_, _, _, _]) 86 i_Model_seek_85 rfl rfl rfl rfl ?_
              refine mw_ld 87 i_Model_seek_86 rfl rfl rfl ?_
              refine mw_ld 88 i_Model_seek_87 rfl rfl rfl ?_
              refine mw_if0 91 i_Model_seek_88 rfl (by decide) ?_
              refine mw_ld 92 i_Model_seek_91 rfl rfl rfl ?_
              refine mw_ld 93 i_Model_seek_92 rfl rfl rfl ?_
              refine mw_get 96 i_Model_seek_93 rfl (by repeat (first | exact mj_hs2 | exact mj_hs | assumption | refine mj_hn2 (by omega) ?_ | refine mj_hn (by omega) ?_)) (by rfl) ?_
              refine mw_cs1 99 i_Model_seek_96 rfl (sp_Model_isFirst ?_) rfl rfl (Nat.le_of_ble_eq_true rfl) (Nat.le_of_ble_eq_true rfl)
              refine mw_if0 102 i_Model_seek_99 rfl (mj_bI1.mpr hx) ?_
              refine mw_ld 103 i_Model_seek_102 rfl rfl rfl ?_
              refine mw_go i_Model_seek_103 ?_
              refine mw_put (fs' := [_, _, _, _, _, _, _, _, _, _, _, _, _, _, _, _, _, _, _, _, _, _, _, _, _]) 113 i_Model_seek_110 rfl (by repeat (first | exact mj_hs2 | exact mj_hs | assumption | refine mj_hn2 (by omega) ?_ | refine mj_hn (by omega) ?_)) (Nat.le_of_ble_eq_true rfl) rfl rfl (fun _ h => by cases h) (by rfl) ?_
              refine mw_ld 114 i_Model_seek_113 rfl rfl rfl ?_
              refine mw_ld 115 i_Model_seek_114 rfl rfl rfl ?_
              refine mw_if1 i_Model_seek_115 (by decide) ?_
              refine mw_ld 123 i_Model_seek_122 rfl rfl rfl ?_
              refine mw_get 126 i_Model_seek_123 rfl (by repeat (first | exact mj_hs2 | exact mj_hs | assumption | refine mj_hn2 (by omega) ?_ | refine mj_hn (by omega) ?_)) (by rfl) ?_
              refine mw_k 127 i_Model_seek_126 rfl ?_
              refine mw_b 128 i_Model_seek_127 rfl ?_
              rw [nI_1]
              refine mw_put (fs' := [_, _, _, _, _, _, _, _, _, _, _, _, _, _, _, _, _, _, _, _, _, _, _, _, _]) 131 i_Model_seek_128 rfl (by repeat (first | exact mj_hs2 | exact mj_hs | assumption | refine mj_hn2 (by omega) ?_ | refine mj_hn (by omega) ?_)) (Nat.le_of_ble_eq_true rfl) rfl rfl (fun _ h => by cases h) (by rfl) ?_
              refine mw_ld 132 i_Model_seek_131 rfl rfl rfl ?_
              refine mw_ld 133 i_Model_seek_132 rfl rfl rfl ?_
              refine mw_put (fs' := [_, _, _, _, _, _, _, _, _, _, _, _, _, _, _, _, _, _, _, _, _, _, _, _, _]) 136 i_Model_seek_133 rfl (by repeat (first | exact mj_hs2 | exact mj_hs | assumption | refine mj_hn2 (by omega) ?_ | refine mj_hn (by omega) ?_)) (Nat.le_of_ble_eq_true rfl) rfl rfl (fun _ h => by cases h) (by rfl) ?_
              refine mw_inc (ls' := [_, _, _, _]) 139 (nI (i + 1)) i_Model_seek_136 rfl rfl rfl (nI_1 i) rfl ?_
              refine mw_go i_Model_seek_139 ?_
              refine gw_heap (Q := fun fx => mj_Wp X (d + 4) y_Model_seek 23 _ [] (fx, σ.2) (mj_U Q)) ?_
              intro fx efx
              have hfr : gw_fr [55] f0 fx := by rw [efx]; exact gw_fr_up (gw_fr_up (gw_fr_up x1 (by simp)) (by simp)) (by simp)
              have q55 : fx 55 = gw_mo w h kp rw tf fu (nI (gw_pn i)) (nI i) (nI (c + 1)) md := by rw [efx]; exact mj_hs
              clear efx
              exact ih (fx, _, _) ⟨hfr, _, _, _, q55, .inr ⟨_, _, _, gw_m1_first m0 hA heq (gw_lxb_t.mp hx), by rw [heq], rfl, rfl⟩⟩
            · skip
              refine mw_ld 24 i_Model_seek_23 rfl rfl rfl ?_
              refine mw_k 25 i_Model_seek_24 rfl ?_
              refine mw_ld 26 i_Model_seek_25 rfl rfl rfl ?_
              refine mw_cv1 29 i_Model_seek_26 rfl (by repeat (first | exact mj_hs2 | exact mj_hs | assumption | refine mj_hn2 (by omega) ?_ | refine mj_hn (by omega) ?_)) (sp_Model_posts (σ := (f, σ.2)) x2 gs hp ?_) rfl rfl (Nat.le_of_ble_eq_true rfl) (Nat.le_of_ble_eq_true rfl)
              refine mw_b 30 i_Model_seek_29 rfl ?_
              rw [gw_pw n (by omega)]
              refine mw_ic0 33 i_Model_seek_30 rfl (nI_ge hi (by omega)) ?_
              refine mw_ld 34 i_Model_seek_33 rfl rfl rfl ?_
              refine mw_cs1 37 i_Model_seek_34 rfl (sp_Model_manyOf ?_) rfl rfl (Nat.le_of_ble_eq_true rfl) (Nat.le_of_ble_eq_true rfl)
              refine mw_st (ls' := [_, _, _, _]) 38 i_Model_seek_37 rfl rfl rfl rfl ?_
              refine mw_ld 39 i_Model_seek_38 rfl rfl rfl ?_
              refine mw_get 42 i_Model_seek_39 rfl (by repeat (first | exact mj_hs2 | exact mj_hs | assumption | refine mj_hn2 (by omega) ?_ | refine mj_hn (by omega) ?_)) (by rfl) ?_
              refine mw_k 44 i_Model_seek_42 rfl ?_
              refine mw_ic0 47 i_Model_seek_44 rfl hnn ?_
              refine mw_ld 48 i_Model_seek_47 rfl rfl rfl ?_
              refine mw_ld 49 i_Model_seek_48 rfl rfl rfl ?_
              refine mw_get 52 i_Model_seek_49 rfl (by repeat (first | exact mj_hs2 | exact mj_hs | assumption | refine mj_hn2 (by omega) ?_ | refine mj_hn (by omega) ?_)) (by rfl) ?_
              refine mw_ic0 55 i_Model_seek_52 rfl (nI_nlt hle (by omega)) ?_
              refine mw_ld 56 i_Model_seek_55 rfl rfl rfl ?_
              refine mw_ld 57 i_Model_seek_56 rfl rfl rfl ?_
              refine mw_cv1 60 i_Model_seek_57 rfl (by repeat (first | exact mj_hs2 | exact mj_hs | assumption | refine mj_hn2 (by omega) ?_ | refine mj_hn (by omega) ?_)) (sp_Model_unseenBy (σ := (f, σ.2)) x2 gs hd gw hwt ?_) rfl rfl (Nat.le_of_ble_eq_true rfl) (Nat.le_of_ble_eq_true rfl)
              refine mw_if0 63 i_Model_seek_60 rfl (fun q => (gw_dI_ge (gw_lo_lt hd)).mp q (Option.isNone_iff_eq_none.mp hA)) ?_
              refine mw_ld 64 i_Model_seek_63 rfl rfl rfl ?_
              refine mw_get 67 i_Model_seek_64 rfl (by repeat (first | exact mj_hs2 | exact mj_hs | assumption | refine mj_hn2 (by omega) ?_ | refine mj_hn (by omega) ?_)) (by rfl) ?_
              refine mw_k 69 i_Model_seek_67 rfl ?_
              refine mw_ic0 72 i_Model_seek_69 rfl hnn ?_
              refine mw_ld 73 i_Model_seek_72 rfl rfl rfl ?_
              refine mw_ld 74 i_Model_seek_73 rfl rfl rfl ?_
              refine mw_get 77 i_Model_seek_74 rfl (by repeat (first | exact mj_hs2 | exact mj_hs | assumption | refine mj_hn2 (by omega) ?_ | refine mj_hn (by omega) ?_)) (by rfl) ?_
              refine mw_ic1 i_Model_seek_77 (nI_le hge (by omega)) ?_
              refine mw_k 85 i_Model_seek_84 rfl ?_
              refine mw_st (ls' := [_, _, _, _]) 86 i_Model_seek_85 rfl rfl rfl rfl ?_
              refine mw_ld 87 i_Model_seek_86 rfl rfl rfl ?_
              refine mw_ld 88 i_Model_seek_87 rfl rfl rfl ?_
              refine mw_if0 91 i_Model_seek_88 rfl (by decide) ?_
              refine mw_ld 92 i_Model_seek_91 rfl rfl rfl ?_
              refine mw_ld 93 i_Model_seek_92 rfl rfl rfl ?_
              refine mw_get 96 i_Model_seek_93 rfl (by repeat (first | exact mj_hs2 | exact mj_hs | assumption | refine mj_hn2 (by omega) ?_ | refine mj_hn (by omega) ?_)) (by rfl) ?_
              refine mw_cs1 99 i_Model_seek_96 rfl (sp_Model_isFirst ?_) rfl rfl (Nat.le_of_ble_eq_true rfl) (Nat.le_of_ble_eq_true rfl)
              refine mw_if1 i_Model_seek_99 (mj_bI0.mpr (gw_nt hx)) ?_
              refine mw_ld 107 i_Model_seek_106 rfl rfl rfl ?_
              refine mw_get 110 i_Model_seek_107 rfl (by repeat (first | exact mj_hs2 | exact mj_hs | assumption | refine mj_hn2 (by omega) ?_ | refine mj_hn (by omega) ?_)) (by rfl) ?_
              refine mw_put (fs' := [_, _, _, _, _, _, _, _, _, _, _, _, _, _, _, _, _, _, _, _, _, _, _, _, _]) 113 i_Model_seek_110 rfl (by repeat (first | exact mj_hs2 | exact mj_hs | assumption | refine mj_hn2 (by omega) ?_ | refine mj_hn (by omega) ?_)) (Nat.le_of_ble_eq_true rfl) rfl rfl (fun _ h => by cases h) (by rfl) ?_
              refine mw_ld 114 i_Model_seek_113 rfl rfl rfl ?_
              refine mw_ld 115 i_Model_seek_114 rfl rfl rfl ?_
              refine mw_if1 i_Model_seek_115 (by decide) ?_
              refine mw_ld 123 i_Model_seek_122 rfl rfl rfl ?_
              refine mw_get 126 i_Model_seek_123 rfl (by repeat (first | exact mj_hs2 | exact mj_hs | assumption | refine mj_hn2 (by omega) ?_ | refine mj_hn (by omega) ?_)) (by rfl) ?_
              refine mw_k 127 i_Model_seek_126 rfl ?_
              refine mw_b 128 i_Model_seek_127 rfl ?_
              rw [nI_1]
              refine mw_put (fs' := [_, _, _, _, _, _, _, _, _, _, _, _, _, _, _, _, _, _, _, _, _, _, _, _, _]) 131 i_Model_seek_128 rfl (by repeat (first | exact mj_hs2 | exact mj_hs | assumption | refine mj_hn2 (by omega) ?_ | refine mj_hn (by omega) ?_)) (Nat.le_of_ble_eq_true rfl) rfl rfl (fun _ h => by cases h) (by rfl) ?_
              refine mw_ld 132 i_Model_seek_131 rfl rfl rfl ?_
              refine mw_ld 133 i_Model_seek_132 rfl rfl rfl ?_
              refine mw_put (fs' := [_, _, _, _, _, _, _, _, _, _, _, _, _, _, _, _, _, _, _, _, _, _, _, _, _]) 136 i_Model_seek_133 rfl (by repeat (first | exact mj_hs2 | exact mj_hs | assumption | refine mj_hn2 (by omega) ?_ | refine mj_hn (by omega) ?_)) (Nat.le_of_ble_eq_true rfl) rfl rfl (fun _ h => by cases h) (by rfl) ?_
              refine mw_inc (ls' := [_, _, _, _]) 139 (nI (i + 1)) i_Model_seek_136 rfl rfl rfl (nI_1 i) rfl ?_
              refine mw_go i_Model_seek_139 ?_
              refine gw_heap (Q := fun fx => mj_Wp X (d + 4) y_Model_seek 23 _ [] (fx, σ.2) (mj_U Q)) ?_
              intro fx efx
              have hfr : gw_fr [55] f0 fx := by rw [efx]; exact gw_fr_up (gw_fr_up (gw_fr_up x1 (by simp)) (by simp)) (by simp)
              have q55 : fx 55 = gw_mo w h kp rw tf fu (nI (gw_pn i)) (nI t) (nI (c + 1)) md := by rw [efx]; exact mj_hs
              clear efx
              exact ih (fx, _, _) ⟨hfr, _, _, _, q55, .inr ⟨_, _, _, gw_m1_keep (by omega) m0 hA heq (fun q => hx (gw_lxb_t.mpr q)), by rw [heq], rfl, rfl⟩⟩
        · skip
          refine mw_ld 24 i_Model_seek_23 rfl rfl rfl ?_
          refine mw_k 25 i_Model_seek_24 rfl ?_
          refine mw_ld 26 i_Model_seek_25 rfl rfl rfl ?_
          refine mw_cv1 29 i_Model_seek_26 rfl (by repeat (first | exact mj_hs2 | exact mj_hs | assumption | refine mj_hn2 (by omega) ?_ | refine mj_hn (by omega) ?_)) (sp_Model_posts (σ := (f, σ.2)) x2 gs hp ?_) rfl rfl (Nat.le_of_ble_eq_true rfl) (Nat.le_of_ble_eq_true rfl)
          refine mw_b 30 i_Model_seek_29 rfl ?_
          rw [gw_pw n (by omega)]
          refine mw_ic0 33 i_Model_seek_30 rfl (nI_ge hi (by omega)) ?_
          refine mw_ld 34 i_Model_seek_33 rfl rfl rfl ?_
          refine mw_cs1 37 i_Model_seek_34 rfl (sp_Model_manyOf ?_) rfl rfl (Nat.le_of_ble_eq_true rfl) (Nat.le_of_ble_eq_true rfl)
          refine mw_st (ls' := [_, _, _, _]) 38 i_Model_seek_37 rfl rfl rfl rfl ?_
          refine mw_ld 39 i_Model_seek_38 rfl rfl rfl ?_
          refine mw_get 42 i_Model_seek_39 rfl (by repeat (first | exact mj_hs2 | exact mj_hs | assumption | refine mj_hn2 (by omega) ?_ | refine mj_hn (by omega) ?_)) (by rfl) ?_
          refine mw_k 44 i_Model_seek_42 rfl ?_
          refine mw_ic0 47 i_Model_seek_44 rfl hnn ?_
          refine mw_ld 48 i_Model_seek_47 rfl rfl rfl ?_
          refine mw_ld 49 i_Model_seek_48 rfl rfl rfl ?_
          refine mw_get 52 i_Model_seek_49 rfl (by repeat (first | exact mj_hs2 | exact mj_hs | assumption | refine mj_hn2 (by omega) ?_ | refine mj_hn (by omega) ?_)) (by rfl) ?_
          refine mw_ic0 55 i_Model_seek_52 rfl (nI_nlt hle (by omega)) ?_
          refine mw_ld 56 i_Model_seek_55 rfl rfl rfl ?_
          refine mw_ld 57 i_Model_seek_56 rfl rfl rfl ?_
          refine mw_cv1 60 i_Model_seek_57 rfl (by repeat (first | exact mj_hs2 | exact mj_hs | assumption | refine mj_hn2 (by omega) ?_ | refine mj_hn (by omega) ?_)) (sp_Model_unseenBy (σ := (f, σ.2)) x2 gs hd gw hwt ?_) rfl rfl (Nat.le_of_ble_eq_true rfl) (Nat.le_of_ble_eq_true rfl)
          refine mw_if1 i_Model_seek_60 ((gw_dI_ge (gw_lo_lt hd)).mpr (fun q => hA (by rw [gw_wa, q]; rfl))) ?_
          refine mw_inc (ls' := [_, _, _, _]) 139 (nI (i + 1)) i_Model_seek_136 rfl rfl rfl (nI_1 i) rfl ?_
          refine mw_go i_Model_seek_139 ?_
          exact ih (f, _, _) ⟨x1, _, _, _, x2, .inr ⟨mn, t, c, gw_m1_no m0 (.inl (gw_nt hA)), rfl, rfl, rfl⟩⟩
theorem gw_MI_seek {f f' : Nat → mj_C} {w h n : Nat} {s : Nat → Int32} {kp : Nat} {hs : Nat → Nat → Int32} {P : List gw_Row} {sz : Int32} {tf fu fe fi ma md fe2 fi2 ma2 : Int32} {wt : Nat → Int32} (hf : gw_fr [55, 58] f f') (h0 : f 55 = gw_mo w h kp P.length tf fu fe fi ma md) (h1 : f' 55 = gw_mo w h kp P.length tf fu fe2 fi2 ma2 md) (hw : f' 58 = mj_AI 100 wt) (hM : gw_MI f w h n s kp hs P sz) : gw_MI f' w h n s kp hs P sz := by
  obtain ⟨tf', fu', fe', fi', ma', md', m1, m2, m3, m4, m5⟩ := hM
  have e : tf' = tf := by
    rw [h0] at m1
    simp only [gw_mo, mj_O, Option.some.injEq, Sum.inr.injEq, Prod.mk.injEq, List.cons.injEq, Value.int.injEq, true_and] at m1
    exact m1.1.symm
  subst e
  exact ⟨tf', fu, fe2, fi2, ma2, md, h1, gw_mA_fr hf (by decide) (by decide) m2, gw_mR_fr hf (fun a _ _ => by simp; omega) m3, gw_mS_fr hf (fun _ => ⟨_, hw⟩) (gw_no_in (by decide)) (gw_no_in (by decide)) (gw_no_in (by decide)) (gw_no_in (by decide)) (gw_no_in (by decide)) (gw_no_in (by decide)) (gw_no_in (by decide)) (gw_no_in (by decide)) m4, m5⟩
theorem sp_Model_fewest {X : mj_X} {d : Nat} {σ : mj_H} {Q : Value → mj_H → Prop} {w h n : Nat} {s : Nat → Int32} {kp : Nat} {hs : Nat → Nat → Int32} {P : List gw_Row} {sz : Int32} (hM : gw_MI σ.1 w h n s kp hs P sz) (hd : gw_dim w h) (hn14 : n ≤ 14) (hp : s 100 = nI n) (hv : gw_vp w h n s)  (k : ∀ f, gw_fr gw_ML σ.1 f → gw_MI f w h n s kp hs P sz → Q (.int ((gw_sl w h n s).1)) (f, σ.2)) : mj_M X (d + 20) y_Model_fewest [.ref 55] σ (mj_V Q) := by
  obtain ⟨tf, fu, fe, fi, ma, md, hO, hA, hRr, hSs, htf⟩ := id hM
  obtain ⟨hs1, bf, hB, hb⟩ := id hA
  obtain ⟨⟨wt0, hW⟩, ⟨he0, hH⟩, ⟨fr0, hF⟩, ⟨fa0, hFa⟩, ⟨ct0, hCt⟩, ⟨mc0, hm1⟩, ⟨mb0, hm2⟩, ⟨mp0, hm3⟩, ⟨mw0, hm4⟩⟩ := id hSs
  have hwh := gw_dim_le hd
  refine mw_in (l0 := [some (.ref 55)]) rfl ?_
  refine mw_ld 1 i_Model_fewest_0 rfl rfl rfl ?_
  refine mw_cv0 4 i_Model_fewest_1 rfl (by assumption) (sp_Model_seek hO hs1 hd hn14 hp hv hW (fun f wt g1 g2 g3 g4 => ?_)) rfl rfl (Nat.le_of_ble_eq_true rfl) (Nat.le_of_ble_eq_true rfl)
  refine mw_ld 5 i_Model_fewest_4 rfl rfl rfl ?_
  refine mw_get 8 i_Model_fewest_5 rfl (by assumption) (by rfl) ?_
  refine mw_ri i_Model_fewest_8 rfl rfl ?_
  exact k f (gw_fr_sub g1 (by decide)) (gw_MI_seek g1 hO g2 g3 hM)
theorem sp_Model_choose {X : mj_X} {d : Nat} {σ : mj_H} {Q : Value → mj_H → Prop} {w h n : Nat} {s : Nat → Int32} {kp : Nat} {hs : Nat → Nat → Int32} {P : List gw_Row} {sz : Int32} (hM : gw_MI σ.1 w h n s kp hs P sz) (hd : gw_dim w h) (hn14 : n ≤ 14) (hp : s 100 = nI n) (hv : gw_vp w h n s)  (k : ∀ f, gw_fr gw_ML σ.1 f → gw_MI f w h n s kp hs P sz → Q (.int ((gw_sl w h n s).2.1)) (f, σ.2)) : mj_M X (d + 20) y_Model_choose [.ref 55] σ (mj_V Q) := by
  obtain ⟨tf, fu, fe, fi, ma, md, hO, hA, hRr, hSs, htf⟩ := id hM
  obtain ⟨hs1, bf, hB, hb⟩ := id hA
  obtain ⟨⟨wt0, hW⟩, ⟨he0, hH⟩, ⟨fr0, hF⟩, ⟨fa0, hFa⟩, ⟨ct0, hCt⟩, ⟨mc0, hm1⟩, ⟨mb0, hm2⟩, ⟨mp0, hm3⟩, ⟨mw0, hm4⟩⟩ := id hSs
  have hwh := gw_dim_le hd
  refine mw_in (l0 := [some (.ref 55)]) rfl ?_
  refine mw_ld 1 i_Model_choose_0 rfl rfl rfl ?_
  refine mw_cv0 4 i_Model_choose_1 rfl (by assumption) (sp_Model_seek hO hs1 hd hn14 hp hv hW (fun f wt g1 g2 g3 g4 => ?_)) rfl rfl (Nat.le_of_ble_eq_true rfl) (Nat.le_of_ble_eq_true rfl)
  refine mw_ld 5 i_Model_choose_4 rfl rfl rfl ?_
  refine mw_get 8 i_Model_choose_5 rfl (by assumption) (by rfl) ?_
  refine mw_ri i_Model_choose_8 rfl rfl ?_
  exact k f (gw_fr_sub g1 (by decide)) (gw_MI_seek g1 hO g2 g3 hM)
theorem sp_Model_many {X : mj_X} {d : Nat} {σ : mj_H} {Q : Value → mj_H → Prop} {w h n : Nat} {s : Nat → Int32} {kp : Nat} {hs : Nat → Nat → Int32} {P : List gw_Row} {sz : Int32} (hM : gw_MI σ.1 w h n s kp hs P sz) (hd : gw_dim w h) (hn14 : n ≤ 14) (hp : s 100 = nI n) (hv : gw_vp w h n s)  (k : ∀ f, gw_fr gw_ML σ.1 f → gw_MI f w h n s kp hs P sz → Q (.int (nI (gw_sl w h n s).2.2)) (f, σ.2)) : mj_M X (d + 20) y_Model_many [.ref 55] σ (mj_V Q) := by
  obtain ⟨tf, fu, fe, fi, ma, md, hO, hA, hRr, hSs, htf⟩ := id hM
  obtain ⟨hs1, bf, hB, hb⟩ := id hA
  obtain ⟨⟨wt0, hW⟩, ⟨he0, hH⟩, ⟨fr0, hF⟩, ⟨fa0, hFa⟩, ⟨ct0, hCt⟩, ⟨mc0, hm1⟩, ⟨mb0, hm2⟩, ⟨mp0, hm3⟩, ⟨mw0, hm4⟩⟩ := id hSs
  have hwh := gw_dim_le hd
  refine mw_in (l0 := [some (.ref 55)]) rfl ?_
  refine mw_ld 1 i_Model_many_0 rfl rfl rfl ?_
  refine mw_cv0 4 i_Model_many_1 rfl (by assumption) (sp_Model_seek hO hs1 hd hn14 hp hv hW (fun f wt g1 g2 g3 g4 => ?_)) rfl rfl (Nat.le_of_ble_eq_true rfl) (Nat.le_of_ble_eq_true rfl)
  refine mw_ld 5 i_Model_many_4 rfl rfl rfl ?_
  refine mw_get 8 i_Model_many_5 rfl (by assumption) (by rfl) ?_
  refine mw_ri i_Model_many_8 rfl rfl ?_
  exact k f (gw_fr_sub g1 (by decide)) (gw_MI_seek g1 hO g2 g3 hM)
