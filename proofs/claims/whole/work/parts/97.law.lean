/-! the law -/
theorem mj_law_gen (X : mj_X) (hL : X.1 ≤ 2048) (d : Nat) : mj_M X (d + 21) y_Law_law [.float 1] (fun _ => none, 0, 0) (mj_V fun u σ' => u = .int 1 ∧ σ'.2.1 ≤ 600000 ∧ σ'.2.2 ≤ 7302250) := by
  refine mw_in (l0 := [some (.float 1), none, none, none]) rfl ?_
  refine mw_new 3 i_Law_law_0 rfl ?_
  show mj_Wp X (d + 21) y_Law_law 3 _ _ (_, 1, 7) _
  refine mw_dup 4 i_Law_law_3 rfl rfl ?_
  refine mw_ci 7 i_Law_law_4 rfl (sp_GW_init (hn := fun _ => 0) (hs := fun _ _ => 0) (va_up_self _ _ _) (fun f2 g1 hC => ?_)) rfl rfl (Nat.le_of_ble_eq_true rfl) (Nat.le_of_ble_eq_true rfl)
  show mj_Wp X (d + 21) y_Law_law 7 _ _ (f2, 55, 4829) _
  refine mw_st (ls' := [_, _, _, _]) 8 i_Law_law_7 rfl rfl rfl rfl ?_
  refine mw_new 11 i_Law_law_8 rfl ?_
  show mj_Wp X (d + 21) y_Law_law 11 _ _ (_, 56, 4854) _
  refine mw_dup 12 i_Law_law_11 rfl rfl ?_
  refine mw_ci 15 i_Law_law_12 rfl (sp_Model_init (va_up_self _ _ _) (fun f3 g2 m55 m56 m57 m58 m59 m60 m61 m62 m63 m64 m65 m66 m67 m68 m69 m70 => ?_)) rfl rfl (Nat.le_of_ble_eq_true rfl) (Nat.le_of_ble_eq_true rfl)
  show mj_Wp X (d + 21) y_Law_law 15 _ _ (f3, 71, 12505) _
  refine mw_st (ls' := [_, _, _, _]) 16 i_Law_law_15 rfl rfl rfl rfl ?_
  refine mw_k 17 i_Law_law_16 rfl ?_
  refine mw_st (ls' := [_, _, _, _]) 18 i_Law_law_17 rfl rfl rfl rfl ?_
  have hfr : gw_fr gw_ML f2 f3 := gw_fr_tr (gw_fr_up (gw_fr_rf _ _) (by simp)) g2
  have hM : gw_MI f3 1 1 0 (fun _ => 0) 0 (fun _ _ => 0) [] 0 := ⟨0, 0, 0, 0, 0, 0, m55, ⟨m56, _, m57, fun j i hj => absurd hj (Nat.not_lt_zero j)⟩, ⟨_, _, _, _, m59, m60, m61, m62, fun j hj => by cases hj⟩, ⟨⟨_, m58⟩, ⟨_, m63⟩, ⟨_, m64⟩, ⟨_, m65⟩, ⟨_, m66⟩, ⟨_, m67⟩, ⟨_, m68⟩, ⟨_, m69⟩, ⟨_, m70⟩⟩, .inl rfl⟩
  have hLI : gw_LI 0 (f3, 71, 12505) := gw_LI_mk ⟨by decide, by decide, by decide, by decide⟩ (gw_va_0 (fun i _ => rfl)) (Nat.zero_le _) (fun j hj => absurd hj (Nat.not_lt_zero j)) gw_tr_0 hC hfr hM (by decide) (fun a ha => (g1 a (by omega)).trans (va_up_ne _ _ (by omega))) (by decide) (by decide)
  refine mj_for (S := mj_H) (fun t σ => mj_Wp X (d + 21) y_Law_law 18 [some (.float 1), some (.ref 0), some (.ref 55), some (.int (nI (4 * t)))] [] σ (mj_V fun u σ' => u = .int 1 ∧ σ'.2.1 ≤ 600000 ∧ σ'.2.2 ≤ 7302250)) (fun t σ => gw_LI t σ) (X.1 / 4) ?_ ?_ 0 (f3, 71, 12505) (Nat.zero_le _) hLI
  · intro σ hI
    obtain ⟨w, h, n, s, kp, hn, hs, P, sz, -, -, -, -, -, -, -, -, -, hb1, hb2⟩ := id hI
    obtain ⟨t, et⟩ : ∃ t, t = X.1 / 4 := ⟨_, rfl⟩
    rw [← et] at hb1 hb2 ⊢
    refine mw_ld 19 i_Law_law_18 rfl rfl rfl ?_
    refine mw_ld 20 i_Law_law_19 rfl rfl rfl ?_
    refine mw_slen 21 i_Law_law_20 rfl ?_
    refine mw_k 22 i_Law_law_21 rfl ?_
    refine mw_b 23 i_Law_law_22 rfl ?_
    refine mw_ic1 i_Law_law_23 (by show _ < _; rw [mj_lt, mj_nI _ (by omega), iI_nI, show (4 : Int32) = iI 4 from rfl, iI_sub, iI_toInt (by omega) (by omega)]; omega) ?_
    refine mw_k 992 i_Law_law_991 rfl ?_
    refine mw_ri i_Law_law_992 rfl rfl ?_
    exact ⟨rfl, by omega, by omega⟩
  · intro t σ ht hI ih
    exact lw_step hL (by omega) hI ih
/-- the law, run by the small machine -/
theorem mj_law (X : mj_X) (hL : X.1 ≤ 2048) : ∃ σ', mj_Run X 900 y_Law_law 0 (mj_en y_Law_law [.float 1]) [] (fun _ => none, 0, 0) (some (.int 1), σ') ∧ σ'.2.1 ≤ 600000 ∧ σ'.2.2 ≤ 7302250 := by
  obtain ⟨v, σ', h1, u, rfl, rfl, h2, h3⟩ := mj_law_gen X hL 879
  exact ⟨σ', h1, h2, h3⟩
