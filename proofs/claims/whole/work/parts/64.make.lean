/-! the model: the tree is made -/
theorem gw_sl_min {w h n : Nat} {s : Nat → Int32} (hn : n ≤ 14) {z : Int32} (hz : gw_has n z = true) (hw : gw_wa w h n s z = true) : ∃ mn, (gw_sl w h n s).1 = nI mn ∧ mn ≤ gw_cn (bt z) 14 := by
  have hE : z ∈ gw_E n 0 (gw_cn (bt z) 14) := (gw_E_mem (by omega)).mpr ⟨fun x hx => (by
    have hb := (gw_has_iff hn).mp hz
    apply Classical.byContradiction
    intro q
    rcases Nat.lt_or_ge x 32 with y | y
    · rw [hb x (by omega) y] at hx; cases hx
    · rw [b_big y] at hx; cases hx), rfl⟩
  have hne : (gw_E n 0 (gw_cn (bt z) 14)).filter (gw_wa w h n s) ≠ [] := fun q => by
    have := List.mem_filter.mpr ⟨hE, hw⟩
    rw [q] at this; cases this
  obtain ⟨j, h1, h2⟩ := pk_least (fun j => (gw_E n 0 j).filter (gw_wa w h n s) ≠ []) ⟨_, hne⟩
  have hj : j ≤ gw_cn (bt z) 14 := by
    apply Classical.byContradiction
    intro q; exact h2 _ (by omega) hne
  have hp := gw_cn_le (bt z) 14
  have h0 : ∀ i, i < j → (gw_E n 0 i).filter (gw_wa w h n s) = [] := fun i hi => by
    apply Classical.byContradiction
    exact fun q => h2 i hi q
  cases hL : (gw_E n 0 j).filter (gw_wa w h n s) with
  | nil => exact absurd hL h1
  | cons t L =>
    have e1 := gw_so_at h0 hL
    have e2 := gw_so_st (w := w) (h := h) (n := n) (s := s) (m := j + 1) (by rw [e1]; simp) (14 - j)
    rw [show j + 1 + (14 - j) = 15 by omega] at e2
    exact ⟨j, by rw [gw_sl, e2, e1], hj⟩
theorem gw_lp_cut {α : Type} {F : Nat → α → α} {a : α} {n : Nat} (hF : ∀ k t, n ≤ k → F k t = t) : ∀ {N : Nat}, n ≤ N → gw_lp F a N = gw_lp F a n
  | 0, h => by
    have : n = 0 := by omega
    subst this; rfl
  | N + 1, h => by
    rcases Nat.lt_or_ge n (N + 1) with q | q
    · show F N (gw_lp F a N) = _
      rw [hF N _ (by omega)]; exact gw_lp_cut hF (by omega)
    · have : n = N + 1 := by omega
      subst this; rfl
/-- the rows that are being made, the first 600 of them -/
def gw_ar (f : Nat → mj_C) (G : List gw_Row) : Prop := ∃ mc mb mp mw, f 67 = mj_AI 601 mc ∧ f 68 = mj_AI 601 mb ∧ f 69 = mj_AI 601 mp ∧ f 70 = mj_AI 601 mw ∧ ∀ j, j < G.length → j < 600 → gw_rw G j = (mc j, mb j, mp j, mw j, (gw_rw G j).2.2.2.2)
def gw_re (f : Nat → mj_C) (w h kp rw : Nat) (tf fe fi ma : Int32) (G : List gw_Row) : Prop := f 55 = gw_mo w h kp rw tf (mj_bI (decide (600 < G.length))) fe fi ma (nI (min G.length 600)) ∧ gw_ar f G
theorem gw_rw_pre {P G : List gw_Row} (h : P <+: G) {j : Nat} (hj : j < P.length) : gw_rw G j = gw_rw P j := by
  obtain ⟨L, rfl⟩ := h
  rw [gw_rw, gw_rw, List.getElem?_append_left hj]
theorem gw_ar_pre {f : Nat → mj_C} {P G : List gw_Row} (h : P <+: G) (hP : 600 ≤ P.length) (hA : gw_ar f P) : gw_ar f G := by
  obtain ⟨mc, mb, mp, mw, a1, a2, a3, a4, a5⟩ := hA
  refine ⟨mc, mb, mp, mw, a1, a2, a3, a4, fun j _ hj => ?_⟩
  rw [gw_rw_pre h (by omega)]; exact a5 j (by omega) hj
theorem gw_ar_snoc {f : Nat → mj_C} {P : List gw_Row} {r : gw_Row} {mc mb mp mw : Nat → Int32} (hP : P.length < 600) (a5 : ∀ j, j < P.length → j < 600 → gw_rw P j = (mc j, mb j, mp j, mw j, (gw_rw P j).2.2.2.2)) (h1 : f 67 = mj_AI 601 (upd mc P.length r.1)) (h2 : f 68 = mj_AI 601 (upd mb P.length r.2.1)) (h3 : f 69 = mj_AI 601 (upd mp P.length r.2.2.1)) (h4 : f 70 = mj_AI 601 (upd mw P.length r.2.2.2.1)) : gw_ar f (P ++ [r]) := by
  refine ⟨_, _, _, _, h1, h2, h3, h4, fun j hj hj6 => ?_⟩
  rw [List.length_append, List.length_singleton] at hj
  by_cases e : j = P.length
  · subst e
    have : gw_rw (P ++ [r]) P.length = r := by rw [gw_rw, List.getElem?_append_right (Nat.le_refl _), Nat.sub_self]; rfl
    rw [this, pk_us, pk_us, pk_us, pk_us]
  · rw [pk_un e, pk_un e, pk_un e, pk_un e, gw_rw_pre (List.prefix_append P [r]) (by omega)]
    exact a5 j (by omega) hj6
theorem gw_ar_fr {L : List Nat} {f f' : Nat → mj_C} {G : List gw_Row} (hf : gw_fr L f f') (h1 : ∀ a, 67 ≤ a → a ≤ 70 → a ∉ L) (hA : gw_ar f G) : gw_ar f' G := by
  obtain ⟨rc, ra, rp, ry, a1, a2, a3, a4, a5⟩ := hA
  exact ⟨rc, ra, rp, ry, (hf _ (h1 _ (by decide) (by decide))).trans a1, (hf _ (h1 _ (by decide) (by decide))).trans a2, (hf _ (h1 _ (by decide) (by decide))).trans a3, (hf _ (h1 _ (by decide) (by decide))).trans a4, a5⟩
theorem gw_mk_row {f : Nat → mj_C} {w h kp rw : Nat} {tf fe fi ma : Int32} {P : List gw_Row} {mc mb mp mw : Nat → Int32} {r : gw_Row} (hlt : P.length < 600) (a5 : ∀ j, j < P.length → j < 600 → gw_rw P j = (mc j, mb j, mp j, mw j, (gw_rw P j).2.2.2.2)) (h55 : f 55 = gw_mo w h kp rw tf 0 fe fi ma (nI (P.length + 1))) (h1 : f 67 = mj_AI 601 (upd mc P.length r.1)) (h2 : f 68 = mj_AI 601 (upd mb P.length r.2.1)) (h3 : f 69 = mj_AI 601 (upd mp P.length r.2.2.1)) (h4 : f 70 = mj_AI 601 (upd mw P.length r.2.2.2.1)) : gw_re f w h kp rw tf fe fi ma (P ++ [r]) := by
  refine ⟨?_, gw_ar_snoc hlt a5 h1 h2 h3 h4⟩
  rw [List.length_append, List.length_singleton, show decide (600 < P.length + 1) = false by simp; omega, show min (P.length + 1) 600 = P.length + 1 by omega]
  exact h55
theorem gw_re_fr {L : List Nat} {f f' : Nat → mj_C} {w h kp rw : Nat} {tf fe fi ma : Int32} {G : List gw_Row} (hf : gw_fr L f f') (h0 : 55 ∉ L) (h1 : ∀ a, 67 ≤ a → a ≤ 70 → a ∉ L) (hR : gw_re f w h kp rw tf fe fi ma G) : gw_re f' w h kp rw tf fe fi ma G := ⟨(hf _ h0).trans hR.1, gw_ar_fr hf h1 hR.2⟩
theorem sp_Model_make_all {X : mj_X} {w h kp rw n N : Nat} {tf fe fi ma : Int32} {s wt : Nat → Int32} (hd : gw_dim w h) (hn14 : n ≤ 14) (hp : s 100 = nI n) (hN : N ≤ 6) (hwt : ∀ c, c < w * h → wt c = gw_wt w h n s c) (hno : ∀ z, gw_has n z = true → gw_cn (bt z) 14 ≤ N → gw_wa w h n s z = false) : ∀ (m : Nat), ∀ {d : Nat} {P : List gw_Row} {a c z : Int32} {σ : mj_H} {Q : mj_H → Prop}, gw_has n z = true → gw_cn (bt z) 14 + m = N → σ.1 56 = mj_AI 213 s → σ.1 58 = mj_AI 100 wt → gw_re σ.1 w h kp rw tf fe fi ma (P) → (∀ f, gw_fr [55, 67, 68, 69, 70] σ.1 f → gw_re f w h kp rw tf fe fi ma (gw_g w h n s m P a c z) → Q (f, σ.2)) → mj_M X (d + m + 2) y_Model_make [.ref 55, .int a, .int c, .int z, .int (nI N)] σ (mj_U Q) := by
  have hwh := gw_dim_le hd
  intro m
  induction m with
  | zero =>
    intro d P a c z σ Q hz hpc hs1 hW hR k
    obtain ⟨r55, rA⟩ := id hR
    obtain ⟨mc, mb, mp, mw, a1, a2, a3, a4, a5⟩ := id rA
    have hwaz := hno z hz (by omega)
    have hlo : ∃ q, q < w * h ∧ gw_lo w h n s z = some q ∧ gw_up w h n s z q = true := by
      cases e : gw_lo w h n s z with
      | none => rw [gw_wa, e] at hwaz; cases hwaz
      | some q => exact ⟨q, (gw_ff_spec e).1, rfl, (gw_ff_spec e).2⟩
    obtain ⟨cq, hcq, elo, eup⟩ := hlo
    have elu : gw_lu w h n s z = nI cq := by rw [gw_lu, elo]; rfl
    have ecs : gw_cs w h n s z = gw_wt w h n s cq := by rw [gw_cs, elu, gw_wo_nI (by omega), if_pos hcq]
    have ed : gw_dI (gw_lo w h n s z) = nI cq := by rw [elo]; rfl
    refine mw_in (l0 := [some (.ref 55), some (.int a), some (.int c), some (.int z), some (.int (nI N)), none, none]) rfl ?_
    rcases Nat.lt_or_ge P.length 600 with hlt | hge
    · skip
      have em : min P.length 600 = P.length := by omega
      rw [em, show decide (600 < P.length) = false by simp; omega] at r55
      refine mw_ld 1 i_Model_make_0 rfl rfl rfl ?_
      refine mw_get 4 i_Model_make_1 rfl (by repeat (first | exact mj_hs2 | exact mj_hs | assumption | refine mj_hn2 (by omega) ?_ | refine mj_hn (by omega) ?_)) (by rfl) ?_
      refine mw_k 7 i_Model_make_4 rfl ?_
      refine mw_ic1 i_Model_make_7 (fun q => by have := (nI_inj (b := 600) (by omega) (by decide)).mp q; omega) ?_
      refine mw_ld 16 i_Model_make_15 rfl rfl rfl ?_
      refine mw_get 19 i_Model_make_16 rfl (by repeat (first | exact mj_hs2 | exact mj_hs | assumption | refine mj_hn2 (by omega) ?_ | refine mj_hn (by omega) ?_)) (by rfl) ?_
      refine mw_if1 i_Model_make_19 rfl ?_
      refine mw_ld 24 i_Model_make_23 rfl rfl rfl ?_
      refine mw_get 27 i_Model_make_24 rfl (by repeat (first | exact mj_hs2 | exact mj_hs | assumption | refine mj_hn2 (by omega) ?_ | refine mj_hn (by omega) ?_)) (by rfl) ?_
      refine mw_st (ls' := [_, _, _, _, _, _, _]) 29 i_Model_make_27 rfl rfl rfl rfl ?_
      refine mw_ld 30 i_Model_make_29 rfl rfl rfl ?_
      refine mw_dup 31 i_Model_make_30 rfl rfl ?_
      refine mw_get 34 i_Model_make_31 rfl (by repeat (first | exact mj_hs2 | exact mj_hs | assumption | refine mj_hn2 (by omega) ?_ | refine mj_hn (by omega) ?_)) (by rfl) ?_
      refine mw_k 35 i_Model_make_34 rfl ?_
      refine mw_b 36 i_Model_make_35 rfl ?_
      rw [nI_1]
      refine mw_put (fs' := [_, _, _, _, _, _, _, _, _, _, _, _, _, _, _, _, _, _, _, _, _, _, _, _, _]) 39 i_Model_make_36 rfl (by repeat (first | exact mj_hs2 | exact mj_hs | assumption | refine mj_hn2 (by omega) ?_ | refine mj_hn (by omega) ?_)) (Nat.le_of_ble_eq_true rfl) rfl rfl (fun _ h => by cases h) (by rfl) ?_
      refine mw_ld 40 i_Model_make_39 rfl rfl rfl ?_
      refine mw_get 43 i_Model_make_40 rfl (by repeat (first | exact mj_hs2 | exact mj_hs | assumption | refine mj_hn2 (by omega) ?_ | refine mj_hn (by omega) ?_)) (by rfl) ?_
      refine mw_ld 45 i_Model_make_43 rfl rfl rfl ?_
      refine mw_ld 46 i_Model_make_45 rfl rfl rfl ?_
      refine mw_ld 47 i_Model_make_46 rfl rfl rfl ?_
      refine mw_cv1 50 i_Model_make_47 rfl (by repeat (first | exact mj_hs2 | exact mj_hs | assumption | refine mj_hn2 (by omega) ?_ | refine mj_hn (by omega) ?_)) (sp_Model_unseenBy (d := d) (σ := (_, σ.2)) (kp := kp) (rw := rw) (tf := tf) (fu := 0) (fe := fe) (fi := fi) (ma := ma) (md := nI (P.length + 1)) (by repeat (first | exact mj_hs2 | exact mj_hs | assumption | refine mj_hn2 (by omega) ?_ | refine mj_hn (by omega) ?_)) (by repeat (first | exact mj_hs2 | exact mj_hs | assumption | refine mj_hn2 (by omega) ?_ | refine mj_hn (by omega) ?_)) hd (by repeat (first | exact mj_hs2 | exact mj_hs | assumption | refine mj_hn2 (by omega) ?_ | refine mj_hn (by omega) ?_)) hwt ?_) rfl rfl (Nat.le_of_ble_eq_true rfl) (Nat.le_of_ble_eq_true rfl)
      rw [ed]
      refine mw_iast 51 P.length i_Model_make_50 rfl (by repeat (first | exact mj_hs2 | exact mj_hs | assumption | refine mj_hn2 (by omega) ?_ | refine mj_hn (by omega) ?_)) rfl (by omega) (by decide) ?_
      refine mw_ld 52 i_Model_make_51 rfl rfl rfl ?_
      refine mw_get 55 i_Model_make_52 rfl (by repeat (first | exact mj_hs2 | exact mj_hs | assumption | refine mj_hn2 (by omega) ?_ | refine mj_hn (by omega) ?_)) (by rfl) ?_
      refine mw_ld 57 i_Model_make_55 rfl rfl rfl ?_
      refine mw_ld 58 i_Model_make_57 rfl rfl rfl ?_
      refine mw_iast 59 P.length i_Model_make_58 rfl (by repeat (first | exact mj_hs2 | exact mj_hs | assumption | refine mj_hn2 (by omega) ?_ | refine mj_hn (by omega) ?_)) rfl (by omega) (by decide) ?_
      refine mw_ld 60 i_Model_make_59 rfl rfl rfl ?_
      refine mw_get 63 i_Model_make_60 rfl (by repeat (first | exact mj_hs2 | exact mj_hs | assumption | refine mj_hn2 (by omega) ?_ | refine mj_hn (by omega) ?_)) (by rfl) ?_
      refine mw_ld 65 i_Model_make_63 rfl rfl rfl ?_
      refine mw_ld 66 i_Model_make_65 rfl rfl rfl ?_
      refine mw_iast 67 P.length i_Model_make_66 rfl (by repeat (first | exact mj_hs2 | exact mj_hs | assumption | refine mj_hn2 (by omega) ?_ | refine mj_hn (by omega) ?_)) rfl (by omega) (by decide) ?_
      refine mw_ld 68 i_Model_make_67 rfl rfl rfl ?_
      refine mw_get 71 i_Model_make_68 rfl (by repeat (first | exact mj_hs2 | exact mj_hs | assumption | refine mj_hn2 (by omega) ?_ | refine mj_hn (by omega) ?_)) (by rfl) ?_
      refine mw_ld 73 i_Model_make_71 rfl rfl rfl ?_
      refine mw_ld 74 i_Model_make_73 rfl rfl rfl ?_
      refine mw_iast 75 P.length i_Model_make_74 rfl (by repeat (first | exact mj_hs2 | exact mj_hs | assumption | refine mj_hn2 (by omega) ?_ | refine mj_hn (by omega) ?_)) rfl (by omega) (by decide) ?_
      refine mw_k 76 i_Model_make_75 rfl ?_
      refine mw_st (ls' := [_, _, _, _, _, _, _]) 78 i_Model_make_76 rfl rfl rfl rfl ?_
      refine gw_heap (Q := fun f => mj_Wp X _ y_Model_make 78 _ [] (f, σ.2) (mj_U Q)) (f := _) ?_
      intro fx efx
      have q55 : fx 55 = gw_mo w h kp rw tf 0 fe fi ma (nI (P.length + 1)) := by rw [efx]; exact (by repeat (first | exact mj_hs2 | exact mj_hs | assumption | refine mj_hn2 (by omega) ?_ | refine mj_hn (by omega) ?_))
      have q67 : fx 67 = mj_AI 601 (upd mc P.length (nI cq)) := by rw [efx]; exact (by repeat (first | exact mj_hs2 | exact mj_hs | assumption | refine mj_hn2 (by omega) ?_ | refine mj_hn (by omega) ?_))
      have q68 : fx 68 = mj_AI 601 (upd mb P.length a) := by rw [efx]; exact (by repeat (first | exact mj_hs2 | exact mj_hs | assumption | refine mj_hn2 (by omega) ?_ | refine mj_hn (by omega) ?_))
      have q69 : fx 69 = mj_AI 601 (upd mp P.length c) := by rw [efx]; exact (by repeat (first | exact mj_hs2 | exact mj_hs | assumption | refine mj_hn2 (by omega) ?_ | refine mj_hn (by omega) ?_))
      have q70 : fx 70 = mj_AI 601 (upd mw P.length z) := by rw [efx]; exact (by repeat (first | exact mj_hs2 | exact mj_hs | assumption | refine mj_hn2 (by omega) ?_ | refine mj_hn (by omega) ?_))
      have hfr : gw_fr [55, 67, 68, 69, 70] σ.1 fx := by rw [efx]; exact (gw_fr_up (gw_fr_up (gw_fr_up (gw_fr_up (gw_fr_up (gw_fr_rf _ _) (by simp)) (by simp)) (by simp)) (by simp)) (by simp))
      clear efx
      have gsx : fx 56 = mj_AI 213 s := (hfr 56 (by decide)).trans hs1
      have gwx : fx 58 = mj_AI 100 wt := (hfr 58 (by decide)).trans hW
      have hre : gw_re fx w h kp rw tf fe fi ma (gw_g w h n s 0 P a c z) := by
        rw [gw_g]
        exact gw_mk_row (r := (gw_lu w h n s z, a, c, z, 0)) hlt a5 q55 (by rw [elu]; exact q67) q68 q69 q70
      rcases Nat.eq_zero_or_pos n with hn0 | hn0
      · subst hn0
        refine mw_ld 80 i_Model_make_78 rfl rfl rfl ?_
        refine mw_ld 81 i_Model_make_80 rfl rfl rfl ?_
        refine mw_cv1 84 i_Model_make_81 rfl (by assumption) (sp_Model_posts (σ := (fx, σ.2)) q55 gsx hp ?_) rfl rfl (Nat.le_of_ble_eq_true rfl) (Nat.le_of_ble_eq_true rfl)
        refine mw_ic1 i_Model_make_84 (by decide) ?_
        refine mw_rv i_Model_make_139 rfl ?_
        exact k fx hfr hre
      · skip
        refine mw_ld 80 i_Model_make_78 rfl rfl rfl ?_
        refine mw_ld 81 i_Model_make_80 rfl rfl rfl ?_
        refine mw_cv1 84 i_Model_make_81 rfl (by assumption) (sp_Model_posts (σ := (fx, σ.2)) q55 gsx hp ?_) rfl rfl (Nat.le_of_ble_eq_true rfl) (Nat.le_of_ble_eq_true rfl)
        refine mw_ic0 87 i_Model_make_84 rfl (nI_ge hn0 (by omega)) ?_
        refine mw_ld 88 i_Model_make_87 rfl rfl rfl ?_
        refine mw_cs1 91 i_Model_make_88 rfl (sp_Model_manyOf ?_) rfl rfl (Nat.le_of_ble_eq_true rfl) (Nat.le_of_ble_eq_true rfl)
        refine mw_ld 93 i_Model_make_91 rfl rfl rfl ?_
        refine mw_ic1 i_Model_make_93 (nI_le (by omega) (by omega)) ?_
        refine mw_rv i_Model_make_139 rfl ?_
        exact k fx hfr hre
    · skip
      refine mw_ld 1 i_Model_make_0 rfl rfl rfl ?_
      refine mw_get 4 i_Model_make_1 rfl (by repeat (first | exact mj_hs2 | exact mj_hs | assumption | refine mj_hn2 (by omega) ?_ | refine mj_hn (by omega) ?_)) (by rfl) ?_
      refine mw_k 7 i_Model_make_4 rfl ?_
      refine mw_ic0 10 i_Model_make_7 rfl (fun q => q (by rw [show min P.length 600 = 600 by omega]; rfl)) ?_
      refine mw_ld 11 i_Model_make_10 rfl rfl rfl ?_
      refine mw_k 12 i_Model_make_11 rfl ?_
      refine mw_put (fs' := [_, _, _, _, _, _, _, _, _, _, _, _, _, _, _, _, _, _, _, _, _, _, _, _, _]) 15 i_Model_make_12 rfl (by repeat (first | exact mj_hs2 | exact mj_hs | assumption | refine mj_hn2 (by omega) ?_ | refine mj_hn (by omega) ?_)) (Nat.le_of_ble_eq_true rfl) rfl rfl (fun _ h => by cases h) (by rfl) ?_
      refine mw_ld 16 i_Model_make_15 rfl rfl rfl ?_
      refine mw_get 19 i_Model_make_16 rfl (by repeat (first | exact mj_hs2 | exact mj_hs | assumption | refine mj_hn2 (by omega) ?_ | refine mj_hn (by omega) ?_)) (by rfl) ?_
      refine mw_if0 22 i_Model_make_19 rfl (by decide) ?_
      refine mw_rv i_Model_make_22 rfl ?_
      have hpre := gw_g_pre (w := w) (h := h) (n := n) (s := s) 0 P a c z
      have hlen := gw_g_len (w := w) (h := h) (n := n) (s := s) 0 P a c z
      have htp := gw_tl_pos (w := w) (h := h) (n := n) (s := s) (z := z) 0
      refine k _ (gw_fr_up (gw_fr_rf _ _) (by simp)) ⟨?_, gw_ar_fr (L := [55]) (gw_fr_up (gw_fr_rf _ _) (by simp)) (fun a _ _ => by simp; omega) (gw_ar_pre hpre hge rA)⟩
      rw [show decide (600 < (gw_g w h n s 0 P a c z).length) = true by simp; omega, show min (gw_g w h n s 0 P a c z).length 600 = min P.length 600 by omega]
      exact mj_hs
  | succ m ih =>
    intro d P a c z σ Q hz hpc hs1 hW hR k
    obtain ⟨r55, rA⟩ := id hR
    obtain ⟨mc, mb, mp, mw, a1, a2, a3, a4, a5⟩ := id rA
    have hwaz := hno z hz (by omega)
    have hlo : ∃ q, q < w * h ∧ gw_lo w h n s z = some q ∧ gw_up w h n s z q = true := by
      cases e : gw_lo w h n s z with
      | none => rw [gw_wa, e] at hwaz; cases hwaz
      | some q => exact ⟨q, (gw_ff_spec e).1, rfl, (gw_ff_spec e).2⟩
    obtain ⟨cq, hcq, elo, eup⟩ := hlo
    have elu : gw_lu w h n s z = nI cq := by rw [gw_lu, elo]; rfl
    have ecs : gw_cs w h n s z = gw_wt w h n s cq := by rw [gw_cs, elu, gw_wo_nI (by omega), if_pos hcq]
    have ed : gw_dI (gw_lo w h n s z) = nI cq := by rw [elo]; rfl
    refine mw_in (l0 := [some (.ref 55), some (.int a), some (.int c), some (.int z), some (.int (nI N)), none, none]) rfl ?_
    rcases Nat.lt_or_ge P.length 600 with hlt | hge
    · skip
      have em : min P.length 600 = P.length := by omega
      rw [em, show decide (600 < P.length) = false by simp; omega] at r55
      refine mw_ld 1 i_Model_make_0 rfl rfl rfl ?_
      refine mw_get 4 i_Model_make_1 rfl (by repeat (first | exact mj_hs2 | exact mj_hs | assumption | refine mj_hn2 (by omega) ?_ | refine mj_hn (by omega) ?_)) (by rfl) ?_
      refine mw_k 7 i_Model_make_4 rfl ?_
      refine mw_ic1 i_Model_make_7 (fun q => by have := (nI_inj (b := 600) (by omega) (by decide)).mp q; omega) ?_
      refine mw_ld 16 i_Model_make_15 rfl rfl rfl ?_
      refine mw_get 19 i_Model_make_16 rfl (by repeat (first | exact mj_hs2 | exact mj_hs | assumption | refine mj_hn2 (by omega) ?_ | refine mj_hn (by omega) ?_)) (by rfl) ?_
      refine mw_if1 i_Model_make_19 rfl ?_
      refine mw_ld 24 i_Model_make_23 rfl rfl rfl ?_
      refine mw_get 27 i_Model_make_24 rfl (by repeat (first | exact mj_hs2 | exact mj_hs | assumption | refine mj_hn2 (by omega) ?_ | refine mj_hn (by omega) ?_)) (by rfl) ?_
      refine mw_st (ls' := [_, _, _, _, _, _, _]) 29 i_Model_make_27 rfl rfl rfl rfl ?_
      refine mw_ld 30 i_Model_make_29 rfl rfl rfl ?_
      refine mw_dup 31 i_Model_make_30 rfl rfl ?_
      refine mw_get 34 i_Model_make_31 rfl (by repeat (first | exact mj_hs2 | exact mj_hs | assumption | refine mj_hn2 (by omega) ?_ | refine mj_hn (by omega) ?_)) (by rfl) ?_
      refine mw_k 35 i_Model_make_34 rfl ?_
      refine mw_b 36 i_Model_make_35 rfl ?_
      rw [nI_1]
      refine mw_put (fs' := [_, _, _, _, _, _, _, _, _, _, _, _, _, _, _, _, _, _, _, _, _, _, _, _, _]) 39 i_Model_make_36 rfl (by repeat (first | exact mj_hs2 | exact mj_hs | assumption | refine mj_hn2 (by omega) ?_ | refine mj_hn (by omega) ?_)) (Nat.le_of_ble_eq_true rfl) rfl rfl (fun _ h => by cases h) (by rfl) ?_
      refine mw_ld 40 i_Model_make_39 rfl rfl rfl ?_
      refine mw_get 43 i_Model_make_40 rfl (by repeat (first | exact mj_hs2 | exact mj_hs | assumption | refine mj_hn2 (by omega) ?_ | refine mj_hn (by omega) ?_)) (by rfl) ?_
      refine mw_ld 45 i_Model_make_43 rfl rfl rfl ?_
      refine mw_ld 46 i_Model_make_45 rfl rfl rfl ?_
      refine mw_ld 47 i_Model_make_46 rfl rfl rfl ?_
      refine mw_cv1 50 i_Model_make_47 rfl (by repeat (first | exact mj_hs2 | exact mj_hs | assumption | refine mj_hn2 (by omega) ?_ | refine mj_hn (by omega) ?_)) (sp_Model_unseenBy (d := d + m + 1) (σ := (_, σ.2)) (kp := kp) (rw := rw) (tf := tf) (fu := 0) (fe := fe) (fi := fi) (ma := ma) (md := nI (P.length + 1)) (by repeat (first | exact mj_hs2 | exact mj_hs | assumption | refine mj_hn2 (by omega) ?_ | refine mj_hn (by omega) ?_)) (by repeat (first | exact mj_hs2 | exact mj_hs | assumption | refine mj_hn2 (by omega) ?_ | refine mj_hn (by omega) ?_)) hd (by repeat (first | exact mj_hs2 | exact mj_hs | assumption | refine mj_hn2 (by omega) ?_ | refine mj_hn (by omega) ?_)) hwt ?_) rfl rfl (Nat.le_of_ble_eq_true rfl) (Nat.le_of_ble_eq_true rfl)
      rw [ed]
      refine mw_iast 51 P.length i_Model_make_50 rfl (by repeat (first | exact mj_hs2 | exact mj_hs | assumption | refine mj_hn2 (by omega) ?_ | refine mj_hn (by omega) ?_)) rfl (by omega) (by decide) ?_
      refine mw_ld 52 i_Model_make_51 rfl rfl rfl ?_
      refine mw_get 55 i_Model_make_52 rfl (by repeat (first | exact mj_hs2 | exact mj_hs | assumption | refine mj_hn2 (by omega) ?_ | refine mj_hn (by omega) ?_)) (by rfl) ?_
      refine mw_ld 57 i_Model_make_55 rfl rfl rfl ?_
      refine mw_ld 58 i_Model_make_57 rfl rfl rfl ?_
      refine mw_iast 59 P.length i_Model_make_58 rfl (by repeat (first | exact mj_hs2 | exact mj_hs | assumption | refine mj_hn2 (by omega) ?_ | refine mj_hn (by omega) ?_)) rfl (by omega) (by decide) ?_
      refine mw_ld 60 i_Model_make_59 rfl rfl rfl ?_
      refine mw_get 63 i_Model_make_60 rfl (by repeat (first | exact mj_hs2 | exact mj_hs | assumption | refine mj_hn2 (by omega) ?_ | refine mj_hn (by omega) ?_)) (by rfl) ?_
      refine mw_ld 65 i_Model_make_63 rfl rfl rfl ?_
      refine mw_ld 66 i_Model_make_65 rfl rfl rfl ?_
      refine mw_iast 67 P.length i_Model_make_66 rfl (by repeat (first | exact mj_hs2 | exact mj_hs | assumption | refine mj_hn2 (by omega) ?_ | refine mj_hn (by omega) ?_)) rfl (by omega) (by decide) ?_
      refine mw_ld 68 i_Model_make_67 rfl rfl rfl ?_
      refine mw_get 71 i_Model_make_68 rfl (by repeat (first | exact mj_hs2 | exact mj_hs | assumption | refine mj_hn2 (by omega) ?_ | refine mj_hn (by omega) ?_)) (by rfl) ?_
      refine mw_ld 73 i_Model_make_71 rfl rfl rfl ?_
      refine mw_ld 74 i_Model_make_73 rfl rfl rfl ?_
      refine mw_iast 75 P.length i_Model_make_74 rfl (by repeat (first | exact mj_hs2 | exact mj_hs | assumption | refine mj_hn2 (by omega) ?_ | refine mj_hn (by omega) ?_)) rfl (by omega) (by decide) ?_
      refine mw_k 76 i_Model_make_75 rfl ?_
      refine mw_st (ls' := [_, _, _, _, _, _, _]) 78 i_Model_make_76 rfl rfl rfl rfl ?_
      refine gw_heap (Q := fun f => mj_Wp X _ y_Model_make 78 _ [] (f, σ.2) (mj_U Q)) (f := _) ?_
      intro fx efx
      have q55 : fx 55 = gw_mo w h kp rw tf 0 fe fi ma (nI (P.length + 1)) := by rw [efx]; exact (by repeat (first | exact mj_hs2 | exact mj_hs | assumption | refine mj_hn2 (by omega) ?_ | refine mj_hn (by omega) ?_))
      have q67 : fx 67 = mj_AI 601 (upd mc P.length (nI cq)) := by rw [efx]; exact (by repeat (first | exact mj_hs2 | exact mj_hs | assumption | refine mj_hn2 (by omega) ?_ | refine mj_hn (by omega) ?_))
      have q68 : fx 68 = mj_AI 601 (upd mb P.length a) := by rw [efx]; exact (by repeat (first | exact mj_hs2 | exact mj_hs | assumption | refine mj_hn2 (by omega) ?_ | refine mj_hn (by omega) ?_))
      have q69 : fx 69 = mj_AI 601 (upd mp P.length c) := by rw [efx]; exact (by repeat (first | exact mj_hs2 | exact mj_hs | assumption | refine mj_hn2 (by omega) ?_ | refine mj_hn (by omega) ?_))
      have q70 : fx 70 = mj_AI 601 (upd mw P.length z) := by rw [efx]; exact (by repeat (first | exact mj_hs2 | exact mj_hs | assumption | refine mj_hn2 (by omega) ?_ | refine mj_hn (by omega) ?_))
      have hfr : gw_fr [55, 67, 68, 69, 70] σ.1 fx := by rw [efx]; exact (gw_fr_up (gw_fr_up (gw_fr_up (gw_fr_up (gw_fr_up (gw_fr_rf _ _) (by simp)) (by simp)) (by simp)) (by simp)) (by simp))
      clear efx
      have gsx : fx 56 = mj_AI 213 s := (hfr 56 (by decide)).trans hs1
      have gwx : fx 58 = mj_AI 100 wt := (hfr 58 (by decide)).trans hW
      have hre : gw_re fx w h kp rw tf fe fi ma (P ++ [(gw_lu w h n s z, a, c, z, gw_cs w h n s z)]) := gw_mk_row (r := (gw_lu w h n s z, a, c, z, gw_cs w h n s z)) hlt a5 q55 (by rw [elu]; exact q67) q68 q69 q70
      have hlp14 : gw_lp (fun k P' => if bt (gw_cs w h n s z) k then gw_g w h n s m P' (nI P.length) (nI k) (z ||| gw_bit k) else P') (P ++ [(gw_lu w h n s z, a, c, z, gw_cs w h n s z)]) 14 = gw_lp (fun k P' => if bt (gw_cs w h n s z) k then gw_g w h n s m P' (nI P.length) (nI k) (z ||| gw_bit k) else P') (P ++ [(gw_lu w h n s z, a, c, z, gw_cs w h n s z)]) n := gw_lp_cut (fun k t hk => by (try dsimp only); rw [if_neg (by rw [ecs, gw_wt_bt hn14]; simp; omega)]) hn14
      refine mj_for (S := Nat → mj_C) (fun i f => mj_Wp X (d + (m + 1) + 2) y_Model_make 78 [some (.ref 55), some (.int a), some (.int c), some (.int z), some (.int (nI N)), some (.int (nI P.length)), some (.int (nI i))] [] (f, σ.2) (mj_U Q)) (fun i f => gw_fr [55, 67, 68, 69, 70] σ.1 f ∧ gw_re f w h kp rw tf fe fi ma (gw_lp (fun k P' => if bt (gw_cs w h n s z) k then gw_g w h n s m P' (nI P.length) (nI k) (z ||| gw_bit k) else P') (P ++ [(gw_lu w h n s z, a, c, z, gw_cs w h n s z)]) i)) n ?_ ?_ 0 fx (Nat.zero_le _) ⟨hfr, hre⟩
      · rintro f ⟨g1, g2⟩
        obtain ⟨g55, -⟩ := id g2
        have gs : f 56 = mj_AI 213 s := (g1 56 (by decide)).trans hs1
        rw [← hlp14, ← gw_g_s] at g2
        refine mw_ld 80 i_Model_make_78 rfl rfl rfl ?_
        refine mw_ld 81 i_Model_make_80 rfl rfl rfl ?_
        refine mw_cv1 84 i_Model_make_81 rfl (by assumption) (sp_Model_posts (σ := (f, σ.2)) g55 gs hp ?_) rfl rfl (Nat.le_of_ble_eq_true rfl) (Nat.le_of_ble_eq_true rfl)
        refine mw_ic1 i_Model_make_84 (nI_le (Nat.le_refl _) (by omega)) ?_
        refine mw_rv i_Model_make_139 rfl ?_
        exact k f g1 g2
      · rintro i f hi ⟨g1, g2⟩ ih2
        obtain ⟨g55, b1', b2', b3', b4', b1, b2, b3, b4, b5⟩ := id g2
        have gs : f 56 = mj_AI 213 s := (g1 56 (by decide)).trans hs1
        have gwf : f 58 = mj_AI 100 wt := (g1 58 (by decide)).trans hW
        have hpreL : (P ++ [(gw_lu w h n s z, a, c, z, gw_cs w h n s z)]) <+: gw_lp (fun k P' => if bt (gw_cs w h n s z) k then gw_g w h n s m P' (nI P.length) (nI k) (z ||| gw_bit k) else P') (P ++ [(gw_lu w h n s z, a, c, z, gw_cs w h n s z)]) i := gw_lp_pre (i := 0) (fun k t => by (try dsimp only); split; exact gw_g_pre _ _ _ _ _; exact List.prefix_rfl) (Nat.zero_le i)
        have hlL := hpreL.length_le
        rw [List.length_append, List.length_singleton] at hlL
        have ecell : b1' P.length = nI cq := by
          have h1 := b5 P.length (by omega) hlt
          rw [gw_rw_pre hpreL (by rw [List.length_append, List.length_singleton]; omega)] at h1
          have h2 : gw_rw (P ++ [(gw_lu w h n s z, a, c, z, gw_cs w h n s z)]) P.length = (gw_lu w h n s z, a, c, z, gw_cs w h n s z) := by rw [gw_rw, List.getElem?_append_right (Nat.le_refl _), Nat.sub_self]; rfl
          rw [h2, elu] at h1
          exact (congrArg Prod.fst h1).symm
        have htb := gw_tb (gw_cs w h n s z) (k := i) (by omega)
        by_cases hbit : bt (gw_cs w h n s z) i = true
        · have hzi : bt z i = false := by
            cases e : bt z i with
            | false => rfl
            | true =>
              exfalso
              have h1 : gw_wt w h n s cq &&& z = 0 := by
                have h3 := eup
                rw [gw_up, Bool.and_eq_true, beq_iff_eq, beq_iff_eq] at h3
                exact h3.2
              rw [ecs] at hbit
              exact (gw_and0.mp h1) i (by omega) ⟨hbit, e⟩
          have hz2 : gw_has n (z ||| gw_bit i) = true := (gw_has_iff hn14).mpr (fun j h1 h2 => by rw [gw_bt_orb (by omega), (gw_has_iff hn14).mp hz j h1 h2]; simp; omega)
          have hpc2 : gw_cn (bt (z ||| gw_bit i)) 14 + m = N := by
            rw [gw_cn_set (p := bt z) (i := i) (fun x => gw_bt_orb (by omega)) hzi (by omega)]; omega
          refine mw_ld 80 i_Model_make_78 rfl rfl rfl ?_
          refine mw_ld 81 i_Model_make_80 rfl rfl rfl ?_
          refine mw_cv1 84 i_Model_make_81 rfl (by assumption) (sp_Model_posts (σ := (f, σ.2)) g55 gs hp ?_) rfl rfl (Nat.le_of_ble_eq_true rfl) (Nat.le_of_ble_eq_true rfl)
          refine mw_ic0 87 i_Model_make_84 rfl (nI_ge hi (by omega)) ?_
          refine mw_ld 88 i_Model_make_87 rfl rfl rfl ?_
          refine mw_cs1 91 i_Model_make_88 rfl (sp_Model_manyOf ?_) rfl rfl (Nat.le_of_ble_eq_true rfl) (Nat.le_of_ble_eq_true rfl)
          refine mw_ld 93 i_Model_make_91 rfl rfl rfl ?_
          refine mw_ic0 96 i_Model_make_93 rfl (nI_ge (by omega) (by omega)) ?_
          refine mw_ld 97 i_Model_make_96 rfl rfl rfl ?_
          refine mw_get 100 i_Model_make_97 rfl (by assumption) (by rfl) ?_
          refine mw_ld 101 i_Model_make_100 rfl rfl rfl ?_
          refine mw_get 104 i_Model_make_101 rfl (by assumption) (by rfl) ?_
          refine mw_ld 106 i_Model_make_104 rfl rfl rfl ?_
          refine mw_iald 107 P.length i_Model_make_106 rfl b1 rfl (by omega) (by decide) ?_
          rw [ecell]
          refine mw_iald 108 cq i_Model_make_107 rfl gwf rfl (by omega) (by decide) ?_
          rw [hwt cq hcq, ← ecs]
          refine mw_ld 110 i_Model_make_108 rfl rfl rfl ?_
          refine mw_b 111 i_Model_make_110 rfl ?_
          refine mw_k 112 i_Model_make_111 rfl ?_
          refine mw_b 113 i_Model_make_112 rfl ?_
          refine mw_k 114 i_Model_make_113 rfl ?_
          refine mw_ic0 117 i_Model_make_114 rfl (fun q => q (htb.mpr hbit)) ?_
          refine mw_ld 118 i_Model_make_117 rfl rfl rfl ?_
          refine mw_ld 120 i_Model_make_118 rfl rfl rfl ?_
          refine mw_ld 122 i_Model_make_120 rfl rfl rfl ?_
          refine mw_ld 123 i_Model_make_122 rfl rfl rfl ?_
          refine mw_k 124 i_Model_make_123 rfl ?_
          refine mw_ld 126 i_Model_make_124 rfl rfl rfl ?_
          refine mw_b 127 i_Model_make_126 rfl ?_
          refine mw_b 128 i_Model_make_127 rfl ?_
          refine mw_ld 130 i_Model_make_128 rfl rfl rfl ?_
          refine mw_cv0 133 i_Model_make_130 rfl (by assumption) (ih (d := d) (σ := (f, σ.2)) (P := gw_lp (fun k P' => if bt (gw_cs w h n s z) k then gw_g w h n s m P' (nI P.length) (nI k) (z ||| gw_bit k) else P') (P ++ [(gw_lu w h n s z, a, c, z, gw_cs w h n s z)]) i) (a := nI P.length) (c := nI i) (z := z ||| gw_bit i) hz2 hpc2 gs gwf g2 (fun f3 y1 y2 => ?_)) rfl rfl (Nat.le_of_ble_eq_true rfl) (Nat.le_of_ble_eq_true rfl)
          refine mw_inc (ls' := [_, _, _, _, _, _, _]) 136 (nI (i + 1)) i_Model_make_133 rfl rfl rfl (nI_1 i) rfl ?_
          refine mw_go i_Model_make_136 ?_
          refine ih2 f3 ⟨gw_fr_tr g1 y1, ?_⟩
          rw [gw_lp]; (try dsimp only); rw [if_pos hbit]; exact y2
        · skip
          refine mw_ld 80 i_Model_make_78 rfl rfl rfl ?_
          refine mw_ld 81 i_Model_make_80 rfl rfl rfl ?_
          refine mw_cv1 84 i_Model_make_81 rfl (by assumption) (sp_Model_posts (σ := (f, σ.2)) g55 gs hp ?_) rfl rfl (Nat.le_of_ble_eq_true rfl) (Nat.le_of_ble_eq_true rfl)
          refine mw_ic0 87 i_Model_make_84 rfl (nI_ge hi (by omega)) ?_
          refine mw_ld 88 i_Model_make_87 rfl rfl rfl ?_
          refine mw_cs1 91 i_Model_make_88 rfl (sp_Model_manyOf ?_) rfl rfl (Nat.le_of_ble_eq_true rfl) (Nat.le_of_ble_eq_true rfl)
          refine mw_ld 93 i_Model_make_91 rfl rfl rfl ?_
          refine mw_ic0 96 i_Model_make_93 rfl (nI_ge (by omega) (by omega)) ?_
          refine mw_ld 97 i_Model_make_96 rfl rfl rfl ?_
          refine mw_get 100 i_Model_make_97 rfl (by assumption) (by rfl) ?_
          refine mw_ld 101 i_Model_make_100 rfl rfl rfl ?_
          refine mw_get 104 i_Model_make_101 rfl (by assumption) (by rfl) ?_
          refine mw_ld 106 i_Model_make_104 rfl rfl rfl ?_
          refine mw_iald 107 P.length i_Model_make_106 rfl b1 rfl (by omega) (by decide) ?_
          rw [ecell]
          refine mw_iald 108 cq i_Model_make_107 rfl gwf rfl (by omega) (by decide) ?_
          rw [hwt cq hcq, ← ecs]
          refine mw_ld 110 i_Model_make_108 rfl rfl rfl ?_
          refine mw_b 111 i_Model_make_110 rfl ?_
          refine mw_k 112 i_Model_make_111 rfl ?_
          refine mw_b 113 i_Model_make_112 rfl ?_
          refine mw_k 114 i_Model_make_113 rfl ?_
          refine mw_ic1 i_Model_make_114 (fun q => hbit (htb.mp q)) ?_
          refine mw_inc (ls' := [_, _, _, _, _, _, _]) 136 (nI (i + 1)) i_Model_make_133 rfl rfl rfl (nI_1 i) rfl ?_
          refine mw_go i_Model_make_136 ?_
          refine ih2 f ⟨g1, ?_⟩
          rw [gw_lp]; (try dsimp only); rw [if_neg hbit]; exact g2
    · skip
      refine mw_ld 1 i_Model_make_0 rfl rfl rfl ?_
      refine mw_get 4 i_Model_make_1 rfl (by repeat (first | exact mj_hs2 | exact mj_hs | assumption | refine mj_hn2 (by omega) ?_ | refine mj_hn (by omega) ?_)) (by rfl) ?_
      refine mw_k 7 i_Model_make_4 rfl ?_
      refine mw_ic0 10 i_Model_make_7 rfl (fun q => q (by rw [show min P.length 600 = 600 by omega]; rfl)) ?_
      refine mw_ld 11 i_Model_make_10 rfl rfl rfl ?_
      refine mw_k 12 i_Model_make_11 rfl ?_
      refine mw_put (fs' := [_, _, _, _, _, _, _, _, _, _, _, _, _, _, _, _, _, _, _, _, _, _, _, _, _]) 15 i_Model_make_12 rfl (by repeat (first | exact mj_hs2 | exact mj_hs | assumption | refine mj_hn2 (by omega) ?_ | refine mj_hn (by omega) ?_)) (Nat.le_of_ble_eq_true rfl) rfl rfl (fun _ h => by cases h) (by rfl) ?_
      refine mw_ld 16 i_Model_make_15 rfl rfl rfl ?_
      refine mw_get 19 i_Model_make_16 rfl (by repeat (first | exact mj_hs2 | exact mj_hs | assumption | refine mj_hn2 (by omega) ?_ | refine mj_hn (by omega) ?_)) (by rfl) ?_
      refine mw_if0 22 i_Model_make_19 rfl (by decide) ?_
      refine mw_rv i_Model_make_22 rfl ?_
      have hpre := gw_g_pre (w := w) (h := h) (n := n) (s := s) (m + 1) P a c z
      have hlen := gw_g_len (w := w) (h := h) (n := n) (s := s) (m + 1) P a c z
      have htp := gw_tl_pos (w := w) (h := h) (n := n) (s := s) (z := z) (m + 1)
      refine k _ (gw_fr_up (gw_fr_rf _ _) (by simp)) ⟨?_, gw_ar_fr (L := [55]) (gw_fr_up (gw_fr_rf _ _) (by simp)) (fun a _ _ => by simp; omega) (gw_ar_pre hpre hge rA)⟩
      rw [show decide (600 < (gw_g w h n s (m + 1) P a c z).length) = true by simp; omega, show min (gw_g w h n s (m + 1) P a c z).length 600 = min P.length 600 by omega]
      exact mj_hs
