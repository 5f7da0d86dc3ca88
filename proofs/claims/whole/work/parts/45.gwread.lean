/-! the class: what is asked of it -/
def gw_keep (f f' : Nat → mj_C) : Prop := ∀ a, 55 ≤ a → f' a = f a
theorem gw_keep_fr {L : List Nat} {f f' : Nat → mj_C} (hf : gw_fr L f f') (hL : ∀ a ∈ L, a < 55) : gw_keep f f' := fun a ha => hf a (fun q => by have := hL a q; omega)
theorem gw_keep_tr {f f' f'' : Nat → mj_C} (h1 : gw_keep f f') (h2 : gw_keep f' f'') : gw_keep f f'' := fun a ha => (h2 a ha).trans (h1 a ha)
theorem gw_keep_rf (f : Nat → mj_C) : gw_keep f f := fun _ _ => rfl
theorem gw_isP_of {n : Nat} {z : Int32} (h : gw_isP n z = true) : ∃ i, i < n ∧ z = nI i := by
  obtain ⟨h1, h2⟩ := gw_isP_iff.mp h
  exact ⟨z.toInt.toNat, by omega, mj_of h1⟩
theorem gw_tn {q : Nat} (h : q < 2147483648) : (nI q).toInt.toNat = q := by rw [mj_nI q h]; rfl
theorem gw_in_iff {z a b : Int32} : gw_in z a b = true ↔ a.toInt ≤ z.toInt ∧ z.toInt ≤ b.toInt := by
  simp only [gw_in, Bool.and_eq_true, Bool.not_eq_true', decide_eq_false_iff_not, mj_lt]; omega
theorem gw_in_of {z : Int32} {k : Nat} (hk : k < 2147483648) (h : gw_in z 0 (nI k) = true) : ∃ i, i ≤ k ∧ z = nI i := by
  obtain ⟨h1, h2⟩ := gw_in_iff.mp h
  rw [mj_nI k hk] at h2
  have h1 : 0 ≤ z.toInt := h1
  exact ⟨z.toInt.toNat, by omega, mj_of h1⟩
theorem gw_nt {b : Bool} (h : ¬ b = true) : b = false := by simpa using h
/-! what the calls answer -/
def a_isWall (w h : Nat) (s : Nat → Int32) (c : Int32) : Int32 := if gw_ce w h c then mj_bI (!gw_op w h s c) else gw_BAD
def a_sight (w h : Nat) (s : Nat → Int32) (a b : Int32) : Int32 := if gw_ce w h a then if gw_ce w h b then mj_bI (gw_si w h s a.toInt.toNat b.toInt.toNat) else gw_BAD else gw_BAD
def a_sees (w h n : Nat) (s : Nat → Int32) (z c : Int32) : Int32 := if gw_isP n z then if gw_ce w h c then (gw_wo w h n s c >>> (z &&& 31)) &&& 1 else gw_BAD else gw_BAD
def a_num (w h n : Nat) (s : Nat → Int32) (z : Int32) : Int32 := nI (gw_cn (fun c => !(gw_wt w h n s c &&& z == 0)) (w * h))
def a_region (w h n : Nat) (s : Nat → Int32) (z : Int32) : Int32 := if gw_isP n z then a_num w h n s ((1 : Int32) <<< (z &&& 31)) else gw_BAD
def a_watchers (w h n : Nat) (s : Nat → Int32) (c : Int32) : Int32 := if gw_ce w h c then gw_wo w h n s c else gw_BAD
def a_blind (w h n : Nat) (s : Nat → Int32) (z : Int32) : Int32 := if gw_has n z then gw_lu w h n s z else gw_BAD
def a_seen (w h n : Nat) (s : Nat → Int32) (z : Int32) : Int32 := if gw_has n z then a_num w h n s z else gw_BAD
def a_spare (w h n : Nat) (s : Nat → Int32) (z : Int32) : Int32 := if gw_has n z then if gw_lu w h n s z = gw_NONE then gw_fm (gw_sp w h n s z) 14 else gw_NO else gw_BAD
def a_only (w h n : Nat) (s : Nat → Int32) : Int32 := if gw_lu w h n s (gw_all n) = gw_NONE then gw_all n &&& (gw_fm (gw_sp w h n s (gw_all n)) 14 ^^^ (-1)) else gw_NONE
noncomputable def a_sneak (w h n : Nat) (s : Nat → Int32) (a b : Int32) : Int32 := if gw_ce w h a then if gw_ce w h b then gw_oI (gw_di w h (gw_UU w h n s) b.toInt.toNat a.toInt.toNat) else gw_BAD else gw_BAD
noncomputable def a_way (w h n : Nat) (s : Nat → Int32) (a b i : Int32) : Int32 := if gw_ce w h a then if gw_ce w h b then if 0 ≤ i then gw_way w h n s a.toInt.toNat b.toInt.toNat i.toInt.toNat else gw_BAD else gw_BAD else gw_BAD
noncomputable def a_hides (w h n : Nat) (s : Nat → Int32) : Int32 := nI (gw_cn (gw_rt w h (gw_UU w h n s)) (w * h))
def gw_rw (P : List gw_Row) (i : Nat) : gw_Row := (P[i]?).getD (0, 0, 0, 0, 0)
def a_row (P : List gw_Row) (i what : Int32) : Int32 := if P.length = 0 then gw_NO else if gw_isP P.length i then
  if what = 0 then (gw_rw P i.toInt.toNat).1 else if what = 1 then (gw_rw P i.toInt.toNat).2.1 else if what = 2 then (gw_rw P i.toInt.toNat).2.2.1 else if what = 3 then gw_pc (gw_rw P i.toInt.toNat).2.2.2.2 else gw_BAD else gw_BAD
def a_check (w h n : Nat) (s : Nat → Int32) (P : List gw_Row) (sz : Int32) : Int32 := if P.length = 0 then gw_NO else match gw_ff (fun i => !gw_rg w h n s sz (gw_rw P i).1 (gw_rw P i).2.2.2.1 (gw_rw P i).2.2.2.2) P.length with
  | none => 0
  | some i => 1 + nI i
def a_count (w h n : Nat) (s : Nat → Int32) (kp : Nat) (P : List gw_Row) (z : Int32) : Int32 := if z = 0 then nI (w * h) else if z = 1 then nI (gw_cn (fun c => s c == 0) (w * h)) else if z = 2 then nI n else if z = 3 then nI kp else if z = 4 then nI P.length else if z = 5 then nI (gw_cn (gw_us w h n s) (w * h)) else if z = 6 then nI w else gw_BAD
def a_isOf (n : Nat) (s : Nat → Int32) (p k : Int32) : Int32 := if gw_isP n p then if gw_kind k then mj_bI (gw_isOf (s (115 + p.toInt.toNat)) k) else gw_BAD else gw_BAD
def gw_pv (s : Nat → Int32) (k j : Nat) : Int32 := match (gw_po s k)[j]? with
  | some (.int v) => v
  | _ => 0
def a_about (n : Nat) (s : Nat → Int32) (p z : Int32) : Int32 := if gw_isP n p then if z = 0 then gw_pv s p.toInt.toNat 0 else if z = 1 then gw_pv s p.toInt.toNat 1 else if z = 2 then gw_pv s p.toInt.toNat 2 else if z = 3 then gw_pv s p.toInt.toNat 3 else if z = 4 then gw_pv s p.toInt.toNat 4 else if z = 5 then gw_pv s p.toInt.toNat 5 else gw_BAD else gw_BAD
theorem gw_ne_lit {z : Int32} {k : Nat} (hk : k < 2147483648) (h : ¬ z = nI k) : z.toInt ≠ (k : Int) := fun q => h ((mj_eq _ _).mpr (by rw [mj_nI k hk]; exact q))
theorem sp_GW_isWall {X : mj_X} {d : Nat} {σ : mj_H} {Q : Value → mj_H → Prop} {w h n : Nat} {s : Nat → Int32} {kp : Nat} {hn : Nat → Nat} {hs : Nat → Nat → Int32} {P : List gw_Row} {sz : Int32} (hI : gw_CI σ.1 w h n s kp hn hs P sz) (hd : gw_dim w h) (hn14 : n ≤ 14) (hv : gw_vp w h n s) {c : Int32} (k : Q (.int (a_isWall w h s c)) σ) : mj_M X (d + 20) y_GW_isWall [.ref 0, .int c] σ (mj_V Q) := by
  obtain ⟨x1, x2, ⟨w6, h6, n6, s6, x3⟩, ⟨nx, x4⟩, x5, x6, ⟨st, qu, x7⟩, ce, ab, co, wy, bl, x8, x9⟩ := id hI
  obtain ⟨wl1, ps1, r1, -⟩ := id x2
  have hwh := gw_dim_le hd
  refine mw_in (l0 := [some (.ref 0), some (.int c)]) rfl ?_
  by_cases hc : gw_ce w h c = true
  · skip
    refine mw_ld 1 i_GW_isWall_0 rfl rfl rfl ?_
    refine mw_get 4 i_GW_isWall_1 rfl (by assumption) (by rfl) ?_
    refine mw_ld 5 i_GW_isWall_4 rfl rfl rfl ?_
    refine mw_cv1 8 i_GW_isWall_5 rfl (by assumption) (sp_Room_hasCell hd x2 ?_) rfl rfl (Nat.le_of_ble_eq_true rfl) (Nat.le_of_ble_eq_true rfl)
    refine mw_if1 i_GW_isWall_8 (mj_bI1.mpr hc) ?_
    refine mw_ld 15 i_GW_isWall_14 rfl rfl rfl ?_
    refine mw_get 18 i_GW_isWall_15 rfl (by assumption) (by rfl) ?_
    refine mw_ld 19 i_GW_isWall_18 rfl rfl rfl ?_
    refine mw_cv1 22 i_GW_isWall_19 rfl (by assumption) (sp_Room_isOpen hd x2 ?_) rfl rfl (Nat.le_of_ble_eq_true rfl) (Nat.le_of_ble_eq_true rfl)
    refine mw_if 25 i_GW_isWall_22 rfl (fun h22 => ?_) (fun h22 => ?_)
    · refine mw_k 30 i_GW_isWall_29 rfl ?_
      refine mw_cs1 33 i_GW_isWall_30 rfl (sp_GW_bit2 (b := !gw_op w h s c) (by simp_all [mj_bI]) ?_) rfl rfl (Nat.le_of_ble_eq_true rfl) (Nat.le_of_ble_eq_true rfl)
      refine mw_ri i_GW_isWall_33 rfl rfl ?_
      rw [a_isWall, if_pos hc] at k
      exact k
    · refine mw_k 26 i_GW_isWall_25 rfl ?_
      refine mw_go i_GW_isWall_26 ?_
      refine mw_cs1 33 i_GW_isWall_30 rfl (sp_GW_bit2 (b := !gw_op w h s c) (by simp_all [mj_bI]) ?_) rfl rfl (Nat.le_of_ble_eq_true rfl) (Nat.le_of_ble_eq_true rfl)
      refine mw_ri i_GW_isWall_33 rfl rfl ?_
      rw [a_isWall, if_pos hc] at k
      exact k
  · skip
    refine mw_ld 1 i_GW_isWall_0 rfl rfl rfl ?_
    refine mw_get 4 i_GW_isWall_1 rfl (by assumption) (by rfl) ?_
    refine mw_ld 5 i_GW_isWall_4 rfl rfl rfl ?_
    refine mw_cv1 8 i_GW_isWall_5 rfl (by assumption) (sp_Room_hasCell hd x2 ?_) rfl rfl (Nat.le_of_ble_eq_true rfl) (Nat.le_of_ble_eq_true rfl)
    refine mw_if0 11 i_GW_isWall_8 rfl (fun q => q (mj_bI0.mpr (gw_nt hc))) ?_
    refine mw_k 13 i_GW_isWall_11 rfl ?_
    refine mw_ri i_GW_isWall_13 rfl rfl ?_
    rw [a_isWall, if_neg hc] at k
    exact k
theorem sp_GW_sight {X : mj_X} {d : Nat} {σ : mj_H} {Q : Value → mj_H → Prop} {w h n : Nat} {s : Nat → Int32} {kp : Nat} {hn : Nat → Nat} {hs : Nat → Nat → Int32} {P : List gw_Row} {sz : Int32} (hI : gw_CI σ.1 w h n s kp hn hs P sz) (hd : gw_dim w h) (hn14 : n ≤ 14) (hv : gw_vp w h n s) {a b : Int32} (k : Q (.int (a_sight w h s a b)) σ) : mj_M X (d + 20) y_GW_sight [.ref 0, .int a, .int b] σ (mj_V Q) := by
  obtain ⟨x1, x2, ⟨w6, h6, n6, s6, x3⟩, ⟨nx, x4⟩, x5, x6, ⟨st, qu, x7⟩, ce, ab, co, wy, bl, x8, x9⟩ := id hI
  obtain ⟨wl1, ps1, r1, -⟩ := id x2
  have hwh := gw_dim_le hd
  refine mw_in (l0 := [some (.ref 0), some (.int a), some (.int b)]) rfl ?_
  by_cases ha : gw_ce w h a = true
  · skip
    by_cases hb : gw_ce w h b = true
    · skip
      obtain ⟨a, ha2, rfl⟩ := gw_ce_of hd ha
      obtain ⟨b, hb2, rfl⟩ := gw_ce_of hd hb
      rw [a_sight, if_pos ha, if_pos hb, gw_tn (by omega), gw_tn (by omega)] at k
      refine mw_ld 1 i_GW_sight_0 rfl rfl rfl ?_
      refine mw_get 4 i_GW_sight_1 rfl (by assumption) (by rfl) ?_
      refine mw_ld 5 i_GW_sight_4 rfl rfl rfl ?_
      refine mw_cv1 8 i_GW_sight_5 rfl (by assumption) (sp_Room_hasCell hd x2 ?_) rfl rfl (Nat.le_of_ble_eq_true rfl) (Nat.le_of_ble_eq_true rfl)
      refine mw_if0 11 i_GW_sight_8 rfl (mj_bI1.mpr ha) ?_
      refine mw_ld 12 i_GW_sight_11 rfl rfl rfl ?_
      refine mw_get 15 i_GW_sight_12 rfl (by assumption) (by rfl) ?_
      refine mw_ld 16 i_GW_sight_15 rfl rfl rfl ?_
      refine mw_cv1 19 i_GW_sight_16 rfl (by assumption) (sp_Room_hasCell hd x2 ?_) rfl rfl (Nat.le_of_ble_eq_true rfl) (Nat.le_of_ble_eq_true rfl)
      refine mw_if1 i_GW_sight_19 (mj_bI1.mpr hb) ?_
      refine mw_ld 26 i_GW_sight_25 rfl rfl rfl ?_
      refine mw_get 29 i_GW_sight_26 rfl (by assumption) (by rfl) ?_
      refine mw_ld 30 i_GW_sight_29 rfl rfl rfl ?_
      refine mw_ld 31 i_GW_sight_30 rfl rfl rfl ?_
      refine mw_cv1 34 i_GW_sight_31 rfl (by assumption) (sp_Room_inSight ha2 hb2 hd x2 ?_) rfl rfl (Nat.le_of_ble_eq_true rfl) (Nat.le_of_ble_eq_true rfl)
      refine mw_cs1 37 i_GW_sight_34 rfl (sp_GW_bit ?_) rfl rfl (Nat.le_of_ble_eq_true rfl) (Nat.le_of_ble_eq_true rfl)
      refine mw_ri i_GW_sight_37 rfl rfl ?_
      exact k
    · skip
      refine mw_ld 1 i_GW_sight_0 rfl rfl rfl ?_
      refine mw_get 4 i_GW_sight_1 rfl (by assumption) (by rfl) ?_
      refine mw_ld 5 i_GW_sight_4 rfl rfl rfl ?_
      refine mw_cv1 8 i_GW_sight_5 rfl (by assumption) (sp_Room_hasCell hd x2 ?_) rfl rfl (Nat.le_of_ble_eq_true rfl) (Nat.le_of_ble_eq_true rfl)
      refine mw_if0 11 i_GW_sight_8 rfl (mj_bI1.mpr ha) ?_
      refine mw_ld 12 i_GW_sight_11 rfl rfl rfl ?_
      refine mw_get 15 i_GW_sight_12 rfl (by assumption) (by rfl) ?_
      refine mw_ld 16 i_GW_sight_15 rfl rfl rfl ?_
      refine mw_cv1 19 i_GW_sight_16 rfl (by assumption) (sp_Room_hasCell hd x2 ?_) rfl rfl (Nat.le_of_ble_eq_true rfl) (Nat.le_of_ble_eq_true rfl)
      refine mw_if0 22 i_GW_sight_19 rfl (fun q => q (mj_bI0.mpr (gw_nt hb))) ?_
      refine mw_k 24 i_GW_sight_22 rfl ?_
      refine mw_ri i_GW_sight_24 rfl rfl ?_
      rw [a_sight, if_pos ha, if_neg hb] at k
      exact k
  · skip
    refine mw_ld 1 i_GW_sight_0 rfl rfl rfl ?_
    refine mw_get 4 i_GW_sight_1 rfl (by assumption) (by rfl) ?_
    refine mw_ld 5 i_GW_sight_4 rfl rfl rfl ?_
    refine mw_cv1 8 i_GW_sight_5 rfl (by assumption) (sp_Room_hasCell hd x2 ?_) rfl rfl (Nat.le_of_ble_eq_true rfl) (Nat.le_of_ble_eq_true rfl)
    refine mw_if1 i_GW_sight_8 (mj_bI0.mpr (gw_nt ha)) ?_
    refine mw_k 24 i_GW_sight_22 rfl ?_
    refine mw_ri i_GW_sight_24 rfl rfl ?_
    rw [a_sight, if_neg ha] at k
    exact k
theorem sp_GW_sees {X : mj_X} {d : Nat} {σ : mj_H} {Q : Value → mj_H → Prop} {w h n : Nat} {s : Nat → Int32} {kp : Nat} {hn : Nat → Nat} {hs : Nat → Nat → Int32} {P : List gw_Row} {sz : Int32} (hI : gw_CI σ.1 w h n s kp hn hs P sz) (hd : gw_dim w h) (hn14 : n ≤ 14) (hv : gw_vp w h n s) {z c : Int32} (k : ∀ f, gw_keep σ.1 f → gw_CI f w h n s kp hn hs P sz → Q (.int (a_sees w h n s z c)) (f, σ.2)) : mj_M X (d + 20) y_GW_sees [.ref 0, .int z, .int c] σ (mj_V Q) := by
  obtain ⟨x1, x2, ⟨w6, h6, n6, s6, x3⟩, ⟨nx, x4⟩, x5, x6, ⟨st, qu, x7⟩, ce, ab, co, wy, bl, x8, x9⟩ := id hI
  obtain ⟨wl1, ps1, r1, -⟩ := id x2
  have hwh := gw_dim_le hd
  refine mw_in (l0 := [some (.ref 0), some (.int z), some (.int c)]) rfl ?_
  by_cases hz : gw_isP n z = true
  · skip
    obtain ⟨i, hi, rfl⟩ := gw_isP_of hz
    rw [a_sees, if_pos hz] at k
    by_cases hc : gw_ce w h c = true
    · skip
      obtain ⟨u0, wt0, vv1, vv2⟩ := gw_vok_w x5
      refine mw_ld 1 i_GW_sees_0 rfl rfl rfl ?_
      refine mw_get 4 i_GW_sees_1 rfl (by assumption) (by rfl) ?_
      refine mw_ld 5 i_GW_sees_4 rfl rfl rfl ?_
      refine mw_cv1 8 i_GW_sees_5 rfl (by assumption) (sp_Room_postAt_in hn14 x2 hi (fun p0 hp0 hp1 => ?_)) rfl rfl (Nat.le_of_ble_eq_true rfl) (Nat.le_of_ble_eq_true rfl)
      refine mw_nuF 11 i_GW_sees_8 rfl ?_
      refine mw_ld 12 i_GW_sees_11 rfl rfl rfl ?_
      refine mw_get 15 i_GW_sees_12 rfl (by assumption) (by rfl) ?_
      refine mw_ld 16 i_GW_sees_15 rfl rfl rfl ?_
      refine mw_cv1 19 i_GW_sees_16 rfl (by assumption) (sp_Room_hasCell hd x2 ?_) rfl rfl (Nat.le_of_ble_eq_true rfl) (Nat.le_of_ble_eq_true rfl)
      refine mw_if1 i_GW_sees_19 (mj_bI1.mpr hc) ?_
      refine mw_ld 26 i_GW_sees_25 rfl rfl rfl ?_
      refine mw_get 29 i_GW_sees_26 rfl (by assumption) (by rfl) ?_
      refine mw_cv0 32 i_GW_sees_29 rfl (by assumption) (sp_View_refresh hn14 hv hd x2 x5 (fun f g1 g2 => ?_)) rfl rfl (Nat.le_of_ble_eq_true rfl) (Nat.le_of_ble_eq_true rfl)
      have hRf := gw_rm_fr g1 (by decide) (by decide) (by decide) (by decide) x2
      have hIf := gw_CI_v g1 g2 hI
      have hkf := gw_keep_fr g1 (by decide)
      have h0f : f 0 = gw_c0 := (g1 0 (by decide)).trans x1
      obtain ⟨wtf, ⟨v1f, v2f⟩, -⟩ := id g2
      obtain ⟨uf, wtf2, vv1, vv2⟩ := gw_vok_w x5
      refine mw_ld 33 i_GW_sees_32 rfl rfl rfl ?_
      refine mw_get 36 i_GW_sees_33 rfl (by assumption) (by rfl) ?_
      refine mw_ld 37 i_GW_sees_36 rfl rfl rfl ?_
      refine mw_cv1 40 i_GW_sees_37 rfl (by assumption) (sp_View_watchersOf (σ := (f, σ.2)) hd hRf g2 ?_) rfl rfl (Nat.le_of_ble_eq_true rfl) (Nat.le_of_ble_eq_true rfl)
      refine mw_ld 41 i_GW_sees_40 rfl rfl rfl ?_
      refine mw_b 42 i_GW_sees_41 rfl ?_
      refine mw_k 43 i_GW_sees_42 rfl ?_
      refine mw_b 44 i_GW_sees_43 rfl ?_
      refine mw_ri i_GW_sees_44 rfl rfl ?_
      rw [if_pos hc] at k
      exact k f hkf hIf
    · skip
      refine mw_ld 1 i_GW_sees_0 rfl rfl rfl ?_
      refine mw_get 4 i_GW_sees_1 rfl (by assumption) (by rfl) ?_
      refine mw_ld 5 i_GW_sees_4 rfl rfl rfl ?_
      refine mw_cv1 8 i_GW_sees_5 rfl (by assumption) (sp_Room_postAt_in hn14 x2 hi (fun p0 hp0 hp1 => ?_)) rfl rfl (Nat.le_of_ble_eq_true rfl) (Nat.le_of_ble_eq_true rfl)
      refine mw_nuF 11 i_GW_sees_8 rfl ?_
      refine mw_ld 12 i_GW_sees_11 rfl rfl rfl ?_
      refine mw_get 15 i_GW_sees_12 rfl (by assumption) (by rfl) ?_
      refine mw_ld 16 i_GW_sees_15 rfl rfl rfl ?_
      refine mw_cv1 19 i_GW_sees_16 rfl (by assumption) (sp_Room_hasCell hd x2 ?_) rfl rfl (Nat.le_of_ble_eq_true rfl) (Nat.le_of_ble_eq_true rfl)
      refine mw_if0 22 i_GW_sees_19 rfl (fun q => q (mj_bI0.mpr (gw_nt hc))) ?_
      refine mw_k 24 i_GW_sees_22 rfl ?_
      refine mw_ri i_GW_sees_24 rfl rfl ?_
      rw [if_neg hc] at k
      exact k σ.1 (gw_keep_rf _) hI
  · skip
    refine mw_ld 1 i_GW_sees_0 rfl rfl rfl ?_
    refine mw_get 4 i_GW_sees_1 rfl (by assumption) (by rfl) ?_
    refine mw_ld 5 i_GW_sees_4 rfl rfl rfl ?_
    refine mw_cv1 8 i_GW_sees_5 rfl (by assumption) (sp_Room_postAt_out hn14 x2 (gw_nt hz) ?_) rfl rfl (Nat.le_of_ble_eq_true rfl) (Nat.le_of_ble_eq_true rfl)
    refine mw_nuT i_GW_sees_8 ?_
    refine mw_k 24 i_GW_sees_22 rfl ?_
    refine mw_ri i_GW_sees_24 rfl rfl ?_
    rw [a_sees, if_neg hz] at k
    exact k σ.1 (gw_keep_rf _) hI
theorem sp_GW_region {X : mj_X} {d : Nat} {σ : mj_H} {Q : Value → mj_H → Prop} {w h n : Nat} {s : Nat → Int32} {kp : Nat} {hn : Nat → Nat} {hs : Nat → Nat → Int32} {P : List gw_Row} {sz : Int32} (hI : gw_CI σ.1 w h n s kp hn hs P sz) (hd : gw_dim w h) (hn14 : n ≤ 14) (hv : gw_vp w h n s) {z : Int32} (k : ∀ f, gw_keep σ.1 f → gw_CI f w h n s kp hn hs P sz → Q (.int (a_region w h n s z)) (f, σ.2)) : mj_M X (d + 20) y_GW_region [.ref 0, .int z] σ (mj_V Q) := by
  obtain ⟨x1, x2, ⟨w6, h6, n6, s6, x3⟩, ⟨nx, x4⟩, x5, x6, ⟨st, qu, x7⟩, ce, ab, co, wy, bl, x8, x9⟩ := id hI
  obtain ⟨wl1, ps1, r1, -⟩ := id x2
  have hwh := gw_dim_le hd
  refine mw_in (l0 := [some (.ref 0), some (.int z)]) rfl ?_
  by_cases hz : gw_isP n z = true
  · skip
    obtain ⟨i, hi, rfl⟩ := gw_isP_of hz
    rw [a_region, if_pos hz, a_num] at k
    obtain ⟨u0, wt0, vv1, vv2⟩ := gw_vok_w x5
    refine mw_ld 1 i_GW_region_0 rfl rfl rfl ?_
    refine mw_get 4 i_GW_region_1 rfl (by assumption) (by rfl) ?_
    refine mw_ld 5 i_GW_region_4 rfl rfl rfl ?_
    refine mw_cv1 8 i_GW_region_5 rfl (by assumption) (sp_Room_postAt_in hn14 x2 hi (fun p0 hp0 hp1 => ?_)) rfl rfl (Nat.le_of_ble_eq_true rfl) (Nat.le_of_ble_eq_true rfl)
    refine mw_nnT i_GW_region_8 ?_
    refine mw_ld 15 i_GW_region_14 rfl rfl rfl ?_
    refine mw_get 18 i_GW_region_15 rfl (by assumption) (by rfl) ?_
    refine mw_cv0 21 i_GW_region_18 rfl (by assumption) (sp_View_refresh hn14 hv hd x2 x5 (fun f g1 g2 => ?_)) rfl rfl (Nat.le_of_ble_eq_true rfl) (Nat.le_of_ble_eq_true rfl)
    have hRf := gw_rm_fr g1 (by decide) (by decide) (by decide) (by decide) x2
    have hIf := gw_CI_v g1 g2 hI
    have hkf := gw_keep_fr g1 (by decide)
    have h0f : f 0 = gw_c0 := (g1 0 (by decide)).trans x1
    obtain ⟨wtf, ⟨v1f, v2f⟩, -⟩ := id g2
    obtain ⟨uf, wtf2, vv1, vv2⟩ := gw_vok_w x5
    refine mw_ld 22 i_GW_region_21 rfl rfl rfl ?_
    refine mw_get 25 i_GW_region_22 rfl (by assumption) (by rfl) ?_
    refine mw_k 26 i_GW_region_25 rfl ?_
    refine mw_ld 27 i_GW_region_26 rfl rfl rfl ?_
    refine mw_b 28 i_GW_region_27 rfl ?_
    refine mw_cv1 31 i_GW_region_28 rfl (by assumption) (sp_View_cellsSeenBy (σ := (f, σ.2)) hd hRf g2 ?_) rfl rfl (Nat.le_of_ble_eq_true rfl) (Nat.le_of_ble_eq_true rfl)
    refine mw_ri i_GW_region_31 rfl rfl ?_
    exact k f hkf hIf
  · skip
    refine mw_ld 1 i_GW_region_0 rfl rfl rfl ?_
    refine mw_get 4 i_GW_region_1 rfl (by assumption) (by rfl) ?_
    refine mw_ld 5 i_GW_region_4 rfl rfl rfl ?_
    refine mw_cv1 8 i_GW_region_5 rfl (by assumption) (sp_Room_postAt_out hn14 x2 (gw_nt hz) ?_) rfl rfl (Nat.le_of_ble_eq_true rfl) (Nat.le_of_ble_eq_true rfl)
    refine mw_nnF 11 i_GW_region_8 rfl ?_
    refine mw_k 13 i_GW_region_11 rfl ?_
    refine mw_ri i_GW_region_13 rfl rfl ?_
    rw [a_region, if_neg hz] at k
    exact k σ.1 (gw_keep_rf _) hI
theorem sp_GW_watchers {X : mj_X} {d : Nat} {σ : mj_H} {Q : Value → mj_H → Prop} {w h n : Nat} {s : Nat → Int32} {kp : Nat} {hn : Nat → Nat} {hs : Nat → Nat → Int32} {P : List gw_Row} {sz : Int32} (hI : gw_CI σ.1 w h n s kp hn hs P sz) (hd : gw_dim w h) (hn14 : n ≤ 14) (hv : gw_vp w h n s) {c : Int32} (k : ∀ f, gw_keep σ.1 f → gw_CI f w h n s kp hn hs P sz → Q (.int (a_watchers w h n s c)) (f, σ.2)) : mj_M X (d + 20) y_GW_watchers [.ref 0, .int c] σ (mj_V Q) := by
  obtain ⟨x1, x2, ⟨w6, h6, n6, s6, x3⟩, ⟨nx, x4⟩, x5, x6, ⟨st, qu, x7⟩, ce, ab, co, wy, bl, x8, x9⟩ := id hI
  obtain ⟨wl1, ps1, r1, -⟩ := id x2
  have hwh := gw_dim_le hd
  refine mw_in (l0 := [some (.ref 0), some (.int c)]) rfl ?_
  by_cases hc : gw_ce w h c = true
  · skip
    rw [a_watchers, if_pos hc] at k
    obtain ⟨u0, wt0, vv1, vv2⟩ := gw_vok_w x5
    refine mw_ld 1 i_GW_watchers_0 rfl rfl rfl ?_
    refine mw_get 4 i_GW_watchers_1 rfl (by assumption) (by rfl) ?_
    refine mw_ld 5 i_GW_watchers_4 rfl rfl rfl ?_
    refine mw_cv1 8 i_GW_watchers_5 rfl (by assumption) (sp_Room_hasCell hd x2 ?_) rfl rfl (Nat.le_of_ble_eq_true rfl) (Nat.le_of_ble_eq_true rfl)
    refine mw_if1 i_GW_watchers_8 (mj_bI1.mpr hc) ?_
    refine mw_ld 15 i_GW_watchers_14 rfl rfl rfl ?_
    refine mw_get 18 i_GW_watchers_15 rfl (by assumption) (by rfl) ?_
    refine mw_cv0 21 i_GW_watchers_18 rfl (by assumption) (sp_View_refresh hn14 hv hd x2 x5 (fun f g1 g2 => ?_)) rfl rfl (Nat.le_of_ble_eq_true rfl) (Nat.le_of_ble_eq_true rfl)
    have hRf := gw_rm_fr g1 (by decide) (by decide) (by decide) (by decide) x2
    have hIf := gw_CI_v g1 g2 hI
    have hkf := gw_keep_fr g1 (by decide)
    have h0f : f 0 = gw_c0 := (g1 0 (by decide)).trans x1
    obtain ⟨wtf, ⟨v1f, v2f⟩, -⟩ := id g2
    obtain ⟨uf, wtf2, vv1, vv2⟩ := gw_vok_w x5
    refine mw_ld 22 i_GW_watchers_21 rfl rfl rfl ?_
    refine mw_get 25 i_GW_watchers_22 rfl (by assumption) (by rfl) ?_
    refine mw_ld 26 i_GW_watchers_25 rfl rfl rfl ?_
    refine mw_cv1 29 i_GW_watchers_26 rfl (by assumption) (sp_View_watchersOf (σ := (f, σ.2)) hd hRf g2 ?_) rfl rfl (Nat.le_of_ble_eq_true rfl) (Nat.le_of_ble_eq_true rfl)
    refine mw_ri i_GW_watchers_29 rfl rfl ?_
    exact k f hkf hIf
  · skip
    refine mw_ld 1 i_GW_watchers_0 rfl rfl rfl ?_
    refine mw_get 4 i_GW_watchers_1 rfl (by assumption) (by rfl) ?_
    refine mw_ld 5 i_GW_watchers_4 rfl rfl rfl ?_
    refine mw_cv1 8 i_GW_watchers_5 rfl (by assumption) (sp_Room_hasCell hd x2 ?_) rfl rfl (Nat.le_of_ble_eq_true rfl) (Nat.le_of_ble_eq_true rfl)
    refine mw_if0 11 i_GW_watchers_8 rfl (fun q => q (mj_bI0.mpr (gw_nt hc))) ?_
    refine mw_k 13 i_GW_watchers_11 rfl ?_
    refine mw_ri i_GW_watchers_13 rfl rfl ?_
    rw [a_watchers, if_neg hc] at k
    exact k σ.1 (gw_keep_rf _) hI
theorem sp_GW_blind {X : mj_X} {d : Nat} {σ : mj_H} {Q : Value → mj_H → Prop} {w h n : Nat} {s : Nat → Int32} {kp : Nat} {hn : Nat → Nat} {hs : Nat → Nat → Int32} {P : List gw_Row} {sz : Int32} (hI : gw_CI σ.1 w h n s kp hn hs P sz) (hd : gw_dim w h) (hn14 : n ≤ 14) (hv : gw_vp w h n s) {z : Int32} (k : ∀ f, gw_keep σ.1 f → gw_CI f w h n s kp hn hs P sz → Q (.int (a_blind w h n s z)) (f, σ.2)) : mj_M X (d + 20) y_GW_blind [.ref 0, .int z] σ (mj_V Q) := by
  obtain ⟨x1, x2, ⟨w6, h6, n6, s6, x3⟩, ⟨nx, x4⟩, x5, x6, ⟨st, qu, x7⟩, ce, ab, co, wy, bl, x8, x9⟩ := id hI
  obtain ⟨wl1, ps1, r1, -⟩ := id x2
  have hwh := gw_dim_le hd
  refine mw_in (l0 := [some (.ref 0), some (.int z)]) rfl ?_
  by_cases hc : gw_has n z = true
  · skip
    rw [a_blind, if_pos hc] at k
    obtain ⟨u0, wt0, vv1, vv2⟩ := gw_vok_w x5
    refine mw_ld 1 i_GW_blind_0 rfl rfl rfl ?_
    refine mw_get 4 i_GW_blind_1 rfl (by assumption) (by rfl) ?_
    refine mw_ld 5 i_GW_blind_4 rfl rfl rfl ?_
    refine mw_cv1 8 i_GW_blind_5 rfl (by assumption) (sp_Room_hasPosts x2 ?_) rfl rfl (Nat.le_of_ble_eq_true rfl) (Nat.le_of_ble_eq_true rfl)
    refine mw_if1 i_GW_blind_8 (mj_bI1.mpr hc) ?_
    refine mw_ld 15 i_GW_blind_14 rfl rfl rfl ?_
    refine mw_get 18 i_GW_blind_15 rfl (by assumption) (by rfl) ?_
    refine mw_cv0 21 i_GW_blind_18 rfl (by assumption) (sp_View_refresh hn14 hv hd x2 x5 (fun f g1 g2 => ?_)) rfl rfl (Nat.le_of_ble_eq_true rfl) (Nat.le_of_ble_eq_true rfl)
    have hRf := gw_rm_fr g1 (by decide) (by decide) (by decide) (by decide) x2
    have hIf := gw_CI_v g1 g2 hI
    have hkf := gw_keep_fr g1 (by decide)
    have h0f : f 0 = gw_c0 := (g1 0 (by decide)).trans x1
    obtain ⟨wtf, ⟨v1f, v2f⟩, -⟩ := id g2
    obtain ⟨uf, wtf2, vv1, vv2⟩ := gw_vok_w x5
    refine mw_ld 22 i_GW_blind_21 rfl rfl rfl ?_
    refine mw_get 25 i_GW_blind_22 rfl (by assumption) (by rfl) ?_
    refine mw_ld 26 i_GW_blind_25 rfl rfl rfl ?_
    refine mw_cv1 29 i_GW_blind_26 rfl (by assumption) (sp_View_leastUnwatched (σ := (f, σ.2)) hd hRf g2 ?_) rfl rfl (Nat.le_of_ble_eq_true rfl) (Nat.le_of_ble_eq_true rfl)
    refine mw_ri i_GW_blind_29 rfl rfl ?_
    exact k f hkf hIf
  · skip
    refine mw_ld 1 i_GW_blind_0 rfl rfl rfl ?_
    refine mw_get 4 i_GW_blind_1 rfl (by assumption) (by rfl) ?_
    refine mw_ld 5 i_GW_blind_4 rfl rfl rfl ?_
    refine mw_cv1 8 i_GW_blind_5 rfl (by assumption) (sp_Room_hasPosts x2 ?_) rfl rfl (Nat.le_of_ble_eq_true rfl) (Nat.le_of_ble_eq_true rfl)
    refine mw_if0 11 i_GW_blind_8 rfl (fun q => q (mj_bI0.mpr (gw_nt hc))) ?_
    refine mw_k 13 i_GW_blind_11 rfl ?_
    refine mw_ri i_GW_blind_13 rfl rfl ?_
    rw [a_blind, if_neg hc] at k
    exact k σ.1 (gw_keep_rf _) hI
theorem sp_GW_seen {X : mj_X} {d : Nat} {σ : mj_H} {Q : Value → mj_H → Prop} {w h n : Nat} {s : Nat → Int32} {kp : Nat} {hn : Nat → Nat} {hs : Nat → Nat → Int32} {P : List gw_Row} {sz : Int32} (hI : gw_CI σ.1 w h n s kp hn hs P sz) (hd : gw_dim w h) (hn14 : n ≤ 14) (hv : gw_vp w h n s) {z : Int32} (k : ∀ f, gw_keep σ.1 f → gw_CI f w h n s kp hn hs P sz → Q (.int (a_seen w h n s z)) (f, σ.2)) : mj_M X (d + 20) y_GW_seen [.ref 0, .int z] σ (mj_V Q) := by
  obtain ⟨x1, x2, ⟨w6, h6, n6, s6, x3⟩, ⟨nx, x4⟩, x5, x6, ⟨st, qu, x7⟩, ce, ab, co, wy, bl, x8, x9⟩ := id hI
  obtain ⟨wl1, ps1, r1, -⟩ := id x2
  have hwh := gw_dim_le hd
  refine mw_in (l0 := [some (.ref 0), some (.int z)]) rfl ?_
  by_cases hc : gw_has n z = true
  · skip
    rw [a_seen, if_pos hc] at k
    obtain ⟨u0, wt0, vv1, vv2⟩ := gw_vok_w x5
    refine mw_ld 1 i_GW_seen_0 rfl rfl rfl ?_
    refine mw_get 4 i_GW_seen_1 rfl (by assumption) (by rfl) ?_
    refine mw_ld 5 i_GW_seen_4 rfl rfl rfl ?_
    refine mw_cv1 8 i_GW_seen_5 rfl (by assumption) (sp_Room_hasPosts x2 ?_) rfl rfl (Nat.le_of_ble_eq_true rfl) (Nat.le_of_ble_eq_true rfl)
    refine mw_if1 i_GW_seen_8 (mj_bI1.mpr hc) ?_
    refine mw_ld 15 i_GW_seen_14 rfl rfl rfl ?_
    refine mw_get 18 i_GW_seen_15 rfl (by assumption) (by rfl) ?_
    refine mw_cv0 21 i_GW_seen_18 rfl (by assumption) (sp_View_refresh hn14 hv hd x2 x5 (fun f g1 g2 => ?_)) rfl rfl (Nat.le_of_ble_eq_true rfl) (Nat.le_of_ble_eq_true rfl)
    have hRf := gw_rm_fr g1 (by decide) (by decide) (by decide) (by decide) x2
    have hIf := gw_CI_v g1 g2 hI
    have hkf := gw_keep_fr g1 (by decide)
    have h0f : f 0 = gw_c0 := (g1 0 (by decide)).trans x1
    obtain ⟨wtf, ⟨v1f, v2f⟩, -⟩ := id g2
    obtain ⟨uf, wtf2, vv1, vv2⟩ := gw_vok_w x5
    refine mw_ld 22 i_GW_seen_21 rfl rfl rfl ?_
    refine mw_get 25 i_GW_seen_22 rfl (by assumption) (by rfl) ?_
    refine mw_ld 26 i_GW_seen_25 rfl rfl rfl ?_
    refine mw_cv1 29 i_GW_seen_26 rfl (by assumption) (sp_View_cellsSeenBy (σ := (f, σ.2)) hd hRf g2 ?_) rfl rfl (Nat.le_of_ble_eq_true rfl) (Nat.le_of_ble_eq_true rfl)
    refine mw_ri i_GW_seen_29 rfl rfl ?_
    exact k f hkf hIf
  · skip
    refine mw_ld 1 i_GW_seen_0 rfl rfl rfl ?_
    refine mw_get 4 i_GW_seen_1 rfl (by assumption) (by rfl) ?_
    refine mw_ld 5 i_GW_seen_4 rfl rfl rfl ?_
    refine mw_cv1 8 i_GW_seen_5 rfl (by assumption) (sp_Room_hasPosts x2 ?_) rfl rfl (Nat.le_of_ble_eq_true rfl) (Nat.le_of_ble_eq_true rfl)
    refine mw_if0 11 i_GW_seen_8 rfl (fun q => q (mj_bI0.mpr (gw_nt hc))) ?_
    refine mw_k 13 i_GW_seen_11 rfl ?_
    refine mw_ri i_GW_seen_13 rfl rfl ?_
    rw [a_seen, if_neg hc] at k
    exact k σ.1 (gw_keep_rf _) hI
theorem sp_GW_spare {X : mj_X} {d : Nat} {σ : mj_H} {Q : Value → mj_H → Prop} {w h n : Nat} {s : Nat → Int32} {kp : Nat} {hn : Nat → Nat} {hs : Nat → Nat → Int32} {P : List gw_Row} {sz : Int32} (hI : gw_CI σ.1 w h n s kp hn hs P sz) (hd : gw_dim w h) (hn14 : n ≤ 14) (hv : gw_vp w h n s) {z : Int32} (k : ∀ f, gw_keep σ.1 f → gw_CI f w h n s kp hn hs P sz → Q (.int (a_spare w h n s z)) (f, σ.2)) : mj_M X (d + 20) y_GW_spare [.ref 0, .int z] σ (mj_V Q) := by
  obtain ⟨x1, x2, ⟨w6, h6, n6, s6, x3⟩, ⟨nx, x4⟩, x5, x6, ⟨st, qu, x7⟩, ce, ab, co, wy, bl, x8, x9⟩ := id hI
  obtain ⟨wl1, ps1, r1, -⟩ := id x2
  have hwh := gw_dim_le hd
  refine mw_in (l0 := [some (.ref 0), some (.int z)]) rfl ?_
  by_cases hc : gw_has n z = true
  · skip
    rw [a_spare, if_pos hc] at k
    obtain ⟨u0, wt0, vv1, vv2⟩ := gw_vok_w x5
    by_cases hq : gw_lu w h n s z = gw_NONE
    · skip
      refine mw_ld 1 i_GW_spare_0 rfl rfl rfl ?_
      refine mw_get 4 i_GW_spare_1 rfl (by assumption) (by rfl) ?_
      refine mw_ld 5 i_GW_spare_4 rfl rfl rfl ?_
      refine mw_cv1 8 i_GW_spare_5 rfl (by assumption) (sp_Room_hasPosts x2 ?_) rfl rfl (Nat.le_of_ble_eq_true rfl) (Nat.le_of_ble_eq_true rfl)
      refine mw_if1 i_GW_spare_8 (mj_bI1.mpr hc) ?_
      refine mw_ld 15 i_GW_spare_14 rfl rfl rfl ?_
      refine mw_get 18 i_GW_spare_15 rfl (by assumption) (by rfl) ?_
      refine mw_cv0 21 i_GW_spare_18 rfl (by assumption) (sp_View_refresh hn14 hv hd x2 x5 (fun f g1 g2 => ?_)) rfl rfl (Nat.le_of_ble_eq_true rfl) (Nat.le_of_ble_eq_true rfl)
      have hRf := gw_rm_fr g1 (by decide) (by decide) (by decide) (by decide) x2
      have hIf := gw_CI_v g1 g2 hI
      have hkf := gw_keep_fr g1 (by decide)
      have h0f : f 0 = gw_c0 := (g1 0 (by decide)).trans x1
      obtain ⟨wtf, ⟨v1f, v2f⟩, -⟩ := id g2
      obtain ⟨uf, wtf2, vv1, vv2⟩ := gw_vok_w x5
      refine mw_ld 22 i_GW_spare_21 rfl rfl rfl ?_
      refine mw_get 25 i_GW_spare_22 rfl (by assumption) (by rfl) ?_
      refine mw_ld 26 i_GW_spare_25 rfl rfl rfl ?_
      refine mw_cv1 29 i_GW_spare_26 rfl (by assumption) (sp_View_leastUnwatched (σ := (f, σ.2)) hd hRf g2 ?_) rfl rfl (Nat.le_of_ble_eq_true rfl) (Nat.le_of_ble_eq_true rfl)
      refine mw_k 31 i_GW_spare_29 rfl ?_
      refine mw_ic1 i_GW_spare_31 hq ?_
      refine mw_ld 38 i_GW_spare_37 rfl rfl rfl ?_
      refine mw_get 41 i_GW_spare_38 rfl (by assumption) (by rfl) ?_
      refine mw_ld 42 i_GW_spare_41 rfl rfl rfl ?_
      refine mw_cv1 45 i_GW_spare_42 rfl (by assumption) (sp_View_sparedOf (σ := (f, σ.2)) hd hRf g2 ?_) rfl rfl (Nat.le_of_ble_eq_true rfl) (Nat.le_of_ble_eq_true rfl)
      refine mw_ri i_GW_spare_45 rfl rfl ?_
      rw [if_pos hq] at k
      exact k f hkf hIf
    · skip
      refine mw_ld 1 i_GW_spare_0 rfl rfl rfl ?_
      refine mw_get 4 i_GW_spare_1 rfl (by assumption) (by rfl) ?_
      refine mw_ld 5 i_GW_spare_4 rfl rfl rfl ?_
      refine mw_cv1 8 i_GW_spare_5 rfl (by assumption) (sp_Room_hasPosts x2 ?_) rfl rfl (Nat.le_of_ble_eq_true rfl) (Nat.le_of_ble_eq_true rfl)
      refine mw_if1 i_GW_spare_8 (mj_bI1.mpr hc) ?_
      refine mw_ld 15 i_GW_spare_14 rfl rfl rfl ?_
      refine mw_get 18 i_GW_spare_15 rfl (by assumption) (by rfl) ?_
      refine mw_cv0 21 i_GW_spare_18 rfl (by assumption) (sp_View_refresh hn14 hv hd x2 x5 (fun f g1 g2 => ?_)) rfl rfl (Nat.le_of_ble_eq_true rfl) (Nat.le_of_ble_eq_true rfl)
      have hRf := gw_rm_fr g1 (by decide) (by decide) (by decide) (by decide) x2
      have hIf := gw_CI_v g1 g2 hI
      have hkf := gw_keep_fr g1 (by decide)
      have h0f : f 0 = gw_c0 := (g1 0 (by decide)).trans x1
      obtain ⟨wtf, ⟨v1f, v2f⟩, -⟩ := id g2
      obtain ⟨uf, wtf2, vv1, vv2⟩ := gw_vok_w x5
      refine mw_ld 22 i_GW_spare_21 rfl rfl rfl ?_
      refine mw_get 25 i_GW_spare_22 rfl (by assumption) (by rfl) ?_
      refine mw_ld 26 i_GW_spare_25 rfl rfl rfl ?_
      refine mw_cv1 29 i_GW_spare_26 rfl (by assumption) (sp_View_leastUnwatched (σ := (f, σ.2)) hd hRf g2 ?_) rfl rfl (Nat.le_of_ble_eq_true rfl) (Nat.le_of_ble_eq_true rfl)
      refine mw_k 31 i_GW_spare_29 rfl ?_
      refine mw_ic0 34 i_GW_spare_31 rfl hq ?_
      refine mw_k 36 i_GW_spare_34 rfl ?_
      refine mw_ri i_GW_spare_36 rfl rfl ?_
      rw [if_neg hq] at k
      exact k f hkf hIf
  · skip
    refine mw_ld 1 i_GW_spare_0 rfl rfl rfl ?_
    refine mw_get 4 i_GW_spare_1 rfl (by assumption) (by rfl) ?_
    refine mw_ld 5 i_GW_spare_4 rfl rfl rfl ?_
    refine mw_cv1 8 i_GW_spare_5 rfl (by assumption) (sp_Room_hasPosts x2 ?_) rfl rfl (Nat.le_of_ble_eq_true rfl) (Nat.le_of_ble_eq_true rfl)
    refine mw_if0 11 i_GW_spare_8 rfl (fun q => q (mj_bI0.mpr (gw_nt hc))) ?_
    refine mw_k 13 i_GW_spare_11 rfl ?_
    refine mw_ri i_GW_spare_13 rfl rfl ?_
    rw [a_spare, if_neg hc] at k
    exact k σ.1 (gw_keep_rf _) hI
theorem sp_GW_fewest {X : mj_X} {d : Nat} {σ : mj_H} {Q : Value → mj_H → Prop} {w h n : Nat} {s : Nat → Int32} {kp : Nat} {hn : Nat → Nat} {hs : Nat → Nat → Int32} {P : List gw_Row} {sz : Int32} (hI : gw_CI σ.1 w h n s kp hn hs P sz) (hd : gw_dim w h) (hn14 : n ≤ 14) (hv : gw_vp w h n s)  (k : ∀ f, gw_keep σ.1 f → gw_CI f w h n s kp hn hs P sz → Q (.int ((gw_sl w h n s).1)) (f, σ.2)) : mj_M X (d + 20) y_GW_fewest [.ref 0] σ (mj_V Q) := by
  obtain ⟨x1, x2, ⟨w6, h6, n6, s6, x3⟩, ⟨nx, x4⟩, x5, x6, ⟨st, qu, x7⟩, ce, ab, co, wy, bl, x8, x9⟩ := id hI
  obtain ⟨wl1, ps1, r1, -⟩ := id x2
  have hwh := gw_dim_le hd
  refine mw_in (l0 := [some (.ref 0)]) rfl ?_
  obtain ⟨u0, wt0, vv1, vv2⟩ := gw_vok_w x5
  refine mw_ld 1 i_GW_fewest_0 rfl rfl rfl ?_
  refine mw_get 4 i_GW_fewest_1 rfl (by assumption) (by rfl) ?_
  refine mw_cv0 7 i_GW_fewest_4 rfl (by assumption) (sp_View_refresh hn14 hv hd x2 x5 (fun f g1 g2 => ?_)) rfl rfl (Nat.le_of_ble_eq_true rfl) (Nat.le_of_ble_eq_true rfl)
  have hRf := gw_rm_fr g1 (by decide) (by decide) (by decide) (by decide) x2
  have hIf := gw_CI_v g1 g2 hI
  have hkf := gw_keep_fr g1 (by decide)
  have h0f : f 0 = gw_c0 := (g1 0 (by decide)).trans x1
  obtain ⟨wtf, ⟨v1f, v2f⟩, -⟩ := id g2
  obtain ⟨uf, wtf2, vv1, vv2⟩ := gw_vok_w x5
  have hcf := gw_cok_fr g1 (fun a _ _ => by simp; omega) x6
  obtain ⟨ol0, oh0, up0, sz0, fi0, fo0, lo0, hi0, rl0, rh0, cc1, -⟩ := gw_cok_w hcf
  refine mw_ld 8 i_GW_fewest_7 rfl rfl rfl ?_
  refine mw_get 11 i_GW_fewest_8 rfl (by assumption) (by rfl) ?_
  refine mw_cv0 14 i_GW_fewest_11 rfl (by assumption) (sp_Choice_solve (σ := (f, σ.2)) hn14 hd hRf g2 hcf (fun f2 g3 g4 => ?_)) rfl rfl (Nat.le_of_ble_eq_true rfl) (Nat.le_of_ble_eq_true rfl)
  have hIf2 := gw_CI_c g3 g4 hIf
  have hkf2 := gw_keep_tr hkf (gw_keep_fr g3 (by decide))
  have h0f2 : f2 0 = gw_c0 := (g3 0 (by decide)).trans h0f
  obtain ⟨ol1, oh1, lo1, hi1, rl1, rh1, ccc1, -⟩ := id g4
  refine mw_ld 15 i_GW_fewest_14 rfl rfl rfl ?_
  refine mw_get 18 i_GW_fewest_15 rfl (by assumption) (by rfl) ?_
  refine mw_get 21 i_GW_fewest_18 rfl (by assumption) (by rfl) ?_
  refine mw_ri i_GW_fewest_21 rfl rfl ?_
  exact k f2 hkf2 hIf2
theorem sp_GW_choose {X : mj_X} {d : Nat} {σ : mj_H} {Q : Value → mj_H → Prop} {w h n : Nat} {s : Nat → Int32} {kp : Nat} {hn : Nat → Nat} {hs : Nat → Nat → Int32} {P : List gw_Row} {sz : Int32} (hI : gw_CI σ.1 w h n s kp hn hs P sz) (hd : gw_dim w h) (hn14 : n ≤ 14) (hv : gw_vp w h n s)  (k : ∀ f, gw_keep σ.1 f → gw_CI f w h n s kp hn hs P sz → Q (.int ((gw_sl w h n s).2.1)) (f, σ.2)) : mj_M X (d + 20) y_GW_choose [.ref 0] σ (mj_V Q) := by
  obtain ⟨x1, x2, ⟨w6, h6, n6, s6, x3⟩, ⟨nx, x4⟩, x5, x6, ⟨st, qu, x7⟩, ce, ab, co, wy, bl, x8, x9⟩ := id hI
  obtain ⟨wl1, ps1, r1, -⟩ := id x2
  have hwh := gw_dim_le hd
  refine mw_in (l0 := [some (.ref 0)]) rfl ?_
  obtain ⟨u0, wt0, vv1, vv2⟩ := gw_vok_w x5
  refine mw_ld 1 i_GW_choose_0 rfl rfl rfl ?_
  refine mw_get 4 i_GW_choose_1 rfl (by assumption) (by rfl) ?_
  refine mw_cv0 7 i_GW_choose_4 rfl (by assumption) (sp_View_refresh hn14 hv hd x2 x5 (fun f g1 g2 => ?_)) rfl rfl (Nat.le_of_ble_eq_true rfl) (Nat.le_of_ble_eq_true rfl)
  have hRf := gw_rm_fr g1 (by decide) (by decide) (by decide) (by decide) x2
  have hIf := gw_CI_v g1 g2 hI
  have hkf := gw_keep_fr g1 (by decide)
  have h0f : f 0 = gw_c0 := (g1 0 (by decide)).trans x1
  obtain ⟨wtf, ⟨v1f, v2f⟩, -⟩ := id g2
  obtain ⟨uf, wtf2, vv1, vv2⟩ := gw_vok_w x5
  have hcf := gw_cok_fr g1 (fun a _ _ => by simp; omega) x6
  obtain ⟨ol0, oh0, up0, sz0, fi0, fo0, lo0, hi0, rl0, rh0, cc1, -⟩ := gw_cok_w hcf
  refine mw_ld 8 i_GW_choose_7 rfl rfl rfl ?_
  refine mw_get 11 i_GW_choose_8 rfl (by assumption) (by rfl) ?_
  refine mw_cv0 14 i_GW_choose_11 rfl (by assumption) (sp_Choice_solve (σ := (f, σ.2)) hn14 hd hRf g2 hcf (fun f2 g3 g4 => ?_)) rfl rfl (Nat.le_of_ble_eq_true rfl) (Nat.le_of_ble_eq_true rfl)
  have hIf2 := gw_CI_c g3 g4 hIf
  have hkf2 := gw_keep_tr hkf (gw_keep_fr g3 (by decide))
  have h0f2 : f2 0 = gw_c0 := (g3 0 (by decide)).trans h0f
  obtain ⟨ol1, oh1, lo1, hi1, rl1, rh1, ccc1, -⟩ := id g4
  refine mw_ld 15 i_GW_choose_14 rfl rfl rfl ?_
  refine mw_get 18 i_GW_choose_15 rfl (by assumption) (by rfl) ?_
  refine mw_get 21 i_GW_choose_18 rfl (by assumption) (by rfl) ?_
  refine mw_ri i_GW_choose_21 rfl rfl ?_
  exact k f2 hkf2 hIf2
theorem sp_GW_many {X : mj_X} {d : Nat} {σ : mj_H} {Q : Value → mj_H → Prop} {w h n : Nat} {s : Nat → Int32} {kp : Nat} {hn : Nat → Nat} {hs : Nat → Nat → Int32} {P : List gw_Row} {sz : Int32} (hI : gw_CI σ.1 w h n s kp hn hs P sz) (hd : gw_dim w h) (hn14 : n ≤ 14) (hv : gw_vp w h n s)  (k : ∀ f, gw_keep σ.1 f → gw_CI f w h n s kp hn hs P sz → Q (.int (nI (gw_sl w h n s).2.2)) (f, σ.2)) : mj_M X (d + 20) y_GW_many [.ref 0] σ (mj_V Q) := by
  obtain ⟨x1, x2, ⟨w6, h6, n6, s6, x3⟩, ⟨nx, x4⟩, x5, x6, ⟨st, qu, x7⟩, ce, ab, co, wy, bl, x8, x9⟩ := id hI
  obtain ⟨wl1, ps1, r1, -⟩ := id x2
  have hwh := gw_dim_le hd
  refine mw_in (l0 := [some (.ref 0)]) rfl ?_
  obtain ⟨u0, wt0, vv1, vv2⟩ := gw_vok_w x5
  refine mw_ld 1 i_GW_many_0 rfl rfl rfl ?_
  refine mw_get 4 i_GW_many_1 rfl (by assumption) (by rfl) ?_
  refine mw_cv0 7 i_GW_many_4 rfl (by assumption) (sp_View_refresh hn14 hv hd x2 x5 (fun f g1 g2 => ?_)) rfl rfl (Nat.le_of_ble_eq_true rfl) (Nat.le_of_ble_eq_true rfl)
  have hRf := gw_rm_fr g1 (by decide) (by decide) (by decide) (by decide) x2
  have hIf := gw_CI_v g1 g2 hI
  have hkf := gw_keep_fr g1 (by decide)
  have h0f : f 0 = gw_c0 := (g1 0 (by decide)).trans x1
  obtain ⟨wtf, ⟨v1f, v2f⟩, -⟩ := id g2
  obtain ⟨uf, wtf2, vv1, vv2⟩ := gw_vok_w x5
  have hcf := gw_cok_fr g1 (fun a _ _ => by simp; omega) x6
  obtain ⟨ol0, oh0, up0, sz0, fi0, fo0, lo0, hi0, rl0, rh0, cc1, -⟩ := gw_cok_w hcf
  refine mw_ld 8 i_GW_many_7 rfl rfl rfl ?_
  refine mw_get 11 i_GW_many_8 rfl (by assumption) (by rfl) ?_
  refine mw_cv0 14 i_GW_many_11 rfl (by assumption) (sp_Choice_solve (σ := (f, σ.2)) hn14 hd hRf g2 hcf (fun f2 g3 g4 => ?_)) rfl rfl (Nat.le_of_ble_eq_true rfl) (Nat.le_of_ble_eq_true rfl)
  have hIf2 := gw_CI_c g3 g4 hIf
  have hkf2 := gw_keep_tr hkf (gw_keep_fr g3 (by decide))
  have h0f2 : f2 0 = gw_c0 := (g3 0 (by decide)).trans h0f
  obtain ⟨ol1, oh1, lo1, hi1, rl1, rh1, ccc1, -⟩ := id g4
  refine mw_ld 15 i_GW_many_14 rfl rfl rfl ?_
  refine mw_get 18 i_GW_many_15 rfl (by assumption) (by rfl) ?_
  refine mw_get 21 i_GW_many_18 rfl (by assumption) (by rfl) ?_
  refine mw_ri i_GW_many_21 rfl rfl ?_
  exact k f2 hkf2 hIf2
theorem sp_GW_only {X : mj_X} {d : Nat} {σ : mj_H} {Q : Value → mj_H → Prop} {w h n : Nat} {s : Nat → Int32} {kp : Nat} {hn : Nat → Nat} {hs : Nat → Nat → Int32} {P : List gw_Row} {sz : Int32} (hI : gw_CI σ.1 w h n s kp hn hs P sz) (hd : gw_dim w h) (hn14 : n ≤ 14) (hv : gw_vp w h n s)  (k : ∀ f, gw_keep σ.1 f → gw_CI f w h n s kp hn hs P sz → Q (.int (a_only w h n s)) (f, σ.2)) : mj_M X (d + 20) y_GW_only [.ref 0] σ (mj_V Q) := by
  obtain ⟨x1, x2, ⟨w6, h6, n6, s6, x3⟩, ⟨nx, x4⟩, x5, x6, ⟨st, qu, x7⟩, ce, ab, co, wy, bl, x8, x9⟩ := id hI
  obtain ⟨wl1, ps1, r1, -⟩ := id x2
  have hwh := gw_dim_le hd
  refine mw_in (l0 := [some (.ref 0), none]) rfl ?_
  obtain ⟨u0, wt0, vv1, vv2⟩ := gw_vok_w x5
  rw [a_only] at k
  by_cases hq : gw_lu w h n s (gw_all n) = gw_NONE
  · skip
    refine mw_ld 1 i_GW_only_0 rfl rfl rfl ?_
    refine mw_get 4 i_GW_only_1 rfl (by assumption) (by rfl) ?_
    refine mw_cv0 7 i_GW_only_4 rfl (by assumption) (sp_View_refresh hn14 hv hd x2 x5 (fun f g1 g2 => ?_)) rfl rfl (Nat.le_of_ble_eq_true rfl) (Nat.le_of_ble_eq_true rfl)
    have hRf := gw_rm_fr g1 (by decide) (by decide) (by decide) (by decide) x2
    have hIf := gw_CI_v g1 g2 hI
    have hkf := gw_keep_fr g1 (by decide)
    have h0f : f 0 = gw_c0 := (g1 0 (by decide)).trans x1
    obtain ⟨wtf, ⟨v1f, v2f⟩, -⟩ := id g2
    obtain ⟨uf, wtf2, vv1, vv2⟩ := gw_vok_w x5
    obtain ⟨wlf, psf, rf1, -⟩ := id hRf
    refine mw_ld 8 i_GW_only_7 rfl rfl rfl ?_
    refine mw_get 11 i_GW_only_8 rfl (by assumption) (by rfl) ?_
    refine mw_cv1 14 i_GW_only_11 rfl (by assumption) (sp_Room_allPosts (σ := (f, σ.2)) hRf ?_) rfl rfl (Nat.le_of_ble_eq_true rfl) (Nat.le_of_ble_eq_true rfl)
    refine mw_st (ls' := [_, _]) 15 i_GW_only_14 rfl rfl rfl rfl ?_
    refine mw_ld 16 i_GW_only_15 rfl rfl rfl ?_
    refine mw_get 19 i_GW_only_16 rfl (by assumption) (by rfl) ?_
    refine mw_ld 20 i_GW_only_19 rfl rfl rfl ?_
    refine mw_cv1 23 i_GW_only_20 rfl (by assumption) (sp_View_leastUnwatched (σ := (f, σ.2)) hd hRf g2 ?_) rfl rfl (Nat.le_of_ble_eq_true rfl) (Nat.le_of_ble_eq_true rfl)
    refine mw_k 25 i_GW_only_23 rfl ?_
    refine mw_ic1 i_GW_only_25 hq ?_
    refine mw_ld 32 i_GW_only_31 rfl rfl rfl ?_
    refine mw_ld 33 i_GW_only_32 rfl rfl rfl ?_
    refine mw_get 36 i_GW_only_33 rfl (by assumption) (by rfl) ?_
    refine mw_ld 37 i_GW_only_36 rfl rfl rfl ?_
    refine mw_cv1 40 i_GW_only_37 rfl (by assumption) (sp_View_sparedOf (σ := (f, σ.2)) hd hRf g2 ?_) rfl rfl (Nat.le_of_ble_eq_true rfl) (Nat.le_of_ble_eq_true rfl)
    refine mw_k 41 i_GW_only_40 rfl ?_
    refine mw_b 42 i_GW_only_41 rfl ?_
    refine mw_b 43 i_GW_only_42 rfl ?_
    refine mw_ri i_GW_only_43 rfl rfl ?_
    rw [if_pos hq] at k
    exact k f hkf hIf
  · skip
    refine mw_ld 1 i_GW_only_0 rfl rfl rfl ?_
    refine mw_get 4 i_GW_only_1 rfl (by assumption) (by rfl) ?_
    refine mw_cv0 7 i_GW_only_4 rfl (by assumption) (sp_View_refresh hn14 hv hd x2 x5 (fun f g1 g2 => ?_)) rfl rfl (Nat.le_of_ble_eq_true rfl) (Nat.le_of_ble_eq_true rfl)
    have hRf := gw_rm_fr g1 (by decide) (by decide) (by decide) (by decide) x2
    have hIf := gw_CI_v g1 g2 hI
    have hkf := gw_keep_fr g1 (by decide)
    have h0f : f 0 = gw_c0 := (g1 0 (by decide)).trans x1
    obtain ⟨wtf, ⟨v1f, v2f⟩, -⟩ := id g2
    obtain ⟨uf, wtf2, vv1, vv2⟩ := gw_vok_w x5
    obtain ⟨wlf, psf, rf1, -⟩ := id hRf
    refine mw_ld 8 i_GW_only_7 rfl rfl rfl ?_
    refine mw_get 11 i_GW_only_8 rfl (by assumption) (by rfl) ?_
    refine mw_cv1 14 i_GW_only_11 rfl (by assumption) (sp_Room_allPosts (σ := (f, σ.2)) hRf ?_) rfl rfl (Nat.le_of_ble_eq_true rfl) (Nat.le_of_ble_eq_true rfl)
    refine mw_st (ls' := [_, _]) 15 i_GW_only_14 rfl rfl rfl rfl ?_
    refine mw_ld 16 i_GW_only_15 rfl rfl rfl ?_
    refine mw_get 19 i_GW_only_16 rfl (by assumption) (by rfl) ?_
    refine mw_ld 20 i_GW_only_19 rfl rfl rfl ?_
    refine mw_cv1 23 i_GW_only_20 rfl (by assumption) (sp_View_leastUnwatched (σ := (f, σ.2)) hd hRf g2 ?_) rfl rfl (Nat.le_of_ble_eq_true rfl) (Nat.le_of_ble_eq_true rfl)
    refine mw_k 25 i_GW_only_23 rfl ?_
    refine mw_ic0 28 i_GW_only_25 rfl hq ?_
    refine mw_k 30 i_GW_only_28 rfl ?_
    refine mw_ri i_GW_only_30 rfl rfl ?_
    rw [if_neg hq] at k
    exact k f hkf hIf
theorem sp_GW_sneak {X : mj_X} {d : Nat} {σ : mj_H} {Q : Value → mj_H → Prop} {w h n : Nat} {s : Nat → Int32} {kp : Nat} {hn : Nat → Nat} {hs : Nat → Nat → Int32} {P : List gw_Row} {sz : Int32} (hI : gw_CI σ.1 w h n s kp hn hs P sz) (hd : gw_dim w h) (hn14 : n ≤ 14) (hv : gw_vp w h n s) {a b : Int32} (k : ∀ f, gw_keep σ.1 f → gw_CI f w h n s kp hn hs P sz → Q (.int (a_sneak w h n s a b)) (f, σ.2)) : mj_M X (d + 20) y_GW_sneak [.ref 0, .int a, .int b] σ (mj_V Q) := by
  obtain ⟨x1, x2, ⟨w6, h6, n6, s6, x3⟩, ⟨nx, x4⟩, x5, x6, ⟨st, qu, x7⟩, ce, ab, co, wy, bl, x8, x9⟩ := id hI
  obtain ⟨wl1, ps1, r1, -⟩ := id x2
  have hwh := gw_dim_le hd
  refine mw_in (l0 := [some (.ref 0), some (.int a), some (.int b)]) rfl ?_
  by_cases ha : gw_ce w h a = true
  · skip
    by_cases hb : gw_ce w h b = true
    · skip
      obtain ⟨a, ha2, rfl⟩ := gw_ce_of hd ha
      obtain ⟨b, hb2, rfl⟩ := gw_ce_of hd hb
      rw [a_sneak, if_pos ha, if_pos hb, gw_tn (by omega), gw_tn (by omega)] at k
      obtain ⟨u0, wt0, vv1, vv2⟩ := gw_vok_w x5
      refine mw_ld 1 i_GW_sneak_0 rfl rfl rfl ?_
      refine mw_get 4 i_GW_sneak_1 rfl (by assumption) (by rfl) ?_
      refine mw_ld 5 i_GW_sneak_4 rfl rfl rfl ?_
      refine mw_cv1 8 i_GW_sneak_5 rfl (by assumption) (sp_Room_hasCell hd x2 ?_) rfl rfl (Nat.le_of_ble_eq_true rfl) (Nat.le_of_ble_eq_true rfl)
      refine mw_if0 11 i_GW_sneak_8 rfl (mj_bI1.mpr ha) ?_
      refine mw_ld 12 i_GW_sneak_11 rfl rfl rfl ?_
      refine mw_get 15 i_GW_sneak_12 rfl (by assumption) (by rfl) ?_
      refine mw_ld 16 i_GW_sneak_15 rfl rfl rfl ?_
      refine mw_cv1 19 i_GW_sneak_16 rfl (by assumption) (sp_Room_hasCell hd x2 ?_) rfl rfl (Nat.le_of_ble_eq_true rfl) (Nat.le_of_ble_eq_true rfl)
      refine mw_if1 i_GW_sneak_19 (mj_bI1.mpr hb) ?_
      refine mw_ld 26 i_GW_sneak_25 rfl rfl rfl ?_
      refine mw_get 29 i_GW_sneak_26 rfl (by assumption) (by rfl) ?_
      refine mw_cv0 32 i_GW_sneak_29 rfl (by assumption) (sp_View_refresh hn14 hv hd x2 x5 (fun f g1 g2 => ?_)) rfl rfl (Nat.le_of_ble_eq_true rfl) (Nat.le_of_ble_eq_true rfl)
      have hRf := gw_rm_fr g1 (by decide) (by decide) (by decide) (by decide) x2
      have hIf := gw_CI_v g1 g2 hI
      have hkf := gw_keep_fr g1 (by decide)
      have h0f : f 0 = gw_c0 := (g1 0 (by decide)).trans x1
      obtain ⟨wtf, ⟨v1f, v2f⟩, -⟩ := id g2
      obtain ⟨uf, wtf2, vv1, vv2⟩ := gw_vok_w x5
      have hSf := gw_sh_fr g1 (fun a _ _ => by simp; omega) x7
      obtain ⟨zz1, -⟩ := id hSf
      refine mw_ld 33 i_GW_sneak_32 rfl rfl rfl ?_
      refine mw_get 36 i_GW_sneak_33 rfl (by assumption) (by rfl) ?_
      refine mw_ld 37 i_GW_sneak_36 rfl rfl rfl ?_
      refine mw_ld 38 i_GW_sneak_37 rfl rfl rfl ?_
      refine mw_cv1 41 i_GW_sneak_38 rfl (by assumption) (sp_Shade_stepsBetween (σ := (f, σ.2)) hSf ha2 hb2 hd hRf g2 (fun f2 st4 g5 g6 g7 => ?_)) rfl rfl (Nat.le_of_ble_eq_true rfl) (Nat.le_of_ble_eq_true rfl)
      refine mw_ri i_GW_sneak_41 rfl rfl ?_
      obtain ⟨qu4, g6⟩ := g6
      exact k f2 (gw_keep_tr hkf (gw_keep_fr g5 (by decide))) (gw_CI_s g5 ⟨_, _, g6⟩ hIf)
    · skip
      refine mw_ld 1 i_GW_sneak_0 rfl rfl rfl ?_
      refine mw_get 4 i_GW_sneak_1 rfl (by assumption) (by rfl) ?_
      refine mw_ld 5 i_GW_sneak_4 rfl rfl rfl ?_
      refine mw_cv1 8 i_GW_sneak_5 rfl (by assumption) (sp_Room_hasCell hd x2 ?_) rfl rfl (Nat.le_of_ble_eq_true rfl) (Nat.le_of_ble_eq_true rfl)
      refine mw_if0 11 i_GW_sneak_8 rfl (mj_bI1.mpr ha) ?_
      refine mw_ld 12 i_GW_sneak_11 rfl rfl rfl ?_
      refine mw_get 15 i_GW_sneak_12 rfl (by assumption) (by rfl) ?_
      refine mw_ld 16 i_GW_sneak_15 rfl rfl rfl ?_
      refine mw_cv1 19 i_GW_sneak_16 rfl (by assumption) (sp_Room_hasCell hd x2 ?_) rfl rfl (Nat.le_of_ble_eq_true rfl) (Nat.le_of_ble_eq_true rfl)
      refine mw_if0 22 i_GW_sneak_19 rfl (fun q => q (mj_bI0.mpr (gw_nt hb))) ?_
      refine mw_k 24 i_GW_sneak_22 rfl ?_
      refine mw_ri i_GW_sneak_24 rfl rfl ?_
      rw [a_sneak, if_pos ha, if_neg hb] at k
      exact k σ.1 (gw_keep_rf _) hI
  · skip
    refine mw_ld 1 i_GW_sneak_0 rfl rfl rfl ?_
    refine mw_get 4 i_GW_sneak_1 rfl (by assumption) (by rfl) ?_
    refine mw_ld 5 i_GW_sneak_4 rfl rfl rfl ?_
    refine mw_cv1 8 i_GW_sneak_5 rfl (by assumption) (sp_Room_hasCell hd x2 ?_) rfl rfl (Nat.le_of_ble_eq_true rfl) (Nat.le_of_ble_eq_true rfl)
    refine mw_if1 i_GW_sneak_8 (mj_bI0.mpr (gw_nt ha)) ?_
    refine mw_k 24 i_GW_sneak_22 rfl ?_
    refine mw_ri i_GW_sneak_24 rfl rfl ?_
    rw [a_sneak, if_neg ha] at k
    exact k σ.1 (gw_keep_rf _) hI
theorem sp_GW_way {X : mj_X} {d : Nat} {σ : mj_H} {Q : Value → mj_H → Prop} {w h n : Nat} {s : Nat → Int32} {kp : Nat} {hn : Nat → Nat} {hs : Nat → Nat → Int32} {P : List gw_Row} {sz : Int32} (hI : gw_CI σ.1 w h n s kp hn hs P sz) (hd : gw_dim w h) (hn14 : n ≤ 14) (hv : gw_vp w h n s) {a b i : Int32} (k : ∀ f, gw_keep σ.1 f → gw_CI f w h n s kp hn hs P sz → Q (.int (a_way w h n s a b i)) (f, σ.2)) : mj_M X (d + 20) y_GW_way [.ref 0, .int a, .int b, .int i] σ (mj_V Q) := by
  obtain ⟨x1, x2, ⟨w6, h6, n6, s6, x3⟩, ⟨nx, x4⟩, x5, x6, ⟨st, qu, x7⟩, ce, ab, co, wy, bl, x8, x9⟩ := id hI
  obtain ⟨wl1, ps1, r1, -⟩ := id x2
  have hwh := gw_dim_le hd
  refine mw_in (l0 := [some (.ref 0), some (.int a), some (.int b), some (.int i)]) rfl ?_
  by_cases ha : gw_ce w h a = true
  · skip
    by_cases hb : gw_ce w h b = true
    · skip
      by_cases hi : (0 : Int32) ≤ i
      · skip
        obtain ⟨a, ha2, rfl⟩ := gw_ce_of hd ha
        obtain ⟨b, hb2, rfl⟩ := gw_ce_of hd hb
        have hi0 : 0 ≤ i.toInt := (mj_le _ _).mp hi
        have hib := (mj_nn i).2
        obtain ⟨I, hI3, rfl⟩ : ∃ I : Nat, I < 2147483648 ∧ i = nI I := ⟨i.toInt.toNat, by omega, mj_of hi0⟩
        rw [a_way, if_pos ha, if_pos hb, if_pos hi, gw_tn (by omega), gw_tn (by omega), gw_tn hI3] at k
        obtain ⟨u0, wt0, vv1, vv2⟩ := gw_vok_w x5
        refine mw_ld 1 i_GW_way_0 rfl rfl rfl ?_
        refine mw_get 4 i_GW_way_1 rfl (by assumption) (by rfl) ?_
        refine mw_ld 5 i_GW_way_4 rfl rfl rfl ?_
        refine mw_cv1 8 i_GW_way_5 rfl (by assumption) (sp_Room_hasCell hd x2 ?_) rfl rfl (Nat.le_of_ble_eq_true rfl) (Nat.le_of_ble_eq_true rfl)
        refine mw_if0 11 i_GW_way_8 rfl (mj_bI1.mpr ha) ?_
        refine mw_ld 12 i_GW_way_11 rfl rfl rfl ?_
        refine mw_get 15 i_GW_way_12 rfl (by assumption) (by rfl) ?_
        refine mw_ld 16 i_GW_way_15 rfl rfl rfl ?_
        refine mw_cv1 19 i_GW_way_16 rfl (by assumption) (sp_Room_hasCell hd x2 ?_) rfl rfl (Nat.le_of_ble_eq_true rfl) (Nat.le_of_ble_eq_true rfl)
        refine mw_if0 22 i_GW_way_19 rfl (mj_bI1.mpr hb) ?_
        refine mw_ld 23 i_GW_way_22 rfl rfl rfl ?_
        refine mw_if1 i_GW_way_23 hi ?_
        refine mw_ld 30 i_GW_way_29 rfl rfl rfl ?_
        refine mw_get 33 i_GW_way_30 rfl (by assumption) (by rfl) ?_
        refine mw_cv0 36 i_GW_way_33 rfl (by assumption) (sp_View_refresh hn14 hv hd x2 x5 (fun f g1 g2 => ?_)) rfl rfl (Nat.le_of_ble_eq_true rfl) (Nat.le_of_ble_eq_true rfl)
        have hRf := gw_rm_fr g1 (by decide) (by decide) (by decide) (by decide) x2
        have hIf := gw_CI_v g1 g2 hI
        have hkf := gw_keep_fr g1 (by decide)
        have h0f : f 0 = gw_c0 := (g1 0 (by decide)).trans x1
        obtain ⟨wtf, ⟨v1f, v2f⟩, -⟩ := id g2
        obtain ⟨uf, wtf2, vv1, vv2⟩ := gw_vok_w x5
        have hSf := gw_sh_fr g1 (fun a _ _ => by simp; omega) x7
        obtain ⟨zz1, -⟩ := id hSf
        refine mw_ld 37 i_GW_way_36 rfl rfl rfl ?_
        refine mw_get 40 i_GW_way_37 rfl (by assumption) (by rfl) ?_
        refine mw_ld 41 i_GW_way_40 rfl rfl rfl ?_
        refine mw_ld 42 i_GW_way_41 rfl rfl rfl ?_
        refine mw_ld 43 i_GW_way_42 rfl rfl rfl ?_
        refine mw_cv1 46 i_GW_way_43 rfl (by assumption) (sp_Shade_cellOnWay (σ := (f, σ.2)) hSf hI3 ha2 hb2 hd hRf g2 (fun f2 st4 g5 g6 => ?_)) rfl rfl (Nat.le_of_ble_eq_true rfl) (Nat.le_of_ble_eq_true rfl)
        refine mw_ri i_GW_way_46 rfl rfl ?_
        obtain ⟨qu4, g6⟩ := g6
        exact k f2 (gw_keep_tr hkf (gw_keep_fr g5 (by decide))) (gw_CI_s g5 ⟨_, _, g6⟩ hIf)
      · skip
        refine mw_ld 1 i_GW_way_0 rfl rfl rfl ?_
        refine mw_get 4 i_GW_way_1 rfl (by assumption) (by rfl) ?_
        refine mw_ld 5 i_GW_way_4 rfl rfl rfl ?_
        refine mw_cv1 8 i_GW_way_5 rfl (by assumption) (sp_Room_hasCell hd x2 ?_) rfl rfl (Nat.le_of_ble_eq_true rfl) (Nat.le_of_ble_eq_true rfl)
        refine mw_if0 11 i_GW_way_8 rfl (mj_bI1.mpr ha) ?_
        refine mw_ld 12 i_GW_way_11 rfl rfl rfl ?_
        refine mw_get 15 i_GW_way_12 rfl (by assumption) (by rfl) ?_
        refine mw_ld 16 i_GW_way_15 rfl rfl rfl ?_
        refine mw_cv1 19 i_GW_way_16 rfl (by assumption) (sp_Room_hasCell hd x2 ?_) rfl rfl (Nat.le_of_ble_eq_true rfl) (Nat.le_of_ble_eq_true rfl)
        refine mw_if0 22 i_GW_way_19 rfl (mj_bI1.mpr hb) ?_
        refine mw_ld 23 i_GW_way_22 rfl rfl rfl ?_
        refine mw_if0 26 i_GW_way_23 rfl hi ?_
        refine mw_k 28 i_GW_way_26 rfl ?_
        refine mw_ri i_GW_way_28 rfl rfl ?_
        rw [a_way, if_pos ha, if_pos hb, if_neg hi] at k
        exact k σ.1 (gw_keep_rf _) hI
    · skip
      refine mw_ld 1 i_GW_way_0 rfl rfl rfl ?_
      refine mw_get 4 i_GW_way_1 rfl (by assumption) (by rfl) ?_
      refine mw_ld 5 i_GW_way_4 rfl rfl rfl ?_
      refine mw_cv1 8 i_GW_way_5 rfl (by assumption) (sp_Room_hasCell hd x2 ?_) rfl rfl (Nat.le_of_ble_eq_true rfl) (Nat.le_of_ble_eq_true rfl)
      refine mw_if0 11 i_GW_way_8 rfl (mj_bI1.mpr ha) ?_
      refine mw_ld 12 i_GW_way_11 rfl rfl rfl ?_
      refine mw_get 15 i_GW_way_12 rfl (by assumption) (by rfl) ?_
      refine mw_ld 16 i_GW_way_15 rfl rfl rfl ?_
      refine mw_cv1 19 i_GW_way_16 rfl (by assumption) (sp_Room_hasCell hd x2 ?_) rfl rfl (Nat.le_of_ble_eq_true rfl) (Nat.le_of_ble_eq_true rfl)
      refine mw_if1 i_GW_way_19 (mj_bI0.mpr (gw_nt hb)) ?_
      refine mw_k 28 i_GW_way_26 rfl ?_
      refine mw_ri i_GW_way_28 rfl rfl ?_
      rw [a_way, if_pos ha, if_neg hb] at k
      exact k σ.1 (gw_keep_rf _) hI
  · skip
    refine mw_ld 1 i_GW_way_0 rfl rfl rfl ?_
    refine mw_get 4 i_GW_way_1 rfl (by assumption) (by rfl) ?_
    refine mw_ld 5 i_GW_way_4 rfl rfl rfl ?_
    refine mw_cv1 8 i_GW_way_5 rfl (by assumption) (sp_Room_hasCell hd x2 ?_) rfl rfl (Nat.le_of_ble_eq_true rfl) (Nat.le_of_ble_eq_true rfl)
    refine mw_if1 i_GW_way_8 (mj_bI0.mpr (gw_nt ha)) ?_
    refine mw_k 28 i_GW_way_26 rfl ?_
    refine mw_ri i_GW_way_28 rfl rfl ?_
    rw [a_way, if_neg ha] at k
    exact k σ.1 (gw_keep_rf _) hI
theorem sp_GW_hides {X : mj_X} {d : Nat} {σ : mj_H} {Q : Value → mj_H → Prop} {w h n : Nat} {s : Nat → Int32} {kp : Nat} {hn : Nat → Nat} {hs : Nat → Nat → Int32} {P : List gw_Row} {sz : Int32} (hI : gw_CI σ.1 w h n s kp hn hs P sz) (hd : gw_dim w h) (hn14 : n ≤ 14) (hv : gw_vp w h n s)  (k : ∀ f, gw_keep σ.1 f → gw_CI f w h n s kp hn hs P sz → Q (.int (a_hides w h n s)) (f, σ.2)) : mj_M X (d + 20) y_GW_hides [.ref 0] σ (mj_V Q) := by
  obtain ⟨x1, x2, ⟨w6, h6, n6, s6, x3⟩, ⟨nx, x4⟩, x5, x6, ⟨st, qu, x7⟩, ce, ab, co, wy, bl, x8, x9⟩ := id hI
  obtain ⟨wl1, ps1, r1, -⟩ := id x2
  have hwh := gw_dim_le hd
  refine mw_in (l0 := [some (.ref 0)]) rfl ?_
  obtain ⟨u0, wt0, vv1, vv2⟩ := gw_vok_w x5
  rw [a_hides] at k
  refine mw_ld 1 i_GW_hides_0 rfl rfl rfl ?_
  refine mw_get 4 i_GW_hides_1 rfl (by assumption) (by rfl) ?_
  refine mw_cv0 7 i_GW_hides_4 rfl (by assumption) (sp_View_refresh hn14 hv hd x2 x5 (fun f g1 g2 => ?_)) rfl rfl (Nat.le_of_ble_eq_true rfl) (Nat.le_of_ble_eq_true rfl)
  have hRf := gw_rm_fr g1 (by decide) (by decide) (by decide) (by decide) x2
  have hIf := gw_CI_v g1 g2 hI
  have hkf := gw_keep_fr g1 (by decide)
  have h0f : f 0 = gw_c0 := (g1 0 (by decide)).trans x1
  obtain ⟨wtf, ⟨v1f, v2f⟩, -⟩ := id g2
  obtain ⟨uf, wtf2, vv1, vv2⟩ := gw_vok_w x5
  have hSf := gw_sh_fr g1 (fun a _ _ => by simp; omega) x7
  obtain ⟨zz1, -⟩ := id hSf
  refine mw_ld 8 i_GW_hides_7 rfl rfl rfl ?_
  refine mw_get 11 i_GW_hides_8 rfl (by assumption) (by rfl) ?_
  refine mw_cv1 14 i_GW_hides_11 rfl (by assumption) (sp_Shade_parts (σ := (f, σ.2)) hSf hd hRf g2 (fun f2 st4 g5 g6 => ?_)) rfl rfl (Nat.le_of_ble_eq_true rfl) (Nat.le_of_ble_eq_true rfl)
  refine mw_ri i_GW_hides_14 rfl rfl ?_
  obtain ⟨qu4, g6⟩ := g6
  exact k f2 (gw_keep_tr hkf (gw_keep_fr g5 (by decide))) (gw_CI_s g5 ⟨_, _, g6⟩ hIf)
