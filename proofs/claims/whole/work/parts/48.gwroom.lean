/-! the class: room, wall, undo, drop -/
theorem gw_po_cg2 {s s2 : Nat → Int32} {k : Nat} (hk : k < 14) (h : ∀ c, 100 ≤ c → c < 213 → s2 c = s c) : gw_po s2 k = gw_po s k := by
  simp only [gw_po, h (101 + k) (by omega) (by omega), h (115 + k) (by omega) (by omega), h (129 + k) (by omega) (by omega), h (143 + k) (by omega) (by omega), h (157 + k) (by omega) (by omega), h (171 + k) (by omega) (by omega), h (185 + k) (by omega) (by omega), h (199 + k) (by omega) (by omega)]
theorem gw_rm_cg2 {f : Nat → mj_C} {r w h n : Nat} {s s2 : Nat → Int32} (hn : n ≤ 14) (h1 : ∀ c, c < 213 → s2 c = s c) (hR : gw_rm f r w h n s) : gw_rm f r w h n s2 := gw_rm_cg (fun c hc => h1 c (by omega)) (fun k hk => gw_po_cg2 (by omega) (fun c _ hc => h1 c hc)) hR
theorem gw_bd_hi {w h a b : Nat} {on : Int32} {s : Nat → Int32} (hd : gw_dim w h) {c : Nat} (hc : 100 ≤ c) : gw_bd w h a b on s c = s c := by
  have := gw_dim_le hd
  rw [gw_bd, gw_rec, show decide (c < w * h) = false by simp; omega]
  simp
theorem gw_vp_cg {w h n : Nat} {s s2 : Nat → Int32} (hn : n ≤ 14) (he : ∀ c, 100 ≤ c → c < 213 → s2 c = s c) (hv : gw_vp w h n s) : gw_vp w h n s2 := by
  intro k hk
  have := hv k hk
  rwa [he (101 + k) (by omega) (by omega), he (115 + k) (by omega) (by omega), he (129 + k) (by omega) (by omega), he (143 + k) (by omega) (by omega), he (157 + k) (by omega) (by omega), he (171 + k) (by omega) (by omega), he (185 + k) (by omega) (by omega), he (199 + k) (by omega) (by omega)]
theorem gw_CI_d {f f' : Nat → mj_C} {w h n : Nat} {s : Nat → Int32} {kp : Nat} {hn : Nat → Nat} {hs : Nat → Nat → Int32} {P : List gw_Row} {sz : Int32} {w' h' n' : Nat} {s' : Nat → Int32} (hf : gw_fr [6, 7, 8] f f') (h6 : gw_rm f' 6 w' h' n' s') (hI : gw_CI f w h n s kp hn hs P sz) : gw_CI f' w h n s kp hn hs P sz := by
  obtain ⟨x1, x2, x3, ⟨nx, x4⟩, x5, x6, ⟨st, qu, x7⟩, ce, ab, co, wy, bl, x8, x9⟩ := hI
  exact ⟨(hf 0 (by decide)).trans x1, gw_rm_fr hf (by decide) (by decide) (by decide) (by decide) x2, ⟨_, _, _, _, h6⟩, ⟨nx, gw_pa_fr hf (by decide) x4⟩,
    gw_vok_fr hf (by decide) (by decide) x5, gw_cok_fr hf (fun a _ _ => by simp; omega) x6, ⟨st, qu, gw_sh_fr hf (fun a _ _ => by simp; omega) x7⟩, ce, ab, co, wy, bl, gw_pf_fr hf (fun a _ _ => by simp; omega) x8, x9⟩
def gw_okWall (w h n : Nat) (s : Nat → Int32) (a b on : Int32) : Bool := gw_ce w h a && gw_ce w h b && gw_in on 0 1 && gw_hp w h n (gw_bd w h a.toInt.toNat b.toInt.toNat on s)
def a_wall (w h : Nat) (a b on : Int32) : Int32 := if gw_ce w h a then if gw_ce w h b then if gw_in on 0 1 then gw_NO else gw_BAD else gw_BAD else gw_BAD
theorem sp_GW_wall {X : mj_X} {d : Nat} {σ : mj_H} {Q : Value → mj_H → Prop} {w h n : Nat} {s : Nat → Int32} {kp : Nat} {hn : Nat → Nat} {hs : Nat → Nat → Int32} {P : List gw_Row} {sz : Int32} (hI : gw_CI σ.1 w h n s kp hn hs P sz) (hd : gw_dim w h) (hn14 : n ≤ 14) (hv : gw_vp w h n s) {a b on : Int32} (k1 : gw_okWall w h n s a b on = false → ∀ f, gw_keep σ.1 f → gw_CI f w h n s kp hn hs P sz → Q (.int (a_wall w h a b on)) (f, σ.2)) (k2 : gw_okWall w h n s a b on = true → ∀ f, gw_keep σ.1 f → gw_CI f w h n (gw_bd w h a.toInt.toNat b.toInt.toNat on s) (min (kp + 1) 10) (gw_push kp hn n) (gw_push kp hs s) [] sz → Q (.int (nI (gw_cn (gw_bn w h a.toInt.toNat b.toInt.toNat on s) (w * h)))) (f, σ.2)) : mj_M X (d + 20) y_GW_wall [.ref 0, .int a, .int b, .int on] σ (mj_V Q) := by
  obtain ⟨x1, x2, ⟨w6, h6, n6, s6, x3⟩, ⟨nx, x4⟩, x5, x6, ⟨st, qu, x7⟩, ce, ab, co, wy, bl, x8, x9⟩ := id hI
  obtain ⟨wl1, ps1, r1, -⟩ := id x2
  have hwh := gw_dim_le hd
  refine mw_in (l0 := [some (.ref 0), some (.int a), some (.int b), some (.int on), none]) rfl ?_
  by_cases ha : gw_ce w h a = true
  · skip
    by_cases hb : gw_ce w h b = true
    · skip
      by_cases ho : gw_in on 0 1 = true
      · skip
        obtain ⟨a, ha2, rfl⟩ := gw_ce_of hd ha
        obtain ⟨b, hb2, rfl⟩ := gw_ce_of hd hb
        rw [a_wall, if_pos ha, if_pos hb, if_pos ho] at k1
        rw [gw_okWall, gw_tn (by omega), gw_tn (by omega)] at k1 k2
        have hv2 : gw_vp w h n (gw_bd w h a b on s) := gw_vp_cg hn14 (fun c h1 _ => gw_bd_hi hd h1) hv
        obtain ⟨wl6, ps6, r6, -⟩ := id x3
        by_cases hq : gw_hp w h n (gw_bd w h a b on s) = true
        · skip
          refine mw_ld 1 i_GW_wall_0 rfl rfl rfl ?_
          refine mw_get 4 i_GW_wall_1 rfl (by repeat (first | exact mj_hs2 | exact mj_hs | assumption | refine mj_hn2 (by omega) ?_ | refine mj_hn (by omega) ?_)) (by rfl) ?_
          refine mw_ld 5 i_GW_wall_4 rfl rfl rfl ?_
          refine mw_cv1 8 i_GW_wall_5 rfl (by repeat (first | exact mj_hs2 | exact mj_hs | assumption | refine mj_hn2 (by omega) ?_ | refine mj_hn (by omega) ?_)) (sp_Room_hasCell hd x2 ?_) rfl rfl (Nat.le_of_ble_eq_true rfl) (Nat.le_of_ble_eq_true rfl)
          refine mw_if0 11 i_GW_wall_8 rfl (mj_bI1.mpr ha) ?_
          refine mw_ld 12 i_GW_wall_11 rfl rfl rfl ?_
          refine mw_get 15 i_GW_wall_12 rfl (by repeat (first | exact mj_hs2 | exact mj_hs | assumption | refine mj_hn2 (by omega) ?_ | refine mj_hn (by omega) ?_)) (by rfl) ?_
          refine mw_ld 16 i_GW_wall_15 rfl rfl rfl ?_
          refine mw_cv1 19 i_GW_wall_16 rfl (by repeat (first | exact mj_hs2 | exact mj_hs | assumption | refine mj_hn2 (by omega) ?_ | refine mj_hn (by omega) ?_)) (sp_Room_hasCell hd x2 ?_) rfl rfl (Nat.le_of_ble_eq_true rfl) (Nat.le_of_ble_eq_true rfl)
          refine mw_if0 22 i_GW_wall_19 rfl (mj_bI1.mpr hb) ?_
          refine mw_ld 23 i_GW_wall_22 rfl rfl rfl ?_
          refine mw_k 24 i_GW_wall_23 rfl ?_
          refine mw_k 25 i_GW_wall_24 rfl ?_
          refine mw_cs1 28 i_GW_wall_25 rfl (sp_GW_isWithin ?_) rfl rfl (Nat.le_of_ble_eq_true rfl) (Nat.le_of_ble_eq_true rfl)
          refine mw_if1 i_GW_wall_28 (mj_bI1.mpr ho) ?_
          refine mw_ld 35 i_GW_wall_34 rfl rfl rfl ?_
          refine mw_get 38 i_GW_wall_35 rfl (by repeat (first | exact mj_hs2 | exact mj_hs | assumption | refine mj_hn2 (by omega) ?_ | refine mj_hn (by omega) ?_)) (by rfl) ?_
          refine mw_ld 39 i_GW_wall_38 rfl rfl rfl ?_
          refine mw_get 42 i_GW_wall_39 rfl (by repeat (first | exact mj_hs2 | exact mj_hs | assumption | refine mj_hn2 (by omega) ?_ | refine mj_hn (by omega) ?_)) (by rfl) ?_
          refine mw_cv0 45 i_GW_wall_42 rfl (by repeat (first | exact mj_hs2 | exact mj_hs | assumption | refine mj_hn2 (by omega) ?_ | refine mj_hn (by omega) ?_)) (sp_Room_copyFrom (r := 6) (o := 1) (by decide) (by decide) (by decide) hn14 x3 x2 (fun f g1 hR6 => ?_)) rfl rfl (Nat.le_of_ble_eq_true rfl) (Nat.le_of_ble_eq_true rfl)
          have h0f : f 0 = gw_c0 := (g1 0 (by decide)).trans x1
          obtain ⟨wlf, psf, rf1, -⟩ := id hR6
          refine mw_ld 46 i_GW_wall_45 rfl rfl rfl ?_
          refine mw_get 49 i_GW_wall_46 rfl (by repeat (first | exact mj_hs2 | exact mj_hs | assumption | refine mj_hn2 (by omega) ?_ | refine mj_hn (by omega) ?_)) (by rfl) ?_
          refine mw_ld 50 i_GW_wall_49 rfl rfl rfl ?_
          refine mw_ld 51 i_GW_wall_50 rfl rfl rfl ?_
          refine mw_ld 52 i_GW_wall_51 rfl rfl rfl ?_
          refine mw_cv1 55 i_GW_wall_52 rfl (by repeat (first | exact mj_hs2 | exact mj_hs | assumption | refine mj_hn2 (by omega) ?_ | refine mj_hn (by omega) ?_)) (sp_Room_build (r := 6) (σ := (f, σ.2)) (by decide) ha2 hb2 hd hR6 (fun f2 g2 hR6b => ?_)) rfl rfl (Nat.le_of_ble_eq_true rfl) (Nat.le_of_ble_eq_true rfl)
          have g12 : gw_fr [6, 7, 8] σ.1 f2 := gw_fr_tr g1 (gw_fr_sub g2 (by simp))
          have h0f2 : f2 0 = gw_c0 := (g12 0 (by decide)).trans x1
          have hI2 := gw_CI_d g12 hR6b hI
          obtain ⟨wlf2, psf2, rf2, -⟩ := id hR6b
          refine mw_st (ls' := [_, _, _, _, _]) 57 i_GW_wall_55 rfl rfl rfl rfl ?_
          refine mw_ld 58 i_GW_wall_57 rfl rfl rfl ?_
          refine mw_get 61 i_GW_wall_58 rfl (by repeat (first | exact mj_hs2 | exact mj_hs | assumption | refine mj_hn2 (by omega) ?_ | refine mj_hn (by omega) ?_)) (by rfl) ?_
          refine mw_cv1 64 i_GW_wall_61 rfl (by repeat (first | exact mj_hs2 | exact mj_hs | assumption | refine mj_hn2 (by omega) ?_ | refine mj_hn (by omega) ?_)) (sp_Room_holdsItsPosts (r := 6) (σ := (f2, σ.2)) hn14 hv2 hd hR6b ?_) rfl rfl (Nat.le_of_ble_eq_true rfl) (Nat.le_of_ble_eq_true rfl)
          refine mw_if1 i_GW_wall_64 (mj_bI1.mpr hq) ?_
          refine mw_ld 71 i_GW_wall_70 rfl rfl rfl ?_
          refine mw_cv0 74 i_GW_wall_71 rfl (by repeat (first | exact mj_hs2 | exact mj_hs | assumption | refine mj_hn2 (by omega) ?_ | refine mj_hn (by omega) ?_)) (sp_GW_beginChange (σ := (f2, σ.2)) hI2 hn14 (fun f3 g3 hX => ?_)) rfl rfl (Nat.le_of_ble_eq_true rfl) (Nat.le_of_ble_eq_true rfl)
          have hR63 := gw_rm_fr g3 (by decide) (by decide) (by decide) (by decide) hR6b
          have hR13 := gw_rm_fr g3 (by decide) (by decide) (by decide) (by decide) (gw_rm_fr g12 (by decide) (by decide) (by decide) (by decide) x2)
          have h0f3 : f3 0 = gw_c0 := hX.1
          obtain ⟨wlf3, psf3, rf3, -⟩ := id hR13
          refine mw_ld 75 i_GW_wall_74 rfl rfl rfl ?_
          refine mw_get 78 i_GW_wall_75 rfl (by repeat (first | exact mj_hs2 | exact mj_hs | assumption | refine mj_hn2 (by omega) ?_ | refine mj_hn (by omega) ?_)) (by rfl) ?_
          refine mw_ld 79 i_GW_wall_78 rfl rfl rfl ?_
          refine mw_get 82 i_GW_wall_79 rfl (by repeat (first | exact mj_hs2 | exact mj_hs | assumption | refine mj_hn2 (by omega) ?_ | refine mj_hn (by omega) ?_)) (by rfl) ?_
          refine mw_cv0 85 i_GW_wall_82 rfl (by repeat (first | exact mj_hs2 | exact mj_hs | assumption | refine mj_hn2 (by omega) ?_ | refine mj_hn (by omega) ?_)) (sp_Room_copyFrom (r := 1) (o := 6) (σ := (f3, σ.2)) (by decide) (by decide) (by decide) hn14 hR13 hR63 (fun f4 g4 hR14 => ?_)) rfl rfl (Nat.le_of_ble_eq_true rfl) (Nat.le_of_ble_eq_true rfl)
          refine mw_ld 87 i_GW_wall_85 rfl rfl rfl ?_
          refine mw_ri i_GW_wall_87 rfl rfl ?_
          refine k2 (by simp [ha, hb, ho, hq]) f4 (fun a ha => ?_) (gw_CX_CI (gw_CX_fr g4 (by decide) hX) hR14 (gw_rm_fr g4 (by decide) (by decide) (by decide) (by decide) hR63))
          exact (g4 a (by simp; omega)).trans ((g3 a (gw_BLn ha)).trans (g12 a (by simp; omega)))
        · skip
          refine mw_ld 1 i_GW_wall_0 rfl rfl rfl ?_
          refine mw_get 4 i_GW_wall_1 rfl (by repeat (first | exact mj_hs2 | exact mj_hs | assumption | refine mj_hn2 (by omega) ?_ | refine mj_hn (by omega) ?_)) (by rfl) ?_
          refine mw_ld 5 i_GW_wall_4 rfl rfl rfl ?_
          refine mw_cv1 8 i_GW_wall_5 rfl (by repeat (first | exact mj_hs2 | exact mj_hs | assumption | refine mj_hn2 (by omega) ?_ | refine mj_hn (by omega) ?_)) (sp_Room_hasCell hd x2 ?_) rfl rfl (Nat.le_of_ble_eq_true rfl) (Nat.le_of_ble_eq_true rfl)
          refine mw_if0 11 i_GW_wall_8 rfl (mj_bI1.mpr ha) ?_
          refine mw_ld 12 i_GW_wall_11 rfl rfl rfl ?_
          refine mw_get 15 i_GW_wall_12 rfl (by repeat (first | exact mj_hs2 | exact mj_hs | assumption | refine mj_hn2 (by omega) ?_ | refine mj_hn (by omega) ?_)) (by rfl) ?_
          refine mw_ld 16 i_GW_wall_15 rfl rfl rfl ?_
          refine mw_cv1 19 i_GW_wall_16 rfl (by repeat (first | exact mj_hs2 | exact mj_hs | assumption | refine mj_hn2 (by omega) ?_ | refine mj_hn (by omega) ?_)) (sp_Room_hasCell hd x2 ?_) rfl rfl (Nat.le_of_ble_eq_true rfl) (Nat.le_of_ble_eq_true rfl)
          refine mw_if0 22 i_GW_wall_19 rfl (mj_bI1.mpr hb) ?_
          refine mw_ld 23 i_GW_wall_22 rfl rfl rfl ?_
          refine mw_k 24 i_GW_wall_23 rfl ?_
          refine mw_k 25 i_GW_wall_24 rfl ?_
          refine mw_cs1 28 i_GW_wall_25 rfl (sp_GW_isWithin ?_) rfl rfl (Nat.le_of_ble_eq_true rfl) (Nat.le_of_ble_eq_true rfl)
          refine mw_if1 i_GW_wall_28 (mj_bI1.mpr ho) ?_
          refine mw_ld 35 i_GW_wall_34 rfl rfl rfl ?_
          refine mw_get 38 i_GW_wall_35 rfl (by repeat (first | exact mj_hs2 | exact mj_hs | assumption | refine mj_hn2 (by omega) ?_ | refine mj_hn (by omega) ?_)) (by rfl) ?_
          refine mw_ld 39 i_GW_wall_38 rfl rfl rfl ?_
          refine mw_get 42 i_GW_wall_39 rfl (by repeat (first | exact mj_hs2 | exact mj_hs | assumption | refine mj_hn2 (by omega) ?_ | refine mj_hn (by omega) ?_)) (by rfl) ?_
          refine mw_cv0 45 i_GW_wall_42 rfl (by repeat (first | exact mj_hs2 | exact mj_hs | assumption | refine mj_hn2 (by omega) ?_ | refine mj_hn (by omega) ?_)) (sp_Room_copyFrom (r := 6) (o := 1) (by decide) (by decide) (by decide) hn14 x3 x2 (fun f g1 hR6 => ?_)) rfl rfl (Nat.le_of_ble_eq_true rfl) (Nat.le_of_ble_eq_true rfl)
          have h0f : f 0 = gw_c0 := (g1 0 (by decide)).trans x1
          obtain ⟨wlf, psf, rf1, -⟩ := id hR6
          refine mw_ld 46 i_GW_wall_45 rfl rfl rfl ?_
          refine mw_get 49 i_GW_wall_46 rfl (by repeat (first | exact mj_hs2 | exact mj_hs | assumption | refine mj_hn2 (by omega) ?_ | refine mj_hn (by omega) ?_)) (by rfl) ?_
          refine mw_ld 50 i_GW_wall_49 rfl rfl rfl ?_
          refine mw_ld 51 i_GW_wall_50 rfl rfl rfl ?_
          refine mw_ld 52 i_GW_wall_51 rfl rfl rfl ?_
          refine mw_cv1 55 i_GW_wall_52 rfl (by repeat (first | exact mj_hs2 | exact mj_hs | assumption | refine mj_hn2 (by omega) ?_ | refine mj_hn (by omega) ?_)) (sp_Room_build (r := 6) (σ := (f, σ.2)) (by decide) ha2 hb2 hd hR6 (fun f2 g2 hR6b => ?_)) rfl rfl (Nat.le_of_ble_eq_true rfl) (Nat.le_of_ble_eq_true rfl)
          have g12 : gw_fr [6, 7, 8] σ.1 f2 := gw_fr_tr g1 (gw_fr_sub g2 (by simp))
          have h0f2 : f2 0 = gw_c0 := (g12 0 (by decide)).trans x1
          have hI2 := gw_CI_d g12 hR6b hI
          obtain ⟨wlf2, psf2, rf2, -⟩ := id hR6b
          refine mw_st (ls' := [_, _, _, _, _]) 57 i_GW_wall_55 rfl rfl rfl rfl ?_
          refine mw_ld 58 i_GW_wall_57 rfl rfl rfl ?_
          refine mw_get 61 i_GW_wall_58 rfl (by repeat (first | exact mj_hs2 | exact mj_hs | assumption | refine mj_hn2 (by omega) ?_ | refine mj_hn (by omega) ?_)) (by rfl) ?_
          refine mw_cv1 64 i_GW_wall_61 rfl (by repeat (first | exact mj_hs2 | exact mj_hs | assumption | refine mj_hn2 (by omega) ?_ | refine mj_hn (by omega) ?_)) (sp_Room_holdsItsPosts (r := 6) (σ := (f2, σ.2)) hn14 hv2 hd hR6b ?_) rfl rfl (Nat.le_of_ble_eq_true rfl) (Nat.le_of_ble_eq_true rfl)
          refine mw_if0 67 i_GW_wall_64 rfl (fun q => q (mj_bI0.mpr (gw_nt hq))) ?_
          refine mw_k 69 i_GW_wall_67 rfl ?_
          refine mw_ri i_GW_wall_69 rfl rfl ?_
          exact k1 (by simp [hq]) f2 (gw_keep_fr g12 (by decide)) hI2
      · skip
        refine mw_ld 1 i_GW_wall_0 rfl rfl rfl ?_
        refine mw_get 4 i_GW_wall_1 rfl (by assumption) (by rfl) ?_
        refine mw_ld 5 i_GW_wall_4 rfl rfl rfl ?_
        refine mw_cv1 8 i_GW_wall_5 rfl (by assumption) (sp_Room_hasCell hd x2 ?_) rfl rfl (Nat.le_of_ble_eq_true rfl) (Nat.le_of_ble_eq_true rfl)
        refine mw_if0 11 i_GW_wall_8 rfl (mj_bI1.mpr ha) ?_
        refine mw_ld 12 i_GW_wall_11 rfl rfl rfl ?_
        refine mw_get 15 i_GW_wall_12 rfl (by assumption) (by rfl) ?_
        refine mw_ld 16 i_GW_wall_15 rfl rfl rfl ?_
        refine mw_cv1 19 i_GW_wall_16 rfl (by assumption) (sp_Room_hasCell hd x2 ?_) rfl rfl (Nat.le_of_ble_eq_true rfl) (Nat.le_of_ble_eq_true rfl)
        refine mw_if0 22 i_GW_wall_19 rfl (mj_bI1.mpr hb) ?_
        refine mw_ld 23 i_GW_wall_22 rfl rfl rfl ?_
        refine mw_k 24 i_GW_wall_23 rfl ?_
        refine mw_k 25 i_GW_wall_24 rfl ?_
        refine mw_cs1 28 i_GW_wall_25 rfl (sp_GW_isWithin ?_) rfl rfl (Nat.le_of_ble_eq_true rfl) (Nat.le_of_ble_eq_true rfl)
        refine mw_if0 31 i_GW_wall_28 rfl (fun q => q (mj_bI0.mpr (gw_nt ho))) ?_
        refine mw_k 33 i_GW_wall_31 rfl ?_
        refine mw_ri i_GW_wall_33 rfl rfl ?_
        rw [a_wall, if_pos ha, if_pos hb, if_neg ho] at k1
        exact k1 (by simp [gw_okWall, ho]) σ.1 (gw_keep_rf _) hI
    · skip
      refine mw_ld 1 i_GW_wall_0 rfl rfl rfl ?_
      refine mw_get 4 i_GW_wall_1 rfl (by assumption) (by rfl) ?_
      refine mw_ld 5 i_GW_wall_4 rfl rfl rfl ?_
      refine mw_cv1 8 i_GW_wall_5 rfl (by assumption) (sp_Room_hasCell hd x2 ?_) rfl rfl (Nat.le_of_ble_eq_true rfl) (Nat.le_of_ble_eq_true rfl)
      refine mw_if0 11 i_GW_wall_8 rfl (mj_bI1.mpr ha) ?_
      refine mw_ld 12 i_GW_wall_11 rfl rfl rfl ?_
      refine mw_get 15 i_GW_wall_12 rfl (by assumption) (by rfl) ?_
      refine mw_ld 16 i_GW_wall_15 rfl rfl rfl ?_
      refine mw_cv1 19 i_GW_wall_16 rfl (by assumption) (sp_Room_hasCell hd x2 ?_) rfl rfl (Nat.le_of_ble_eq_true rfl) (Nat.le_of_ble_eq_true rfl)
      refine mw_if1 i_GW_wall_19 (mj_bI0.mpr (gw_nt hb)) ?_
      refine mw_k 33 i_GW_wall_31 rfl ?_
      refine mw_ri i_GW_wall_33 rfl rfl ?_
      rw [a_wall, if_pos ha, if_neg hb] at k1
      exact k1 (by simp [gw_okWall, hb]) σ.1 (gw_keep_rf _) hI
  · skip
    refine mw_ld 1 i_GW_wall_0 rfl rfl rfl ?_
    refine mw_get 4 i_GW_wall_1 rfl (by assumption) (by rfl) ?_
    refine mw_ld 5 i_GW_wall_4 rfl rfl rfl ?_
    refine mw_cv1 8 i_GW_wall_5 rfl (by assumption) (sp_Room_hasCell hd x2 ?_) rfl rfl (Nat.le_of_ble_eq_true rfl) (Nat.le_of_ble_eq_true rfl)
    refine mw_if1 i_GW_wall_8 (mj_bI0.mpr (gw_nt ha)) ?_
    refine mw_k 33 i_GW_wall_31 rfl ?_
    refine mw_ri i_GW_wall_33 rfl rfl ?_
    rw [a_wall, if_neg ha] at k1
    exact k1 (by simp [gw_okWall, ha]) σ.1 (gw_keep_rf _) hI
theorem gw_in1_of {z : Int32} {k : Nat} (hk : k < 2147483648) (h : gw_in z 1 (nI k) = true) : ∃ i, 1 ≤ i ∧ i ≤ k ∧ z = nI i := by
  obtain ⟨h1, h2⟩ := gw_in_iff.mp h
  rw [mj_nI k hk] at h2
  have h1 : 1 ≤ z.toInt := h1
  exact ⟨z.toInt.toNat, by omega, by omega, mj_of (by omega)⟩
theorem sp_GW_room {X : mj_X} {d : Nat} {σ : mj_H} {Q : Value → mj_H → Prop} {w h n : Nat} {s : Nat → Int32} {kp : Nat} {hn : Nat → Nat} {hs : Nat → Nat → Int32} {P : List gw_Row} {sz : Int32} (hI : gw_CI σ.1 w h n s kp hn hs P sz) (hd : gw_dim w h) (hn14 : n ≤ 14) (hv : gw_vp w h n s) {a b : Int32} {hn2 : Nat → Nat} {hs2 : Nat → Nat → Int32} (k1 : (gw_in a 1 10 && gw_in b 1 10) = false → Q (.int gw_BAD) σ) (k2 : ∀ w2 h2, gw_dim w2 h2 → a = nI w2 → b = nI h2 → ∀ f, gw_keep σ.1 f → (∀ s', (∀ i, i < 213 → s' i = 0) → gw_CI f w2 h2 0 s' 0 hn2 hs2 [] sz) → Q (.int (nI (w2 * h2))) (f, σ.2)) : mj_M X (d + 20) y_GW_room [.ref 0, .int a, .int b] σ (mj_V Q) := by
  obtain ⟨x1, x2, ⟨w6, h6, n6, s6, x3⟩, ⟨nx, x4⟩, x5, x6, ⟨st, qu, x7⟩, ce, ab, co, wy, bl, x8, x9⟩ := id hI
  obtain ⟨wl1, ps1, r1, -⟩ := id x2
  have hwh := gw_dim_le hd
  refine mw_in (l0 := [some (.ref 0), some (.int a), some (.int b)]) rfl ?_
  by_cases ha : gw_in a 1 10 = true
  · skip
    by_cases hb : gw_in b 1 10 = true
    · skip
      obtain ⟨w2, hw1, hw2, rfl⟩ := gw_in1_of (k := 10) (by decide) ha
      obtain ⟨h2, hh1, hh2, rfl⟩ := gw_in1_of (k := 10) (by decide) hb
      obtain ⟨u, wt, hV⟩ := gw_vok_w x5
      obtain ⟨ol, oh, up, sz1, fi, fo, lo, hi, rl, rh, hC⟩ := gw_cok_w x6
      obtain ⟨rs9, p91, -⟩ := id x4
      refine mw_ld 1 i_GW_room_0 rfl rfl rfl ?_
      refine mw_k 2 i_GW_room_1 rfl ?_
      refine mw_k 4 i_GW_room_2 rfl ?_
      refine mw_cs1 7 i_GW_room_4 rfl (sp_GW_isWithin ?_) rfl rfl (Nat.le_of_ble_eq_true rfl) (Nat.le_of_ble_eq_true rfl)
      refine mw_if0 10 i_GW_room_7 rfl (mj_bI1.mpr ha) ?_
      refine mw_ld 11 i_GW_room_10 rfl rfl rfl ?_
      refine mw_k 12 i_GW_room_11 rfl ?_
      refine mw_k 14 i_GW_room_12 rfl ?_
      refine mw_cs1 17 i_GW_room_14 rfl (sp_GW_isWithin ?_) rfl rfl (Nat.le_of_ble_eq_true rfl) (Nat.le_of_ble_eq_true rfl)
      refine mw_if1 i_GW_room_17 (mj_bI1.mpr hb) ?_
      refine mw_ld 24 i_GW_room_23 rfl rfl rfl ?_
      refine mw_get 27 i_GW_room_24 rfl (by repeat (first | exact mj_hs2 | exact mj_hs | assumption | refine mj_hn2 (by omega) ?_ | refine mj_hn (by omega) ?_)) (by rfl) ?_
      refine mw_ld 28 i_GW_room_27 rfl rfl rfl ?_
      refine mw_ld 29 i_GW_room_28 rfl rfl rfl ?_
      refine mw_cv0 32 i_GW_room_29 rfl (by repeat (first | exact mj_hs2 | exact mj_hs | assumption | refine mj_hn2 (by omega) ?_ | refine mj_hn (by omega) ?_)) (sp_Room_begin (r := 1) (w2 := w2) (h2 := h2) (by decide) x2 (fun f g1 hR1 => ?_)) rfl rfl (Nat.le_of_ble_eq_true rfl) (Nat.le_of_ble_eq_true rfl)
      have hP1 : gw_pa f w h kp nx hn hs := gw_pa_fr g1 (by decide) x4
      have h0f : f 0 = gw_c0 := (g1 0 (by decide)).trans x1
      obtain ⟨rsf, pf1, -⟩ := id hP1
      refine mw_ld 33 i_GW_room_32 rfl rfl rfl ?_
      refine mw_get 36 i_GW_room_33 rfl (by repeat (first | exact mj_hs2 | exact mj_hs | assumption | refine mj_hn2 (by omega) ?_ | refine mj_hn (by omega) ?_)) (by rfl) ?_
      refine mw_cv0 39 i_GW_room_36 rfl (by repeat (first | exact mj_hs2 | exact mj_hs | assumption | refine mj_hn2 (by omega) ?_ | refine mj_hn (by omega) ?_)) (sp_Past_forget (σ := (f, σ.2)) (w2 := w2) (h2 := h2) (hn2 := hn2) (hs2 := hs2) hP1 (fun f2 g2 hP2 => ?_)) rfl rfl (Nat.le_of_ble_eq_true rfl) (Nat.le_of_ble_eq_true rfl)
      have g12 : gw_fr [1, 2, 3, 9] σ.1 f2 := gw_fr_tr (gw_fr_sub g1 (by simp)) (gw_fr_sub g2 (by simp))
      have h0f2 : f2 0 = gw_c0 := (g12 0 (by decide)).trans x1
      have hV2 : gw_vw f2 u wt := ⟨(g12 4 (by decide)).trans hV.1, (g12 5 (by decide)).trans hV.2⟩
      have hC2 : gw_ch f2 ol oh up sz1 fi fo lo hi rl rh := ⟨(g12 _ (by decide)).trans hC.1, (g12 _ (by decide)).trans hC.2.1, (g12 _ (by decide)).trans hC.2.2.1, (g12 _ (by decide)).trans hC.2.2.2.1, (g12 _ (by decide)).trans hC.2.2.2.2⟩
      have hF2 : gw_pf f2 P.length sz ce ab co wy bl := gw_pf_fr g12 (fun a _ _ => by simp; omega) x8
      have hR2 := gw_rm_fr g2 (by decide) (by decide) (by decide) (by decide) hR1
      refine mw_ld 40 i_GW_room_39 rfl rfl rfl ?_
      refine mw_cv0 43 i_GW_room_40 rfl (by repeat (first | exact mj_hs2 | exact mj_hs | assumption | refine mj_hn2 (by omega) ?_ | refine mj_hn (by omega) ?_)) (sp_GW_outdate (σ := (f2, σ.2)) hC2 hF2 h0f2 hV2 (fun f3 g3 g4 g5 g6 => ?_)) rfl rfl (Nat.le_of_ble_eq_true rfl) (Nat.le_of_ble_eq_true rfl)
      have hR3 := gw_rm_fr g3 (by decide) (by decide) (by decide) (by decide) hR2
      have h0f3 : f3 0 = gw_c0 := (g3 0 (by decide)).trans h0f2
      obtain ⟨wl3, ps3, rr3, -⟩ := id hR3
      refine mw_ld 44 i_GW_room_43 rfl rfl rfl ?_
      refine mw_get 47 i_GW_room_44 rfl (by repeat (first | exact mj_hs2 | exact mj_hs | assumption | refine mj_hn2 (by omega) ?_ | refine mj_hn (by omega) ?_)) (by rfl) ?_
      refine mw_cv1 50 i_GW_room_47 rfl (by repeat (first | exact mj_hs2 | exact mj_hs | assumption | refine mj_hn2 (by omega) ?_ | refine mj_hn (by omega) ?_)) (sp_Room_cells (r := 1) (σ := (f3, σ.2)) hR3 ?_) rfl rfl (Nat.le_of_ble_eq_true rfl) (Nat.le_of_ble_eq_true rfl)
      refine mw_ri i_GW_room_50 rfl rfl ?_
      refine k2 w2 h2 ⟨hw1, hw2, hh1, hh2⟩ rfl rfl f3 (fun a ha => (g3 a (by simp; omega)).trans (g12 a (by simp; omega))) (fun s' hs' => ?_)
      have hX : gw_CX f3 w2 h2 0 hn2 hs2 sz := ⟨h0f3, ⟨0, gw_pa_fr g3 (by decide) hP2⟩, g4, g5, ⟨st, qu, gw_sh_fr g3 (fun a _ _ => by simp; omega) (gw_sh_fr g12 (fun a _ _ => by simp; omega) x7)⟩, g6⟩
      exact gw_CX_CI hX (gw_rm_cg2 (Nat.zero_le _) hs' hR3) (gw_rm_fr g3 (by decide) (by decide) (by decide) (by decide) (gw_rm_fr g12 (by decide) (by decide) (by decide) (by decide) x3))
    · skip
      refine mw_ld 1 i_GW_room_0 rfl rfl rfl ?_
      refine mw_k 2 i_GW_room_1 rfl ?_
      refine mw_k 4 i_GW_room_2 rfl ?_
      refine mw_cs1 7 i_GW_room_4 rfl (sp_GW_isWithin ?_) rfl rfl (Nat.le_of_ble_eq_true rfl) (Nat.le_of_ble_eq_true rfl)
      refine mw_if0 10 i_GW_room_7 rfl (mj_bI1.mpr ha) ?_
      refine mw_ld 11 i_GW_room_10 rfl rfl rfl ?_
      refine mw_k 12 i_GW_room_11 rfl ?_
      refine mw_k 14 i_GW_room_12 rfl ?_
      refine mw_cs1 17 i_GW_room_14 rfl (sp_GW_isWithin ?_) rfl rfl (Nat.le_of_ble_eq_true rfl) (Nat.le_of_ble_eq_true rfl)
      refine mw_if0 20 i_GW_room_17 rfl (fun q => q (mj_bI0.mpr (gw_nt hb))) ?_
      refine mw_k 22 i_GW_room_20 rfl ?_
      refine mw_ri i_GW_room_22 rfl rfl ?_
      exact k1 (by simp [hb])
  · skip
    refine mw_ld 1 i_GW_room_0 rfl rfl rfl ?_
    refine mw_k 2 i_GW_room_1 rfl ?_
    refine mw_k 4 i_GW_room_2 rfl ?_
    refine mw_cs1 7 i_GW_room_4 rfl (sp_GW_isWithin ?_) rfl rfl (Nat.le_of_ble_eq_true rfl) (Nat.le_of_ble_eq_true rfl)
    refine mw_if1 i_GW_room_7 (mj_bI0.mpr (gw_nt ha)) ?_
    refine mw_k 22 i_GW_room_20 rfl ?_
    refine mw_ri i_GW_room_22 rfl rfl ?_
    exact k1 (by simp [ha])
theorem sp_GW_undo {X : mj_X} {d : Nat} {σ : mj_H} {Q : Value → mj_H → Prop} {w h n : Nat} {s : Nat → Int32} {kp : Nat} {hn : Nat → Nat} {hs : Nat → Nat → Int32} {P : List gw_Row} {sz : Int32} (hI : gw_CI σ.1 w h n s kp hn hs P sz) (k1 : kp = 0 → Q (.int gw_NO) σ) (k2 : ∀ kp', kp = kp' + 1 → ∀ f, gw_keep σ.1 f → (∀ s', (∀ i, i < 213 → s' i = hs kp' i) → gw_CI f w h (hn kp') s' kp' hn hs [] sz) → Q (.int (nI kp')) (f, σ.2)) : mj_M X (d + 20) y_GW_undo [.ref 0] σ (mj_V Q) := by
  obtain ⟨x1, x2, ⟨w6, h6, n6, s6, x3⟩, ⟨nx, x4⟩, x5, x6, ⟨st, qu, x7⟩, ce, ab, co, wy, bl, x8, x9⟩ := id hI
  obtain ⟨wl1, ps1, r1, -⟩ := id x2
  obtain ⟨u, wt, hV⟩ := gw_vok_w x5
  obtain ⟨ol, oh, up, sz1, fi, fo, lo, hi, rl, rh, hC⟩ := gw_cok_w x6
  obtain ⟨rs9, p91, -⟩ := id x4
  refine mw_in (l0 := [some (.ref 0)]) rfl ?_
  cases kp with
  | zero =>
    refine mw_ld 1 i_GW_undo_0 rfl rfl rfl ?_
    refine mw_get 4 i_GW_undo_1 rfl (by assumption) (by rfl) ?_
    refine mw_cv1 7 i_GW_undo_4 rfl (by assumption) (sp_Past_kept x4 ?_) rfl rfl (Nat.le_of_ble_eq_true rfl) (Nat.le_of_ble_eq_true rfl)
    refine mw_if0 10 i_GW_undo_7 rfl (fun q => q rfl) ?_
    refine mw_k 12 i_GW_undo_10 rfl ?_
    refine mw_ri i_GW_undo_12 rfl rfl ?_
    exact k1 rfl
  | succ kp =>
    have hk10 : kp + 1 ≤ 10 := by obtain ⟨_, _, _, _, q, _⟩ := x4; exact q
    refine mw_ld 1 i_GW_undo_0 rfl rfl rfl ?_
    refine mw_get 4 i_GW_undo_1 rfl (by repeat (first | exact mj_hs2 | exact mj_hs | assumption | refine mj_hn2 (by omega) ?_ | refine mj_hn (by omega) ?_)) (by rfl) ?_
    refine mw_cv1 7 i_GW_undo_4 rfl (by repeat (first | exact mj_hs2 | exact mj_hs | assumption | refine mj_hn2 (by omega) ?_ | refine mj_hn (by omega) ?_)) (sp_Past_kept x4 ?_) rfl rfl (Nat.le_of_ble_eq_true rfl) (Nat.le_of_ble_eq_true rfl)
    refine mw_if1 i_GW_undo_7 (nI_ne0 (by omega) (by omega)) ?_
    refine mw_ld 14 i_GW_undo_13 rfl rfl rfl ?_
    refine mw_get 17 i_GW_undo_14 rfl (by repeat (first | exact mj_hs2 | exact mj_hs | assumption | refine mj_hn2 (by omega) ?_ | refine mj_hn (by omega) ?_)) (by rfl) ?_
    refine mw_ld 18 i_GW_undo_17 rfl rfl rfl ?_
    refine mw_get 21 i_GW_undo_18 rfl (by repeat (first | exact mj_hs2 | exact mj_hs | assumption | refine mj_hn2 (by omega) ?_ | refine mj_hn (by omega) ?_)) (by rfl) ?_
    refine mw_cv0 24 i_GW_undo_21 rfl (by repeat (first | exact mj_hs2 | exact mj_hs | assumption | refine mj_hn2 (by omega) ?_ | refine mj_hn (by omega) ?_)) (sp_Past_takeBack x4 x2 (fun f2 g12 hR1 hP1 => ?_)) rfl rfl (Nat.le_of_ble_eq_true rfl) (Nat.le_of_ble_eq_true rfl)
    have h0f2 : f2 0 = gw_c0 := (g12 0 (by decide)).trans x1
    have hV2 : gw_vw f2 u wt := ⟨(g12 4 (by decide)).trans hV.1, (g12 5 (by decide)).trans hV.2⟩
    have hC2 : gw_ch f2 ol oh up sz1 fi fo lo hi rl rh := ⟨(g12 _ (by decide)).trans hC.1, (g12 _ (by decide)).trans hC.2.1, (g12 _ (by decide)).trans hC.2.2.1, (g12 _ (by decide)).trans hC.2.2.2.1, (g12 _ (by decide)).trans hC.2.2.2.2⟩
    have hF2 : gw_pf f2 P.length sz ce ab co wy bl := gw_pf_fr g12 (fun a _ _ => by simp; omega) x8
    refine mw_ld 25 i_GW_undo_24 rfl rfl rfl ?_
    refine mw_cv0 28 i_GW_undo_25 rfl (by repeat (first | exact mj_hs2 | exact mj_hs | assumption | refine mj_hn2 (by omega) ?_ | refine mj_hn (by omega) ?_)) (sp_GW_outdate (σ := (f2, σ.2)) hC2 hF2 h0f2 hV2 (fun f3 g3 g4 g5 g6 => ?_)) rfl rfl (Nat.le_of_ble_eq_true rfl) (Nat.le_of_ble_eq_true rfl)
    have hR3 := gw_rm_fr g3 (by decide) (by decide) (by decide) (by decide) hR1
    have hP3 := gw_pa_fr g3 (by decide) hP1
    have h0f3 : f3 0 = gw_c0 := (g3 0 (by decide)).trans h0f2
    obtain ⟨rs3, pp3, -⟩ := id hP3
    refine mw_ld 29 i_GW_undo_28 rfl rfl rfl ?_
    refine mw_get 32 i_GW_undo_29 rfl (by repeat (first | exact mj_hs2 | exact mj_hs | assumption | refine mj_hn2 (by omega) ?_ | refine mj_hn (by omega) ?_)) (by rfl) ?_
    refine mw_cv1 35 i_GW_undo_32 rfl (by repeat (first | exact mj_hs2 | exact mj_hs | assumption | refine mj_hn2 (by omega) ?_ | refine mj_hn (by omega) ?_)) (sp_Past_kept (σ := (f3, σ.2)) hP3 ?_) rfl rfl (Nat.le_of_ble_eq_true rfl) (Nat.le_of_ble_eq_true rfl)
    refine mw_ri i_GW_undo_35 rfl rfl ?_
    refine k2 kp rfl f3 (fun a ha => (g3 a (by simp; omega)).trans (g12 a (by simp; omega))) (fun s' hs' => ?_)
    have hX : gw_CX f3 w h kp hn hs sz := ⟨h0f3, ⟨_, hP3⟩, g4, g5, ⟨st, qu, gw_sh_fr g3 (fun a _ _ => by simp; omega) (gw_sh_fr g12 (fun a _ _ => by simp; omega) x7)⟩, g6⟩
    have h14 : hn kp ≤ 14 := by obtain ⟨_, _, _, _, _, _, _, q⟩ := x4; exact (q kp (by omega)).1
    exact gw_CX_CI hX (gw_rm_cg2 h14 hs' hR3) (gw_rm_fr g3 (by decide) (by decide) (by decide) (by decide) (gw_rm_fr g12 (by decide) (by decide) (by decide) (by decide) x3))
theorem sp_GW_drop {X : mj_X} {d : Nat} {σ : mj_H} {Q : Value → mj_H → Prop} {w h n : Nat} {s : Nat → Int32} {kp : Nat} {hn : Nat → Nat} {hs : Nat → Nat → Int32} {P : List gw_Row} {sz : Int32} (hI : gw_CI σ.1 w h n s kp hn hs P sz) (hn14 : n ≤ 14) (k1 : n = 0 → Q (.int gw_NO) σ) (k2 : ∀ n', n = n' + 1 → ∀ f, gw_keep σ.1 f → gw_CI f w h n' (upd s 100 (nI n')) (min (kp + 1) 10) (gw_push kp hn n) (gw_push kp hs s) [] sz → Q (.int (nI n')) (f, σ.2)) : mj_M X (d + 20) y_GW_drop [.ref 0] σ (mj_V Q) := by
  obtain ⟨x1, x2, ⟨w6, h6, n6, s6, x3⟩, ⟨nx, x4⟩, x5, x6, ⟨st, qu, x7⟩, ce, ab, co, wy, bl, x8, x9⟩ := id hI
  obtain ⟨wl1, ps1, r1, -⟩ := id x2
  refine mw_in (l0 := [some (.ref 0)]) rfl ?_
  cases n with
  | zero =>
    refine mw_ld 1 i_GW_drop_0 rfl rfl rfl ?_
    refine mw_get 4 i_GW_drop_1 rfl (by assumption) (by rfl) ?_
    refine mw_cv1 7 i_GW_drop_4 rfl (by assumption) (sp_Room_posts x2 ?_) rfl rfl (Nat.le_of_ble_eq_true rfl) (Nat.le_of_ble_eq_true rfl)
    refine mw_if0 10 i_GW_drop_7 rfl (fun q => q rfl) ?_
    refine mw_k 12 i_GW_drop_10 rfl ?_
    refine mw_ri i_GW_drop_12 rfl rfl ?_
    exact k1 rfl
  | succ n =>
    refine mw_ld 1 i_GW_drop_0 rfl rfl rfl ?_
    refine mw_get 4 i_GW_drop_1 rfl (by repeat (first | exact mj_hs2 | exact mj_hs | assumption | refine mj_hn2 (by omega) ?_ | refine mj_hn (by omega) ?_)) (by rfl) ?_
    refine mw_cv1 7 i_GW_drop_4 rfl (by repeat (first | exact mj_hs2 | exact mj_hs | assumption | refine mj_hn2 (by omega) ?_ | refine mj_hn (by omega) ?_)) (sp_Room_posts x2 ?_) rfl rfl (Nat.le_of_ble_eq_true rfl) (Nat.le_of_ble_eq_true rfl)
    refine mw_if1 i_GW_drop_7 (nI_ne0 (by omega) (by omega)) ?_
    refine mw_ld 14 i_GW_drop_13 rfl rfl rfl ?_
    refine mw_cv0 17 i_GW_drop_14 rfl (by repeat (first | exact mj_hs2 | exact mj_hs | assumption | refine mj_hn2 (by omega) ?_ | refine mj_hn (by omega) ?_)) (sp_GW_beginChange hI hn14 (fun f g1 hX => ?_)) rfl rfl (Nat.le_of_ble_eq_true rfl) (Nat.le_of_ble_eq_true rfl)
    have hRf := gw_rm_fr g1 (by decide) (by decide) (by decide) (by decide) x2
    have hRf6 := gw_rm_fr g1 (by decide) (by decide) (by decide) (by decide) x3
    have h0f : f 0 = gw_c0 := hX.1
    obtain ⟨wlf, psf, rf1, -⟩ := id hRf
    refine mw_ld 18 i_GW_drop_17 rfl rfl rfl ?_
    refine mw_get 21 i_GW_drop_18 rfl (by repeat (first | exact mj_hs2 | exact mj_hs | assumption | refine mj_hn2 (by omega) ?_ | refine mj_hn (by omega) ?_)) (by rfl) ?_
    refine mw_cv0 24 i_GW_drop_21 rfl (by repeat (first | exact mj_hs2 | exact mj_hs | assumption | refine mj_hn2 (by omega) ?_ | refine mj_hn (by omega) ?_)) (sp_Room_removeLatestPost (r := 1) (σ := (f, σ.2)) (by decide) hn14 hRf (fun f2 g2 hR2 => ?_)) rfl rfl (Nat.le_of_ble_eq_true rfl) (Nat.le_of_ble_eq_true rfl)
    have h0f2 : f2 0 = gw_c0 := (g2 0 (by decide)).trans h0f
    obtain ⟨wl3, ps3, rr3, -⟩ := id hR2
    refine mw_ld 25 i_GW_drop_24 rfl rfl rfl ?_
    refine mw_get 28 i_GW_drop_25 rfl (by repeat (first | exact mj_hs2 | exact mj_hs | assumption | refine mj_hn2 (by omega) ?_ | refine mj_hn (by omega) ?_)) (by rfl) ?_
    refine mw_cv1 31 i_GW_drop_28 rfl (by repeat (first | exact mj_hs2 | exact mj_hs | assumption | refine mj_hn2 (by omega) ?_ | refine mj_hn (by omega) ?_)) (sp_Room_posts (r := 1) (σ := (f2, σ.2)) hR2 ?_) rfl rfl (Nat.le_of_ble_eq_true rfl) (Nat.le_of_ble_eq_true rfl)
    refine mw_ri i_GW_drop_31 rfl rfl ?_
    refine k2 n rfl f2 (fun a ha => (g2 a (by simp; omega)).trans (g1 a (gw_BLn ha))) (gw_CX_CI (gw_CX_fr g2 (by decide) hX) (gw_rm_cg (fun c hc => pk_un (by omega)) (fun k hk => ?_) hR2) (gw_rm_fr g2 (by decide) (by decide) (by decide) (by decide) hRf6))
    simp (disch := omega) only [gw_po, pk_un]
