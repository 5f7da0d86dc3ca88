/-! the model: wall; room and undo as a whole -/
theorem gw_bx_put {w h a b : Nat} {on : Int32} {s : Nat → Int32} {i : Nat} (hr : gw_rec w h a b i = true) : upd (gw_bx w h a b on s i) i on = gw_bx w h a b on s (i + 1) := by
  funext c
  by_cases e : c = i
  · subst e; rw [pk_us, gw_bx, hr]; simp
  · rw [pk_un e, gw_bx, gw_bx]
    have : c < i + 1 ↔ c < i := by omega
    simp [this]
theorem gw_bx_no {w h a b : Nat} {on : Int32} {s : Nat → Int32} {i : Nat} (hr : gw_rec w h a b i = false ∨ s i = on) : gw_bx w h a b on s (i + 1) = gw_bx w h a b on s i := by
  funext c
  rw [gw_bx, gw_bx]
  by_cases e : c = i
  · subst e
    rcases hr with q | q
    · rw [q]; simp
    · by_cases z : gw_rec w h a b c = true
      · simp [z, q]
      · simp [z]
  · have : c < i + 1 ↔ c < i := by omega
    simp [this]
theorem gw_bx_0 {w h a b : Nat} {on : Int32} {s : Nat → Int32} : gw_bx w h a b on s 0 = s := by funext c; simp [gw_bx]
theorem gw_bx_end {w h a b : Nat} {on : Int32} {s : Nat → Int32} : gw_bx w h a b on s (w * h) = gw_bd w h a b on s := by
  funext c
  rw [gw_bx, gw_bd]
  by_cases q : c < w * h
  · simp [q]
  · have : gw_rec w h a b c = false := by rw [gw_rec]; simp [q]
    simp [this]
theorem gw_bx_self {w h a b : Nat} {on : Int32} {s : Nat → Int32} {i : Nat} : gw_bx w h a b on s i i = s i := by simp [gw_bx]
theorem gw_MI_held {f f' : Nat → mj_C} {w h n : Nat} {s : Nat → Int32} {kp : Nat} {hs : Nat → Nat → Int32} {P : List gw_Row} {sz : Int32} {he : Nat → Int32} (hf : gw_fr [56, 63] f f') (h1 : f' 56 = mj_AI 213 s) (h2 : f' 63 = mj_AI 100 he) (hM : gw_MI f w h n s kp hs P sz) : gw_MI f' w h n s kp hs P sz := by
  obtain ⟨tf, fu, fe, fi, ma, md, m1, ⟨a1, bf, a2, a3⟩, m3, m4, m5⟩ := hM
  exact ⟨tf, fu, fe, fi, ma, md, (hf _ (by decide)).trans m1, ⟨h1, bf, (hf _ (by decide)).trans a2, a3⟩, gw_mR_fr hf (fun a _ _ => by simp; omega) m3, gw_mS_fr hf (gw_no_in (by decide)) (fun _ => ⟨_, h2⟩) (gw_no_in (by decide)) (gw_no_in (by decide)) (gw_no_in (by decide)) (gw_no_in (by decide)) (gw_no_in (by decide)) (gw_no_in (by decide)) (gw_no_in (by decide)) m4, m5⟩
theorem gw_MI_wall {f f' : Nat → mj_C} {w h n : Nat} {s : Nat → Int32} {kp : Nat} {hs : Nat → Nat → Int32} {P : List gw_Row} {sz : Int32} {s2 : Nat → Int32} {kp2 : Nat} {hs2 : Nat → Nat → Int32} {tf fu fe fi ma md : Int32} {b he : Nat → Int32} (hM : gw_MI f w h n s kp hs P sz) (hf : gw_fr [55, 56, 57, 63, 64] f f') (h55 : f' 55 = gw_mo w h kp2 0 tf fu fe fi ma md) (h56 : f' 56 = mj_AI 213 s2) (h57 : f' 57 = mj_AI 2130 b) (h63 : f' 63 = mj_AI 100 he) (h64 : ∃ g, f' 64 = mj_AI 100 g) (hb : ∀ j i, j < kp2 → i < 213 → b (213 * j + i) = hs2 j i) : gw_MI f' w h n s2 kp2 hs2 [] sz := by
  obtain ⟨_, _, _, _, _, _, -, -, m3, m4, -⟩ := hM
  obtain ⟨rc, ra, rp, ry, a1, a2, a3, a4, -⟩ := gw_mR_fr hf (fun a _ _ => by simp; omega) m3
  exact ⟨tf, fu, fe, fi, ma, md, h55, ⟨h56, b, h57, hb⟩, ⟨rc, ra, rp, ry, a1, a2, a3, a4, fun j hj => by cases hj⟩, gw_mS_fr hf (gw_no_in (by decide)) (fun _ => ⟨_, h63⟩) (fun _ => h64) (gw_no_in (by decide)) (gw_no_in (by decide)) (gw_no_in (by decide)) (gw_no_in (by decide)) (gw_no_in (by decide)) (gw_no_in (by decide)) m4, .inl rfl⟩
theorem sp_Model_roomI {X : mj_X} {d : Nat} {σ : mj_H} {Q : Value → mj_H → Prop} {w h n : Nat} {s : Nat → Int32} {kp : Nat} {hs hs2 : Nat → Nat → Int32} {P : List gw_Row} {sz : Int32} (hM : gw_MI σ.1 w h n s kp hs P sz) {a b : Int32} (k1 : (gw_in a 1 10 && gw_in b 1 10) = false → Q (.int gw_BAD) σ) (k2 : ∀ w2 h2, gw_dim w2 h2 → a = nI w2 → b = nI h2 → ∀ f s2, gw_fr gw_ML σ.1 f → (∀ i, i < 213 → s2 i = 0) → gw_MI f w2 h2 0 s2 0 hs2 [] sz → Q (.int (nI (w2 * h2))) (f, σ.2)) : mj_M X (d + 20) y_Model_room [.ref 55, .int a, .int b] σ (mj_V Q) := by
  obtain ⟨tf, fu, fe, fi, ma, md, hO, ⟨hs1, bf, hB, -⟩, -⟩ := id hM
  exact sp_Model_room hO hs1 k1 (fun w2 h2 e1 e2 e3 f s2 g1 g2 g3 g4 => k2 w2 h2 e1 e2 e3 f s2 (gw_fr_sub g1 (by decide)) g4 (gw_MI_chg (by decide) hM g1 g2 g3 ((g1 57 (by decide)).trans hB) (fun j i hj => absurd hj (Nat.not_lt_zero j))))
theorem sp_Model_undoI {X : mj_X} {d : Nat} {σ : mj_H} {Q : Value → mj_H → Prop} {w h n : Nat} {s : Nat → Int32} {kp : Nat} {hs : Nat → Nat → Int32} {hn : Nat → Nat} {P : List gw_Row} {sz : Int32} (hM : gw_MI σ.1 w h n s kp hs P sz) (hk10 : kp ≤ 10) (k1 : kp = 0 → Q (.int gw_NO) σ) (k2 : ∀ kp', kp = kp' + 1 → ∀ f s2, gw_fr gw_ML σ.1 f → (∀ i, i < 213 → s2 i = hs kp' i) → gw_MI f w h (hn kp') s2 kp' hs [] sz → Q (.int (nI kp')) (f, σ.2)) : mj_M X (d + 20) y_Model_undo [.ref 55] σ (mj_V Q) := by
  obtain ⟨tf, fu, fe, fi, ma, md, hO, ⟨hs1, bf, hB, hb⟩, -⟩ := id hM
  exact sp_Model_undo hO hs1 hB hk10 k1 (fun kp' e f s2 g1 g2 g3 g4 => k2 kp' e f s2 (gw_fr_sub g1 (by decide)) (fun i hi => (g4 i hi).trans (hb kp' i (by omega) hi)) (gw_MI_chg (by decide) hM g1 g2 g3 ((g1 57 (by decide)).trans hB) (fun j i hj hi => hb j i (by omega) hi)))
theorem sp_Model_wall {X : mj_X} {d : Nat} {σ : mj_H} {Q : Value → mj_H → Prop} {w h n : Nat} {s : Nat → Int32} {kp : Nat} {hs : Nat → Nat → Int32} {P : List gw_Row} {sz : Int32} (hM : gw_MI σ.1 w h n s kp hs P sz) (hd : gw_dim w h) (hn14 : n ≤ 14) (hp : s 100 = nI n) (hv : gw_vp w h n s) {a b on : Int32} (hk10 : kp ≤ 10) (k1 : gw_okWall w h n s a b on = false → ∀ f, gw_fr gw_ML σ.1 f → gw_MI f w h n s kp hs P sz → Q (.int (a_wall w h a b on)) (f, σ.2)) (k2 : gw_okWall w h n s a b on = true → ∀ f, gw_fr gw_ML σ.1 f → gw_MI f w h n (gw_bd w h a.toInt.toNat b.toInt.toNat on s) (min (kp + 1) 10) (gw_push kp hs s) [] sz → Q (.int (nI (gw_cn (gw_bn w h a.toInt.toNat b.toInt.toNat on s) (w * h)))) (f, σ.2)) : mj_M X (d + 20) y_Model_wall [.ref 55, .int a, .int b, .int on] σ (mj_V Q) := by
  obtain ⟨tf, fu, fe, fi, ma, md, hO, hA, hRr, hSs, htf⟩ := id hM
  obtain ⟨hs1, bf, hB, hb⟩ := id hA
  obtain ⟨⟨wt0, hW⟩, ⟨he0, hH⟩, ⟨fr0, hF⟩, ⟨fa0, hFa⟩, ⟨ct0, hCt⟩, ⟨mc0, hm1⟩, ⟨mb0, hm2⟩, ⟨mp0, hm3⟩, ⟨mw0, hm4⟩⟩ := id hSs
  have hwh := gw_dim_le hd
  refine mw_in (l0 := [some (.ref 55), some (.int a), some (.int b), some (.int on), none, none]) rfl ?_
  by_cases ha : gw_ce w h a = true
  · skip
    by_cases hb2 : gw_ce w h b = true
    · skip
      by_cases ho1 : gw_in on 0 1 = true
      · skip
        obtain ⟨a, ha2, rfl⟩ := gw_ce_of hd ha
        obtain ⟨b, hb3, rfl⟩ := gw_ce_of hd hb2
        rw [a_wall, if_pos ha, if_pos hb2, if_pos ho1] at k1
        rw [gw_okWall, gw_tn (by omega), gw_tn (by omega)] at k1 k2
        have hv2 : gw_vp w h n (gw_bd w h a b on s) := gw_vp_cg hn14 (fun c h1 _ => gw_bd_hi hd h1) hv
        have hp2 : gw_bd w h a b on s 100 = nI n := by rw [gw_bd_hi hd (by decide)]; exact hp
        refine mw_ld 1 i_Model_wall_0 rfl rfl rfl ?_
        refine mw_ld 2 i_Model_wall_1 rfl rfl rfl ?_
        refine mw_cv1 5 i_Model_wall_2 rfl (by assumption) (sp_Model_isCell hO hd ?_) rfl rfl (Nat.le_of_ble_eq_true rfl) (Nat.le_of_ble_eq_true rfl)
        refine mw_if0 8 i_Model_wall_5 rfl (mj_bI1.mpr ha) ?_
        refine mw_ld 9 i_Model_wall_8 rfl rfl rfl ?_
        refine mw_ld 10 i_Model_wall_9 rfl rfl rfl ?_
        refine mw_cv1 13 i_Model_wall_10 rfl (by assumption) (sp_Model_isCell hO hd ?_) rfl rfl (Nat.le_of_ble_eq_true rfl) (Nat.le_of_ble_eq_true rfl)
        refine mw_if0 16 i_Model_wall_13 rfl (mj_bI1.mpr hb2) ?_
        refine mw_ld 17 i_Model_wall_16 rfl rfl rfl ?_
        refine mw_k 18 i_Model_wall_17 rfl ?_
        refine mw_k 19 i_Model_wall_18 rfl ?_
        refine mw_cs1 22 i_Model_wall_19 rfl (sp_Model_isIn ?_) rfl rfl (Nat.le_of_ble_eq_true rfl) (Nat.le_of_ble_eq_true rfl)
        refine mw_if1 i_Model_wall_22 (mj_bI1.mpr ho1) ?_
        refine mw_ld 29 i_Model_wall_28 rfl rfl rfl ?_
        refine mw_cv0 32 i_Model_wall_29 rfl (by assumption) (sp_Model_keep0 hO hs1 hH (fun f he g1 g2 g3 => ?_)) rfl rfl (Nat.le_of_ble_eq_true rfl) (Nat.le_of_ble_eq_true rfl)
        have go : f 55 = gw_mo w h kp P.length tf fu fe fi ma md := (g1 _ (by decide)).trans hO
        have gs : f 56 = mj_AI 213 s := (g1 _ (by decide)).trans hs1
        refine mw_k 33 i_Model_wall_32 rfl ?_
        refine mw_st (ls' := [_, _, _, _, _, _]) 35 i_Model_wall_33 rfl rfl rfl rfl ?_
        refine mw_k 36 i_Model_wall_35 rfl ?_
        refine mw_st (ls' := [_, _, _, _, _, _]) 38 i_Model_wall_36 rfl rfl rfl rfl ?_
        refine mj_for (S := Nat → mj_C) (fun i f2 => mj_Wp X (d + 20) y_Model_wall 38 [some (.ref 55), some (.int (nI a)), some (.int (nI b)), some (.int on), some (.int (nI (gw_cn (gw_bn w h a b on s) i))), some (.int (nI i))] [] (f2, σ.2) (mj_V Q)) (fun i f2 => gw_fr [56] f f2 ∧ f2 56 = mj_AI 213 (gw_bx w h a b on s i)) (w * h) ?_ ?_ 0 f (Nat.zero_le _) ⟨gw_fr_rf _ _, by rw [gw_bx_0]; exact gs⟩
        · rintro f2 ⟨e1, e2⟩
          rw [gw_bx_end] at e2
          have go2 : f2 55 = gw_mo w h kp P.length tf fu fe fi ma md := (e1 _ (by decide)).trans go
          have gb2 : f2 57 = mj_AI 2130 bf := (e1 _ (by decide)).trans ((g1 _ (by decide)).trans hB)
          have gh2 : f2 63 = mj_AI 100 he := (e1 _ (by decide)).trans g2
          have gf2 : f2 64 = mj_AI 100 fr0 := (e1 _ (by decide)).trans ((g1 _ (by decide)).trans hF)
          by_cases hq : gw_hp w h n (gw_bd w h a b on s) = true
          · skip
            refine mw_ld 40 i_Model_wall_38 rfl rfl rfl ?_
            refine mw_ld 41 i_Model_wall_40 rfl rfl rfl ?_
            refine mw_cv1 44 i_Model_wall_41 rfl (by repeat (first | exact mj_hs2 | exact mj_hs | assumption | refine mj_hn2 (by omega) ?_ | refine mj_hn (by omega) ?_)) (sp_Model_cells (σ := (f2, σ.2)) go2 ?_) rfl rfl (Nat.le_of_ble_eq_true rfl) (Nat.le_of_ble_eq_true rfl)
            refine mw_ic1 i_Model_wall_44 (nI_le (Nat.le_refl _) (by omega)) ?_
            refine mw_ld 87 i_Model_wall_86 rfl rfl rfl ?_
            refine mw_cv1 90 i_Model_wall_87 rfl (by repeat (first | exact mj_hs2 | exact mj_hs | assumption | refine mj_hn2 (by omega) ?_ | refine mj_hn (by omega) ?_)) (sp_Model_allStand (σ := (f2, σ.2)) go2 e2 hd hn14 hp2 hv2 ?_) rfl rfl (Nat.le_of_ble_eq_true rfl) (Nat.le_of_ble_eq_true rfl)
            refine mw_if1 i_Model_wall_90 (mj_bI1.mpr hq) ?_
            refine mw_ld 127 i_Model_wall_126 rfl rfl rfl ?_
            refine mw_cv0 130 i_Model_wall_127 rfl (by repeat (first | exact mj_hs2 | exact mj_hs | assumption | refine mj_hn2 (by omega) ?_ | refine mj_hn (by omega) ?_)) (sp_Model_swapBack (σ := (f2, σ.2)) (s0 := s) go2 e2 gb2 gh2 gf2 hk10 hb g3 (fun i hi => gw_bd_hi hd hi) (fun f4 b4 k3 k4 k5 k6 k7 k8 => ?_)) rfl rfl (Nat.le_of_ble_eq_true rfl) (Nat.le_of_ble_eq_true rfl)
            refine mw_ld 132 i_Model_wall_130 rfl rfl rfl ?_
            refine mw_ri i_Model_wall_132 rfl rfl ?_
            have hfr : gw_fr [55, 56, 57, 63, 64] σ.1 f4 := gw_fr_tr (gw_fr_sub g1 (by simp)) (gw_fr_tr (gw_fr_sub e1 (by simp)) (gw_fr_sub k3 (by simp)))
            exact k2 (by simp [ha, hb2, ho1, hq]) f4 (gw_fr_sub hfr (by decide)) (gw_MI_wall hM hfr k4 k5 k6 ((k3 63 (by decide)).trans gh2) k7 k8)
          · skip
            refine mw_ld 40 i_Model_wall_38 rfl rfl rfl ?_
            refine mw_ld 41 i_Model_wall_40 rfl rfl rfl ?_
            refine mw_cv1 44 i_Model_wall_41 rfl (by repeat (first | exact mj_hs2 | exact mj_hs | assumption | refine mj_hn2 (by omega) ?_ | refine mj_hn (by omega) ?_)) (sp_Model_cells (σ := (f2, σ.2)) go2 ?_) rfl rfl (Nat.le_of_ble_eq_true rfl) (Nat.le_of_ble_eq_true rfl)
            refine mw_ic1 i_Model_wall_44 (nI_le (Nat.le_refl _) (by omega)) ?_
            refine mw_ld 87 i_Model_wall_86 rfl rfl rfl ?_
            refine mw_cv1 90 i_Model_wall_87 rfl (by repeat (first | exact mj_hs2 | exact mj_hs | assumption | refine mj_hn2 (by omega) ?_ | refine mj_hn (by omega) ?_)) (sp_Model_allStand (σ := (f2, σ.2)) go2 e2 hd hn14 hp2 hv2 ?_) rfl rfl (Nat.le_of_ble_eq_true rfl) (Nat.le_of_ble_eq_true rfl)
            refine mw_if0 93 i_Model_wall_90 rfl (fun q => q (mj_bI0.mpr (gw_nt hq))) ?_
            refine mw_k 94 i_Model_wall_93 rfl ?_
            refine mw_st (ls' := [_, _, _, _, _, _]) 96 i_Model_wall_94 rfl rfl rfl rfl ?_
            refine mj_for (S := Nat → mj_C) (fun i f3 => mj_Wp X (d + 20) y_Model_wall 96 [some (.ref 55), some (.int (nI a)), some (.int (nI b)), some (.int on), some (.int (nI (gw_cn (gw_bn w h a b on s) (w * h)))), some (.int (nI i))] [] (f3, σ.2) (mj_V Q)) (fun i f3 => gw_fr [56] f2 f3 ∧ ∃ q, f3 56 = mj_AI 213 q ∧ (∀ x, x < i → q x = s x) ∧ ∀ x, i ≤ x → q x = gw_bd w h a b on s x) 100 ?_ ?_ 0 f2 (Nat.zero_le _) ⟨gw_fr_rf _ _, _, e2, fun x hx => absurd hx (Nat.not_lt_zero x), fun x _ => rfl⟩
            · rintro f3 ⟨y1, q, y2, y3, y4⟩
              have eq : q = s := by
                funext x
                rcases Nat.lt_or_ge x 100 with z | z
                · exact y3 x z
                · rw [y4 x z]; exact gw_bd_hi hd z
              subst eq
              refine mw_ld 98 i_Model_wall_96 rfl rfl rfl ?_
              refine mw_k 100 i_Model_wall_98 rfl ?_
              refine mw_ic1 i_Model_wall_100 (by decide) ?_
              refine mw_k 125 i_Model_wall_123 rfl ?_
              refine mw_ri i_Model_wall_125 rfl rfl ?_
              have hfr : gw_fr [56, 63] σ.1 f3 := gw_fr_tr (gw_fr_sub g1 (by simp)) (gw_fr_tr (gw_fr_sub e1 (by simp)) (gw_fr_sub y1 (by simp)))
              exact k1 (by simp [hq]) f3 (gw_fr_sub hfr (by decide)) (gw_MI_held hfr y2 ((y1 63 (by decide)).trans gh2) hM)
            · rintro i f3 hi ⟨y1, q, y2, y3, y4⟩ ih
              have go3 : f3 55 = gw_mo w h kp P.length tf fu fe fi ma md := (y1 _ (by decide)).trans go2
              have gh3 : f3 63 = mj_AI 100 he := (y1 _ (by decide)).trans gh2
              refine mw_ld 98 i_Model_wall_96 rfl rfl rfl ?_
              refine mw_k 100 i_Model_wall_98 rfl ?_
              refine mw_ic0 103 i_Model_wall_100 rfl (nI_ge (b := 100) hi (by decide)) ?_
              refine mw_ld 104 i_Model_wall_103 rfl rfl rfl ?_
              refine mw_get 107 i_Model_wall_104 rfl (by repeat (first | exact mj_hs2 | exact mj_hs | assumption | refine mj_hn2 (by omega) ?_ | refine mj_hn (by omega) ?_)) (by rfl) ?_
              refine mw_ld 109 i_Model_wall_107 rfl rfl rfl ?_
              refine mw_ld 110 i_Model_wall_109 rfl rfl rfl ?_
              refine mw_get 113 i_Model_wall_110 rfl (by repeat (first | exact mj_hs2 | exact mj_hs | assumption | refine mj_hn2 (by omega) ?_ | refine mj_hn (by omega) ?_)) (by rfl) ?_
              refine mw_ld 115 i_Model_wall_113 rfl rfl rfl ?_
              refine mw_iald 116 i i_Model_wall_115 rfl (by repeat (first | exact mj_hs2 | exact mj_hs | assumption | refine mj_hn2 (by omega) ?_ | refine mj_hn (by omega) ?_)) rfl hi (by decide) ?_
              refine mw_iast 117 i i_Model_wall_116 rfl (by repeat (first | exact mj_hs2 | exact mj_hs | assumption | refine mj_hn2 (by omega) ?_ | refine mj_hn (by omega) ?_)) rfl (by omega) (by decide) ?_
              refine mw_inc (ls' := [_, _, _, _, _, _]) 120 (nI (i + 1)) i_Model_wall_117 rfl rfl rfl (nI_1 i) rfl ?_
              refine mw_go i_Model_wall_120 ?_
              refine ih _ ⟨gw_fr_up y1 (by simp), _, mj_hs, fun x hx => ?_, fun x hx => ?_⟩
              · by_cases e : x = i
                · subst e; rw [pk_us]; exact g3 _ hi
                · rw [pk_un e]; exact y3 x (by omega)
              · rw [pk_un (by omega)]; exact y4 x (by omega)
        · rintro i f2 hi ⟨e1, e2⟩ ih
          have go2 : f2 55 = gw_mo w h kp P.length tf fu fe fi ma md := (e1 _ (by decide)).trans go
          by_cases hr : gw_rec w h a b i = true
          · by_cases ho : s i = on
            · skip
              refine mw_ld 40 i_Model_wall_38 rfl rfl rfl ?_
              refine mw_ld 41 i_Model_wall_40 rfl rfl rfl ?_
              refine mw_cv1 44 i_Model_wall_41 rfl (by repeat (first | exact mj_hs2 | exact mj_hs | assumption | refine mj_hn2 (by omega) ?_ | refine mj_hn (by omega) ?_)) (sp_Model_cells (σ := (f2, σ.2)) go2 ?_) rfl rfl (Nat.le_of_ble_eq_true rfl) (Nat.le_of_ble_eq_true rfl)
              refine mw_ic0 47 i_Model_wall_44 rfl (nI_ge hi (by omega)) ?_
              refine mw_ld 48 i_Model_wall_47 rfl rfl rfl ?_
              refine mw_ld 50 i_Model_wall_48 rfl rfl rfl ?_
              refine mw_ld 51 i_Model_wall_50 rfl rfl rfl ?_
              refine mw_ld 52 i_Model_wall_51 rfl rfl rfl ?_
              refine mw_cv1 55 i_Model_wall_52 rfl (by repeat (first | exact mj_hs2 | exact mj_hs | assumption | refine mj_hn2 (by omega) ?_ | refine mj_hn (by omega) ?_)) (sp_Model_isBetween (σ := (f2, σ.2)) go2 hi ha2 hb3 hd ?_) rfl rfl (Nat.le_of_ble_eq_true rfl) (Nat.le_of_ble_eq_true rfl)
              refine mw_if0 58 i_Model_wall_55 rfl (mj_bI1.mpr hr) ?_
              refine mw_ld 59 i_Model_wall_58 rfl rfl rfl ?_
              refine mw_get 62 i_Model_wall_59 rfl (by repeat (first | exact mj_hs2 | exact mj_hs | assumption | refine mj_hn2 (by omega) ?_ | refine mj_hn (by omega) ?_)) (by rfl) ?_
              refine mw_ld 64 i_Model_wall_62 rfl rfl rfl ?_
              refine mw_iald 65 i i_Model_wall_64 rfl e2 rfl (by omega) (by decide) ?_
              rw [gw_bx_self]
              refine mw_ld 66 i_Model_wall_65 rfl rfl rfl ?_
              refine mw_ic1 i_Model_wall_66 ho ?_
              refine mw_inc (ls' := [_, _, _, _, _, _]) 83 (nI (i + 1)) i_Model_wall_80 rfl rfl rfl (nI_1 i) rfl ?_
              refine mw_go i_Model_wall_83 ?_
              have e := ih f2 ⟨e1, by rw [gw_bx_no (.inr ho)]; exact e2⟩
              simp only [gw_cn] at e
              rw [if_neg (by rw [gw_bn]; simp [ho])] at e
              exact e
            · skip
              refine mw_ld 40 i_Model_wall_38 rfl rfl rfl ?_
              refine mw_ld 41 i_Model_wall_40 rfl rfl rfl ?_
              refine mw_cv1 44 i_Model_wall_41 rfl (by repeat (first | exact mj_hs2 | exact mj_hs | assumption | refine mj_hn2 (by omega) ?_ | refine mj_hn (by omega) ?_)) (sp_Model_cells (σ := (f2, σ.2)) go2 ?_) rfl rfl (Nat.le_of_ble_eq_true rfl) (Nat.le_of_ble_eq_true rfl)
              refine mw_ic0 47 i_Model_wall_44 rfl (nI_ge hi (by omega)) ?_
              refine mw_ld 48 i_Model_wall_47 rfl rfl rfl ?_
              refine mw_ld 50 i_Model_wall_48 rfl rfl rfl ?_
              refine mw_ld 51 i_Model_wall_50 rfl rfl rfl ?_
              refine mw_ld 52 i_Model_wall_51 rfl rfl rfl ?_
              refine mw_cv1 55 i_Model_wall_52 rfl (by repeat (first | exact mj_hs2 | exact mj_hs | assumption | refine mj_hn2 (by omega) ?_ | refine mj_hn (by omega) ?_)) (sp_Model_isBetween (σ := (f2, σ.2)) go2 hi ha2 hb3 hd ?_) rfl rfl (Nat.le_of_ble_eq_true rfl) (Nat.le_of_ble_eq_true rfl)
              refine mw_if0 58 i_Model_wall_55 rfl (mj_bI1.mpr hr) ?_
              refine mw_ld 59 i_Model_wall_58 rfl rfl rfl ?_
              refine mw_get 62 i_Model_wall_59 rfl (by repeat (first | exact mj_hs2 | exact mj_hs | assumption | refine mj_hn2 (by omega) ?_ | refine mj_hn (by omega) ?_)) (by rfl) ?_
              refine mw_ld 64 i_Model_wall_62 rfl rfl rfl ?_
              refine mw_iald 65 i i_Model_wall_64 rfl e2 rfl (by omega) (by decide) ?_
              rw [gw_bx_self]
              refine mw_ld 66 i_Model_wall_65 rfl rfl rfl ?_
              refine mw_ic0 69 i_Model_wall_66 rfl ho ?_
              refine mw_ld 70 i_Model_wall_69 rfl rfl rfl ?_
              refine mw_get 73 i_Model_wall_70 rfl (by repeat (first | exact mj_hs2 | exact mj_hs | assumption | refine mj_hn2 (by omega) ?_ | refine mj_hn (by omega) ?_)) (by rfl) ?_
              refine mw_ld 75 i_Model_wall_73 rfl rfl rfl ?_
              refine mw_ld 76 i_Model_wall_75 rfl rfl rfl ?_
              refine mw_iast 77 i i_Model_wall_76 rfl e2 rfl (by omega) (by decide) ?_
              rw [gw_bx_put hr]
              refine mw_inc (ls' := [_, _, _, _, _, _]) 80 (nI (gw_cn (gw_bn w h a b on s) i + 1)) i_Model_wall_77 rfl rfl rfl (nI_1 _) rfl ?_
              refine mw_inc (ls' := [_, _, _, _, _, _]) 83 (nI (i + 1)) i_Model_wall_80 rfl rfl rfl (nI_1 i) rfl ?_
              refine mw_go i_Model_wall_83 ?_
              have e := ih (va_up f2 56 (mj_AI 213 (gw_bx w h a b on s (i + 1)))) ⟨gw_fr_up e1 (by simp), mj_hs⟩
              simp only [gw_cn] at e
              rw [if_pos (by rw [gw_bn, hr]; simp [ho])] at e
              exact e
          · skip
            refine mw_ld 40 i_Model_wall_38 rfl rfl rfl ?_
            refine mw_ld 41 i_Model_wall_40 rfl rfl rfl ?_
            refine mw_cv1 44 i_Model_wall_41 rfl (by repeat (first | exact mj_hs2 | exact mj_hs | assumption | refine mj_hn2 (by omega) ?_ | refine mj_hn (by omega) ?_)) (sp_Model_cells (σ := (f2, σ.2)) go2 ?_) rfl rfl (Nat.le_of_ble_eq_true rfl) (Nat.le_of_ble_eq_true rfl)
            refine mw_ic0 47 i_Model_wall_44 rfl (nI_ge hi (by omega)) ?_
            refine mw_ld 48 i_Model_wall_47 rfl rfl rfl ?_
            refine mw_ld 50 i_Model_wall_48 rfl rfl rfl ?_
            refine mw_ld 51 i_Model_wall_50 rfl rfl rfl ?_
            refine mw_ld 52 i_Model_wall_51 rfl rfl rfl ?_
            refine mw_cv1 55 i_Model_wall_52 rfl (by repeat (first | exact mj_hs2 | exact mj_hs | assumption | refine mj_hn2 (by omega) ?_ | refine mj_hn (by omega) ?_)) (sp_Model_isBetween (σ := (f2, σ.2)) go2 hi ha2 hb3 hd ?_) rfl rfl (Nat.le_of_ble_eq_true rfl) (Nat.le_of_ble_eq_true rfl)
            refine mw_if1 i_Model_wall_55 (mj_bI0.mpr (gw_nt hr)) ?_
            refine mw_inc (ls' := [_, _, _, _, _, _]) 83 (nI (i + 1)) i_Model_wall_80 rfl rfl rfl (nI_1 i) rfl ?_
            refine mw_go i_Model_wall_83 ?_
            have e := ih f2 ⟨e1, by rw [gw_bx_no (.inl (gw_nt hr))]; exact e2⟩
            simp only [gw_cn] at e
            rw [if_neg (by rw [gw_bn]; simp [hr])] at e
            exact e
      · skip
        refine mw_ld 1 i_Model_wall_0 rfl rfl rfl ?_
        refine mw_ld 2 i_Model_wall_1 rfl rfl rfl ?_
        refine mw_cv1 5 i_Model_wall_2 rfl (by assumption) (sp_Model_isCell hO hd ?_) rfl rfl (Nat.le_of_ble_eq_true rfl) (Nat.le_of_ble_eq_true rfl)
        refine mw_if0 8 i_Model_wall_5 rfl (mj_bI1.mpr ha) ?_
        refine mw_ld 9 i_Model_wall_8 rfl rfl rfl ?_
        refine mw_ld 10 i_Model_wall_9 rfl rfl rfl ?_
        refine mw_cv1 13 i_Model_wall_10 rfl (by assumption) (sp_Model_isCell hO hd ?_) rfl rfl (Nat.le_of_ble_eq_true rfl) (Nat.le_of_ble_eq_true rfl)
        refine mw_if0 16 i_Model_wall_13 rfl (mj_bI1.mpr hb2) ?_
        refine mw_ld 17 i_Model_wall_16 rfl rfl rfl ?_
        refine mw_k 18 i_Model_wall_17 rfl ?_
        refine mw_k 19 i_Model_wall_18 rfl ?_
        refine mw_cs1 22 i_Model_wall_19 rfl (sp_Model_isIn ?_) rfl rfl (Nat.le_of_ble_eq_true rfl) (Nat.le_of_ble_eq_true rfl)
        refine mw_if0 25 i_Model_wall_22 rfl (fun q => q (mj_bI0.mpr (gw_nt ho1))) ?_
        refine mw_k 27 i_Model_wall_25 rfl ?_
        refine mw_ri i_Model_wall_27 rfl rfl ?_
        rw [a_wall, if_pos ha, if_pos hb2, if_neg ho1] at k1
        exact k1 (by simp [gw_okWall, ho1]) σ.1 (gw_fr_rf _ _) hM
    · skip
      refine mw_ld 1 i_Model_wall_0 rfl rfl rfl ?_
      refine mw_ld 2 i_Model_wall_1 rfl rfl rfl ?_
      refine mw_cv1 5 i_Model_wall_2 rfl (by assumption) (sp_Model_isCell hO hd ?_) rfl rfl (Nat.le_of_ble_eq_true rfl) (Nat.le_of_ble_eq_true rfl)
      refine mw_if0 8 i_Model_wall_5 rfl (mj_bI1.mpr ha) ?_
      refine mw_ld 9 i_Model_wall_8 rfl rfl rfl ?_
      refine mw_ld 10 i_Model_wall_9 rfl rfl rfl ?_
      refine mw_cv1 13 i_Model_wall_10 rfl (by assumption) (sp_Model_isCell hO hd ?_) rfl rfl (Nat.le_of_ble_eq_true rfl) (Nat.le_of_ble_eq_true rfl)
      refine mw_if1 i_Model_wall_13 (mj_bI0.mpr (gw_nt hb2)) ?_
      refine mw_k 27 i_Model_wall_25 rfl ?_
      refine mw_ri i_Model_wall_27 rfl rfl ?_
      rw [a_wall, if_pos ha, if_neg hb2] at k1
      exact k1 (by simp [gw_okWall, hb2]) σ.1 (gw_fr_rf _ _) hM
  · skip
    refine mw_ld 1 i_Model_wall_0 rfl rfl rfl ?_
    refine mw_ld 2 i_Model_wall_1 rfl rfl rfl ?_
    refine mw_cv1 5 i_Model_wall_2 rfl (by assumption) (sp_Model_isCell hO hd ?_) rfl rfl (Nat.le_of_ble_eq_true rfl) (Nat.le_of_ble_eq_true rfl)
    refine mw_if1 i_Model_wall_5 (mj_bI0.mpr (gw_nt ha)) ?_
    refine mw_k 27 i_Model_wall_25 rfl ?_
    refine mw_ri i_Model_wall_27 rfl rfl ?_
    rw [a_wall, if_neg ha] at k1
    exact k1 (by simp [gw_okWall, ha]) σ.1 (gw_fr_rf _ _) hM
