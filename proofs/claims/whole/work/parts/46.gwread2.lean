/-! the class: what is asked of it, further -/
theorem gw_find_cg {p q : Nat → Bool} : ∀ {L : List Nat}, (∀ c ∈ L, p c = q c) → L.find? p = L.find? q
  | [], _ => rfl
  | a :: L, h => by
    simp only [List.find?_cons]
    rw [h a (by simp), gw_find_cg (L := L) (fun c hc => h c (by simp [hc]))]
theorem gw_ff_cg {p q : Nat → Bool} {N : Nat} (h : ∀ c, c < N → p c = q c) : gw_ff p N = gw_ff q N := gw_find_cg (fun c hc => h c (List.mem_range.mp hc))
theorem gw_rw_hl {P : List gw_Row} {ce ab co wy bl : Nat → Int32} (hh : gw_hl P ce ab co wy bl) {j : Nat} (hj : j < P.length) : gw_rw P j = (ce j, ab j, co j, wy j, bl j) := by rw [gw_rw, hh j hj]; rfl
theorem gw_hl_set {P : List gw_Row} {ce ab co wy bl : Nat → Int32} (hh : gw_hl P ce ab co wy bl) {i : Nat} (hi : i < P.length) (c : Int32) : gw_hl (P.set i (c, (gw_rw P i).2)) (upd ce i c) ab co wy bl := by
  intro j hj
  rw [List.length_set] at hj
  rw [List.getElem?_set]
  by_cases e : i = j
  · subst e
    rw [if_pos rfl, if_pos hi, pk_us, gw_rw_hl hh hi]
  · rw [if_neg e, pk_un (by omega)]; exact hh j hj
def gw_okForge (w h : Nat) (P : List gw_Row) (i c : Int32) : Bool := !(P.length == 0) && gw_isP P.length i && gw_ce w h c
def a_forge (P : List gw_Row) : Int32 := if P.length = 0 then gw_NO else gw_BAD
def gw_okTree (w h n : Nat) (s : Nat → Int32) (z : Int32) : Bool := gw_in z 0 6 && ((gw_sl w h n s).1 == gw_NONE || !decide ((gw_sl w h n s).1 ≤ z)) && decide (gw_tl w h n s z.toInt.toNat 0 ≤ 600)
def a_tree (w h n : Nat) (s : Nat → Int32) (z : Int32) : Int32 := if gw_in z 0 6 then if (gw_sl w h n s).1 = gw_NONE ∨ ¬ (gw_sl w h n s).1 ≤ z then gw_FULL else gw_NO else gw_BAD
theorem sp_GW_row {X : mj_X} {d : Nat} {σ : mj_H} {Q : Value → mj_H → Prop} {w h n : Nat} {s : Nat → Int32} {kp : Nat} {hn : Nat → Nat} {hs : Nat → Nat → Int32} {P : List gw_Row} {sz : Int32} (hI : gw_CI σ.1 w h n s kp hn hs P sz) (hd : gw_dim w h) (hn14 : n ≤ 14) (hv : gw_vp w h n s) {z t : Int32} (k : Q (.int (a_row P z t)) σ) : mj_M X (d + 20) y_GW_row [.ref 0, .int z, .int t] σ (mj_V Q) := by
  obtain ⟨x1, x2, ⟨w6, h6, n6, s6, x3⟩, ⟨nx, x4⟩, x5, x6, ⟨st, qu, x7⟩, ce, ab, co, wy, bl, x8, x9⟩ := id hI
  obtain ⟨wl1, ps1, r1, -⟩ := id x2
  have hwh := gw_dim_le hd
  obtain ⟨t1, -, -, -, -, -, t7⟩ := id x8
  refine mw_in (l0 := [some (.ref 0), some (.int z), some (.int t)]) rfl ?_
  by_cases hP0 : P.length = 0
  · skip
    refine mw_ld 1 i_GW_row_0 rfl rfl rfl ?_
    refine mw_get 4 i_GW_row_1 rfl (by assumption) (by rfl) ?_
    refine mw_cv1 7 i_GW_row_4 rfl (by assumption) (sp_Proof_rows x8 ?_) rfl rfl (Nat.le_of_ble_eq_true rfl) (Nat.le_of_ble_eq_true rfl)
    refine mw_if0 10 i_GW_row_7 rfl (fun q => q (by rw [hP0]; rfl)) ?_
    refine mw_k 12 i_GW_row_10 rfl ?_
    refine mw_ri i_GW_row_12 rfl rfl ?_
    rw [a_row, if_pos hP0] at k
    exact k
  · skip
    rw [a_row, if_neg hP0] at k
    have hP1 : ¬ nI P.length = 0 := fun q => hP0 ((nI_z (by omega)).mp q)
    by_cases hz : gw_isP P.length z = true
    · skip
      obtain ⟨i, hi, rfl⟩ := gw_isP_of hz
      rw [if_pos hz, gw_tn (by omega), gw_rw_hl x9 hi] at k
      refine mw_ld 1 i_GW_row_0 rfl rfl rfl ?_
      refine mw_get 4 i_GW_row_1 rfl (by assumption) (by rfl) ?_
      refine mw_cv1 7 i_GW_row_4 rfl (by assumption) (sp_Proof_rows x8 ?_) rfl rfl (Nat.le_of_ble_eq_true rfl) (Nat.le_of_ble_eq_true rfl)
      refine mw_if1 i_GW_row_7 hP1 ?_
      refine mw_ld 14 i_GW_row_13 rfl rfl rfl ?_
      refine mw_get 17 i_GW_row_14 rfl (by assumption) (by rfl) ?_
      refine mw_ld 18 i_GW_row_17 rfl rfl rfl ?_
      refine mw_cv1 21 i_GW_row_18 rfl (by assumption) (sp_Proof_hasRow x8 ?_) rfl rfl (Nat.le_of_ble_eq_true rfl) (Nat.le_of_ble_eq_true rfl)
      refine mw_if1 i_GW_row_21 (mj_bI1.mpr hz) ?_
      refine mw_ld 28 i_GW_row_27 rfl rfl rfl ?_
      by_cases w0 : t = 0
      · subst w0
        refine mw_sw i_GW_row_28_0 ?_
        refine mw_ld 61 i_GW_row_60 rfl rfl rfl ?_
        refine mw_get 64 i_GW_row_61 rfl (by assumption) (by rfl) ?_
        refine mw_ld 65 i_GW_row_64 rfl rfl rfl ?_
        refine mw_cv1 68 i_GW_row_65 rfl (by assumption) (sp_Proof_cellOf x8 hi ?_) rfl rfl (Nat.le_of_ble_eq_true rfl) (Nat.le_of_ble_eq_true rfl)
        refine mw_ri i_GW_row_68 rfl rfl ?_
        rw [if_pos rfl] at k
        exact k
      by_cases w1 : t = 1
      · subst w1
        refine mw_sw i_GW_row_28_1 ?_
        refine mw_ld 70 i_GW_row_69 rfl rfl rfl ?_
        refine mw_get 73 i_GW_row_70 rfl (by assumption) (by rfl) ?_
        refine mw_ld 74 i_GW_row_73 rfl rfl rfl ?_
        refine mw_cv1 77 i_GW_row_74 rfl (by assumption) (sp_Proof_aboveOf x8 hi ?_) rfl rfl (Nat.le_of_ble_eq_true rfl) (Nat.le_of_ble_eq_true rfl)
        refine mw_ri i_GW_row_77 rfl rfl ?_
        rw [if_neg (by decide), if_pos rfl] at k
        exact k
      by_cases w2 : t = 2
      · subst w2
        refine mw_sw i_GW_row_28_2 ?_
        refine mw_ld 79 i_GW_row_78 rfl rfl rfl ?_
        refine mw_get 82 i_GW_row_79 rfl (by assumption) (by rfl) ?_
        refine mw_ld 83 i_GW_row_82 rfl rfl rfl ?_
        refine mw_cv1 86 i_GW_row_83 rfl (by assumption) (sp_Proof_comerOf x8 hi ?_) rfl rfl (Nat.le_of_ble_eq_true rfl) (Nat.le_of_ble_eq_true rfl)
        refine mw_ri i_GW_row_86 rfl rfl ?_
        rw [if_neg (by decide), if_neg (by decide), if_pos rfl] at k
        exact k
      by_cases w3 : t = 3
      · subst w3
        refine mw_sw i_GW_row_28_3 ?_
        refine mw_ld 88 i_GW_row_87 rfl rfl rfl ?_
        refine mw_get 91 i_GW_row_88 rfl (by assumption) (by rfl) ?_
        refine mw_ld 92 i_GW_row_91 rfl rfl rfl ?_
        refine mw_cv1 95 i_GW_row_92 rfl (by assumption) (sp_Proof_rowsBelow x8 hi ?_) rfl rfl (Nat.le_of_ble_eq_true rfl) (Nat.le_of_ble_eq_true rfl)
        refine mw_ri i_GW_row_95 rfl rfl ?_
        rw [if_neg (by decide), if_neg (by decide), if_neg (by decide), if_pos rfl] at k
        exact k
      refine mw_sw (i_GW_row_28_o (by have q0 := gw_ne_lit (k := 0) (by decide) w0; have q1 := gw_ne_lit (k := 1) (by decide) w1; have q2 := gw_ne_lit (k := 2) (by decide) w2; have q3 := gw_ne_lit (k := 3) (by decide) w3; omega)) ?_
      refine mw_k 98 i_GW_row_96 rfl ?_
      refine mw_ri i_GW_row_98 rfl rfl ?_
      rw [if_neg w0, if_neg w1, if_neg w2, if_neg w3] at k
      exact k
    · skip
      refine mw_ld 1 i_GW_row_0 rfl rfl rfl ?_
      refine mw_get 4 i_GW_row_1 rfl (by assumption) (by rfl) ?_
      refine mw_cv1 7 i_GW_row_4 rfl (by assumption) (sp_Proof_rows x8 ?_) rfl rfl (Nat.le_of_ble_eq_true rfl) (Nat.le_of_ble_eq_true rfl)
      refine mw_if1 i_GW_row_7 hP1 ?_
      refine mw_ld 14 i_GW_row_13 rfl rfl rfl ?_
      refine mw_get 17 i_GW_row_14 rfl (by assumption) (by rfl) ?_
      refine mw_ld 18 i_GW_row_17 rfl rfl rfl ?_
      refine mw_cv1 21 i_GW_row_18 rfl (by assumption) (sp_Proof_hasRow x8 ?_) rfl rfl (Nat.le_of_ble_eq_true rfl) (Nat.le_of_ble_eq_true rfl)
      refine mw_if0 24 i_GW_row_21 rfl (fun q => q (mj_bI0.mpr (gw_nt hz))) ?_
      refine mw_k 26 i_GW_row_24 rfl ?_
      refine mw_ri i_GW_row_26 rfl rfl ?_
      rw [if_neg hz] at k
      exact k
theorem sp_GW_forge {X : mj_X} {d : Nat} {σ : mj_H} {Q : Value → mj_H → Prop} {w h n : Nat} {s : Nat → Int32} {kp : Nat} {hn : Nat → Nat} {hs : Nat → Nat → Int32} {P : List gw_Row} {sz : Int32} (hI : gw_CI σ.1 w h n s kp hn hs P sz) (hd : gw_dim w h) (hn14 : n ≤ 14) (hv : gw_vp w h n s) {z c : Int32} (k1 : gw_okForge w h P z c = false → Q (.int (a_forge P)) σ) (k2 : gw_okForge w h P z c = true → ∀ f, gw_keep σ.1 f → gw_CI f w h n s kp hn hs (P.set z.toInt.toNat (c, (gw_rw P z.toInt.toNat).2)) sz → Q (.int (gw_rw P z.toInt.toNat).1) (f, σ.2)) : mj_M X (d + 20) y_GW_forge [.ref 0, .int z, .int c] σ (mj_V Q) := by
  obtain ⟨x1, x2, ⟨w6, h6, n6, s6, x3⟩, ⟨nx, x4⟩, x5, x6, ⟨st, qu, x7⟩, ce, ab, co, wy, bl, x8, x9⟩ := id hI
  obtain ⟨wl1, ps1, r1, -⟩ := id x2
  have hwh := gw_dim_le hd
  obtain ⟨t1, -, -, -, -, -, t7⟩ := id x8
  refine mw_in (l0 := [some (.ref 0), some (.int z), some (.int c)]) rfl ?_
  by_cases hP0 : P.length = 0
  · skip
    refine mw_ld 1 i_GW_forge_0 rfl rfl rfl ?_
    refine mw_get 4 i_GW_forge_1 rfl (by assumption) (by rfl) ?_
    refine mw_cv1 7 i_GW_forge_4 rfl (by assumption) (sp_Proof_rows x8 ?_) rfl rfl (Nat.le_of_ble_eq_true rfl) (Nat.le_of_ble_eq_true rfl)
    refine mw_if0 10 i_GW_forge_7 rfl (fun q => q (by rw [hP0]; rfl)) ?_
    refine mw_k 12 i_GW_forge_10 rfl ?_
    refine mw_ri i_GW_forge_12 rfl rfl ?_
    rw [a_forge, if_pos hP0] at k1
    exact k1 (by simp [gw_okForge, hP0])
  · skip
    rw [a_forge, if_neg hP0] at k1
    have hP1 : ¬ nI P.length = 0 := fun q => hP0 ((nI_z (by omega)).mp q)
    by_cases hz : gw_isP P.length z = true
    · skip
      by_cases hc : gw_ce w h c = true
      · skip
        have hok : gw_okForge w h P z c = true := by simp [gw_okForge, hz, hc, hP0]
        obtain ⟨i, hi, rfl⟩ := gw_isP_of hz
        rw [gw_tn (by omega)] at k2
        refine mw_ld 1 i_GW_forge_0 rfl rfl rfl ?_
        refine mw_get 4 i_GW_forge_1 rfl (by assumption) (by rfl) ?_
        refine mw_cv1 7 i_GW_forge_4 rfl (by assumption) (sp_Proof_rows x8 ?_) rfl rfl (Nat.le_of_ble_eq_true rfl) (Nat.le_of_ble_eq_true rfl)
        refine mw_if1 i_GW_forge_7 hP1 ?_
        refine mw_ld 14 i_GW_forge_13 rfl rfl rfl ?_
        refine mw_get 17 i_GW_forge_14 rfl (by assumption) (by rfl) ?_
        refine mw_ld 18 i_GW_forge_17 rfl rfl rfl ?_
        refine mw_cv1 21 i_GW_forge_18 rfl (by assumption) (sp_Proof_hasRow x8 ?_) rfl rfl (Nat.le_of_ble_eq_true rfl) (Nat.le_of_ble_eq_true rfl)
        refine mw_if0 24 i_GW_forge_21 rfl (mj_bI1.mpr hz) ?_
        refine mw_ld 25 i_GW_forge_24 rfl rfl rfl ?_
        refine mw_get 28 i_GW_forge_25 rfl (by assumption) (by rfl) ?_
        refine mw_ld 29 i_GW_forge_28 rfl rfl rfl ?_
        refine mw_cv1 32 i_GW_forge_29 rfl (by assumption) (sp_Room_hasCell hd x2 ?_) rfl rfl (Nat.le_of_ble_eq_true rfl) (Nat.le_of_ble_eq_true rfl)
        refine mw_if1 i_GW_forge_32 (mj_bI1.mpr hc) ?_
        refine mw_ld 39 i_GW_forge_38 rfl rfl rfl ?_
        refine mw_get 42 i_GW_forge_39 rfl (by assumption) (by rfl) ?_
        refine mw_ld 43 i_GW_forge_42 rfl rfl rfl ?_
        refine mw_ld 44 i_GW_forge_43 rfl rfl rfl ?_
        refine mw_cv1 47 i_GW_forge_44 rfl (by assumption) (sp_Proof_replaceCell x8 hi (fun f g1 g2 => ?_)) rfl rfl (Nat.le_of_ble_eq_true rfl) (Nat.le_of_ble_eq_true rfl)
        refine mw_ri i_GW_forge_47 rfl rfl ?_
        have e : ce i = (gw_rw P i).1 := by rw [gw_rw_hl x9 hi]
        rw [e]
        exact k2 hok f (gw_keep_fr g1 (by decide)) (gw_CI_p (gw_fr_sub g1 (by decide)) (by rw [List.length_set]; exact g2) (gw_hl_set x9 hi c) hI)
      · skip
        refine mw_ld 1 i_GW_forge_0 rfl rfl rfl ?_
        refine mw_get 4 i_GW_forge_1 rfl (by assumption) (by rfl) ?_
        refine mw_cv1 7 i_GW_forge_4 rfl (by assumption) (sp_Proof_rows x8 ?_) rfl rfl (Nat.le_of_ble_eq_true rfl) (Nat.le_of_ble_eq_true rfl)
        refine mw_if1 i_GW_forge_7 hP1 ?_
        refine mw_ld 14 i_GW_forge_13 rfl rfl rfl ?_
        refine mw_get 17 i_GW_forge_14 rfl (by assumption) (by rfl) ?_
        refine mw_ld 18 i_GW_forge_17 rfl rfl rfl ?_
        refine mw_cv1 21 i_GW_forge_18 rfl (by assumption) (sp_Proof_hasRow x8 ?_) rfl rfl (Nat.le_of_ble_eq_true rfl) (Nat.le_of_ble_eq_true rfl)
        refine mw_if0 24 i_GW_forge_21 rfl (mj_bI1.mpr hz) ?_
        refine mw_ld 25 i_GW_forge_24 rfl rfl rfl ?_
        refine mw_get 28 i_GW_forge_25 rfl (by assumption) (by rfl) ?_
        refine mw_ld 29 i_GW_forge_28 rfl rfl rfl ?_
        refine mw_cv1 32 i_GW_forge_29 rfl (by assumption) (sp_Room_hasCell hd x2 ?_) rfl rfl (Nat.le_of_ble_eq_true rfl) (Nat.le_of_ble_eq_true rfl)
        refine mw_if0 35 i_GW_forge_32 rfl (fun q => q (mj_bI0.mpr (gw_nt hc))) ?_
        refine mw_k 37 i_GW_forge_35 rfl ?_
        refine mw_ri i_GW_forge_37 rfl rfl ?_
        exact k1 (by simp [gw_okForge, hc])
    · skip
      refine mw_ld 1 i_GW_forge_0 rfl rfl rfl ?_
      refine mw_get 4 i_GW_forge_1 rfl (by assumption) (by rfl) ?_
      refine mw_cv1 7 i_GW_forge_4 rfl (by assumption) (sp_Proof_rows x8 ?_) rfl rfl (Nat.le_of_ble_eq_true rfl) (Nat.le_of_ble_eq_true rfl)
      refine mw_if1 i_GW_forge_7 hP1 ?_
      refine mw_ld 14 i_GW_forge_13 rfl rfl rfl ?_
      refine mw_get 17 i_GW_forge_14 rfl (by assumption) (by rfl) ?_
      refine mw_ld 18 i_GW_forge_17 rfl rfl rfl ?_
      refine mw_cv1 21 i_GW_forge_18 rfl (by assumption) (sp_Proof_hasRow x8 ?_) rfl rfl (Nat.le_of_ble_eq_true rfl) (Nat.le_of_ble_eq_true rfl)
      refine mw_if1 i_GW_forge_21 (mj_bI0.mpr (gw_nt hz)) ?_
      refine mw_k 37 i_GW_forge_35 rfl ?_
      refine mw_ri i_GW_forge_37 rfl rfl ?_
      exact k1 (by simp [gw_okForge, hz])
theorem sp_GW_check {X : mj_X} {d : Nat} {σ : mj_H} {Q : Value → mj_H → Prop} {w h n : Nat} {s : Nat → Int32} {kp : Nat} {hn : Nat → Nat} {hs : Nat → Nat → Int32} {P : List gw_Row} {sz : Int32} (hI : gw_CI σ.1 w h n s kp hn hs P sz) (hd : gw_dim w h) (hn14 : n ≤ 14) (hv : gw_vp w h n s)  (k : ∀ f, gw_keep σ.1 f → gw_CI f w h n s kp hn hs P sz → Q (.int (a_check w h n s P sz)) (f, σ.2)) : mj_M X (d + 20) y_GW_check [.ref 0] σ (mj_V Q) := by
  obtain ⟨x1, x2, ⟨w6, h6, n6, s6, x3⟩, ⟨nx, x4⟩, x5, x6, ⟨st, qu, x7⟩, ce, ab, co, wy, bl, x8, x9⟩ := id hI
  obtain ⟨wl1, ps1, r1, -⟩ := id x2
  have hwh := gw_dim_le hd
  obtain ⟨t1, -, -, -, -, -, t7⟩ := id x8
  refine mw_in (l0 := [some (.ref 0), none]) rfl ?_
  by_cases hP0 : P.length = 0
  · skip
    refine mw_ld 1 i_GW_check_0 rfl rfl rfl ?_
    refine mw_get 4 i_GW_check_1 rfl (by assumption) (by rfl) ?_
    refine mw_cv1 7 i_GW_check_4 rfl (by assumption) (sp_Proof_rows x8 ?_) rfl rfl (Nat.le_of_ble_eq_true rfl) (Nat.le_of_ble_eq_true rfl)
    refine mw_if0 10 i_GW_check_7 rfl (fun q => q (by rw [hP0]; rfl)) ?_
    refine mw_k 12 i_GW_check_10 rfl ?_
    refine mw_ri i_GW_check_12 rfl rfl ?_
    rw [a_check, if_pos hP0] at k
    exact k σ.1 (gw_keep_rf _) hI
  · skip
    rw [a_check, if_neg hP0] at k
    have hP1 : ¬ nI P.length = 0 := fun q => hP0 ((nI_z (by omega)).mp q)
    rw [gw_ff_cg (q := fun i => !gw_rg w h n s sz (ce i) (wy i) (bl i)) (fun i hi => by rw [gw_rw_hl x9 hi])] at k
    obtain ⟨u0, wt0, vv1, vv2⟩ := gw_vok_w x5
    have hlt : ∀ c, gw_ff (fun i => !gw_rg w h n s sz (ce i) (wy i) (bl i)) P.length = some c → c < 2147483648 := fun c hc => by have := (gw_ff_spec hc).1; omega
    cases ho : gw_ff (fun i => !gw_rg w h n s sz (ce i) (wy i) (bl i)) P.length with
    | none =>
      refine mw_ld 1 i_GW_check_0 rfl rfl rfl ?_
      refine mw_get 4 i_GW_check_1 rfl (by assumption) (by rfl) ?_
      refine mw_cv1 7 i_GW_check_4 rfl (by assumption) (sp_Proof_rows x8 ?_) rfl rfl (Nat.le_of_ble_eq_true rfl) (Nat.le_of_ble_eq_true rfl)
      refine mw_if1 i_GW_check_7 hP1 ?_
      refine mw_ld 14 i_GW_check_13 rfl rfl rfl ?_
      refine mw_get 17 i_GW_check_14 rfl (by assumption) (by rfl) ?_
      refine mw_cv0 20 i_GW_check_17 rfl (by assumption) (sp_View_refresh hn14 hv hd x2 x5 (fun f g1 g2 => ?_)) rfl rfl (Nat.le_of_ble_eq_true rfl) (Nat.le_of_ble_eq_true rfl)
      have hRf := gw_rm_fr g1 (by decide) (by decide) (by decide) (by decide) x2
      have hIf := gw_CI_v g1 g2 hI
      have hkf := gw_keep_fr g1 (by decide)
      have h0f : f 0 = gw_c0 := (g1 0 (by decide)).trans x1
      obtain ⟨wtf, ⟨v1f, v2f⟩, -⟩ := id g2
      obtain ⟨uf, wtf2, vv1, vv2⟩ := gw_vok_w x5
      have hFf := gw_pf_fr g1 (fun a _ _ => by simp; omega) x8
      obtain ⟨tt1, -⟩ := id hFf
      refine mw_ld 21 i_GW_check_20 rfl rfl rfl ?_
      refine mw_get 24 i_GW_check_21 rfl (by assumption) (by rfl) ?_
      refine mw_cv1 27 i_GW_check_24 rfl (by assumption) (sp_Proof_firstWrongRow (σ := (f, σ.2)) hFf hd hRf g2 ?_) rfl rfl (Nat.le_of_ble_eq_true rfl) (Nat.le_of_ble_eq_true rfl)
      refine mw_st (ls' := [_, _]) 28 i_GW_check_27 rfl rfl rfl rfl ?_
      refine mw_ld 29 i_GW_check_28 rfl rfl rfl ?_
      refine mw_k 31 i_GW_check_29 rfl ?_
      refine mw_ic0 34 i_GW_check_31 rfl (by rw [ho]; exact fun q => q rfl) ?_
      refine mw_k 35 i_GW_check_34 rfl ?_
      refine mw_go i_GW_check_35 ?_
      refine mw_ri i_GW_check_41 rfl rfl ?_
      rw [ho] at k
      exact k f hkf hIf
    | some c =>
      refine mw_ld 1 i_GW_check_0 rfl rfl rfl ?_
      refine mw_get 4 i_GW_check_1 rfl (by assumption) (by rfl) ?_
      refine mw_cv1 7 i_GW_check_4 rfl (by assumption) (sp_Proof_rows x8 ?_) rfl rfl (Nat.le_of_ble_eq_true rfl) (Nat.le_of_ble_eq_true rfl)
      refine mw_if1 i_GW_check_7 hP1 ?_
      refine mw_ld 14 i_GW_check_13 rfl rfl rfl ?_
      refine mw_get 17 i_GW_check_14 rfl (by assumption) (by rfl) ?_
      refine mw_cv0 20 i_GW_check_17 rfl (by assumption) (sp_View_refresh hn14 hv hd x2 x5 (fun f g1 g2 => ?_)) rfl rfl (Nat.le_of_ble_eq_true rfl) (Nat.le_of_ble_eq_true rfl)
      have hRf := gw_rm_fr g1 (by decide) (by decide) (by decide) (by decide) x2
      have hIf := gw_CI_v g1 g2 hI
      have hkf := gw_keep_fr g1 (by decide)
      have h0f : f 0 = gw_c0 := (g1 0 (by decide)).trans x1
      obtain ⟨wtf, ⟨v1f, v2f⟩, -⟩ := id g2
      obtain ⟨uf, wtf2, vv1, vv2⟩ := gw_vok_w x5
      have hFf := gw_pf_fr g1 (fun a _ _ => by simp; omega) x8
      obtain ⟨tt1, -⟩ := id hFf
      refine mw_ld 21 i_GW_check_20 rfl rfl rfl ?_
      refine mw_get 24 i_GW_check_21 rfl (by assumption) (by rfl) ?_
      refine mw_cv1 27 i_GW_check_24 rfl (by assumption) (sp_Proof_firstWrongRow (σ := (f, σ.2)) hFf hd hRf g2 ?_) rfl rfl (Nat.le_of_ble_eq_true rfl) (Nat.le_of_ble_eq_true rfl)
      refine mw_st (ls' := [_, _]) 28 i_GW_check_27 rfl rfl rfl rfl ?_
      refine mw_ld 29 i_GW_check_28 rfl rfl rfl ?_
      refine mw_k 31 i_GW_check_29 rfl ?_
      refine mw_ic1 i_GW_check_31 (by rw [ho]; exact gw_NONE_ne (hlt c ho)) ?_
      refine mw_k 39 i_GW_check_38 rfl ?_
      refine mw_ld 40 i_GW_check_39 rfl rfl rfl ?_
      refine mw_b 41 i_GW_check_40 rfl ?_
      refine mw_ri i_GW_check_41 rfl rfl ?_
      rw [ho] at k
      rw [ho]
      exact k f hkf hIf
theorem sp_GW_count {X : mj_X} {d : Nat} {σ : mj_H} {Q : Value → mj_H → Prop} {w h n : Nat} {s : Nat → Int32} {kp : Nat} {hn : Nat → Nat} {hs : Nat → Nat → Int32} {P : List gw_Row} {sz : Int32} (hI : gw_CI σ.1 w h n s kp hn hs P sz) (hd : gw_dim w h) (hn14 : n ≤ 14) (hv : gw_vp w h n s) {z : Int32} (k : ∀ f, gw_keep σ.1 f → gw_CI f w h n s kp hn hs P sz → Q (.int (a_count w h n s kp P z)) (f, σ.2)) : mj_M X (d + 20) y_GW_count [.ref 0, .int z] σ (mj_V Q) := by
  obtain ⟨x1, x2, ⟨w6, h6, n6, s6, x3⟩, ⟨nx, x4⟩, x5, x6, ⟨st, qu, x7⟩, ce, ab, co, wy, bl, x8, x9⟩ := id hI
  obtain ⟨wl1, ps1, r1, -⟩ := id x2
  have hwh := gw_dim_le hd
  refine mw_in (l0 := [some (.ref 0), some (.int z)]) rfl ?_
  obtain ⟨rs9, p91, -⟩ := id x4
  obtain ⟨t1, -⟩ := id x8
  rw [a_count] at k
  refine mw_ld 1 i_GW_count_0 rfl rfl rfl ?_
  by_cases w0 : z = 0
  · subst w0
    refine mw_sw i_GW_count_1_0 ?_
    refine mw_ld 45 i_GW_count_44 rfl rfl rfl ?_
    refine mw_get 48 i_GW_count_45 rfl (by assumption) (by rfl) ?_
    refine mw_cv1 51 i_GW_count_48 rfl (by assumption) (sp_Room_cells x2 ?_) rfl rfl (Nat.le_of_ble_eq_true rfl) (Nat.le_of_ble_eq_true rfl)
    refine mw_ri i_GW_count_51 rfl rfl ?_
    rw [if_pos rfl] at k
    exact k σ.1 (gw_keep_rf _) hI
  by_cases w1 : z = 1
  · subst w1
    refine mw_sw i_GW_count_1_1 ?_
    refine mw_ld 53 i_GW_count_52 rfl rfl rfl ?_
    refine mw_get 56 i_GW_count_53 rfl (by assumption) (by rfl) ?_
    refine mw_cv1 59 i_GW_count_56 rfl (by assumption) (sp_Room_openCells hd x2 ?_) rfl rfl (Nat.le_of_ble_eq_true rfl) (Nat.le_of_ble_eq_true rfl)
    refine mw_ri i_GW_count_59 rfl rfl ?_
    rw [if_neg (by decide), if_pos rfl] at k
    exact k σ.1 (gw_keep_rf _) hI
  by_cases w2 : z = 2
  · subst w2
    refine mw_sw i_GW_count_1_2 ?_
    refine mw_ld 61 i_GW_count_60 rfl rfl rfl ?_
    refine mw_get 64 i_GW_count_61 rfl (by assumption) (by rfl) ?_
    refine mw_cv1 67 i_GW_count_64 rfl (by assumption) (sp_Room_posts x2 ?_) rfl rfl (Nat.le_of_ble_eq_true rfl) (Nat.le_of_ble_eq_true rfl)
    refine mw_ri i_GW_count_67 rfl rfl ?_
    rw [if_neg (by decide), if_neg (by decide), if_pos rfl] at k
    exact k σ.1 (gw_keep_rf _) hI
  by_cases w3 : z = 3
  · subst w3
    refine mw_sw i_GW_count_1_3 ?_
    refine mw_ld 69 i_GW_count_68 rfl rfl rfl ?_
    refine mw_get 72 i_GW_count_69 rfl (by assumption) (by rfl) ?_
    refine mw_cv1 75 i_GW_count_72 rfl (by assumption) (sp_Past_kept x4 ?_) rfl rfl (Nat.le_of_ble_eq_true rfl) (Nat.le_of_ble_eq_true rfl)
    refine mw_ri i_GW_count_75 rfl rfl ?_
    rw [if_neg (by decide), if_neg (by decide), if_neg (by decide), if_pos rfl] at k
    exact k σ.1 (gw_keep_rf _) hI
  by_cases w4 : z = 4
  · subst w4
    refine mw_sw i_GW_count_1_4 ?_
    refine mw_ld 77 i_GW_count_76 rfl rfl rfl ?_
    refine mw_get 80 i_GW_count_77 rfl (by assumption) (by rfl) ?_
    refine mw_cv1 83 i_GW_count_80 rfl (by assumption) (sp_Proof_rows x8 ?_) rfl rfl (Nat.le_of_ble_eq_true rfl) (Nat.le_of_ble_eq_true rfl)
    refine mw_ri i_GW_count_83 rfl rfl ?_
    rw [if_neg (by decide), if_neg (by decide), if_neg (by decide), if_neg (by decide), if_pos rfl] at k
    exact k σ.1 (gw_keep_rf _) hI
  by_cases w5 : z = 5
  · subst w5
    refine mw_sw i_GW_count_1_5 ?_
    obtain ⟨u0, wt0, vv1, vv2⟩ := gw_vok_w x5
    refine mw_ld 85 i_GW_count_84 rfl rfl rfl ?_
    refine mw_get 88 i_GW_count_85 rfl (by assumption) (by rfl) ?_
    refine mw_cv0 91 i_GW_count_88 rfl (by assumption) (sp_View_refresh hn14 hv hd x2 x5 (fun f g1 g2 => ?_)) rfl rfl (Nat.le_of_ble_eq_true rfl) (Nat.le_of_ble_eq_true rfl)
    have hRf := gw_rm_fr g1 (by decide) (by decide) (by decide) (by decide) x2
    have hIf := gw_CI_v g1 g2 hI
    have hkf := gw_keep_fr g1 (by decide)
    have h0f : f 0 = gw_c0 := (g1 0 (by decide)).trans x1
    obtain ⟨wtf, ⟨v1f, v2f⟩, -⟩ := id g2
    obtain ⟨uf, wtf2, vv1, vv2⟩ := gw_vok_w x5
    refine mw_ld 92 i_GW_count_91 rfl rfl rfl ?_
    refine mw_get 95 i_GW_count_92 rfl (by assumption) (by rfl) ?_
    refine mw_cv1 98 i_GW_count_95 rfl (by assumption) (sp_View_unseenCells (σ := (f, σ.2)) hd hRf g2 ?_) rfl rfl (Nat.le_of_ble_eq_true rfl) (Nat.le_of_ble_eq_true rfl)
    refine mw_ri i_GW_count_98 rfl rfl ?_
    rw [if_neg (by decide), if_neg (by decide), if_neg (by decide), if_neg (by decide), if_neg (by decide), if_pos rfl] at k
    exact k f hkf hIf
  by_cases w6 : z = 6
  · subst w6
    refine mw_sw i_GW_count_1_6 ?_
    refine mw_ld 100 i_GW_count_99 rfl rfl rfl ?_
    refine mw_get 103 i_GW_count_100 rfl (by assumption) (by rfl) ?_
    refine mw_get 106 i_GW_count_103 rfl (by assumption) (by rfl) ?_
    refine mw_ri i_GW_count_106 rfl rfl ?_
    rw [if_neg (by decide), if_neg (by decide), if_neg (by decide), if_neg (by decide), if_neg (by decide), if_neg (by decide), if_pos rfl] at k
    exact k σ.1 (gw_keep_rf _) hI
  refine mw_sw (i_GW_count_1_o (by have q0 := gw_ne_lit (k := 0) (by decide) w0; have q1 := gw_ne_lit (k := 1) (by decide) w1; have q2 := gw_ne_lit (k := 2) (by decide) w2; have q3 := gw_ne_lit (k := 3) (by decide) w3; have q4 := gw_ne_lit (k := 4) (by decide) w4; have q5 := gw_ne_lit (k := 5) (by decide) w5; have q6 := gw_ne_lit (k := 6) (by decide) w6; omega)) ?_
  refine mw_k 109 i_GW_count_107 rfl ?_
  refine mw_ri i_GW_count_109 rfl rfl ?_
  rw [if_neg w0, if_neg w1, if_neg w2, if_neg w3, if_neg w4, if_neg w5, if_neg w6] at k
  exact k σ.1 (gw_keep_rf _) hI
theorem sp_GW_isOf {X : mj_X} {d : Nat} {σ : mj_H} {Q : Value → mj_H → Prop} {w h n : Nat} {s : Nat → Int32} {kp : Nat} {hn : Nat → Nat} {hs : Nat → Nat → Int32} {P : List gw_Row} {sz : Int32} (hI : gw_CI σ.1 w h n s kp hn hs P sz) (hd : gw_dim w h) (hn14 : n ≤ 14) (hv : gw_vp w h n s) {z t : Int32} (k : Q (.int (a_isOf n s z t)) σ) : mj_M X (d + 20) y_GW_isOf [.ref 0, .int z, .int t] σ (mj_V Q) := by
  obtain ⟨x1, x2, ⟨w6, h6, n6, s6, x3⟩, ⟨nx, x4⟩, x5, x6, ⟨st, qu, x7⟩, ce, ab, co, wy, bl, x8, x9⟩ := id hI
  obtain ⟨wl1, ps1, r1, -⟩ := id x2
  have hwh := gw_dim_le hd
  refine mw_in (l0 := [some (.ref 0), some (.int z), some (.int t), none]) rfl ?_
  by_cases hz : gw_isP n z = true
  · skip
    obtain ⟨i, hi, rfl⟩ := gw_isP_of hz
    rw [a_isOf, if_pos hz, gw_tn (by omega)] at k
    by_cases ht : gw_kind t = true
    · skip
      refine mw_ld 1 i_GW_isOf_0 rfl rfl rfl ?_
      refine mw_get 4 i_GW_isOf_1 rfl (by assumption) (by rfl) ?_
      refine mw_ld 5 i_GW_isOf_4 rfl rfl rfl ?_
      refine mw_cv1 8 i_GW_isOf_5 rfl (by assumption) (sp_Room_postAt_in hn14 x2 hi (fun p0 hp0 hp1 => ?_)) rfl rfl (Nat.le_of_ble_eq_true rfl) (Nat.le_of_ble_eq_true rfl)
      refine mw_st (ls' := [_, _, _, _]) 9 i_GW_isOf_8 rfl rfl rfl rfl ?_
      refine mw_ld 10 i_GW_isOf_9 rfl rfl rfl ?_
      refine mw_nuF 13 i_GW_isOf_10 rfl ?_
      refine mw_ld 14 i_GW_isOf_13 rfl rfl rfl ?_
      refine mw_cs1 17 i_GW_isOf_14 rfl (sp_GW_isKind ?_) rfl rfl (Nat.le_of_ble_eq_true rfl) (Nat.le_of_ble_eq_true rfl)
      refine mw_if1 i_GW_isOf_17 (mj_bI1.mpr ht) ?_
      refine mw_ld 24 i_GW_isOf_23 rfl rfl rfl ?_
      refine mw_get 27 i_GW_isOf_24 rfl (by assumption) (by rfl) ?_
      refine mw_ld 28 i_GW_isOf_27 rfl rfl rfl ?_
      refine mw_cs1 31 i_GW_isOf_28 rfl (sp_GW_isKindOf ?_) rfl rfl (Nat.le_of_ble_eq_true rfl) (Nat.le_of_ble_eq_true rfl)
      refine mw_cs1 34 i_GW_isOf_31 rfl (sp_GW_bit ?_) rfl rfl (Nat.le_of_ble_eq_true rfl) (Nat.le_of_ble_eq_true rfl)
      refine mw_ri i_GW_isOf_34 rfl rfl ?_
      rw [if_pos ht] at k
      exact k
    · skip
      refine mw_ld 1 i_GW_isOf_0 rfl rfl rfl ?_
      refine mw_get 4 i_GW_isOf_1 rfl (by assumption) (by rfl) ?_
      refine mw_ld 5 i_GW_isOf_4 rfl rfl rfl ?_
      refine mw_cv1 8 i_GW_isOf_5 rfl (by assumption) (sp_Room_postAt_in hn14 x2 hi (fun p0 hp0 hp1 => ?_)) rfl rfl (Nat.le_of_ble_eq_true rfl) (Nat.le_of_ble_eq_true rfl)
      refine mw_st (ls' := [_, _, _, _]) 9 i_GW_isOf_8 rfl rfl rfl rfl ?_
      refine mw_ld 10 i_GW_isOf_9 rfl rfl rfl ?_
      refine mw_nuF 13 i_GW_isOf_10 rfl ?_
      refine mw_ld 14 i_GW_isOf_13 rfl rfl rfl ?_
      refine mw_cs1 17 i_GW_isOf_14 rfl (sp_GW_isKind ?_) rfl rfl (Nat.le_of_ble_eq_true rfl) (Nat.le_of_ble_eq_true rfl)
      refine mw_if0 20 i_GW_isOf_17 rfl (fun q => q (mj_bI0.mpr (gw_nt ht))) ?_
      refine mw_k 22 i_GW_isOf_20 rfl ?_
      refine mw_ri i_GW_isOf_22 rfl rfl ?_
      rw [if_neg ht] at k
      exact k
  · skip
    refine mw_ld 1 i_GW_isOf_0 rfl rfl rfl ?_
    refine mw_get 4 i_GW_isOf_1 rfl (by assumption) (by rfl) ?_
    refine mw_ld 5 i_GW_isOf_4 rfl rfl rfl ?_
    refine mw_cv1 8 i_GW_isOf_5 rfl (by assumption) (sp_Room_postAt_out hn14 x2 (gw_nt hz) ?_) rfl rfl (Nat.le_of_ble_eq_true rfl) (Nat.le_of_ble_eq_true rfl)
    refine mw_st (ls' := [_, _, _, _]) 9 i_GW_isOf_8 rfl rfl rfl rfl ?_
    refine mw_ld 10 i_GW_isOf_9 rfl rfl rfl ?_
    refine mw_nuT i_GW_isOf_10 ?_
    refine mw_k 22 i_GW_isOf_20 rfl ?_
    refine mw_ri i_GW_isOf_22 rfl rfl ?_
    rw [a_isOf, if_neg hz] at k
    exact k
theorem sp_GW_about {X : mj_X} {d : Nat} {σ : mj_H} {Q : Value → mj_H → Prop} {w h n : Nat} {s : Nat → Int32} {kp : Nat} {hn : Nat → Nat} {hs : Nat → Nat → Int32} {P : List gw_Row} {sz : Int32} (hI : gw_CI σ.1 w h n s kp hn hs P sz) (hd : gw_dim w h) (hn14 : n ≤ 14) (hv : gw_vp w h n s) {z t : Int32} (k : Q (.int (a_about n s z t)) σ) : mj_M X (d + 20) y_GW_about [.ref 0, .int z, .int t] σ (mj_V Q) := by
  obtain ⟨x1, x2, ⟨w6, h6, n6, s6, x3⟩, ⟨nx, x4⟩, x5, x6, ⟨st, qu, x7⟩, ce, ab, co, wy, bl, x8, x9⟩ := id hI
  obtain ⟨wl1, ps1, r1, -⟩ := id x2
  have hwh := gw_dim_le hd
  refine mw_in (l0 := [some (.ref 0), some (.int z), some (.int t), none]) rfl ?_
  by_cases hz : gw_isP n z = true
  · skip
    obtain ⟨i, hi, rfl⟩ := gw_isP_of hz
    rw [a_about, if_pos hz, gw_tn (by omega)] at k
    refine mw_ld 1 i_GW_about_0 rfl rfl rfl ?_
    refine mw_get 4 i_GW_about_1 rfl (by assumption) (by rfl) ?_
    refine mw_ld 5 i_GW_about_4 rfl rfl rfl ?_
    refine mw_cv1 8 i_GW_about_5 rfl (by assumption) (sp_Room_postAt_in hn14 x2 hi (fun p0 hp0 hp1 => ?_)) rfl rfl (Nat.le_of_ble_eq_true rfl) (Nat.le_of_ble_eq_true rfl)
    refine mw_st (ls' := [_, _, _, _]) 9 i_GW_about_8 rfl rfl rfl rfl ?_
    refine mw_ld 10 i_GW_about_9 rfl rfl rfl ?_
    refine mw_nnT i_GW_about_10 ?_
    refine mw_ld 17 i_GW_about_16 rfl rfl rfl ?_
    by_cases w0 : t = 0
    · subst w0
      refine mw_sw i_GW_about_17_0 ?_
      refine mw_ld 57 i_GW_about_56 rfl rfl rfl ?_
      refine mw_get 60 i_GW_about_57 rfl (by assumption) (by rfl) ?_
      refine mw_ri i_GW_about_60 rfl rfl ?_
      rw [if_pos rfl] at k
      exact k
    by_cases w1 : t = 1
    · subst w1
      refine mw_sw i_GW_about_17_1 ?_
      refine mw_ld 62 i_GW_about_61 rfl rfl rfl ?_
      refine mw_get 65 i_GW_about_62 rfl (by assumption) (by rfl) ?_
      refine mw_ri i_GW_about_65 rfl rfl ?_
      rw [if_neg (by decide), if_pos rfl] at k
      exact k
    by_cases w2 : t = 2
    · subst w2
      refine mw_sw i_GW_about_17_2 ?_
      refine mw_ld 67 i_GW_about_66 rfl rfl rfl ?_
      refine mw_get 70 i_GW_about_67 rfl (by assumption) (by rfl) ?_
      refine mw_ri i_GW_about_70 rfl rfl ?_
      rw [if_neg (by decide), if_neg (by decide), if_pos rfl] at k
      exact k
    by_cases w3 : t = 3
    · subst w3
      refine mw_sw i_GW_about_17_3 ?_
      refine mw_ld 72 i_GW_about_71 rfl rfl rfl ?_
      refine mw_get 75 i_GW_about_72 rfl (by assumption) (by rfl) ?_
      refine mw_ri i_GW_about_75 rfl rfl ?_
      rw [if_neg (by decide), if_neg (by decide), if_neg (by decide), if_pos rfl] at k
      exact k
    by_cases w4 : t = 4
    · subst w4
      refine mw_sw i_GW_about_17_4 ?_
      refine mw_ld 77 i_GW_about_76 rfl rfl rfl ?_
      refine mw_get 80 i_GW_about_77 rfl (by assumption) (by rfl) ?_
      refine mw_ri i_GW_about_80 rfl rfl ?_
      rw [if_neg (by decide), if_neg (by decide), if_neg (by decide), if_neg (by decide), if_pos rfl] at k
      exact k
    by_cases w5 : t = 5
    · subst w5
      refine mw_sw i_GW_about_17_5 ?_
      refine mw_ld 82 i_GW_about_81 rfl rfl rfl ?_
      refine mw_get 85 i_GW_about_82 rfl (by assumption) (by rfl) ?_
      refine mw_ri i_GW_about_85 rfl rfl ?_
      rw [if_neg (by decide), if_neg (by decide), if_neg (by decide), if_neg (by decide), if_neg (by decide), if_pos rfl] at k
      exact k
    refine mw_sw (i_GW_about_17_o (by have q0 := gw_ne_lit (k := 0) (by decide) w0; have q1 := gw_ne_lit (k := 1) (by decide) w1; have q2 := gw_ne_lit (k := 2) (by decide) w2; have q3 := gw_ne_lit (k := 3) (by decide) w3; have q4 := gw_ne_lit (k := 4) (by decide) w4; have q5 := gw_ne_lit (k := 5) (by decide) w5; omega)) ?_
    refine mw_k 88 i_GW_about_86 rfl ?_
    refine mw_ri i_GW_about_88 rfl rfl ?_
    rw [if_neg w0, if_neg w1, if_neg w2, if_neg w3, if_neg w4, if_neg w5] at k
    exact k
  · skip
    refine mw_ld 1 i_GW_about_0 rfl rfl rfl ?_
    refine mw_get 4 i_GW_about_1 rfl (by assumption) (by rfl) ?_
    refine mw_ld 5 i_GW_about_4 rfl rfl rfl ?_
    refine mw_cv1 8 i_GW_about_5 rfl (by assumption) (sp_Room_postAt_out hn14 x2 (gw_nt hz) ?_) rfl rfl (Nat.le_of_ble_eq_true rfl) (Nat.le_of_ble_eq_true rfl)
    refine mw_st (ls' := [_, _, _, _]) 9 i_GW_about_8 rfl rfl rfl rfl ?_
    refine mw_ld 10 i_GW_about_9 rfl rfl rfl ?_
    refine mw_nnF 13 i_GW_about_10 rfl ?_
    refine mw_k 15 i_GW_about_13 rfl ?_
    refine mw_ri i_GW_about_15 rfl rfl ?_
    rw [a_about, if_neg hz] at k
    exact k
theorem sp_GW_tree {X : mj_X} {d : Nat} {σ : mj_H} {Q : Value → mj_H → Prop} {w h n : Nat} {s : Nat → Int32} {kp : Nat} {hn : Nat → Nat} {hs : Nat → Nat → Int32} {P : List gw_Row} {sz : Int32} (hI : gw_CI σ.1 w h n s kp hn hs P sz) (hd : gw_dim w h) (hn14 : n ≤ 14) (hv : gw_vp w h n s) {z : Int32} (k1 : gw_okTree w h n s z = false → ∀ f, gw_keep σ.1 f → gw_CI f w h n s kp hn hs P sz → Q (.int (a_tree w h n s z)) (f, σ.2)) (k2 : gw_okTree w h n s z = true → ∀ f, gw_keep σ.1 f → gw_CI f w h n s kp hn hs (gw_T w h n s z.toInt.toNat) z → Q (.int (nI (gw_T w h n s z.toInt.toNat).length)) (f, σ.2)) : mj_M X (d + 20) y_GW_tree [.ref 0, .int z] σ (mj_V Q) := by
  obtain ⟨x1, x2, ⟨w6, h6, n6, s6, x3⟩, ⟨nx, x4⟩, x5, x6, ⟨st, qu, x7⟩, ce, ab, co, wy, bl, x8, x9⟩ := id hI
  obtain ⟨wl1, ps1, r1, -⟩ := id x2
  have hwh := gw_dim_le hd
  refine mw_in (l0 := [some (.ref 0), some (.int z)]) rfl ?_
  by_cases hz : gw_in z 0 6 = true
  · skip
    obtain ⟨m, hm, rfl⟩ := gw_in_of (k := 6) (by decide) hz
    obtain ⟨u0, wt0, vv1, vv2⟩ := gw_vok_w x5
    by_cases hq1 : (gw_sl w h n s).1 = gw_NONE
    · skip
      have hq : (gw_sl w h n s).1 = gw_NONE ∨ ¬ (gw_sl w h n s).1 ≤ nI m := .inl hq1
      refine mw_ld 1 i_GW_tree_0 rfl rfl rfl ?_
      refine mw_k 2 i_GW_tree_1 rfl ?_
      refine mw_k 4 i_GW_tree_2 rfl ?_
      refine mw_cs1 7 i_GW_tree_4 rfl (sp_GW_isWithin ?_) rfl rfl (Nat.le_of_ble_eq_true rfl) (Nat.le_of_ble_eq_true rfl)
      refine mw_if1 i_GW_tree_7 (mj_bI1.mpr hz) ?_
      refine mw_ld 14 i_GW_tree_13 rfl rfl rfl ?_
      refine mw_get 17 i_GW_tree_14 rfl x1 (by rfl) ?_
      refine mw_cv0 20 i_GW_tree_17 rfl vv1 (sp_View_refresh hn14 hv hd x2 x5 (fun f g1 g2 => ?_)) rfl rfl (Nat.le_of_ble_eq_true rfl) (Nat.le_of_ble_eq_true rfl)
      have hRf := gw_rm_fr g1 (by decide) (by decide) (by decide) (by decide) x2
      have hIf := gw_CI_v g1 g2 hI
      have hkf := gw_keep_fr g1 (by decide)
      have h0f : f 0 = gw_c0 := (g1 0 (by decide)).trans x1
      obtain ⟨wtf, ⟨v1f, v2f⟩, -⟩ := id g2
      obtain ⟨uf, wtf2, vv1, vv2⟩ := gw_vok_w x5
      have hcf := gw_cok_fr g1 (fun a _ _ => by simp; omega) x6
      obtain ⟨ol0, oh0, up0, sz0, fi0, fo0, lo0, hi0, rl0, rh0, cc1, -⟩ := gw_cok_w hcf
      refine mw_ld 21 i_GW_tree_20 rfl rfl rfl ?_
      refine mw_get 24 i_GW_tree_21 rfl h0f (by rfl) ?_
      refine mw_cv0 27 i_GW_tree_24 rfl cc1 (sp_Choice_solve (σ := (f, σ.2)) hn14 hd hRf g2 hcf (fun f2 g3 g4 => ?_)) rfl rfl (Nat.le_of_ble_eq_true rfl) (Nat.le_of_ble_eq_true rfl)
      have hIf2 := gw_CI_c g3 g4 hIf
      have hkf2 := gw_keep_tr hkf (gw_keep_fr g3 (by decide))
      have h0f2 : f2 0 = gw_c0 := (g3 0 (by decide)).trans h0f
      obtain ⟨ol1, oh1, lo1, hi1, rl1, rh1, ccc1, -⟩ := id g4
      have hFf := gw_pf_fr g3 (fun a _ _ => by simp; omega) (gw_pf_fr g1 (fun a _ _ => by simp; omega) x8)
      obtain ⟨tt1, -⟩ := id hFf
      have hRf2 := gw_rm_fr g3 (by decide) (by decide) (by decide) (by decide) hRf
      have hUf2 := gw_vup_fr g3 (by decide) (by decide) g2
      refine mw_ld 28 i_GW_tree_27 rfl rfl rfl ?_
      refine mw_get 31 i_GW_tree_28 rfl h0f2 (by rfl) ?_
      refine mw_get 34 i_GW_tree_31 rfl ccc1 (by rfl) ?_
      refine mw_k 36 i_GW_tree_34 rfl ?_
      refine mw_ic1 i_GW_tree_36 hq1 ?_
      refine mw_ld 54 i_GW_tree_53 rfl rfl rfl ?_
      refine mw_get 57 i_GW_tree_54 rfl h0f2 (by rfl) ?_
      refine mw_ld 58 i_GW_tree_57 rfl rfl rfl ?_
      refine mw_cv1 61 i_GW_tree_58 rfl tt1 (sp_Proof_make (σ := (f2, σ.2)) hFf hd hRf2 hUf2 hm (fun ht => ?_) (fun ht f3 ce3 ab3 co3 wy3 bl3 g5 g6 g7 => ?_)) rfl rfl (Nat.le_of_ble_eq_true rfl) (Nat.le_of_ble_eq_true rfl)
      · refine mw_ri i_GW_tree_61 rfl rfl ?_
        have e : a_tree w h n s (nI m) = gw_FULL := by rw [a_tree, if_pos hz, if_pos hq]
        rw [e] at k1
        exact k1 (by simp only [gw_okTree, gw_tn (show m < 2147483648 by omega)]; rw [show decide (gw_tl w h n s m 0 ≤ 600) = false by simp; omega]; simp) f2 hkf2 hIf2
      · refine mw_ri i_GW_tree_61 rfl rfl ?_
        rw [gw_tn (show m < 2147483648 by omega)] at k2
        have hok : gw_okTree w h n s (nI m) = true := by
          simp only [gw_okTree, gw_tn (show m < 2147483648 by omega), hz, Bool.true_and, Bool.and_eq_true, Bool.or_eq_true, beq_iff_eq, Bool.not_eq_true', decide_eq_false_iff_not, decide_eq_true_eq]
          exact ⟨hq, ht⟩
        exact k2 hok f3 (gw_keep_tr hkf2 (gw_keep_fr g5 (by decide))) (gw_CI_p g5 g6 g7 hIf2)
    · skip
      by_cases hq2 : (gw_sl w h n s).1 ≤ nI m
      · skip
        refine mw_ld 1 i_GW_tree_0 rfl rfl rfl ?_
        refine mw_k 2 i_GW_tree_1 rfl ?_
        refine mw_k 4 i_GW_tree_2 rfl ?_
        refine mw_cs1 7 i_GW_tree_4 rfl (sp_GW_isWithin ?_) rfl rfl (Nat.le_of_ble_eq_true rfl) (Nat.le_of_ble_eq_true rfl)
        refine mw_if1 i_GW_tree_7 (mj_bI1.mpr hz) ?_
        refine mw_ld 14 i_GW_tree_13 rfl rfl rfl ?_
        refine mw_get 17 i_GW_tree_14 rfl x1 (by rfl) ?_
        refine mw_cv0 20 i_GW_tree_17 rfl vv1 (sp_View_refresh hn14 hv hd x2 x5 (fun f g1 g2 => ?_)) rfl rfl (Nat.le_of_ble_eq_true rfl) (Nat.le_of_ble_eq_true rfl)
        have hRf := gw_rm_fr g1 (by decide) (by decide) (by decide) (by decide) x2
        have hIf := gw_CI_v g1 g2 hI
        have hkf := gw_keep_fr g1 (by decide)
        have h0f : f 0 = gw_c0 := (g1 0 (by decide)).trans x1
        obtain ⟨wtf, ⟨v1f, v2f⟩, -⟩ := id g2
        obtain ⟨uf, wtf2, vv1, vv2⟩ := gw_vok_w x5
        have hcf := gw_cok_fr g1 (fun a _ _ => by simp; omega) x6
        obtain ⟨ol0, oh0, up0, sz0, fi0, fo0, lo0, hi0, rl0, rh0, cc1, -⟩ := gw_cok_w hcf
        refine mw_ld 21 i_GW_tree_20 rfl rfl rfl ?_
        refine mw_get 24 i_GW_tree_21 rfl h0f (by rfl) ?_
        refine mw_cv0 27 i_GW_tree_24 rfl cc1 (sp_Choice_solve (σ := (f, σ.2)) hn14 hd hRf g2 hcf (fun f2 g3 g4 => ?_)) rfl rfl (Nat.le_of_ble_eq_true rfl) (Nat.le_of_ble_eq_true rfl)
        have hIf2 := gw_CI_c g3 g4 hIf
        have hkf2 := gw_keep_tr hkf (gw_keep_fr g3 (by decide))
        have h0f2 : f2 0 = gw_c0 := (g3 0 (by decide)).trans h0f
        obtain ⟨ol1, oh1, lo1, hi1, rl1, rh1, ccc1, -⟩ := id g4
        have hFf := gw_pf_fr g3 (fun a _ _ => by simp; omega) (gw_pf_fr g1 (fun a _ _ => by simp; omega) x8)
        obtain ⟨tt1, -⟩ := id hFf
        have hRf2 := gw_rm_fr g3 (by decide) (by decide) (by decide) (by decide) hRf
        have hUf2 := gw_vup_fr g3 (by decide) (by decide) g2
        refine mw_ld 28 i_GW_tree_27 rfl rfl rfl ?_
        refine mw_get 31 i_GW_tree_28 rfl h0f2 (by rfl) ?_
        refine mw_get 34 i_GW_tree_31 rfl ccc1 (by rfl) ?_
        refine mw_k 36 i_GW_tree_34 rfl ?_
        refine mw_ic0 39 i_GW_tree_36 rfl hq1 ?_
        refine mw_ld 40 i_GW_tree_39 rfl rfl rfl ?_
        refine mw_get 43 i_GW_tree_40 rfl h0f2 (by rfl) ?_
        refine mw_get 46 i_GW_tree_43 rfl ccc1 (by rfl) ?_
        refine mw_ld 47 i_GW_tree_46 rfl rfl rfl ?_
        refine mw_ic0 50 i_GW_tree_47 rfl (fun q => absurd hq2 (Int32.not_le.mpr q)) ?_
        refine mw_k 52 i_GW_tree_50 rfl ?_
        refine mw_ri i_GW_tree_52 rfl rfl ?_
        have hq : ¬ ((gw_sl w h n s).1 = gw_NONE ∨ ¬ (gw_sl w h n s).1 ≤ nI m) := fun q => by rcases q with q | q; exact hq1 q; exact q hq2
        have e : a_tree w h n s (nI m) = gw_NO := by rw [a_tree, if_pos hz, if_neg hq]
        rw [e] at k1
        exact k1 (by simp [gw_okTree, hq1, hq2]) f2 hkf2 hIf2
      · skip
        have hq : (gw_sl w h n s).1 = gw_NONE ∨ ¬ (gw_sl w h n s).1 ≤ nI m := .inr hq2
        refine mw_ld 1 i_GW_tree_0 rfl rfl rfl ?_
        refine mw_k 2 i_GW_tree_1 rfl ?_
        refine mw_k 4 i_GW_tree_2 rfl ?_
        refine mw_cs1 7 i_GW_tree_4 rfl (sp_GW_isWithin ?_) rfl rfl (Nat.le_of_ble_eq_true rfl) (Nat.le_of_ble_eq_true rfl)
        refine mw_if1 i_GW_tree_7 (mj_bI1.mpr hz) ?_
        refine mw_ld 14 i_GW_tree_13 rfl rfl rfl ?_
        refine mw_get 17 i_GW_tree_14 rfl x1 (by rfl) ?_
        refine mw_cv0 20 i_GW_tree_17 rfl vv1 (sp_View_refresh hn14 hv hd x2 x5 (fun f g1 g2 => ?_)) rfl rfl (Nat.le_of_ble_eq_true rfl) (Nat.le_of_ble_eq_true rfl)
        have hRf := gw_rm_fr g1 (by decide) (by decide) (by decide) (by decide) x2
        have hIf := gw_CI_v g1 g2 hI
        have hkf := gw_keep_fr g1 (by decide)
        have h0f : f 0 = gw_c0 := (g1 0 (by decide)).trans x1
        obtain ⟨wtf, ⟨v1f, v2f⟩, -⟩ := id g2
        obtain ⟨uf, wtf2, vv1, vv2⟩ := gw_vok_w x5
        have hcf := gw_cok_fr g1 (fun a _ _ => by simp; omega) x6
        obtain ⟨ol0, oh0, up0, sz0, fi0, fo0, lo0, hi0, rl0, rh0, cc1, -⟩ := gw_cok_w hcf
        refine mw_ld 21 i_GW_tree_20 rfl rfl rfl ?_
        refine mw_get 24 i_GW_tree_21 rfl h0f (by rfl) ?_
        refine mw_cv0 27 i_GW_tree_24 rfl cc1 (sp_Choice_solve (σ := (f, σ.2)) hn14 hd hRf g2 hcf (fun f2 g3 g4 => ?_)) rfl rfl (Nat.le_of_ble_eq_true rfl) (Nat.le_of_ble_eq_true rfl)
        have hIf2 := gw_CI_c g3 g4 hIf
        have hkf2 := gw_keep_tr hkf (gw_keep_fr g3 (by decide))
        have h0f2 : f2 0 = gw_c0 := (g3 0 (by decide)).trans h0f
        obtain ⟨ol1, oh1, lo1, hi1, rl1, rh1, ccc1, -⟩ := id g4
        have hFf := gw_pf_fr g3 (fun a _ _ => by simp; omega) (gw_pf_fr g1 (fun a _ _ => by simp; omega) x8)
        obtain ⟨tt1, -⟩ := id hFf
        have hRf2 := gw_rm_fr g3 (by decide) (by decide) (by decide) (by decide) hRf
        have hUf2 := gw_vup_fr g3 (by decide) (by decide) g2
        refine mw_ld 28 i_GW_tree_27 rfl rfl rfl ?_
        refine mw_get 31 i_GW_tree_28 rfl h0f2 (by rfl) ?_
        refine mw_get 34 i_GW_tree_31 rfl ccc1 (by rfl) ?_
        refine mw_k 36 i_GW_tree_34 rfl ?_
        refine mw_ic0 39 i_GW_tree_36 rfl hq1 ?_
        refine mw_ld 40 i_GW_tree_39 rfl rfl rfl ?_
        refine mw_get 43 i_GW_tree_40 rfl h0f2 (by rfl) ?_
        refine mw_get 46 i_GW_tree_43 rfl ccc1 (by rfl) ?_
        refine mw_ld 47 i_GW_tree_46 rfl rfl rfl ?_
        refine mw_ic1 i_GW_tree_47 (Int32.not_le.mp hq2) ?_
        refine mw_ld 54 i_GW_tree_53 rfl rfl rfl ?_
        refine mw_get 57 i_GW_tree_54 rfl h0f2 (by rfl) ?_
        refine mw_ld 58 i_GW_tree_57 rfl rfl rfl ?_
        refine mw_cv1 61 i_GW_tree_58 rfl tt1 (sp_Proof_make (σ := (f2, σ.2)) hFf hd hRf2 hUf2 hm (fun ht => ?_) (fun ht f3 ce3 ab3 co3 wy3 bl3 g5 g6 g7 => ?_)) rfl rfl (Nat.le_of_ble_eq_true rfl) (Nat.le_of_ble_eq_true rfl)
        · refine mw_ri i_GW_tree_61 rfl rfl ?_
          have e : a_tree w h n s (nI m) = gw_FULL := by rw [a_tree, if_pos hz, if_pos hq]
          rw [e] at k1
          exact k1 (by simp only [gw_okTree, gw_tn (show m < 2147483648 by omega)]; rw [show decide (gw_tl w h n s m 0 ≤ 600) = false by simp; omega]; simp) f2 hkf2 hIf2
        · refine mw_ri i_GW_tree_61 rfl rfl ?_
          rw [gw_tn (show m < 2147483648 by omega)] at k2
          have hok : gw_okTree w h n s (nI m) = true := by
            simp only [gw_okTree, gw_tn (show m < 2147483648 by omega), hz, Bool.true_and, Bool.and_eq_true, Bool.or_eq_true, beq_iff_eq, Bool.not_eq_true', decide_eq_false_iff_not, decide_eq_true_eq]
            exact ⟨hq, ht⟩
          exact k2 hok f3 (gw_keep_tr hkf2 (gw_keep_fr g5 (by decide))) (gw_CI_p g5 g6 g7 hIf2)
  · skip
    refine mw_ld 1 i_GW_tree_0 rfl rfl rfl ?_
    refine mw_k 2 i_GW_tree_1 rfl ?_
    refine mw_k 4 i_GW_tree_2 rfl ?_
    refine mw_cs1 7 i_GW_tree_4 rfl (sp_GW_isWithin ?_) rfl rfl (Nat.le_of_ble_eq_true rfl) (Nat.le_of_ble_eq_true rfl)
    refine mw_if0 10 i_GW_tree_7 rfl (fun q => q (mj_bI0.mpr (gw_nt hz))) ?_
    refine mw_k 12 i_GW_tree_10 rfl ?_
    refine mw_ri i_GW_tree_12 rfl rfl ?_
    have e : a_tree w h n s z = gw_BAD := by rw [a_tree, if_neg hz]
    rw [e] at k1
    exact k1 (by simp [gw_okTree, hz]) σ.1 (gw_keep_rf _) hI
