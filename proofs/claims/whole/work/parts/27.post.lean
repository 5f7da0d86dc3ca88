/-! counting; posts -/
/-- how many -/
def gw_cn (p : Nat → Bool) : Nat → Nat
  | 0 => 0
  | k + 1 => gw_cn p k + (if p k then 1 else 0)
theorem gw_cn_le (p : Nat → Bool) : ∀ n, gw_cn p n ≤ n
  | 0 => Nat.le_refl _
  | n + 1 => by
    have := gw_cn_le p n
    simp only [gw_cn]
    split <;> omega
theorem gw_cn_cg {p q : Nat → Bool} : ∀ {n : Nat}, (∀ k, k < n → p k = q k) → gw_cn p n = gw_cn q n
  | 0, _ => rfl
  | n + 1, h => by simp only [gw_cn]; rw [gw_cn_cg (fun k hk => h k (by omega)), h n (by omega)]
theorem gw_cn_cut {p q : Nat → Bool} {m : Nat} (h1 : ∀ k, k < m → p k = q k) (h2 : ∀ k, m ≤ k → p k = false) : ∀ N, m ≤ N → gw_cn p N = gw_cn q m
  | 0, h => by
    have : m = 0 := by omega
    subst this; rfl
  | N + 1, h => by
    rcases Nat.lt_or_ge m (N + 1) with q1 | q1
    · simp only [gw_cn]
      rw [gw_cn_cut h1 h2 N (by omega), h2 N (by omega)]
      simp
    · have : m = N + 1 := by omega
      subst this
      exact gw_cn_cg h1
theorem nI_bI (m : Nat) (b : Bool) : nI m + mj_bI b = nI (m + if b then 1 else 0) := by
  cases b
  · show nI m + nI 0 = _; rw [nI_add]; rfl
  · show nI m + nI 1 = _; rw [nI_add]; rfl
/-- posts as the class may hold them: their cells are cells, their kinds kinds, their numbers as told -/
def gw_vp (w h n : Nat) (s : Nat → Int32) : Prop := ∀ k, k < n → (∃ c, c < w * h ∧ s (101 + k) = nI c) ∧ gw_kind (s (115 + k)) = true ∧
  (-9 ≤ (s (129 + k)).toInt ∧ (s (129 + k)).toInt ≤ 9) ∧ (-9 ≤ (s (143 + k)).toInt ∧ (s (143 + k)).toInt ≤ 9) ∧ (-9 ≤ (s (157 + k)).toInt ∧ (s (157 + k)).toInt ≤ 9) ∧ (-9 ≤ (s (171 + k)).toInt ∧ (s (171 + k)).toInt ≤ 9) ∧
  (1 ≤ (s (185 + k)).toInt ∧ (s (185 + k)).toInt ≤ 9) ∧ (s (199 + k) = 0 ∨ s (199 + k) = 1)
def gw_hp (w h n : Nat) (s : Nat → Int32) : Bool := (List.range n).all fun k => gw_st w h s (s (101 + k)).toNatClampNeg (s (115 + k))
theorem gw_isP_out {n i : Nat} (h : n ≤ i) (hi : i < 2147483648) : gw_isP n (nI i) = false := by
  rw [Bool.eq_false_iff]
  intro q
  rw [gw_isP_iff, mj_nI i hi] at q
  omega
theorem gw_isOf_1k {c : Int32} (h : gw_kind c = true) : gw_isOf c 1 = gw_wedge c := by
  obtain ⟨q, hq, rfl⟩ := gw_kind_of h
  exact gw_isOf_1 q hq
theorem gw_isOf_2k {c : Int32} (h : gw_kind c = true) : gw_isOf c 2 = gw_door c := by
  obtain ⟨q, hq, rfl⟩ := gw_kind_of h
  exact gw_isOf_2 q hq
theorem sp_Room_openCells {X : mj_X} {d : Nat} {σ : mj_H} {Q : Value → mj_H → Prop} {r w h n : Nat} {s : Nat → Int32} (hd : gw_dim w h) (hR : gw_rm σ.1 r w h n s) (k : Q (.int (nI (gw_cn (fun c => s c == 0) (w * h)))) σ) : mj_M X (d + 2) y_Room_openCells [.ref r] σ (mj_V Q) := by
  obtain ⟨wl, ps, c1, c2, c3, c4, c5⟩ := id hR
  have hwh := gw_dim_le hd
  refine mw_in (l0 := [some (.ref r), none, none]) rfl ?_
  refine mw_k 1 i_Room_openCells_0 rfl ?_
  refine mw_st (ls' := [_, _, _]) 2 i_Room_openCells_1 rfl rfl rfl rfl ?_
  refine mw_k 3 i_Room_openCells_2 rfl ?_
  refine mw_st (ls' := [_, _, _]) 4 i_Room_openCells_3 rfl rfl rfl rfl ?_
  refine mj_for (S := Nat) (fun i u => mj_Wp X (d + 2) y_Room_openCells 4 [some (.ref r), some (.int (nI u)), some (.int (nI i))] [] σ (mj_V Q)) (fun i u => u = gw_cn (fun c => gw_op w h s (nI c)) i) 100 ?_ ?_ 0 0 (Nat.zero_le _) rfl
  · rintro u rfl
    refine mw_ld 5 i_Room_openCells_4 rfl rfl rfl ?_
    refine mw_k 7 i_Room_openCells_5 rfl ?_
    refine mw_ic1 i_Room_openCells_7 (by decide) ?_
    refine mw_ld 28 i_Room_openCells_27 rfl rfl rfl ?_
    refine mw_ri i_Room_openCells_28 rfl rfl ?_
    rw [← gw_cn_cut (p := fun c => decide (c < w * h) && (s c == 0)) (N := 100) (fun c hc => by simp [hc]) (fun c hc => by simp; omega) hwh, gw_cn_cg (q := fun c => gw_op w h s (nI c)) (fun c hc => by rw [gw_op_nI (by omega)])] at k
    exact k
  · rintro i u hi rfl ih
    refine mw_ld 5 i_Room_openCells_4 rfl rfl rfl ?_
    refine mw_k 7 i_Room_openCells_5 rfl ?_
    refine mw_ic0 10 i_Room_openCells_7 rfl (nI_ge (b := 100) hi (by decide)) ?_
    refine mw_ld 11 i_Room_openCells_10 rfl rfl rfl ?_
    refine mw_ld 12 i_Room_openCells_11 rfl rfl rfl ?_
    refine mw_ld 13 i_Room_openCells_12 rfl rfl rfl ?_
    refine mw_cv1 16 i_Room_openCells_13 rfl (by assumption) (sp_Room_isOpen hd hR ?_) rfl rfl (Nat.le_of_ble_eq_true rfl) (Nat.le_of_ble_eq_true rfl)
    refine mw_cs1 19 i_Room_openCells_16 rfl (sp_GW_bit ?_) rfl rfl (Nat.le_of_ble_eq_true rfl) (Nat.le_of_ble_eq_true rfl)
    refine mw_b 20 i_Room_openCells_19 rfl ?_
    rw [nI_bI]
    refine mw_st (ls' := [_, _, _]) 21 i_Room_openCells_20 rfl rfl rfl rfl ?_
    refine mw_inc (ls' := [_, _, _]) 24 (nI (i + 1)) i_Room_openCells_21 rfl rfl rfl (nI_1 i) rfl ?_
    refine mw_go i_Room_openCells_24 ?_
    exact ih _ rfl
theorem sp_Room_holdsItsPosts {X : mj_X} {d : Nat} {σ : mj_H} {Q : Value → mj_H → Prop} {r w h n : Nat} {s : Nat → Int32} (hn : n ≤ 14) (hv : gw_vp w h n s) (hd : gw_dim w h) (hR : gw_rm σ.1 r w h n s) (k : Q (.int (mj_bI (gw_hp w h n s))) σ) : mj_M X (d + 4) y_Room_holdsItsPosts [.ref r] σ (mj_V Q) := by
  obtain ⟨wl, ps, c1, c2, c3, c4, c5⟩ := id hR
  have hwh := gw_dim_le hd
  refine mw_in (l0 := [some (.ref r), none, none]) rfl ?_
  refine mw_k 1 i_Room_holdsItsPosts_0 rfl ?_
  refine mw_st (ls' := [_, _, _]) 2 i_Room_holdsItsPosts_1 rfl rfl rfl rfl ?_
  refine mj_for (S := Option Value) (fun i u => mj_Wp X (d + 4) y_Room_holdsItsPosts 2 [some (.ref r), some (.int (nI i)), u] [] σ (mj_V Q)) (fun i u => ∀ j, j < i → j < n → gw_st w h s (s (101 + j)).toNatClampNeg (s (115 + j)) = true) 14 ?_ ?_ 0 none (Nat.zero_le _) (fun j hj => absurd hj (Nat.not_lt_zero j))
  · intro u hI
    refine mw_ld 3 i_Room_holdsItsPosts_2 rfl rfl rfl ?_
    refine mw_k 5 i_Room_holdsItsPosts_3 rfl ?_
    refine mw_ic1 i_Room_holdsItsPosts_5 (by decide) ?_
    refine mw_k 42 i_Room_holdsItsPosts_41 rfl ?_
    refine mw_ri i_Room_holdsItsPosts_42 rfl rfl ?_
    refine mj_q1 ?_ k
    simp only [gw_hp, List.all_eq_true, List.mem_range]
    exact fun j hj => hI j (by omega) hj
  · intro i u hi hI ih
    rcases Nat.lt_or_ge i n with hin | hin
    · obtain ⟨⟨c, hc, ec⟩, hk, -⟩ := hv i hin
      obtain ⟨q, hq, eq⟩ := gw_kind_of hk
      refine mw_ld 3 i_Room_holdsItsPosts_2 rfl rfl rfl ?_
      refine mw_k 5 i_Room_holdsItsPosts_3 rfl ?_
      refine mw_ic0 8 i_Room_holdsItsPosts_5 rfl (nI_ge (b := 14) hi (by decide)) ?_
      refine mw_ld 9 i_Room_holdsItsPosts_8 rfl rfl rfl ?_
      refine mw_ld 10 i_Room_holdsItsPosts_9 rfl rfl rfl ?_
      refine mw_cv1 13 i_Room_holdsItsPosts_10 rfl (by assumption) (sp_Room_postAt_in hn hR hin (fun p hp0 hp => ?_)) rfl rfl (Nat.le_of_ble_eq_true rfl) (Nat.le_of_ble_eq_true rfl)
      refine mw_st (ls' := [_, _, _]) 14 i_Room_holdsItsPosts_13 rfl rfl rfl rfl ?_
      refine mw_ld 15 i_Room_holdsItsPosts_14 rfl rfl rfl ?_
      refine mw_nuF 18 i_Room_holdsItsPosts_15 rfl ?_
      refine mw_ld 19 i_Room_holdsItsPosts_18 rfl rfl rfl ?_
      refine mw_ld 20 i_Room_holdsItsPosts_19 rfl rfl rfl ?_
      refine mw_get 23 i_Room_holdsItsPosts_20 rfl hp (by rfl) ?_
      rw [ec]
      refine mw_ld 24 i_Room_holdsItsPosts_23 rfl rfl rfl ?_
      refine mw_get 27 i_Room_holdsItsPosts_24 rfl hp (by rfl) ?_
      rw [eq]
      refine mw_cv1 30 i_Room_holdsItsPosts_27 rfl (by assumption) (sp_Room_canStand (by assumption) (by assumption) hd hR ?_) rfl rfl (Nat.le_of_ble_eq_true rfl) (Nat.le_of_ble_eq_true rfl)
      refine mw_if 33 i_Room_holdsItsPosts_30 rfl (fun h30 => ?_) (fun h30 => ?_)
      · refine mw_inc (ls' := [_, _, _]) 38 (nI (i + 1)) i_Room_holdsItsPosts_35 rfl rfl rfl (nI_1 i) rfl ?_
        refine mw_go i_Room_holdsItsPosts_38 ?_
        refine ih _ (fun j hj hjn => ?_)
        rcases Nat.lt_succ_iff_lt_or_eq.mp hj with q2 | q2
        · exact hI j q2 hjn
        · subst q2
          rw [ec, eq, nI_clamp (by omega)]
          exact mj_bI1.mp h30
      · refine mw_k 34 i_Room_holdsItsPosts_33 rfl ?_
        refine mw_ri i_Room_holdsItsPosts_34 rfl rfl ?_
        refine mj_q0 ?_ k
        rw [Bool.eq_false_iff]
        intro hh
        simp only [gw_hp, List.all_eq_true, List.mem_range] at hh
        have h1 := hh i hin
        rw [ec, eq, nI_clamp (by omega), mj_bI0.mp (Classical.not_not.mp h30)] at h1
        cases h1
    · refine mw_ld 3 i_Room_holdsItsPosts_2 rfl rfl rfl ?_
      refine mw_k 5 i_Room_holdsItsPosts_3 rfl ?_
      refine mw_ic0 8 i_Room_holdsItsPosts_5 rfl (nI_ge (b := 14) hi (by decide)) ?_
      refine mw_ld 9 i_Room_holdsItsPosts_8 rfl rfl rfl ?_
      refine mw_ld 10 i_Room_holdsItsPosts_9 rfl rfl rfl ?_
      refine mw_cv1 13 i_Room_holdsItsPosts_10 rfl (by assumption) (sp_Room_postAt_out hn hR (gw_isP_out hin (by omega)) ?_) rfl rfl (Nat.le_of_ble_eq_true rfl) (Nat.le_of_ble_eq_true rfl)
      refine mw_st (ls' := [_, _, _]) 14 i_Room_holdsItsPosts_13 rfl rfl rfl rfl ?_
      refine mw_ld 15 i_Room_holdsItsPosts_14 rfl rfl rfl ?_
      refine mw_nuT i_Room_holdsItsPosts_15 ?_
      refine mw_inc (ls' := [_, _, _]) 38 (nI (i + 1)) i_Room_holdsItsPosts_35 rfl rfl rfl (nI_1 i) rfl ?_
      refine mw_go i_Room_holdsItsPosts_38 ?_
      exact ih _ (fun j hj hjn => hI j (by omega) hjn)
def gw_lk (a b d e x y : Int32) : Bool := if a * e - b * d = 0 then (a * y - b * x == 0) && (x * e - y * d == 0) && !decide (a * x + b * y ≤ 0) else !decide (a * y - b * x < 0) && !decide (x * e - y * d < 0)
def gw_ab (x : Int32) : Int32 := if 0 ≤ x then x else 0 - x
def gw_mx (x y : Int32) : Int32 := if x < y then y else x
def gw_let (s : Nat → Int32) (k : Nat) (x y : Int32) : Bool := if s (115 + k) = 3 then s (199 + k) == 1 else if s (115 + k) = 4 ∧ ¬ gw_mx (gw_ab x) (gw_ab y) ≤ s (185 + k) then false else !gw_wedge (s (115 + k)) || ((x == 0) && (y == 0)) || gw_lk (s (129 + k)) (s (143 + k)) (s (157 + k)) (s (171 + k)) x y
theorem gw_cd0 : ∀ i, i < 19 → ∀ j, j < 19 → gw_acr (gw_code (nI i - 9) (nI j - 9)) = nI i - 9 ∧ gw_dwn (gw_code (nI i - 9) (nI j - 9)) = nI j - 9 := by decide +kernel
theorem gw_r19 {a : Int32} (h : -9 ≤ a.toInt ∧ a.toInt ≤ 9) : ∃ i, i < 19 ∧ a = nI i - 9 := by
  refine ⟨(a.toInt + 9).toNat, by omega, ?_⟩
  rw [iI_of a, iI_nI, show (9 : Int32) = iI 9 from rfl, iI_sub, iI_toInt (by omega) (by omega)]
  congr 1; omega
theorem gw_cd {a b : Int32} (ha : -9 ≤ a.toInt ∧ a.toInt ≤ 9) (hb : -9 ≤ b.toInt ∧ b.toInt ≤ 9) : gw_acr (gw_code a b) = a ∧ gw_dwn (gw_code a b) = b := by
  obtain ⟨i, hi, rfl⟩ := gw_r19 ha
  obtain ⟨j, hj, rfl⟩ := gw_r19 hb
  exact gw_cd0 i hi j hj
theorem sp_Post_isBetween {X : mj_X} {d : Nat} {σ : mj_H} {Q : Value → mj_H → Prop} {p : Nat} {f t c1 c2 c3 c4 x y : Int32} (hp : σ.1 p = mj_O 2 [.int c1, .int c2, .int f, .int t, .int c3, .int c4]) (k : Q (.int (mj_bI (gw_lk (gw_acr f) (gw_dwn f) (gw_acr t) (gw_dwn t) x y))) σ) : mj_M X (d + 1) y_Post_isBetween [.ref p, .int x, .int y] σ (mj_V Q) := by
  refine mw_in (l0 := [some (.ref p), some (.int x), some (.int y), none, none, none, none, none, none]) rfl ?_
  refine mw_ld 1 i_Post_isBetween_0 rfl rfl rfl ?_
  refine mw_get 4 i_Post_isBetween_1 rfl (by assumption) (by rfl) ?_
  refine mw_cs1 7 i_Post_isBetween_4 rfl (sp_GW_acrossOf ?_) rfl rfl (Nat.le_of_ble_eq_true rfl) (Nat.le_of_ble_eq_true rfl)
  refine mw_st (ls' := [_, _, _, _, _, _, _, _, _]) 8 i_Post_isBetween_7 rfl rfl rfl rfl ?_
  refine mw_ld 9 i_Post_isBetween_8 rfl rfl rfl ?_
  refine mw_get 12 i_Post_isBetween_9 rfl (by assumption) (by rfl) ?_
  refine mw_cs1 15 i_Post_isBetween_12 rfl (sp_GW_downOf ?_) rfl rfl (Nat.le_of_ble_eq_true rfl) (Nat.le_of_ble_eq_true rfl)
  refine mw_st (ls' := [_, _, _, _, _, _, _, _, _]) 17 i_Post_isBetween_15 rfl rfl rfl rfl ?_
  refine mw_ld 18 i_Post_isBetween_17 rfl rfl rfl ?_
  refine mw_get 21 i_Post_isBetween_18 rfl (by assumption) (by rfl) ?_
  refine mw_cs1 24 i_Post_isBetween_21 rfl (sp_GW_acrossOf ?_) rfl rfl (Nat.le_of_ble_eq_true rfl) (Nat.le_of_ble_eq_true rfl)
  refine mw_st (ls' := [_, _, _, _, _, _, _, _, _]) 26 i_Post_isBetween_24 rfl rfl rfl rfl ?_
  refine mw_ld 27 i_Post_isBetween_26 rfl rfl rfl ?_
  refine mw_get 30 i_Post_isBetween_27 rfl (by assumption) (by rfl) ?_
  refine mw_cs1 33 i_Post_isBetween_30 rfl (sp_GW_downOf ?_) rfl rfl (Nat.le_of_ble_eq_true rfl) (Nat.le_of_ble_eq_true rfl)
  refine mw_st (ls' := [_, _, _, _, _, _, _, _, _]) 35 i_Post_isBetween_33 rfl rfl rfl rfl ?_
  refine mw_ld 36 i_Post_isBetween_35 rfl rfl rfl ?_
  refine mw_ld 37 i_Post_isBetween_36 rfl rfl rfl ?_
  refine mw_b 38 i_Post_isBetween_37 rfl ?_
  refine mw_ld 40 i_Post_isBetween_38 rfl rfl rfl ?_
  refine mw_ld 41 i_Post_isBetween_40 rfl rfl rfl ?_
  refine mw_b 42 i_Post_isBetween_41 rfl ?_
  refine mw_b 43 i_Post_isBetween_42 rfl ?_
  refine mw_st (ls' := [_, _, _, _, _, _, _, _, _]) 45 i_Post_isBetween_43 rfl rfl rfl rfl ?_
  refine mw_ld 46 i_Post_isBetween_45 rfl rfl rfl ?_
  refine mw_ld 48 i_Post_isBetween_46 rfl rfl rfl ?_
  refine mw_b 49 i_Post_isBetween_48 rfl ?_
  refine mw_ld 50 i_Post_isBetween_49 rfl rfl rfl ?_
  refine mw_ld 52 i_Post_isBetween_50 rfl rfl rfl ?_
  refine mw_b 53 i_Post_isBetween_52 rfl ?_
  refine mw_b 54 i_Post_isBetween_53 rfl ?_
  refine mw_st (ls' := [_, _, _, _, _, _, _, _, _]) 56 i_Post_isBetween_54 rfl rfl rfl rfl ?_
  refine mw_ld 57 i_Post_isBetween_56 rfl rfl rfl ?_
  refine mw_ld 59 i_Post_isBetween_57 rfl rfl rfl ?_
  refine mw_b 60 i_Post_isBetween_59 rfl ?_
  refine mw_ld 62 i_Post_isBetween_60 rfl rfl rfl ?_
  refine mw_ld 64 i_Post_isBetween_62 rfl rfl rfl ?_
  refine mw_b 65 i_Post_isBetween_64 rfl ?_
  refine mw_b 66 i_Post_isBetween_65 rfl ?_
  refine mw_if 69 i_Post_isBetween_66 rfl (fun h66 => ?_) (fun h66 => ?_)
  · refine mw_ld 98 i_Post_isBetween_96 rfl rfl rfl ?_
    refine mw_if 101 i_Post_isBetween_98 rfl (fun h98 => ?_) (fun h98 => ?_)
    · refine mw_k 111 i_Post_isBetween_110 rfl ?_
      refine mw_ri i_Post_isBetween_111 rfl rfl ?_
      try simp only [Classical.not_not, mj_bI0, mj_bI1] at *
      first
      | exact mj_q0 (by simp [gw_lk, *]) k
      | exact mj_q1 (by simp [gw_lk, *]) k
    · refine mw_ld 103 i_Post_isBetween_101 rfl rfl rfl ?_
      refine mw_if 106 i_Post_isBetween_103 rfl (fun h103 => ?_) (fun h103 => ?_)
      · refine mw_k 111 i_Post_isBetween_110 rfl ?_
        refine mw_ri i_Post_isBetween_111 rfl rfl ?_
        try simp only [Classical.not_not, mj_bI0, mj_bI1] at *
        first
        | exact mj_q0 (by simp [gw_lk, *]) k
        | exact mj_q1 (by simp [gw_lk, *]) k
      · refine mw_k 107 i_Post_isBetween_106 rfl ?_
        refine mw_go i_Post_isBetween_107 ?_
        refine mw_ri i_Post_isBetween_111 rfl rfl ?_
        try simp only [Classical.not_not, mj_bI0, mj_bI1] at *
        first
        | exact mj_q0 (by simp [gw_lk, *]) k
        | exact mj_q1 (by simp [gw_lk, *]) k
  · refine mw_ld 71 i_Post_isBetween_69 rfl rfl rfl ?_
    refine mw_if 74 i_Post_isBetween_71 rfl (fun h71 => ?_) (fun h71 => ?_)
    · refine mw_k 95 i_Post_isBetween_94 rfl ?_
      refine mw_ri i_Post_isBetween_95 rfl rfl ?_
      try simp only [Classical.not_not, mj_bI0, mj_bI1] at *
      first
      | exact mj_q0 (by simp [gw_lk, *]) k
      | exact mj_q1 (by simp [gw_lk, *]) k
    · refine mw_ld 76 i_Post_isBetween_74 rfl rfl rfl ?_
      refine mw_if 79 i_Post_isBetween_76 rfl (fun h76 => ?_) (fun h76 => ?_)
      · refine mw_k 95 i_Post_isBetween_94 rfl ?_
        refine mw_ri i_Post_isBetween_95 rfl rfl ?_
        try simp only [Classical.not_not, mj_bI0, mj_bI1] at *
        first
        | exact mj_q0 (by simp [gw_lk, *]) k
        | exact mj_q1 (by simp [gw_lk, *]) k
      · refine mw_ld 80 i_Post_isBetween_79 rfl rfl rfl ?_
        refine mw_ld 81 i_Post_isBetween_80 rfl rfl rfl ?_
        refine mw_b 82 i_Post_isBetween_81 rfl ?_
        refine mw_ld 84 i_Post_isBetween_82 rfl rfl rfl ?_
        refine mw_ld 85 i_Post_isBetween_84 rfl rfl rfl ?_
        refine mw_b 86 i_Post_isBetween_85 rfl ?_
        refine mw_b 87 i_Post_isBetween_86 rfl ?_
        refine mw_if 90 i_Post_isBetween_87 rfl (fun h87 => ?_) (fun h87 => ?_)
        · refine mw_k 95 i_Post_isBetween_94 rfl ?_
          refine mw_ri i_Post_isBetween_95 rfl rfl ?_
          try simp only [Classical.not_not, mj_bI0, mj_bI1] at *
          first
          | exact mj_q0 (by simp [gw_lk, *]) k
          | exact mj_q1 (by simp [gw_lk, *]) k
        · refine mw_k 91 i_Post_isBetween_90 rfl ?_
          refine mw_go i_Post_isBetween_91 ?_
          refine mw_ri i_Post_isBetween_95 rfl rfl ?_
          try simp only [Classical.not_not, mj_bI0, mj_bI1] at *
          first
          | exact mj_q0 (by simp [gw_lk, *]) k
          | exact mj_q1 (by simp [gw_lk, *]) k
theorem sp_Post_lets {X : mj_X} {d : Nat} {σ : mj_H} {Q : Value → mj_H → Prop} {s : Nat → Int32} {p i : Nat} {x y : Int32} (hp : σ.1 p = mj_O 2 (gw_po s i)) {w h n : Nat} (hv : gw_vp w h n s) (hi : i < n) (k : Q (.int (mj_bI (gw_let s i x y))) σ) : mj_M X (d + 2) y_Post_lets [.ref p, .int x, .int y] σ (mj_V Q) := by
  obtain ⟨-, hk, b1, b2, b3, b4, -⟩ := hv i hi
  have e1 := gw_cd b1 b2
  have e2 := gw_cd b3 b4
  refine mw_in (l0 := [some (.ref p), some (.int x), some (.int y)]) rfl ?_
  refine mw_ld 1 i_Post_lets_0 rfl rfl rfl ?_
  refine mw_get 4 i_Post_lets_1 rfl (by assumption) (by rfl) ?_
  refine mw_k 5 i_Post_lets_4 rfl ?_
  refine mw_ic 8 i_Post_lets_5 rfl (fun h5 => ?_) (fun h5 => ?_)
  · refine mw_ld 23 i_Post_lets_22 rfl rfl rfl ?_
    refine mw_get 26 i_Post_lets_23 rfl (by assumption) (by rfl) ?_
    refine mw_k 27 i_Post_lets_26 rfl ?_
    refine mw_ic 30 i_Post_lets_27 rfl (fun h27 => ?_) (fun h27 => ?_)
    · refine mw_ld 51 i_Post_lets_50 rfl rfl rfl ?_
      refine mw_get 54 i_Post_lets_51 rfl (by assumption) (by rfl) ?_
      refine mw_k 55 i_Post_lets_54 rfl ?_
      refine mw_cs1 58 i_Post_lets_55 rfl (sp_GW_isKindOf ?_) rfl rfl (Nat.le_of_ble_eq_true rfl) (Nat.le_of_ble_eq_true rfl)
      rw [gw_isOf_1k hk]
      refine mw_if 61 i_Post_lets_58 rfl (fun h58 => ?_) (fun h58 => ?_)
      · refine mw_k 79 i_Post_lets_78 rfl ?_
        refine mw_go i_Post_lets_79 ?_
        refine mw_ri i_Post_lets_83 rfl rfl ?_
        try simp only [Classical.not_not, mj_bI0, mj_bI1] at *
        first
        | exact mj_q0 (by simp_all [gw_let, gw_mx, gw_ab]) k
        | exact mj_q1 (by simp_all [gw_let, gw_mx, gw_ab]) k
      · refine mw_ld 62 i_Post_lets_61 rfl rfl rfl ?_
        refine mw_if 65 i_Post_lets_62 rfl (fun h62 => ?_) (fun h62 => ?_)
        · refine mw_ld 70 i_Post_lets_69 rfl rfl rfl ?_
          refine mw_ld 71 i_Post_lets_70 rfl rfl rfl ?_
          refine mw_ld 72 i_Post_lets_71 rfl rfl rfl ?_
          refine mw_cv1 75 i_Post_lets_72 rfl (by assumption) (sp_Post_isBetween hp ?_) rfl rfl (Nat.le_of_ble_eq_true rfl) (Nat.le_of_ble_eq_true rfl)
          have hwd := mj_bI1.mp h58
          rw [if_pos hwd, if_pos hwd, e1.1, e1.2, e2.1, e2.2]
          refine mw_if 78 i_Post_lets_75 rfl (fun h75 => ?_) (fun h75 => ?_)
          · refine mw_k 83 i_Post_lets_82 rfl ?_
            refine mw_ri i_Post_lets_83 rfl rfl ?_
            try simp only [Classical.not_not, mj_bI0, mj_bI1] at *
            first
            | exact mj_q0 (by simp_all [gw_let, gw_mx, gw_ab]) k
            | exact mj_q1 (by simp_all [gw_let, gw_mx, gw_ab]) k
          · refine mw_k 79 i_Post_lets_78 rfl ?_
            refine mw_go i_Post_lets_79 ?_
            refine mw_ri i_Post_lets_83 rfl rfl ?_
            try simp only [Classical.not_not, mj_bI0, mj_bI1] at *
            first
            | exact mj_q0 (by simp_all [gw_let, gw_mx, gw_ab]) k
            | exact mj_q1 (by simp_all [gw_let, gw_mx, gw_ab]) k
        · refine mw_ld 66 i_Post_lets_65 rfl rfl rfl ?_
          refine mw_if 69 i_Post_lets_66 rfl (fun h66 => ?_) (fun h66 => ?_)
          · refine mw_k 79 i_Post_lets_78 rfl ?_
            refine mw_go i_Post_lets_79 ?_
            refine mw_ri i_Post_lets_83 rfl rfl ?_
            try simp only [Classical.not_not, mj_bI0, mj_bI1] at *
            first
            | exact mj_q0 (by simp_all [gw_let, gw_mx, gw_ab]) k
            | exact mj_q1 (by simp_all [gw_let, gw_mx, gw_ab]) k
          · refine mw_ld 70 i_Post_lets_69 rfl rfl rfl ?_
            refine mw_ld 71 i_Post_lets_70 rfl rfl rfl ?_
            refine mw_ld 72 i_Post_lets_71 rfl rfl rfl ?_
            refine mw_cv1 75 i_Post_lets_72 rfl (by assumption) (sp_Post_isBetween hp ?_) rfl rfl (Nat.le_of_ble_eq_true rfl) (Nat.le_of_ble_eq_true rfl)
            have hwd := mj_bI1.mp h58
            rw [if_pos hwd, if_pos hwd, e1.1, e1.2, e2.1, e2.2]
            refine mw_if 78 i_Post_lets_75 rfl (fun h75 => ?_) (fun h75 => ?_)
            · refine mw_k 83 i_Post_lets_82 rfl ?_
              refine mw_ri i_Post_lets_83 rfl rfl ?_
              try simp only [Classical.not_not, mj_bI0, mj_bI1] at *
              first
              | exact mj_q0 (by simp_all [gw_let, gw_mx, gw_ab]) k
              | exact mj_q1 (by simp_all [gw_let, gw_mx, gw_ab]) k
            · refine mw_k 79 i_Post_lets_78 rfl ?_
              refine mw_go i_Post_lets_79 ?_
              refine mw_ri i_Post_lets_83 rfl rfl ?_
              try simp only [Classical.not_not, mj_bI0, mj_bI1] at *
              first
              | exact mj_q0 (by simp_all [gw_let, gw_mx, gw_ab]) k
              | exact mj_q1 (by simp_all [gw_let, gw_mx, gw_ab]) k
    · refine mw_ld 31 i_Post_lets_30 rfl rfl rfl ?_
      refine mw_abs 34 i_Post_lets_31 rfl (Nat.le_of_ble_eq_true rfl) ?_
      refine mw_ld 35 i_Post_lets_34 rfl rfl rfl ?_
      refine mw_abs 38 i_Post_lets_35 rfl (Nat.le_of_ble_eq_true rfl) ?_
      refine mw_max 41 i_Post_lets_38 rfl (Nat.le_of_ble_eq_true rfl) ?_
      refine mw_ld 42 i_Post_lets_41 rfl rfl rfl ?_
      refine mw_get 45 i_Post_lets_42 rfl (by assumption) (by rfl) ?_
      refine mw_ic 48 i_Post_lets_45 rfl (fun h45 => ?_) (fun h45 => ?_)
      · refine mw_ld 51 i_Post_lets_50 rfl rfl rfl ?_
        refine mw_get 54 i_Post_lets_51 rfl (by assumption) (by rfl) ?_
        refine mw_k 55 i_Post_lets_54 rfl ?_
        refine mw_cs1 58 i_Post_lets_55 rfl (sp_GW_isKindOf ?_) rfl rfl (Nat.le_of_ble_eq_true rfl) (Nat.le_of_ble_eq_true rfl)
        rw [gw_isOf_1k hk]
        refine mw_if 61 i_Post_lets_58 rfl (fun h58 => ?_) (fun h58 => ?_)
        · refine mw_k 79 i_Post_lets_78 rfl ?_
          refine mw_go i_Post_lets_79 ?_
          refine mw_ri i_Post_lets_83 rfl rfl ?_
          try simp only [Classical.not_not, mj_bI0, mj_bI1] at *
          first
          | exact mj_q0 (by simp_all [gw_let, gw_mx, gw_ab]) k
          | exact mj_q1 (by simp_all [gw_let, gw_mx, gw_ab]) k
        · refine mw_ld 62 i_Post_lets_61 rfl rfl rfl ?_
          refine mw_if 65 i_Post_lets_62 rfl (fun h62 => ?_) (fun h62 => ?_)
          · refine mw_ld 70 i_Post_lets_69 rfl rfl rfl ?_
            refine mw_ld 71 i_Post_lets_70 rfl rfl rfl ?_
            refine mw_ld 72 i_Post_lets_71 rfl rfl rfl ?_
            refine mw_cv1 75 i_Post_lets_72 rfl (by assumption) (sp_Post_isBetween hp ?_) rfl rfl (Nat.le_of_ble_eq_true rfl) (Nat.le_of_ble_eq_true rfl)
            have hwd := mj_bI1.mp h58
            rw [if_pos hwd, if_pos hwd, e1.1, e1.2, e2.1, e2.2]
            refine mw_if 78 i_Post_lets_75 rfl (fun h75 => ?_) (fun h75 => ?_)
            · refine mw_k 83 i_Post_lets_82 rfl ?_
              refine mw_ri i_Post_lets_83 rfl rfl ?_
              try simp only [Classical.not_not, mj_bI0, mj_bI1] at *
              first
              | exact mj_q0 (by simp_all [gw_let, gw_mx, gw_ab]) k
              | exact mj_q1 (by simp_all [gw_let, gw_mx, gw_ab]) k
            · refine mw_k 79 i_Post_lets_78 rfl ?_
              refine mw_go i_Post_lets_79 ?_
              refine mw_ri i_Post_lets_83 rfl rfl ?_
              try simp only [Classical.not_not, mj_bI0, mj_bI1] at *
              first
              | exact mj_q0 (by simp_all [gw_let, gw_mx, gw_ab]) k
              | exact mj_q1 (by simp_all [gw_let, gw_mx, gw_ab]) k
          · refine mw_ld 66 i_Post_lets_65 rfl rfl rfl ?_
            refine mw_if 69 i_Post_lets_66 rfl (fun h66 => ?_) (fun h66 => ?_)
            · refine mw_k 79 i_Post_lets_78 rfl ?_
              refine mw_go i_Post_lets_79 ?_
              refine mw_ri i_Post_lets_83 rfl rfl ?_
              try simp only [Classical.not_not, mj_bI0, mj_bI1] at *
              first
              | exact mj_q0 (by simp_all [gw_let, gw_mx, gw_ab]) k
              | exact mj_q1 (by simp_all [gw_let, gw_mx, gw_ab]) k
            · refine mw_ld 70 i_Post_lets_69 rfl rfl rfl ?_
              refine mw_ld 71 i_Post_lets_70 rfl rfl rfl ?_
              refine mw_ld 72 i_Post_lets_71 rfl rfl rfl ?_
              refine mw_cv1 75 i_Post_lets_72 rfl (by assumption) (sp_Post_isBetween hp ?_) rfl rfl (Nat.le_of_ble_eq_true rfl) (Nat.le_of_ble_eq_true rfl)
              have hwd := mj_bI1.mp h58
              rw [if_pos hwd, if_pos hwd, e1.1, e1.2, e2.1, e2.2]
              refine mw_if 78 i_Post_lets_75 rfl (fun h75 => ?_) (fun h75 => ?_)
              · refine mw_k 83 i_Post_lets_82 rfl ?_
                refine mw_ri i_Post_lets_83 rfl rfl ?_
                try simp only [Classical.not_not, mj_bI0, mj_bI1] at *
                first
                | exact mj_q0 (by simp_all [gw_let, gw_mx, gw_ab]) k
                | exact mj_q1 (by simp_all [gw_let, gw_mx, gw_ab]) k
              · refine mw_k 79 i_Post_lets_78 rfl ?_
                refine mw_go i_Post_lets_79 ?_
                refine mw_ri i_Post_lets_83 rfl rfl ?_
                try simp only [Classical.not_not, mj_bI0, mj_bI1] at *
                first
                | exact mj_q0 (by simp_all [gw_let, gw_mx, gw_ab]) k
                | exact mj_q1 (by simp_all [gw_let, gw_mx, gw_ab]) k
      · refine mw_k 49 i_Post_lets_48 rfl ?_
        refine mw_ri i_Post_lets_49 rfl rfl ?_
        try simp only [Classical.not_not, mj_bI0, mj_bI1] at *
        first
        | exact mj_q0 (by simp_all [gw_let, gw_mx, gw_ab]) k
        | exact mj_q1 (by simp_all [gw_let, gw_mx, gw_ab]) k
  · refine mw_ld 9 i_Post_lets_8 rfl rfl rfl ?_
    refine mw_get 12 i_Post_lets_9 rfl (by assumption) (by rfl) ?_
    refine mw_k 13 i_Post_lets_12 rfl ?_
    refine mw_ic 16 i_Post_lets_13 rfl (fun h13 => ?_) (fun h13 => ?_)
    · refine mw_k 21 i_Post_lets_20 rfl ?_
      refine mw_ri i_Post_lets_21 rfl rfl ?_
      try simp only [Classical.not_not, mj_bI0, mj_bI1] at *
      first
      | exact mj_q0 (by simp_all [gw_let, gw_mx, gw_ab]) k
      | exact mj_q1 (by simp_all [gw_let, gw_mx, gw_ab]) k
    · refine mw_k 17 i_Post_lets_16 rfl ?_
      refine mw_go i_Post_lets_17 ?_
      refine mw_ri i_Post_lets_21 rfl rfl ?_
      try simp only [Classical.not_not, mj_bI0, mj_bI1] at *
      first
      | exact mj_q0 (by simp_all [gw_let, gw_mx, gw_ab]) k
      | exact mj_q1 (by simp_all [gw_let, gw_mx, gw_ab]) k
