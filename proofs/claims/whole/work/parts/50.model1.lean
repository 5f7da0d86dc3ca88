/-! the model: small ones, keeping, room, undo -/
theorem nI_inj {a b : Nat} (ha : a < 2147483648) (hb : b < 2147483648) : nI a = nI b ↔ a = b := ⟨fun q => by have := congrArg Int32.toInt q; rw [mj_nI a ha, mj_nI b hb] at this; omega, fun q => by rw [q]⟩
theorem nI_m1 {a : Nat} (h : 1 ≤ a) : nI a - 1 = nI (a - 1) := pk_sub (b := 1) h
theorem nI_m1t {a : Nat} (h : a < 2147483648) : (nI a - 1).toInt = (a : Int) - 1 := by
  rw [iI_nI, show (1 : Int32) = iI 1 from rfl, iI_sub, iI_toInt (by omega) (by omega)]
theorem gw_in_ce {w h : Nat} {c : Int32} (hd : gw_dim w h) : gw_in c 0 (nI (w * h) - 1) = gw_ce w h c := by
  have := gw_dim_le hd
  rw [Bool.eq_iff_iff, gw_in_iff, gw_ce_iff, nI_m1t (by omega), mj_lit0]; omega
theorem gw_in_isP {n : Nat} {c : Int32} (hn : n ≤ 14) : gw_in c 0 (nI n - 1) = gw_isP n c := by
  rw [Bool.eq_iff_iff, gw_in_iff, gw_isP_iff, nI_m1t (by omega), mj_lit0]; omega
theorem sp_Model_isIn {X : mj_X} {d : Nat} {σ : mj_H} {Q : Value → mj_H → Prop} {a b c : Int32} (k : Q (.int (mj_bI (gw_in a b c))) σ) : mj_M X d y_Model_isIn [.int a, .int b, .int c] σ (mj_V Q) := by
  refine mw_in (l0 := [some (.int a), some (.int b), some (.int c)]) rfl ?_
  refine mw_ld 1 i_Model_isIn_0 rfl rfl rfl ?_
  refine mw_ld 2 i_Model_isIn_1 rfl rfl rfl ?_
  refine mw_ic 5 i_Model_isIn_2 rfl (fun h2 => ?_) (fun h2 => ?_)
  · refine mw_k 15 i_Model_isIn_14 rfl ?_
    refine mw_ri i_Model_isIn_15 rfl rfl ?_
    first
    | exact mj_q0 (by simp_all [gw_in]) k
    | exact mj_q1 (by simp_all [gw_in]) k
  · refine mw_ld 6 i_Model_isIn_5 rfl rfl rfl ?_
    refine mw_ld 7 i_Model_isIn_6 rfl rfl rfl ?_
    refine mw_ic 10 i_Model_isIn_7 rfl (fun h7 => ?_) (fun h7 => ?_)
    · refine mw_k 15 i_Model_isIn_14 rfl ?_
      refine mw_ri i_Model_isIn_15 rfl rfl ?_
      first
      | exact mj_q0 (by simp_all [gw_in]) k
      | exact mj_q1 (by simp_all [gw_in]) k
    · refine mw_k 11 i_Model_isIn_10 rfl ?_
      refine mw_go i_Model_isIn_11 ?_
      refine mw_ri i_Model_isIn_15 rfl rfl ?_
      first
      | exact mj_q0 (by simp_all [gw_in]) k
      | exact mj_q1 (by simp_all [gw_in]) k
theorem sp_Model_isDoor {X : mj_X} {d : Nat} {σ : mj_H} {Q : Value → mj_H → Prop} {a : Int32} (k : Q (.int (mj_bI (gw_door a))) σ) : mj_M X d y_Model_isDoor [.int a] σ (mj_V Q) := by
  refine mw_in (l0 := [some (.int a)]) rfl ?_
  refine mw_ld 1 i_Model_isDoor_0 rfl rfl rfl ?_
  refine mw_k 2 i_Model_isDoor_1 rfl ?_
  refine mw_ic 5 i_Model_isDoor_2 rfl (fun h2 => ?_) (fun h2 => ?_)
  · refine mw_k 11 i_Model_isDoor_10 rfl ?_
    refine mw_go i_Model_isDoor_11 ?_
    refine mw_ri i_Model_isDoor_15 rfl rfl ?_
    first
    | exact mj_q0 (by simp_all [gw_door]) k
    | exact mj_q1 (by simp_all [gw_door]) k
  · refine mw_ld 6 i_Model_isDoor_5 rfl rfl rfl ?_
    refine mw_k 7 i_Model_isDoor_6 rfl ?_
    refine mw_ic 10 i_Model_isDoor_7 rfl (fun h7 => ?_) (fun h7 => ?_)
    · refine mw_k 15 i_Model_isDoor_14 rfl ?_
      refine mw_ri i_Model_isDoor_15 rfl rfl ?_
      first
      | exact mj_q0 (by simp_all [gw_door]) k
      | exact mj_q1 (by simp_all [gw_door]) k
    · refine mw_k 11 i_Model_isDoor_10 rfl ?_
      refine mw_go i_Model_isDoor_11 ?_
      refine mw_ri i_Model_isDoor_15 rfl rfl ?_
      first
      | exact mj_q0 (by simp_all [gw_door]) k
      | exact mj_q1 (by simp_all [gw_door]) k
theorem sp_Model_isWedge {X : mj_X} {d : Nat} {σ : mj_H} {Q : Value → mj_H → Prop} {a : Int32} (k : Q (.int (mj_bI (gw_wedge a))) σ) : mj_M X d y_Model_isWedge [.int a] σ (mj_V Q) := by
  refine mw_in (l0 := [some (.int a)]) rfl ?_
  refine mw_ld 1 i_Model_isWedge_0 rfl rfl rfl ?_
  refine mw_k 2 i_Model_isWedge_1 rfl ?_
  refine mw_ic 5 i_Model_isWedge_2 rfl (fun h2 => ?_) (fun h2 => ?_)
  · refine mw_k 11 i_Model_isWedge_10 rfl ?_
    refine mw_go i_Model_isWedge_11 ?_
    refine mw_ri i_Model_isWedge_15 rfl rfl ?_
    first
    | exact mj_q0 (by simp_all [gw_wedge]) k
    | exact mj_q1 (by simp_all [gw_wedge]) k
  · refine mw_ld 6 i_Model_isWedge_5 rfl rfl rfl ?_
    refine mw_k 7 i_Model_isWedge_6 rfl ?_
    refine mw_ic 10 i_Model_isWedge_7 rfl (fun h7 => ?_) (fun h7 => ?_)
    · refine mw_k 15 i_Model_isWedge_14 rfl ?_
      refine mw_ri i_Model_isWedge_15 rfl rfl ?_
      first
      | exact mj_q0 (by simp_all [gw_wedge]) k
      | exact mj_q1 (by simp_all [gw_wedge]) k
    · refine mw_k 11 i_Model_isWedge_10 rfl ?_
      refine mw_go i_Model_isWedge_11 ?_
      refine mw_ri i_Model_isWedge_15 rfl rfl ?_
      first
      | exact mj_q0 (by simp_all [gw_wedge]) k
      | exact mj_q1 (by simp_all [gw_wedge]) k
theorem sp_Model_cells {X : mj_X} {d : Nat} {σ : mj_H} {Q : Value → mj_H → Prop} {w h kp rw : Nat} {tf fu fe fi ma md : Int32} (hO : σ.1 55 = gw_mo w h kp rw tf fu fe fi ma md) (k : Q (.int (nI (w * h))) σ) : mj_M X d y_Model_cells [.ref 55] σ (mj_V Q) := by
  refine mw_in (l0 := [some (.ref 55)]) rfl ?_
  refine mw_ld 1 i_Model_cells_0 rfl rfl rfl ?_
  refine mw_get 4 i_Model_cells_1 rfl (by assumption) (by rfl) ?_
  refine mw_ld 5 i_Model_cells_4 rfl rfl rfl ?_
  refine mw_get 8 i_Model_cells_5 rfl (by assumption) (by rfl) ?_
  refine mw_b 9 i_Model_cells_8 rfl ?_
  refine mw_ri i_Model_cells_9 rfl rfl ?_
  rw [pk_mul]
  exact k
theorem sp_Model_isCell {X : mj_X} {d : Nat} {σ : mj_H} {Q : Value → mj_H → Prop} {w h kp rw : Nat} {tf fu fe fi ma md : Int32} {c : Int32} (hO : σ.1 55 = gw_mo w h kp rw tf fu fe fi ma md) (hd : gw_dim w h) (k : Q (.int (mj_bI (gw_ce w h c))) σ) : mj_M X (d + 1) y_Model_isCell [.ref 55, .int c] σ (mj_V Q) := by
  refine mw_in (l0 := [some (.ref 55), some (.int c)]) rfl ?_
  refine mw_ld 1 i_Model_isCell_0 rfl rfl rfl ?_
  refine mw_k 2 i_Model_isCell_1 rfl ?_
  refine mw_ld 3 i_Model_isCell_2 rfl rfl rfl ?_
  refine mw_cv1 6 i_Model_isCell_3 rfl (by assumption) (sp_Model_cells hO ?_) rfl rfl (Nat.le_of_ble_eq_true rfl) (Nat.le_of_ble_eq_true rfl)
  refine mw_k 7 i_Model_isCell_6 rfl ?_
  refine mw_b 8 i_Model_isCell_7 rfl ?_
  refine mw_cs1 11 i_Model_isCell_8 rfl (sp_Model_isIn ?_) rfl rfl (Nat.le_of_ble_eq_true rfl) (Nat.le_of_ble_eq_true rfl)
  refine mw_ri i_Model_isCell_11 rfl (mj_bI_nar _) ?_
  rw [gw_in_ce hd]
  exact k
theorem sp_Model_isOpen {X : mj_X} {d : Nat} {σ : mj_H} {Q : Value → mj_H → Prop} {w h kp rw : Nat} {tf fu fe fi ma md : Int32} {s : Nat → Int32} (hO : σ.1 55 = gw_mo w h kp rw tf fu fe fi ma md) (hs1 : σ.1 56 = mj_AI 213 s) {c : Nat} (hc : c < 213) (k : Q (.int (mj_bI (s c == 0))) σ) : mj_M X d y_Model_isOpen [.ref 55, .int (nI c)] σ (mj_V Q) := by
  refine mw_in (l0 := [some (.ref 55), some (.int (nI c))]) rfl ?_
  refine mw_ld 1 i_Model_isOpen_0 rfl rfl rfl ?_
  refine mw_get 4 i_Model_isOpen_1 rfl (by assumption) (by rfl) ?_
  refine mw_ld 5 i_Model_isOpen_4 rfl rfl rfl ?_
  refine mw_iald 6 c i_Model_isOpen_5 rfl (by assumption) rfl hc (by decide) ?_
  refine mw_if 9 i_Model_isOpen_6 rfl (fun h6 => ?_) (fun h6 => ?_)
  · refine mw_k 14 i_Model_isOpen_13 rfl ?_
    refine mw_ri i_Model_isOpen_14 rfl rfl ?_
    first
    | exact mj_q0 (by simp_all [mj_bI0]) k
    | exact mj_q1 (by simp_all [mj_bI0]) k
  · refine mw_k 10 i_Model_isOpen_9 rfl ?_
    refine mw_go i_Model_isOpen_10 ?_
    refine mw_ri i_Model_isOpen_14 rfl rfl ?_
    first
    | exact mj_q0 (by simp_all [mj_bI0]) k
    | exact mj_q1 (by simp_all [mj_bI0]) k
theorem sp_Model_posts {X : mj_X} {d : Nat} {σ : mj_H} {Q : Value → mj_H → Prop} {w h kp rw : Nat} {tf fu fe fi ma md : Int32} {s : Nat → Int32} (hO : σ.1 55 = gw_mo w h kp rw tf fu fe fi ma md) (hs1 : σ.1 56 = mj_AI 213 s) {n : Nat} (hp : s 100 = nI n) (k : Q (.int (nI n)) σ) : mj_M X d y_Model_posts [.ref 55] σ (mj_V Q) := by
  refine mw_in (l0 := [some (.ref 55)]) rfl ?_
  refine mw_ld 1 i_Model_posts_0 rfl rfl rfl ?_
  refine mw_get 4 i_Model_posts_1 rfl (by assumption) (by rfl) ?_
  refine mw_k 6 i_Model_posts_4 rfl ?_
  refine mw_iald 7 100 i_Model_posts_6 rfl (by assumption) rfl (by decide) (by decide) ?_
  refine mw_ri i_Model_posts_7 rfl rfl ?_
  rw [hp]
  exact k
theorem sp_Model_isPost {X : mj_X} {d : Nat} {σ : mj_H} {Q : Value → mj_H → Prop} {w h kp rw : Nat} {tf fu fe fi ma md : Int32} {s : Nat → Int32} (hO : σ.1 55 = gw_mo w h kp rw tf fu fe fi ma md) (hs1 : σ.1 56 = mj_AI 213 s) {n : Nat} {c : Int32} (hn14 : n ≤ 14) (hp : s 100 = nI n) (k : Q (.int (mj_bI (gw_isP n c))) σ) : mj_M X (d + 1) y_Model_isPost [.ref 55, .int c] σ (mj_V Q) := by
  refine mw_in (l0 := [some (.ref 55), some (.int c)]) rfl ?_
  refine mw_ld 1 i_Model_isPost_0 rfl rfl rfl ?_
  refine mw_k 2 i_Model_isPost_1 rfl ?_
  refine mw_ld 3 i_Model_isPost_2 rfl rfl rfl ?_
  refine mw_cv1 6 i_Model_isPost_3 rfl (by assumption) (sp_Model_posts hO hs1 hp ?_) rfl rfl (Nat.le_of_ble_eq_true rfl) (Nat.le_of_ble_eq_true rfl)
  refine mw_k 7 i_Model_isPost_6 rfl ?_
  refine mw_b 8 i_Model_isPost_7 rfl ?_
  refine mw_cs1 11 i_Model_isPost_8 rfl (sp_Model_isIn ?_) rfl rfl (Nat.le_of_ble_eq_true rfl) (Nat.le_of_ble_eq_true rfl)
  refine mw_ri i_Model_isPost_11 rfl (mj_bI_nar _) ?_
  rw [gw_in_isP hn14]
  exact k
theorem sp_Model_keep_2 {X : mj_X} {d : Nat} {σ : mj_H} {Q : mj_H → Prop} {w h kp rw : Nat} {tf fu fe fi ma md : Int32} {s : Nat → Int32} (hO : σ.1 55 = gw_mo w h kp rw tf fu fe fi ma md) (hs1 : σ.1 56 = mj_AI 213 s) {bf : Nat → Int32} (hB : σ.1 57 = mj_AI 2130 bf) {l : Option Value} (hk9 : kp ≤ 9) (k : ∀ f b, gw_fr [55, 57] σ.1 f → f 55 = gw_mo w h (kp + 1) 0 tf fu fe fi ma md → f 57 = mj_AI 2130 b → (∀ x, x < 213 * kp → b x = bf x) → (∀ i, i < 213 → b (213 * kp + i) = s i) → Q (f, σ.2)) : mj_Wp X d y_Model_keep 50 [some (.ref 55), l] [] σ (mj_U Q) := by
  refine mw_k 51 i_Model_keep_50 rfl ?_
  refine mw_st (ls' := [_, _]) 52 i_Model_keep_51 rfl rfl rfl rfl ?_
  refine mj_for (S := Nat → mj_C) (fun i f => mj_Wp X d y_Model_keep 52 [some (.ref 55), some (.int (nI i))] [] (f, σ.2) (mj_U Q)) (fun i f => gw_fr [55, 57] σ.1 f ∧ f 55 = gw_mo w h kp rw tf fu fe fi ma md ∧ ∃ b, f 57 = mj_AI 2130 b ∧ (∀ x, x < 213 * kp → b x = bf x) ∧ ∀ j, j < i → b (213 * kp + j) = s j) 213 ?_ ?_ 0 σ.1 (Nat.zero_le _) ⟨gw_fr_rf _ _, hO, bf, hB, fun x _ => rfl, fun j hj => absurd hj (Nat.not_lt_zero j)⟩
  · rintro f ⟨g1, g2, b, g3, g4, g5⟩
    refine mw_ld 53 i_Model_keep_52 rfl rfl rfl ?_
    refine mw_k 56 i_Model_keep_53 rfl ?_
    refine mw_ic1 i_Model_keep_56 (by decide) ?_
    refine mw_ld 87 i_Model_keep_86 rfl rfl rfl ?_
    refine mw_dup 88 i_Model_keep_87 rfl rfl ?_
    refine mw_get 91 i_Model_keep_88 rfl (by repeat (first | exact mj_hs2 | exact mj_hs | assumption | refine mj_hn2 (by omega) ?_ | refine mj_hn (by omega) ?_)) (by rfl) ?_
    refine mw_k 92 i_Model_keep_91 rfl ?_
    refine mw_b 93 i_Model_keep_92 rfl ?_
    rw [nI_1]
    refine mw_put (fs' := [_, _, _, _, _, _, _, _, _, _, _, _, _, _, _, _, _, _, _, _, _, _, _, _, _]) 96 i_Model_keep_93 rfl (by repeat (first | exact mj_hs2 | exact mj_hs | assumption | refine mj_hn2 (by omega) ?_ | refine mj_hn (by omega) ?_)) (Nat.le_of_ble_eq_true rfl) rfl rfl (fun _ h => by cases h) (by rfl) ?_
    refine mw_ld 97 i_Model_keep_96 rfl rfl rfl ?_
    refine mw_k 98 i_Model_keep_97 rfl ?_
    refine mw_put (fs' := [_, _, _, _, _, _, _, _, _, _, _, _, _, _, _, _, _, _, _, _, _, _, _, _, _]) 101 i_Model_keep_98 rfl (by repeat (first | exact mj_hs2 | exact mj_hs | assumption | refine mj_hn2 (by omega) ?_ | refine mj_hn (by omega) ?_)) (Nat.le_of_ble_eq_true rfl) rfl rfl (fun _ h => by cases h) (by rfl) ?_
    refine mw_rv i_Model_keep_101 rfl ?_
    exact k _ b (gw_fr_up (gw_fr_up g1 (by simp)) (by simp)) mj_hs (mj_hn (by decide) (mj_hn (by decide) g3)) g4 (fun i hi => g5 i hi)
  · rintro i f hi ⟨g1, g2, b, g3, g4, g5⟩ ih
    have gs : f 56 = mj_AI 213 s := (g1 56 (by decide)).trans hs1
    refine mw_ld 53 i_Model_keep_52 rfl rfl rfl ?_
    refine mw_k 56 i_Model_keep_53 rfl ?_
    refine mw_ic0 59 i_Model_keep_56 rfl (nI_ge (b := 213) hi (by decide)) ?_
    refine mw_ld 60 i_Model_keep_59 rfl rfl rfl ?_
    refine mw_get 63 i_Model_keep_60 rfl (by repeat (first | exact mj_hs2 | exact mj_hs | assumption | refine mj_hn2 (by omega) ?_ | refine mj_hn (by omega) ?_)) (by rfl) ?_
    refine mw_k 66 i_Model_keep_63 rfl ?_
    refine mw_ld 67 i_Model_keep_66 rfl rfl rfl ?_
    refine mw_get 70 i_Model_keep_67 rfl (by repeat (first | exact mj_hs2 | exact mj_hs | assumption | refine mj_hn2 (by omega) ?_ | refine mj_hn (by omega) ?_)) (by rfl) ?_
    refine mw_b 71 i_Model_keep_70 rfl ?_
    rw [show (213 : Int32) = nI 213 from rfl, pk_mul]
    refine mw_ld 72 i_Model_keep_71 rfl rfl rfl ?_
    refine mw_b 73 i_Model_keep_72 rfl ?_
    rw [nI_add]
    refine mw_ld 74 i_Model_keep_73 rfl rfl rfl ?_
    refine mw_get 77 i_Model_keep_74 rfl (by repeat (first | exact mj_hs2 | exact mj_hs | assumption | refine mj_hn2 (by omega) ?_ | refine mj_hn (by omega) ?_)) (by rfl) ?_
    refine mw_ld 78 i_Model_keep_77 rfl rfl rfl ?_
    refine mw_iald 79 i i_Model_keep_78 rfl (by repeat (first | exact mj_hs2 | exact mj_hs | assumption | refine mj_hn2 (by omega) ?_ | refine mj_hn (by omega) ?_)) rfl hi (by decide) ?_
    refine mw_iast 80 (213 * kp + i) i_Model_keep_79 rfl (by repeat (first | exact mj_hs2 | exact mj_hs | assumption | refine mj_hn2 (by omega) ?_ | refine mj_hn (by omega) ?_)) rfl (by omega) (by decide) ?_
    refine mw_inc (ls' := [_, _]) 83 (nI (i + 1)) i_Model_keep_80 rfl rfl rfl (nI_1 i) rfl ?_
    refine mw_go i_Model_keep_83 ?_
    refine ih _ ⟨gw_fr_up g1 (by simp), mj_hn (by decide) g2, _, mj_hs, fun x hx => ?_, fun j hj => ?_⟩
    · rw [pk_un (by omega)]; exact g4 x hx
    · by_cases e : j = i
      · subst e; exact pk_us
      · rw [pk_un (by omega)]; exact g5 j (by omega)
theorem sp_Model_keep {X : mj_X} {d : Nat} {σ : mj_H} {Q : mj_H → Prop} {w h kp rw : Nat} {tf fu fe fi ma md : Int32} {s : Nat → Int32} (hO : σ.1 55 = gw_mo w h kp rw tf fu fe fi ma md) (hs1 : σ.1 56 = mj_AI 213 s) {bf : Nat → Int32} (hB : σ.1 57 = mj_AI 2130 bf) {hs : Nat → Nat → Int32} (hk : kp ≤ 10) (hb : ∀ j i, j < kp → i < 213 → bf (213 * j + i) = hs j i) (k : ∀ f b, gw_fr [55, 57] σ.1 f → f 55 = gw_mo w h (min (kp + 1) 10) 0 tf fu fe fi ma md → f 57 = mj_AI 2130 b → (∀ j i, j < min (kp + 1) 10 → i < 213 → b (213 * j + i) = gw_push kp hs s j i) → Q (f, σ.2)) : mj_M X d y_Model_keep [.ref 55] σ (mj_U Q) := by
  refine mw_in (l0 := [some (.ref 55), none]) rfl ?_
  by_cases h10 : kp = 10
  · subst h10
    refine mw_ld 1 i_Model_keep_0 rfl rfl rfl ?_
    refine mw_get 4 i_Model_keep_1 rfl (by assumption) (by rfl) ?_
    refine mw_k 6 i_Model_keep_4 rfl ?_
    refine mw_ic0 9 i_Model_keep_6 rfl (fun q => q rfl) ?_
    refine mw_k 10 i_Model_keep_9 rfl ?_
    refine mw_st (ls' := [_, _]) 11 i_Model_keep_10 rfl rfl rfl rfl ?_
    refine mj_for (S := Nat → mj_C) (fun i f => mj_Wp X d y_Model_keep 11 [some (.ref 55), some (.int (nI i))] [] (f, σ.2) (mj_U Q)) (fun i f => gw_fr [57] σ.1 f ∧ ∃ b, f 57 = mj_AI 2130 b ∧ (∀ x, x < i → b x = bf (x + 213)) ∧ ∀ x, i ≤ x → b x = bf x) 1917 ?_ ?_ 0 σ.1 (Nat.zero_le _) ⟨gw_fr_rf _ _, bf, hB, fun x hx => absurd hx (Nat.not_lt_zero x), fun x _ => rfl⟩
    · rintro f ⟨g1, b, g3, g4, g5⟩
      have g2 : f 55 = gw_mo w h 10 rw tf fu fe fi ma md := (g1 55 (by decide)).trans hO
      have gs : f 56 = mj_AI 213 s := (g1 56 (by decide)).trans hs1
      refine mw_ld 12 i_Model_keep_11 rfl rfl rfl ?_
      refine mw_k 15 i_Model_keep_12 rfl ?_
      refine mw_ic1 i_Model_keep_15 (by decide) ?_
      refine mw_ld 41 i_Model_keep_40 rfl rfl rfl ?_
      refine mw_dup 42 i_Model_keep_41 rfl rfl ?_
      refine mw_get 45 i_Model_keep_42 rfl (by repeat (first | exact mj_hs2 | exact mj_hs | assumption | refine mj_hn2 (by omega) ?_ | refine mj_hn (by omega) ?_)) (by rfl) ?_
      refine mw_k 46 i_Model_keep_45 rfl ?_
      refine mw_b 47 i_Model_keep_46 rfl ?_
      rw [show nI 10 - 1 = nI 9 from rfl]
      refine mw_put (fs' := [_, _, _, _, _, _, _, _, _, _, _, _, _, _, _, _, _, _, _, _, _, _, _, _, _]) 50 i_Model_keep_47 rfl (by repeat (first | exact mj_hs2 | exact mj_hs | assumption | refine mj_hn2 (by omega) ?_ | refine mj_hn (by omega) ?_)) (Nat.le_of_ble_eq_true rfl) rfl rfl (fun _ h => by cases h) (by rfl) ?_
      refine sp_Model_keep_2 (σ := (_, σ.2)) (kp := 9) (bf := b) (by repeat (first | exact mj_hs2 | exact mj_hs | assumption | refine mj_hn2 (by omega) ?_ | refine mj_hn (by omega) ?_)) (by repeat (first | exact mj_hs2 | exact mj_hs | assumption | refine mj_hn2 (by omega) ?_ | refine mj_hn (by omega) ?_)) (by repeat (first | exact mj_hs2 | exact mj_hs | assumption | refine mj_hn2 (by omega) ?_ | refine mj_hn (by omega) ?_)) (by decide) (fun f3 b3 e1 e2 e3 e4 e5 => ?_)
      refine k f3 b3 (gw_fr_tr (gw_fr_up (gw_fr_sub g1 (by simp)) (by simp)) e1) e2 e3 (fun j i hj hi => ?_)
      rw [gw_push, if_pos rfl]
      by_cases e : j < 9
      · rw [if_pos e, e4 _ (by omega), g4 _ (by omega), ← hb (j + 1) i (by omega) hi]
        congr 1; omega
      · have ej : j = 9 := by omega
        subst ej
        rw [if_neg e]
        exact e5 i hi
    · rintro i f hi ⟨g1, b, g3, g4, g5⟩ ih
      have g2 : f 55 = gw_mo w h 10 rw tf fu fe fi ma md := (g1 55 (by decide)).trans hO
      refine mw_ld 12 i_Model_keep_11 rfl rfl rfl ?_
      refine mw_k 15 i_Model_keep_12 rfl ?_
      refine mw_ic0 18 i_Model_keep_15 rfl (nI_ge (b := 1917) hi (by decide)) ?_
      refine mw_ld 19 i_Model_keep_18 rfl rfl rfl ?_
      refine mw_get 22 i_Model_keep_19 rfl (by repeat (first | exact mj_hs2 | exact mj_hs | assumption | refine mj_hn2 (by omega) ?_ | refine mj_hn (by omega) ?_)) (by rfl) ?_
      refine mw_ld 23 i_Model_keep_22 rfl rfl rfl ?_
      refine mw_ld 24 i_Model_keep_23 rfl rfl rfl ?_
      refine mw_get 27 i_Model_keep_24 rfl (by repeat (first | exact mj_hs2 | exact mj_hs | assumption | refine mj_hn2 (by omega) ?_ | refine mj_hn (by omega) ?_)) (by rfl) ?_
      refine mw_ld 28 i_Model_keep_27 rfl rfl rfl ?_
      refine mw_k 31 i_Model_keep_28 rfl ?_
      refine mw_b 32 i_Model_keep_31 rfl ?_
      rw [show (213 : Int32) = nI 213 from rfl, nI_add]
      refine mw_iald 33 (i + 213) i_Model_keep_32 rfl (by repeat (first | exact mj_hs2 | exact mj_hs | assumption | refine mj_hn2 (by omega) ?_ | refine mj_hn (by omega) ?_)) rfl (by omega) (by decide) ?_
      refine mw_iast 34 i i_Model_keep_33 rfl (by repeat (first | exact mj_hs2 | exact mj_hs | assumption | refine mj_hn2 (by omega) ?_ | refine mj_hn (by omega) ?_)) rfl (by omega) (by decide) ?_
      refine mw_inc (ls' := [_, _]) 37 (nI (i + 1)) i_Model_keep_34 rfl rfl rfl (nI_1 i) rfl ?_
      refine mw_go i_Model_keep_37 ?_
      refine ih _ ⟨gw_fr_up g1 (by simp), _, mj_hs, fun x hx => ?_, fun x hx => ?_⟩
      · by_cases e : x = i
        · subst e; rw [pk_us]; exact g5 _ (by omega)
        · rw [pk_un e]; exact g4 x (by omega)
      · rw [pk_un (by omega)]; exact g5 x (by omega)
  · skip
    refine mw_ld 1 i_Model_keep_0 rfl rfl rfl ?_
    refine mw_get 4 i_Model_keep_1 rfl (by assumption) (by rfl) ?_
    refine mw_k 6 i_Model_keep_4 rfl ?_
    refine mw_ic1 i_Model_keep_6 (fun q => h10 ((nI_inj (by omega) (by decide)).mp q)) ?_
    refine sp_Model_keep_2 hO hs1 hB (by omega) (fun f3 b3 e1 e2 e3 e4 e5 => ?_)
    have em : min (kp + 1) 10 = kp + 1 := by omega
    rw [em] at k
    refine k f3 b3 e1 e2 e3 (fun j i hj hi => ?_)
    rw [gw_push, if_neg h10]
    by_cases e : j < kp
    · rw [if_pos e, e4 _ (by omega)]; exact hb j i e hi
    · have ej : j = kp := by omega
      subst ej
      rw [if_neg e]
      exact e5 i hi
theorem sp_Model_undo {X : mj_X} {d : Nat} {σ : mj_H} {Q : Value → mj_H → Prop} {w h kp rw : Nat} {tf fu fe fi ma md : Int32} {s : Nat → Int32} (hO : σ.1 55 = gw_mo w h kp rw tf fu fe fi ma md) (hs1 : σ.1 56 = mj_AI 213 s) {bf : Nat → Int32} (hB : σ.1 57 = mj_AI 2130 bf) (hk : kp ≤ 10) (k1 : kp = 0 → Q (.int gw_NO) σ) (k2 : ∀ kp', kp = kp' + 1 → ∀ f s2, gw_fr [55, 56] σ.1 f → f 55 = gw_mo w h kp' 0 tf fu fe fi ma md → f 56 = mj_AI 213 s2 → (∀ i, i < 213 → s2 i = bf (213 * kp' + i)) → Q (.int (nI kp')) (f, σ.2)) : mj_M X (d + 20) y_Model_undo [.ref 55] σ (mj_V Q) := by
  refine mw_in (l0 := [some (.ref 55), none]) rfl ?_
  cases kp with
  | zero =>
    refine mw_ld 1 i_Model_undo_0 rfl rfl rfl ?_
    refine mw_get 4 i_Model_undo_1 rfl (by assumption) (by rfl) ?_
    refine mw_if0 7 i_Model_undo_4 rfl (fun q => q rfl) ?_
    refine mw_k 9 i_Model_undo_7 rfl ?_
    refine mw_ri i_Model_undo_9 rfl rfl ?_
    exact k1 rfl
  | succ kp =>
    refine mw_ld 1 i_Model_undo_0 rfl rfl rfl ?_
    refine mw_get 4 i_Model_undo_1 rfl (by repeat (first | exact mj_hs2 | exact mj_hs | assumption | refine mj_hn2 (by omega) ?_ | refine mj_hn (by omega) ?_)) (by rfl) ?_
    refine mw_if1 i_Model_undo_4 (nI_ne0 (by omega) (by omega)) ?_
    refine mw_ld 11 i_Model_undo_10 rfl rfl rfl ?_
    refine mw_dup 12 i_Model_undo_11 rfl rfl ?_
    refine mw_get 15 i_Model_undo_12 rfl (by repeat (first | exact mj_hs2 | exact mj_hs | assumption | refine mj_hn2 (by omega) ?_ | refine mj_hn (by omega) ?_)) (by rfl) ?_
    refine mw_k 16 i_Model_undo_15 rfl ?_
    refine mw_b 17 i_Model_undo_16 rfl ?_
    rw [nI_pred]
    refine mw_put (fs' := [_, _, _, _, _, _, _, _, _, _, _, _, _, _, _, _, _, _, _, _, _, _, _, _, _]) 20 i_Model_undo_17 rfl (by repeat (first | exact mj_hs2 | exact mj_hs | assumption | refine mj_hn2 (by omega) ?_ | refine mj_hn (by omega) ?_)) (Nat.le_of_ble_eq_true rfl) rfl rfl (fun _ h => by cases h) (by rfl) ?_
    refine mw_k 21 i_Model_undo_20 rfl ?_
    refine mw_st (ls' := [_, _]) 22 i_Model_undo_21 rfl rfl rfl rfl ?_
    refine mj_for (S := Nat → mj_C) (fun i f => mj_Wp X (d + 20) y_Model_undo 22 [some (.ref 55), some (.int (nI i))] [] (f, σ.2) (mj_V Q)) (fun i f => gw_fr [55, 56] σ.1 f ∧ f 55 = gw_mo w h kp rw tf fu fe fi ma md ∧ ∃ s2, f 56 = mj_AI 213 s2 ∧ ∀ x, x < i → s2 x = bf (213 * kp + x)) 213 ?_ ?_ 0 _ (Nat.zero_le _) ⟨gw_fr_up (gw_fr_rf _ _) (by simp), mj_hs, s, mj_hn (by decide) hs1, fun x hx => absurd hx (Nat.not_lt_zero x)⟩
    · rintro f ⟨g1, g2, s2, g3, g4⟩
      refine mw_ld 23 i_Model_undo_22 rfl rfl rfl ?_
      refine mw_k 26 i_Model_undo_23 rfl ?_
      refine mw_ic1 i_Model_undo_26 (by decide) ?_
      refine mw_ld 57 i_Model_undo_56 rfl rfl rfl ?_
      refine mw_k 58 i_Model_undo_57 rfl ?_
      refine mw_put (fs' := [_, _, _, _, _, _, _, _, _, _, _, _, _, _, _, _, _, _, _, _, _, _, _, _, _]) 61 i_Model_undo_58 rfl (by repeat (first | exact mj_hs2 | exact mj_hs | assumption | refine mj_hn2 (by omega) ?_ | refine mj_hn (by omega) ?_)) (Nat.le_of_ble_eq_true rfl) rfl rfl (fun _ h => by cases h) (by rfl) ?_
      refine mw_ld 62 i_Model_undo_61 rfl rfl rfl ?_
      refine mw_get 65 i_Model_undo_62 rfl (by repeat (first | exact mj_hs2 | exact mj_hs | assumption | refine mj_hn2 (by omega) ?_ | refine mj_hn (by omega) ?_)) (by rfl) ?_
      refine mw_ri i_Model_undo_65 rfl rfl ?_
      exact k2 kp rfl _ s2 (gw_fr_up g1 (by simp)) mj_hs (mj_hn (by decide) g3) g4
    · rintro i f hi ⟨g1, g2, s2, g3, g4⟩ ih
      have gb : f 57 = mj_AI 2130 bf := (g1 57 (by decide)).trans hB
      refine mw_ld 23 i_Model_undo_22 rfl rfl rfl ?_
      refine mw_k 26 i_Model_undo_23 rfl ?_
      refine mw_ic0 29 i_Model_undo_26 rfl (nI_ge (b := 213) hi (by decide)) ?_
      refine mw_ld 30 i_Model_undo_29 rfl rfl rfl ?_
      refine mw_get 33 i_Model_undo_30 rfl (by repeat (first | exact mj_hs2 | exact mj_hs | assumption | refine mj_hn2 (by omega) ?_ | refine mj_hn (by omega) ?_)) (by rfl) ?_
      refine mw_ld 34 i_Model_undo_33 rfl rfl rfl ?_
      refine mw_ld 35 i_Model_undo_34 rfl rfl rfl ?_
      refine mw_get 38 i_Model_undo_35 rfl (by repeat (first | exact mj_hs2 | exact mj_hs | assumption | refine mj_hn2 (by omega) ?_ | refine mj_hn (by omega) ?_)) (by rfl) ?_
      refine mw_k 41 i_Model_undo_38 rfl ?_
      refine mw_ld 42 i_Model_undo_41 rfl rfl rfl ?_
      refine mw_get 45 i_Model_undo_42 rfl (by repeat (first | exact mj_hs2 | exact mj_hs | assumption | refine mj_hn2 (by omega) ?_ | refine mj_hn (by omega) ?_)) (by rfl) ?_
      refine mw_b 46 i_Model_undo_45 rfl ?_
      rw [show (213 : Int32) = nI 213 from rfl, pk_mul]
      refine mw_ld 47 i_Model_undo_46 rfl rfl rfl ?_
      refine mw_b 48 i_Model_undo_47 rfl ?_
      rw [nI_add]
      refine mw_iald 49 (213 * kp + i) i_Model_undo_48 rfl (by repeat (first | exact mj_hs2 | exact mj_hs | assumption | refine mj_hn2 (by omega) ?_ | refine mj_hn (by omega) ?_)) rfl (by omega) (by decide) ?_
      refine mw_iast 50 i i_Model_undo_49 rfl (by repeat (first | exact mj_hs2 | exact mj_hs | assumption | refine mj_hn2 (by omega) ?_ | refine mj_hn (by omega) ?_)) rfl hi (by decide) ?_
      refine mw_inc (ls' := [_, _]) 53 (nI (i + 1)) i_Model_undo_50 rfl rfl rfl (nI_1 i) rfl ?_
      refine mw_go i_Model_undo_53 ?_
      refine ih _ ⟨gw_fr_up g1 (by simp), mj_hn (by decide) g2, _, mj_hs, fun x hx => ?_⟩
      by_cases e : x = i
      · subst e; exact pk_us
      · rw [pk_un e]; exact g4 x (by omega)
theorem sp_Model_room {X : mj_X} {d : Nat} {σ : mj_H} {Q : Value → mj_H → Prop} {w h kp rw : Nat} {tf fu fe fi ma md : Int32} {s : Nat → Int32} (hO : σ.1 55 = gw_mo w h kp rw tf fu fe fi ma md) (hs1 : σ.1 56 = mj_AI 213 s) {a b : Int32} (k1 : (gw_in a 1 10 && gw_in b 1 10) = false → Q (.int gw_BAD) σ) (k2 : ∀ w2 h2, gw_dim w2 h2 → a = nI w2 → b = nI h2 → ∀ f s2, gw_fr [55, 56] σ.1 f → f 55 = gw_mo w2 h2 0 0 tf fu fe fi ma md → f 56 = mj_AI 213 s2 → (∀ i, i < 213 → s2 i = 0) → Q (.int (nI (w2 * h2))) (f, σ.2)) : mj_M X (d + 20) y_Model_room [.ref 55, .int a, .int b] σ (mj_V Q) := by
  refine mw_in (l0 := [some (.ref 55), some (.int a), some (.int b), none]) rfl ?_
  by_cases ha : gw_in a 1 10 = true
  · skip
    by_cases hb : gw_in b 1 10 = true
    · skip
      obtain ⟨w2, hw1, hw2, rfl⟩ := gw_in1_of (k := 10) (by decide) ha
      obtain ⟨h2, hh1, hh2, rfl⟩ := gw_in1_of (k := 10) (by decide) hb
      refine mw_ld 1 i_Model_room_0 rfl rfl rfl ?_
      refine mw_k 2 i_Model_room_1 rfl ?_
      refine mw_k 4 i_Model_room_2 rfl ?_
      refine mw_cs1 7 i_Model_room_4 rfl (sp_Model_isIn ?_) rfl rfl (Nat.le_of_ble_eq_true rfl) (Nat.le_of_ble_eq_true rfl)
      refine mw_if0 10 i_Model_room_7 rfl (mj_bI1.mpr ha) ?_
      refine mw_ld 11 i_Model_room_10 rfl rfl rfl ?_
      refine mw_k 12 i_Model_room_11 rfl ?_
      refine mw_k 14 i_Model_room_12 rfl ?_
      refine mw_cs1 17 i_Model_room_14 rfl (sp_Model_isIn ?_) rfl rfl (Nat.le_of_ble_eq_true rfl) (Nat.le_of_ble_eq_true rfl)
      refine mw_if1 i_Model_room_17 (mj_bI1.mpr hb) ?_
      refine mw_ld 24 i_Model_room_23 rfl rfl rfl ?_
      refine mw_ld 25 i_Model_room_24 rfl rfl rfl ?_
      refine mw_put (fs' := [_, _, _, _, _, _, _, _, _, _, _, _, _, _, _, _, _, _, _, _, _, _, _, _, _]) 28 i_Model_room_25 rfl (by repeat (first | exact mj_hs2 | exact mj_hs | assumption | refine mj_hn2 (by omega) ?_ | refine mj_hn (by omega) ?_)) (Nat.le_of_ble_eq_true rfl) rfl rfl (fun _ h => by cases h) (by rfl) ?_
      refine mw_ld 29 i_Model_room_28 rfl rfl rfl ?_
      refine mw_ld 30 i_Model_room_29 rfl rfl rfl ?_
      refine mw_put (fs' := [_, _, _, _, _, _, _, _, _, _, _, _, _, _, _, _, _, _, _, _, _, _, _, _, _]) 33 i_Model_room_30 rfl (by repeat (first | exact mj_hs2 | exact mj_hs | assumption | refine mj_hn2 (by omega) ?_ | refine mj_hn (by omega) ?_)) (Nat.le_of_ble_eq_true rfl) rfl rfl (fun _ h => by cases h) (by rfl) ?_
      refine mw_k 34 i_Model_room_33 rfl ?_
      refine mw_st (ls' := [_, _, _, _]) 35 i_Model_room_34 rfl rfl rfl rfl ?_
      refine mj_for (S := Nat → mj_C) (fun i f => mj_Wp X (d + 20) y_Model_room 35 [some (.ref 55), some (.int (nI w2)), some (.int (nI h2)), some (.int (nI i))] [] (f, σ.2) (mj_V Q)) (fun i f => gw_fr [55, 56] σ.1 f ∧ f 55 = gw_mo w2 h2 kp rw tf fu fe fi ma md ∧ ∃ s2, f 56 = mj_AI 213 s2 ∧ ∀ x, x < i → s2 x = 0) 213 ?_ ?_ 0 _ (Nat.zero_le _) ⟨gw_fr_up (gw_fr_up (gw_fr_rf _ _) (by simp)) (by simp), mj_hs, s, mj_hn (by decide) (mj_hn (by decide) hs1), fun x hx => absurd hx (Nat.not_lt_zero x)⟩
      · rintro f ⟨g1, g2, s2, g3, g4⟩
        refine mw_ld 36 i_Model_room_35 rfl rfl rfl ?_
        refine mw_k 39 i_Model_room_36 rfl ?_
        refine mw_ic1 i_Model_room_39 (by decide) ?_
        refine mw_ld 56 i_Model_room_55 rfl rfl rfl ?_
        refine mw_k 57 i_Model_room_56 rfl ?_
        refine mw_put (fs' := [_, _, _, _, _, _, _, _, _, _, _, _, _, _, _, _, _, _, _, _, _, _, _, _, _]) 60 i_Model_room_57 rfl (by repeat (first | exact mj_hs2 | exact mj_hs | assumption | refine mj_hn2 (by omega) ?_ | refine mj_hn (by omega) ?_)) (Nat.le_of_ble_eq_true rfl) rfl rfl (fun _ h => by cases h) (by rfl) ?_
        refine mw_ld 61 i_Model_room_60 rfl rfl rfl ?_
        refine mw_k 62 i_Model_room_61 rfl ?_
        refine mw_put (fs' := [_, _, _, _, _, _, _, _, _, _, _, _, _, _, _, _, _, _, _, _, _, _, _, _, _]) 65 i_Model_room_62 rfl (by repeat (first | exact mj_hs2 | exact mj_hs | assumption | refine mj_hn2 (by omega) ?_ | refine mj_hn (by omega) ?_)) (Nat.le_of_ble_eq_true rfl) rfl rfl (fun _ h => by cases h) (by rfl) ?_
        refine mw_ld 66 i_Model_room_65 rfl rfl rfl ?_
        refine mw_cv1 69 i_Model_room_66 rfl (by repeat (first | exact mj_hs2 | exact mj_hs | assumption | refine mj_hn2 (by omega) ?_ | refine mj_hn (by omega) ?_)) (sp_Model_cells (w := w2) (h := h2) (kp := 0) (rw := 0) (tf := tf) (fu := fu) (fe := fe) (fi := fi) (ma := ma) (md := md) mj_hs2 ?_) rfl rfl (Nat.le_of_ble_eq_true rfl) (Nat.le_of_ble_eq_true rfl)
        refine mw_ri i_Model_room_69 rfl rfl ?_
        exact k2 w2 h2 ⟨hw1, hw2, hh1, hh2⟩ rfl rfl _ s2 (gw_fr_up (gw_fr_up g1 (by simp)) (by simp)) mj_hs (mj_hn (by decide) (mj_hn (by decide) g3)) g4
      · rintro i f hi ⟨g1, g2, s2, g3, g4⟩ ih
        refine mw_ld 36 i_Model_room_35 rfl rfl rfl ?_
        refine mw_k 39 i_Model_room_36 rfl ?_
        refine mw_ic0 42 i_Model_room_39 rfl (nI_ge (b := 213) hi (by decide)) ?_
        refine mw_ld 43 i_Model_room_42 rfl rfl rfl ?_
        refine mw_get 46 i_Model_room_43 rfl (by repeat (first | exact mj_hs2 | exact mj_hs | assumption | refine mj_hn2 (by omega) ?_ | refine mj_hn (by omega) ?_)) (by rfl) ?_
        refine mw_ld 47 i_Model_room_46 rfl rfl rfl ?_
        refine mw_k 48 i_Model_room_47 rfl ?_
        refine mw_iast 49 i i_Model_room_48 rfl (by repeat (first | exact mj_hs2 | exact mj_hs | assumption | refine mj_hn2 (by omega) ?_ | refine mj_hn (by omega) ?_)) rfl hi (by decide) ?_
        refine mw_inc (ls' := [_, _, _, _]) 52 (nI (i + 1)) i_Model_room_49 rfl rfl rfl (nI_1 i) rfl ?_
        refine mw_go i_Model_room_52 ?_
        refine ih _ ⟨gw_fr_up g1 (by simp), mj_hn (by decide) g2, _, mj_hs, fun x hx => ?_⟩
        by_cases e : x = i
        · subst e; exact pk_us
        · rw [pk_un e]; exact g4 x (by omega)
    · skip
      refine mw_ld 1 i_Model_room_0 rfl rfl rfl ?_
      refine mw_k 2 i_Model_room_1 rfl ?_
      refine mw_k 4 i_Model_room_2 rfl ?_
      refine mw_cs1 7 i_Model_room_4 rfl (sp_Model_isIn ?_) rfl rfl (Nat.le_of_ble_eq_true rfl) (Nat.le_of_ble_eq_true rfl)
      refine mw_if0 10 i_Model_room_7 rfl (mj_bI1.mpr ha) ?_
      refine mw_ld 11 i_Model_room_10 rfl rfl rfl ?_
      refine mw_k 12 i_Model_room_11 rfl ?_
      refine mw_k 14 i_Model_room_12 rfl ?_
      refine mw_cs1 17 i_Model_room_14 rfl (sp_Model_isIn ?_) rfl rfl (Nat.le_of_ble_eq_true rfl) (Nat.le_of_ble_eq_true rfl)
      refine mw_if0 20 i_Model_room_17 rfl (fun q => q (mj_bI0.mpr (gw_nt hb))) ?_
      refine mw_k 22 i_Model_room_20 rfl ?_
      refine mw_ri i_Model_room_22 rfl rfl ?_
      exact k1 (by simp [hb])
  · skip
    refine mw_ld 1 i_Model_room_0 rfl rfl rfl ?_
    refine mw_k 2 i_Model_room_1 rfl ?_
    refine mw_k 4 i_Model_room_2 rfl ?_
    refine mw_cs1 7 i_Model_room_4 rfl (sp_Model_isIn ?_) rfl rfl (Nat.le_of_ble_eq_true rfl) (Nat.le_of_ble_eq_true rfl)
    refine mw_if1 i_Model_room_7 (mj_bI0.mpr (gw_nt ha)) ?_
    refine mw_k 22 i_Model_room_20 rfl ?_
    refine mw_ri i_Model_room_22 rfl rfl ?_
    exact k1 (by simp [ha])
