/-! the model: posts -/
theorem gw_qr (t : Int32) : ∃ Q R : Int, t / 20 = iI Q ∧ t - t / 20 * 20 = iI R ∧ (-107374183 ≤ Q ∧ Q ≤ 107374183) ∧ (-20 < R ∧ R < 20) ∧ (t.toInt < 0 → Q ≤ 0) := by
  have hb := mj_nn t
  have e1 : t / 20 = iI (t.toInt.tdiv 20) := by
    rw [iI_of (t / 20), Int32.toInt_div_of_ne_right t 20 (by decide)]; rfl
  have e2 := Int.tdiv_eq_ediv (a := t.toInt) (b := 20)
  have e3 : (t.toInt.tdiv 20 = t.toInt / 20 ∧ (0 ≤ t.toInt ∨ (20 : Int) ∣ t.toInt)) ∨ (t.toInt.tdiv 20 = t.toInt / 20 + 1 ∧ ¬ (0 ≤ t.toInt ∨ (20 : Int) ∣ t.toInt)) := by
    by_cases q : 0 ≤ t.toInt ∨ (20 : Int) ∣ t.toInt
    · rw [if_pos q] at e2; exact .inl ⟨by omega, q⟩
    · rw [if_neg q] at e2; exact .inr ⟨by rw [e2]; rfl, q⟩
  refine ⟨t.toInt.tdiv 20, t.toInt - t.toInt.tdiv 20 * 20, e1, ?_, ?_, ?_, ?_⟩
  · rw [e1]
    have : ∀ T : Int, t = iI T → t - iI (t.toInt.tdiv 20) * 20 = iI (T - t.toInt.tdiv 20 * 20) := fun T hT => by
      conv => lhs; lhs; rw [hT]
      rw [show (20 : Int32) = iI 20 from rfl, iI_mul, iI_sub]
    exact this _ (iI_of t)
  · omega
  · omega
  · omega
theorem gw_isd_iff {t : Int32} {Q R : Int} (hQ : t / 20 = iI Q) (hR : t - t / 20 * 20 = iI R) (h1 : -107374183 ≤ Q ∧ Q ≤ 107374183) (h2 : -20 < R ∧ R < 20) : gw_isd t = true ↔ (1 ≤ Q ∧ Q ≤ 19) ∧ (1 ≤ R ∧ R ≤ 19) ∧ (Q ≠ 10 ∨ R ≠ 10) := by
  have ea : gw_acr t = iI (Q - 10) := by rw [gw_acr, hQ, show (10 : Int32) = iI 10 from rfl, iI_sub]
  have eb : gw_dwn t = iI (R - 10) := by rw [gw_dwn, hR, show (10 : Int32) = iI 10 from rfl, iI_sub]
  have z : ∀ x : Int, -2147483648 ≤ x → x < 2147483648 → ((!(iI x == 0)) = true ↔ x ≠ 0) := fun x hx1 hx2 => by
    have := iI_eq (a := x) (b := 0) ⟨hx1, hx2⟩ (by omega)
    rw [Bool.not_eq_true', beq_eq_false_iff_ne, ne_eq, show (0 : Int32) = iI 0 from rfl, this]
  have m9 : (-9 : Int32).toInt = -9 := by decide
  have p9 : (9 : Int32).toInt = 9 := by decide
  rw [gw_isd, ea, eb, Bool.and_eq_true, Bool.and_eq_true, Bool.or_eq_true, gw_in_iff, gw_in_iff, z _ (by omega) (by omega), z _ (by omega) (by omega), iI_toInt (by omega) (by omega), iI_toInt (by omega) (by omega), m9, p9]
  omega
theorem gw_in_kind {t : Int32} : gw_in t 0 4 = gw_kind t := by
  have p4 : (4 : Int32).toInt = 4 := by decide
  have p5 : (5 : Int32).toInt = 5 := by decide
  rw [Bool.eq_iff_iff, gw_in_iff, gw_kind, Bool.and_eq_true, Bool.not_eq_true', decide_eq_false_iff_not, decide_eq_true_iff, mj_lt, mj_lt, mj_lit0, p4, p5]
  omega
theorem gw_isOf_all : ∀ q, q < 5 → ∀ j, j < 5 → gw_isOf (nI q) (nI j) = ((nI j == 0) || (nI q == nI j) || ((nI j == 1) && gw_wedge (nI q)) || ((nI j == 2) && gw_door (nI q))) := by decide
theorem gw_MI_chg {f f' : Nat → mj_C} {w h n : Nat} {s : Nat → Int32} {kp : Nat} {hs : Nat → Nat → Int32} {P : List gw_Row} {sz : Int32} {w2 h2 n2 : Nat} {s2 : Nat → Int32} {kp2 : Nat} {hs2 : Nat → Nat → Int32} {tf fu fe fi ma md : Int32} {b : Nat → Int32} {L : List Nat} (hL : ∀ a ∈ L, a ∈ [55, 56, 57]) (hM : gw_MI f w h n s kp hs P sz) (hf : gw_fr L f f') (h55 : f' 55 = gw_mo w2 h2 kp2 0 tf fu fe fi ma md) (h56 : f' 56 = mj_AI 213 s2) (h57 : f' 57 = mj_AI 2130 b) (hb : ∀ j i, j < kp2 → i < 213 → b (213 * j + i) = hs2 j i) : gw_MI f' w2 h2 n2 s2 kp2 hs2 [] sz := by
  obtain ⟨_, _, _, _, _, _, -, -, m3, m4, -⟩ := hM
  have hno : ∀ a, a ∉ [55, 56, 57] → a ∉ L := fun a h1 h2 => h1 (hL a h2)
  obtain ⟨rc, ra, rp, ry, a1, a2, a3, a4, -⟩ := gw_mR_fr (L := L) hf (fun a _ _ => hno a (by simp; omega)) m3
  exact ⟨tf, fu, fe, fi, ma, md, h55, ⟨h56, b, h57, hb⟩, ⟨rc, ra, rp, ry, a1, a2, a3, a4, fun j hj => by cases hj⟩, gw_mS_fr hf (gw_no_in (hno _ (by decide))) (gw_no_in (hno _ (by decide))) (gw_no_in (hno _ (by decide))) (gw_no_in (hno _ (by decide))) (gw_no_in (hno _ (by decide))) (gw_no_in (hno _ (by decide))) (gw_no_in (hno _ (by decide))) (gw_no_in (hno _ (by decide))) (gw_no_in (hno _ (by decide))) m4, .inl rfl⟩
theorem sp_Model_isDirection {X : mj_X} {d : Nat} {σ : mj_H} {Qv : Value → mj_H → Prop} {t : Int32} (k : Qv (.int (mj_bI (gw_isd t))) σ) : mj_M X (d + 1) y_Model_isDirection [.int t] σ (mj_V Qv) := by
  obtain ⟨Q, R, eQ, eR, hq1, hr1, hneg⟩ := gw_qr t
  have hiff := gw_isd_iff eQ eR hq1 hr1
  refine mw_in (l0 := [some (.int t)]) rfl ?_
  refine mw_ld 1 i_Model_isDirection_0 rfl rfl rfl ?_
  refine mw_if 4 i_Model_isDirection_1 rfl (fun h1 => ?_) (fun h1 => ?_)
  · refine mw_k 53 i_Model_isDirection_52 rfl ?_
    refine mw_ri i_Model_isDirection_53 rfl rfl ?_
    have hd1 : ((1 ≤ Q ∧ Q ≤ 19) ∧ (1 ≤ R ∧ R ≤ 19) ∧ (Q ≠ 10 ∨ R ≠ 10)) ∨ ¬ ((1 ≤ Q ∧ Q ≤ 19) ∧ (1 ≤ R ∧ R ≤ 19) ∧ (Q ≠ 10 ∨ R ≠ 10)) := Classical.em _
    rcases hd1 with hd1 | hd1
    · first
      | exact mj_q1 (hiff.mpr hd1) k
      | (exfalso
         clear k hiff
         clear eQ eR
         try simp only [mj_bI0, mj_bI1, Classical.not_not, Bool.eq_false_iff, ne_eq, gw_in_iff] at *
         simp only [mj_lt, mj_le, mj_eq, iI_toInt (show -2147483648 ≤ Q by omega) (show Q < 2147483648 by omega), iI_toInt (show -2147483648 ≤ R by omega) (show R < 2147483648 by omega), mj_lit0, mj_lit 1 (by decide), mj_lit 19 (by decide), mj_lit 10 (by decide)] at *
         omega)
    · first
      | exact mj_q0 (by rw [Bool.eq_false_iff]; exact fun q => hd1 (hiff.mp q)) k
      | (exfalso
         clear k hiff
         clear eQ eR
         try simp only [mj_bI0, mj_bI1, Classical.not_not, Bool.eq_false_iff, ne_eq, gw_in_iff] at *
         simp only [mj_lt, mj_le, mj_eq, iI_toInt (show -2147483648 ≤ Q by omega) (show Q < 2147483648 by omega), iI_toInt (show -2147483648 ≤ R by omega) (show R < 2147483648 by omega), mj_lit0, mj_lit 1 (by decide), mj_lit 19 (by decide), mj_lit 10 (by decide)] at *
         omega)
  · refine mw_ld 5 i_Model_isDirection_4 rfl rfl rfl ?_
    refine mw_k 7 i_Model_isDirection_5 rfl ?_
    refine mw_d 8 i_Model_isDirection_7 rfl (by decide) ?_
    rw [eQ]
    refine mw_k 9 i_Model_isDirection_8 rfl ?_
    refine mw_k 11 i_Model_isDirection_9 rfl ?_
    refine mw_cs1 14 i_Model_isDirection_11 rfl (sp_Model_isIn ?_) rfl rfl (Nat.le_of_ble_eq_true rfl) (Nat.le_of_ble_eq_true rfl)
    refine mw_if 17 i_Model_isDirection_14 rfl (fun h14 => ?_) (fun h14 => ?_)
    · refine mw_k 53 i_Model_isDirection_52 rfl ?_
      refine mw_ri i_Model_isDirection_53 rfl rfl ?_
      have hd1 : ((1 ≤ Q ∧ Q ≤ 19) ∧ (1 ≤ R ∧ R ≤ 19) ∧ (Q ≠ 10 ∨ R ≠ 10)) ∨ ¬ ((1 ≤ Q ∧ Q ≤ 19) ∧ (1 ≤ R ∧ R ≤ 19) ∧ (Q ≠ 10 ∨ R ≠ 10)) := Classical.em _
      rcases hd1 with hd1 | hd1
      · first
        | exact mj_q1 (hiff.mpr hd1) k
        | (exfalso
           clear k hiff
           clear eQ eR
           try simp only [mj_bI0, mj_bI1, Classical.not_not, Bool.eq_false_iff, ne_eq, gw_in_iff] at *
           simp only [mj_lt, mj_le, mj_eq, iI_toInt (show -2147483648 ≤ Q by omega) (show Q < 2147483648 by omega), iI_toInt (show -2147483648 ≤ R by omega) (show R < 2147483648 by omega), mj_lit0, mj_lit 1 (by decide), mj_lit 19 (by decide), mj_lit 10 (by decide)] at *
           omega)
      · first
        | exact mj_q0 (by rw [Bool.eq_false_iff]; exact fun q => hd1 (hiff.mp q)) k
        | (exfalso
           clear k hiff
           clear eQ eR
           try simp only [mj_bI0, mj_bI1, Classical.not_not, Bool.eq_false_iff, ne_eq, gw_in_iff] at *
           simp only [mj_lt, mj_le, mj_eq, iI_toInt (show -2147483648 ≤ Q by omega) (show Q < 2147483648 by omega), iI_toInt (show -2147483648 ≤ R by omega) (show R < 2147483648 by omega), mj_lit0, mj_lit 1 (by decide), mj_lit 19 (by decide), mj_lit 10 (by decide)] at *
           omega)
    · refine mw_ld 18 i_Model_isDirection_17 rfl rfl rfl ?_
      refine mw_k 20 i_Model_isDirection_18 rfl ?_
      refine mw_d 21 i_Model_isDirection_20 rfl (by decide) ?_
      rw [eR]
      refine mw_k 22 i_Model_isDirection_21 rfl ?_
      refine mw_k 24 i_Model_isDirection_22 rfl ?_
      refine mw_cs1 27 i_Model_isDirection_24 rfl (sp_Model_isIn ?_) rfl rfl (Nat.le_of_ble_eq_true rfl) (Nat.le_of_ble_eq_true rfl)
      refine mw_if 30 i_Model_isDirection_27 rfl (fun h27 => ?_) (fun h27 => ?_)
      · refine mw_k 53 i_Model_isDirection_52 rfl ?_
        refine mw_ri i_Model_isDirection_53 rfl rfl ?_
        have hd1 : ((1 ≤ Q ∧ Q ≤ 19) ∧ (1 ≤ R ∧ R ≤ 19) ∧ (Q ≠ 10 ∨ R ≠ 10)) ∨ ¬ ((1 ≤ Q ∧ Q ≤ 19) ∧ (1 ≤ R ∧ R ≤ 19) ∧ (Q ≠ 10 ∨ R ≠ 10)) := Classical.em _
        rcases hd1 with hd1 | hd1
        · first
          | exact mj_q1 (hiff.mpr hd1) k
          | (exfalso
             clear k hiff
             clear eQ eR
             try simp only [mj_bI0, mj_bI1, Classical.not_not, Bool.eq_false_iff, ne_eq, gw_in_iff] at *
             simp only [mj_lt, mj_le, mj_eq, iI_toInt (show -2147483648 ≤ Q by omega) (show Q < 2147483648 by omega), iI_toInt (show -2147483648 ≤ R by omega) (show R < 2147483648 by omega), mj_lit0, mj_lit 1 (by decide), mj_lit 19 (by decide), mj_lit 10 (by decide)] at *
             omega)
        · first
          | exact mj_q0 (by rw [Bool.eq_false_iff]; exact fun q => hd1 (hiff.mp q)) k
          | (exfalso
             clear k hiff
             clear eQ eR
             try simp only [mj_bI0, mj_bI1, Classical.not_not, Bool.eq_false_iff, ne_eq, gw_in_iff] at *
             simp only [mj_lt, mj_le, mj_eq, iI_toInt (show -2147483648 ≤ Q by omega) (show Q < 2147483648 by omega), iI_toInt (show -2147483648 ≤ R by omega) (show R < 2147483648 by omega), mj_lit0, mj_lit 1 (by decide), mj_lit 19 (by decide), mj_lit 10 (by decide)] at *
             omega)
      · refine mw_ld 31 i_Model_isDirection_30 rfl rfl rfl ?_
        refine mw_k 33 i_Model_isDirection_31 rfl ?_
        refine mw_d 34 i_Model_isDirection_33 rfl (by decide) ?_
        rw [eQ]
        refine mw_k 36 i_Model_isDirection_34 rfl ?_
        refine mw_ic 39 i_Model_isDirection_36 rfl (fun h36 => ?_) (fun h36 => ?_)
        · refine mw_k 49 i_Model_isDirection_48 rfl ?_
          refine mw_go i_Model_isDirection_49 ?_
          refine mw_ri i_Model_isDirection_53 rfl rfl ?_
          have hd1 : ((1 ≤ Q ∧ Q ≤ 19) ∧ (1 ≤ R ∧ R ≤ 19) ∧ (Q ≠ 10 ∨ R ≠ 10)) ∨ ¬ ((1 ≤ Q ∧ Q ≤ 19) ∧ (1 ≤ R ∧ R ≤ 19) ∧ (Q ≠ 10 ∨ R ≠ 10)) := Classical.em _
          rcases hd1 with hd1 | hd1
          · first
            | exact mj_q1 (hiff.mpr hd1) k
            | (exfalso
               clear k hiff
               clear eQ eR
               try simp only [mj_bI0, mj_bI1, Classical.not_not, Bool.eq_false_iff, ne_eq, gw_in_iff] at *
               simp only [mj_lt, mj_le, mj_eq, iI_toInt (show -2147483648 ≤ Q by omega) (show Q < 2147483648 by omega), iI_toInt (show -2147483648 ≤ R by omega) (show R < 2147483648 by omega), mj_lit0, mj_lit 1 (by decide), mj_lit 19 (by decide), mj_lit 10 (by decide)] at *
               omega)
          · first
            | exact mj_q0 (by rw [Bool.eq_false_iff]; exact fun q => hd1 (hiff.mp q)) k
            | (exfalso
               clear k hiff
               clear eQ eR
               try simp only [mj_bI0, mj_bI1, Classical.not_not, Bool.eq_false_iff, ne_eq, gw_in_iff] at *
               simp only [mj_lt, mj_le, mj_eq, iI_toInt (show -2147483648 ≤ Q by omega) (show Q < 2147483648 by omega), iI_toInt (show -2147483648 ≤ R by omega) (show R < 2147483648 by omega), mj_lit0, mj_lit 1 (by decide), mj_lit 19 (by decide), mj_lit 10 (by decide)] at *
               omega)
        · refine mw_ld 40 i_Model_isDirection_39 rfl rfl rfl ?_
          refine mw_k 42 i_Model_isDirection_40 rfl ?_
          refine mw_d 43 i_Model_isDirection_42 rfl (by decide) ?_
          rw [eR]
          refine mw_k 45 i_Model_isDirection_43 rfl ?_
          refine mw_ic 48 i_Model_isDirection_45 rfl (fun h45 => ?_) (fun h45 => ?_)
          · refine mw_k 53 i_Model_isDirection_52 rfl ?_
            refine mw_ri i_Model_isDirection_53 rfl rfl ?_
            have hd1 : ((1 ≤ Q ∧ Q ≤ 19) ∧ (1 ≤ R ∧ R ≤ 19) ∧ (Q ≠ 10 ∨ R ≠ 10)) ∨ ¬ ((1 ≤ Q ∧ Q ≤ 19) ∧ (1 ≤ R ∧ R ≤ 19) ∧ (Q ≠ 10 ∨ R ≠ 10)) := Classical.em _
            rcases hd1 with hd1 | hd1
            · first
              | exact mj_q1 (hiff.mpr hd1) k
              | (exfalso
                 clear k hiff
                 clear eQ eR
                 try simp only [mj_bI0, mj_bI1, Classical.not_not, Bool.eq_false_iff, ne_eq, gw_in_iff] at *
                 simp only [mj_lt, mj_le, mj_eq, iI_toInt (show -2147483648 ≤ Q by omega) (show Q < 2147483648 by omega), iI_toInt (show -2147483648 ≤ R by omega) (show R < 2147483648 by omega), mj_lit0, mj_lit 1 (by decide), mj_lit 19 (by decide), mj_lit 10 (by decide)] at *
                 omega)
            · first
              | exact mj_q0 (by rw [Bool.eq_false_iff]; exact fun q => hd1 (hiff.mp q)) k
              | (exfalso
                 clear k hiff
                 clear eQ eR
                 try simp only [mj_bI0, mj_bI1, Classical.not_not, Bool.eq_false_iff, ne_eq, gw_in_iff] at *
                 simp only [mj_lt, mj_le, mj_eq, iI_toInt (show -2147483648 ≤ Q by omega) (show Q < 2147483648 by omega), iI_toInt (show -2147483648 ≤ R by omega) (show R < 2147483648 by omega), mj_lit0, mj_lit 1 (by decide), mj_lit 19 (by decide), mj_lit 10 (by decide)] at *
                 omega)
          · refine mw_k 49 i_Model_isDirection_48 rfl ?_
            refine mw_go i_Model_isDirection_49 ?_
            refine mw_ri i_Model_isDirection_53 rfl rfl ?_
            have hd1 : ((1 ≤ Q ∧ Q ≤ 19) ∧ (1 ≤ R ∧ R ≤ 19) ∧ (Q ≠ 10 ∨ R ≠ 10)) ∨ ¬ ((1 ≤ Q ∧ Q ≤ 19) ∧ (1 ≤ R ∧ R ≤ 19) ∧ (Q ≠ 10 ∨ R ≠ 10)) := Classical.em _
            rcases hd1 with hd1 | hd1
            · first
              | exact mj_q1 (hiff.mpr hd1) k
              | (exfalso
                 clear k hiff
                 clear eQ eR
                 try simp only [mj_bI0, mj_bI1, Classical.not_not, Bool.eq_false_iff, ne_eq, gw_in_iff] at *
                 simp only [mj_lt, mj_le, mj_eq, iI_toInt (show -2147483648 ≤ Q by omega) (show Q < 2147483648 by omega), iI_toInt (show -2147483648 ≤ R by omega) (show R < 2147483648 by omega), mj_lit0, mj_lit 1 (by decide), mj_lit 19 (by decide), mj_lit 10 (by decide)] at *
                 omega)
            · first
              | exact mj_q0 (by rw [Bool.eq_false_iff]; exact fun q => hd1 (hiff.mp q)) k
              | (exfalso
                 clear k hiff
                 clear eQ eR
                 try simp only [mj_bI0, mj_bI1, Classical.not_not, Bool.eq_false_iff, ne_eq, gw_in_iff] at *
                 simp only [mj_lt, mj_le, mj_eq, iI_toInt (show -2147483648 ≤ Q by omega) (show Q < 2147483648 by omega), iI_toInt (show -2147483648 ≤ R by omega) (show R < 2147483648 by omega), mj_lit0, mj_lit 1 (by decide), mj_lit 19 (by decide), mj_lit 10 (by decide)] at *
                 omega)
theorem sp_Model_coded {X : mj_X} {d : Nat} {σ : mj_H} {Q : Value → mj_H → Prop} {a b : Int32} (k : Q (.int (gw_code a b)) σ) : mj_M X d y_Model_coded [.int a, .int b] σ (mj_V Q) := by
  refine mw_in (l0 := [some (.int a), some (.int b)]) rfl ?_
  refine mw_k 2 i_Model_coded_0 rfl ?_
  refine mw_ld 3 i_Model_coded_2 rfl rfl rfl ?_
  refine mw_k 5 i_Model_coded_3 rfl ?_
  refine mw_b 6 i_Model_coded_5 rfl ?_
  refine mw_b 7 i_Model_coded_6 rfl ?_
  refine mw_ld 8 i_Model_coded_7 rfl rfl rfl ?_
  refine mw_b 9 i_Model_coded_8 rfl ?_
  refine mw_k 11 i_Model_coded_9 rfl ?_
  refine mw_b 12 i_Model_coded_11 rfl ?_
  refine mw_ri i_Model_coded_12 rfl rfl ?_
  exact k
theorem sp_Model_post {X : mj_X} {d : Nat} {σ : mj_H} {Q : Value → mj_H → Prop} {w h n : Nat} {s : Nat → Int32} {kp : Nat} {hs : Nat → Nat → Int32} {P : List gw_Row} {sz : Int32} (hM : gw_MI σ.1 w h n s kp hs P sz) (hd : gw_dim w h) (hn14 : n ≤ 14) (hp : s 100 = nI n) (hv : gw_vp w h n s) {c t : Int32} (hk10 : kp ≤ 10) (k1 : gw_okPost w h n s c t = false → Q (.int (a_post w h s c t)) σ) (k2 : gw_okPost w h n s c t = true → ∀ f, gw_fr gw_ML σ.1 f → gw_MI f w h (n + 1) (gw_sPost s n c t) (min (kp + 1) 10) (gw_push kp hs s) [] sz → Q (.int (nI n)) (f, σ.2)) : mj_M X (d + 20) y_Model_post [.ref 55, .int c, .int t] σ (mj_V Q) := by
  obtain ⟨tf, fu, fe, fi, ma, md, hO, hA, hRr, hSs, htf⟩ := id hM
  obtain ⟨hs1, bf, hB, hb⟩ := id hA
  obtain ⟨⟨wt0, hW⟩, ⟨he0, hH⟩, ⟨fr0, hF⟩, ⟨fa0, hFa⟩, ⟨ct0, hCt⟩, ⟨mc0, hm1⟩, ⟨mb0, hm2⟩, ⟨mp0, hm3⟩, ⟨mw0, hm4⟩⟩ := id hSs
  have hwh := gw_dim_le hd
  refine mw_in (l0 := [some (.ref 55), some (.int c), some (.int t), none]) rfl ?_
  by_cases hc : gw_ce w h c = true
  · skip
    by_cases ht0 : gw_in t 0 4 = true
    · skip
      have ht : gw_kind t = true := by rw [← gw_in_kind]; exact ht0
      obtain ⟨c, hc2, rfl⟩ := gw_ce_of hd hc
      rw [a_post, if_pos hc, if_pos ht, gw_tn (by omega)] at k1
      rw [gw_okPost, gw_tn (by omega)] at k1 k2
      by_cases hs2 : gw_st w h s c t = true
      · skip
        by_cases hn1 : n < 14
        · skip
          refine mw_ld 1 i_Model_post_0 rfl rfl rfl ?_
          refine mw_ld 2 i_Model_post_1 rfl rfl rfl ?_
          refine mw_cv1 5 i_Model_post_2 rfl (by repeat (first | exact mj_hs2 | exact mj_hs | assumption | refine mj_hn2 (by omega) ?_ | refine mj_hn (by omega) ?_)) (sp_Model_isCell hO hd ?_) rfl rfl (Nat.le_of_ble_eq_true rfl) (Nat.le_of_ble_eq_true rfl)
          refine mw_if0 8 i_Model_post_5 rfl (mj_bI1.mpr hc) ?_
          refine mw_ld 9 i_Model_post_8 rfl rfl rfl ?_
          refine mw_k 10 i_Model_post_9 rfl ?_
          refine mw_k 11 i_Model_post_10 rfl ?_
          refine mw_cs1 14 i_Model_post_11 rfl (sp_Model_isIn ?_) rfl rfl (Nat.le_of_ble_eq_true rfl) (Nat.le_of_ble_eq_true rfl)
          refine mw_if1 i_Model_post_14 (mj_bI1.mpr ht0) ?_
          refine mw_ld 21 i_Model_post_20 rfl rfl rfl ?_
          refine mw_ld 22 i_Model_post_21 rfl rfl rfl ?_
          refine mw_ld 23 i_Model_post_22 rfl rfl rfl ?_
          refine mw_cv1 26 i_Model_post_23 rfl (by repeat (first | exact mj_hs2 | exact mj_hs | assumption | refine mj_hn2 (by omega) ?_ | refine mj_hn (by omega) ?_)) (sp_Model_mayStand hO hs1 hc2 hd ?_) rfl rfl (Nat.le_of_ble_eq_true rfl) (Nat.le_of_ble_eq_true rfl)
          refine mw_if1 i_Model_post_26 (mj_bI1.mpr hs2) ?_
          refine mw_ld 33 i_Model_post_32 rfl rfl rfl ?_
          refine mw_cv1 36 i_Model_post_33 rfl (by repeat (first | exact mj_hs2 | exact mj_hs | assumption | refine mj_hn2 (by omega) ?_ | refine mj_hn (by omega) ?_)) (sp_Model_posts hO hs1 hp ?_) rfl rfl (Nat.le_of_ble_eq_true rfl) (Nat.le_of_ble_eq_true rfl)
          refine mw_k 38 i_Model_post_36 rfl ?_
          refine mw_ic1 i_Model_post_38 (fun q => by have := (nI_inj (b := 14) (by omega) (by decide)).mp q; omega) ?_
          refine mw_ld 45 i_Model_post_44 rfl rfl rfl ?_
          refine mw_cv0 48 i_Model_post_45 rfl (by repeat (first | exact mj_hs2 | exact mj_hs | assumption | refine mj_hn2 (by omega) ?_ | refine mj_hn (by omega) ?_)) (sp_Model_keep hO hs1 hB hk10 hb (fun f b g1 g2 g3 g4 => ?_)) rfl rfl (Nat.le_of_ble_eq_true rfl) (Nat.le_of_ble_eq_true rfl)
          have gs : f 56 = mj_AI 213 s := (g1 _ (by decide)).trans hs1
          refine mw_ld 49 i_Model_post_48 rfl rfl rfl ?_
          refine mw_cv1 52 i_Model_post_49 rfl (by repeat (first | exact mj_hs2 | exact mj_hs | assumption | refine mj_hn2 (by omega) ?_ | refine mj_hn (by omega) ?_)) (sp_Model_posts (σ := (f, σ.2)) g2 gs hp ?_) rfl rfl (Nat.le_of_ble_eq_true rfl) (Nat.le_of_ble_eq_true rfl)
          refine mw_st (ls' := [_, _, _, _]) 53 i_Model_post_52 rfl rfl rfl rfl ?_
          refine mw_ld 54 i_Model_post_53 rfl rfl rfl ?_
          refine mw_get 57 i_Model_post_54 rfl (by repeat (first | exact mj_hs2 | exact mj_hs | assumption | refine mj_hn2 (by omega) ?_ | refine mj_hn (by omega) ?_)) (by rfl) ?_
          refine mw_k 59 i_Model_post_57 rfl ?_
          refine mw_dup2 60 i_Model_post_59 rfl rfl rfl ?_
          refine mw_iald 61 100 i_Model_post_60 rfl gs rfl (by decide) (by decide) ?_
          rw [hp]
          refine mw_k 62 i_Model_post_61 rfl ?_
          refine mw_b 63 i_Model_post_62 rfl ?_
          rw [nI_1]
          refine mw_iast 64 100 i_Model_post_63 rfl (by repeat (first | exact mj_hs2 | exact mj_hs | assumption | refine mj_hn2 (by omega) ?_ | refine mj_hn (by omega) ?_)) rfl (by decide) (by decide) ?_
          refine mw_ld 65 i_Model_post_64 rfl rfl rfl ?_
          refine mw_get 68 i_Model_post_65 rfl (by repeat (first | exact mj_hs2 | exact mj_hs | assumption | refine mj_hn2 (by omega) ?_ | refine mj_hn (by omega) ?_)) (by rfl) ?_
          refine mw_k 70 i_Model_post_68 rfl ?_
          refine mw_ld 71 i_Model_post_70 rfl rfl rfl ?_
          refine mw_b 72 i_Model_post_71 rfl ?_
          rw [show (101 : Int32) = nI 101 from rfl, nI_add]
          refine mw_ld 73 i_Model_post_72 rfl rfl rfl ?_
          refine mw_iast 74 (101 + n) i_Model_post_73 rfl (by repeat (first | exact mj_hs2 | exact mj_hs | assumption | refine mj_hn2 (by omega) ?_ | refine mj_hn (by omega) ?_)) rfl (by omega) (by decide) ?_
          refine mw_ld 75 i_Model_post_74 rfl rfl rfl ?_
          refine mw_get 78 i_Model_post_75 rfl (by repeat (first | exact mj_hs2 | exact mj_hs | assumption | refine mj_hn2 (by omega) ?_ | refine mj_hn (by omega) ?_)) (by rfl) ?_
          refine mw_k 80 i_Model_post_78 rfl ?_
          refine mw_ld 81 i_Model_post_80 rfl rfl rfl ?_
          refine mw_b 82 i_Model_post_81 rfl ?_
          rw [show (115 : Int32) = nI 115 from rfl, nI_add]
          refine mw_ld 83 i_Model_post_82 rfl rfl rfl ?_
          refine mw_iast 84 (115 + n) i_Model_post_83 rfl (by repeat (first | exact mj_hs2 | exact mj_hs | assumption | refine mj_hn2 (by omega) ?_ | refine mj_hn (by omega) ?_)) rfl (by omega) (by decide) ?_
          refine mw_ld 85 i_Model_post_84 rfl rfl rfl ?_
          refine mw_get 88 i_Model_post_85 rfl (by repeat (first | exact mj_hs2 | exact mj_hs | assumption | refine mj_hn2 (by omega) ?_ | refine mj_hn (by omega) ?_)) (by rfl) ?_
          refine mw_k 91 i_Model_post_88 rfl ?_
          refine mw_ld 92 i_Model_post_91 rfl rfl rfl ?_
          refine mw_b 93 i_Model_post_92 rfl ?_
          rw [show (129 : Int32) = nI 129 from rfl, nI_add]
          refine mw_k 94 i_Model_post_93 rfl ?_
          refine mw_iast 95 (129 + n) i_Model_post_94 rfl (by repeat (first | exact mj_hs2 | exact mj_hs | assumption | refine mj_hn2 (by omega) ?_ | refine mj_hn (by omega) ?_)) rfl (by omega) (by decide) ?_
          refine mw_ld 96 i_Model_post_95 rfl rfl rfl ?_
          refine mw_get 99 i_Model_post_96 rfl (by repeat (first | exact mj_hs2 | exact mj_hs | assumption | refine mj_hn2 (by omega) ?_ | refine mj_hn (by omega) ?_)) (by rfl) ?_
          refine mw_k 102 i_Model_post_99 rfl ?_
          refine mw_ld 103 i_Model_post_102 rfl rfl rfl ?_
          refine mw_b 104 i_Model_post_103 rfl ?_
          rw [show (143 : Int32) = nI 143 from rfl, nI_add]
          refine mw_k 105 i_Model_post_104 rfl ?_
          refine mw_iast 106 (143 + n) i_Model_post_105 rfl (by repeat (first | exact mj_hs2 | exact mj_hs | assumption | refine mj_hn2 (by omega) ?_ | refine mj_hn (by omega) ?_)) rfl (by omega) (by decide) ?_
          refine mw_ld 107 i_Model_post_106 rfl rfl rfl ?_
          refine mw_get 110 i_Model_post_107 rfl (by repeat (first | exact mj_hs2 | exact mj_hs | assumption | refine mj_hn2 (by omega) ?_ | refine mj_hn (by omega) ?_)) (by rfl) ?_
          refine mw_k 113 i_Model_post_110 rfl ?_
          refine mw_ld 114 i_Model_post_113 rfl rfl rfl ?_
          refine mw_b 115 i_Model_post_114 rfl ?_
          rw [show (157 : Int32) = nI 157 from rfl, nI_add]
          refine mw_k 116 i_Model_post_115 rfl ?_
          refine mw_iast 117 (157 + n) i_Model_post_116 rfl (by repeat (first | exact mj_hs2 | exact mj_hs | assumption | refine mj_hn2 (by omega) ?_ | refine mj_hn (by omega) ?_)) rfl (by omega) (by decide) ?_
          refine mw_ld 118 i_Model_post_117 rfl rfl rfl ?_
          refine mw_get 121 i_Model_post_118 rfl (by repeat (first | exact mj_hs2 | exact mj_hs | assumption | refine mj_hn2 (by omega) ?_ | refine mj_hn (by omega) ?_)) (by rfl) ?_
          refine mw_k 124 i_Model_post_121 rfl ?_
          refine mw_ld 125 i_Model_post_124 rfl rfl rfl ?_
          refine mw_b 126 i_Model_post_125 rfl ?_
          rw [show (171 : Int32) = nI 171 from rfl, nI_add]
          refine mw_k 127 i_Model_post_126 rfl ?_
          refine mw_iast 128 (171 + n) i_Model_post_127 rfl (by repeat (first | exact mj_hs2 | exact mj_hs | assumption | refine mj_hn2 (by omega) ?_ | refine mj_hn (by omega) ?_)) rfl (by omega) (by decide) ?_
          refine mw_ld 129 i_Model_post_128 rfl rfl rfl ?_
          refine mw_get 132 i_Model_post_129 rfl (by repeat (first | exact mj_hs2 | exact mj_hs | assumption | refine mj_hn2 (by omega) ?_ | refine mj_hn (by omega) ?_)) (by rfl) ?_
          refine mw_k 135 i_Model_post_132 rfl ?_
          refine mw_ld 136 i_Model_post_135 rfl rfl rfl ?_
          refine mw_b 137 i_Model_post_136 rfl ?_
          rw [show (185 : Int32) = nI 185 from rfl, nI_add]
          refine mw_k 139 i_Model_post_137 rfl ?_
          refine mw_iast 140 (185 + n) i_Model_post_139 rfl (by repeat (first | exact mj_hs2 | exact mj_hs | assumption | refine mj_hn2 (by omega) ?_ | refine mj_hn (by omega) ?_)) rfl (by omega) (by decide) ?_
          refine mw_ld 141 i_Model_post_140 rfl rfl rfl ?_
          refine mw_get 144 i_Model_post_141 rfl (by repeat (first | exact mj_hs2 | exact mj_hs | assumption | refine mj_hn2 (by omega) ?_ | refine mj_hn (by omega) ?_)) (by rfl) ?_
          refine mw_k 147 i_Model_post_144 rfl ?_
          refine mw_ld 148 i_Model_post_147 rfl rfl rfl ?_
          refine mw_b 149 i_Model_post_148 rfl ?_
          rw [show (199 : Int32) = nI 199 from rfl, nI_add]
          refine mw_k 150 i_Model_post_149 rfl ?_
          refine mw_iast 151 (199 + n) i_Model_post_150 rfl (by repeat (first | exact mj_hs2 | exact mj_hs | assumption | refine mj_hn2 (by omega) ?_ | refine mj_hn (by omega) ?_)) rfl (by omega) (by decide) ?_
          refine mw_ld 152 i_Model_post_151 rfl rfl rfl ?_
          refine mw_ri i_Model_post_152 rfl rfl ?_
          refine k2 (by simp [hc, ht, hs2, hn1]) _ (gw_fr_sub (L := [55, 56, 57]) (by repeat (first | exact gw_fr_sub g1 (by simp) | refine gw_fr_up ?_ (by simp))) (by decide)) (gw_MI_chg (L := [55, 56, 57]) (b := b) (by simp) hM (by repeat (first | exact gw_fr_sub g1 (by simp) | refine gw_fr_up ?_ (by simp))) (by repeat (first | exact mj_hs | assumption | refine mj_hn (by omega) ?_)) mj_hs (by repeat (first | exact mj_hs | assumption | refine mj_hn (by omega) ?_)) g4)
        · skip
          refine mw_ld 1 i_Model_post_0 rfl rfl rfl ?_
          refine mw_ld 2 i_Model_post_1 rfl rfl rfl ?_
          refine mw_cv1 5 i_Model_post_2 rfl (by assumption) (sp_Model_isCell hO hd ?_) rfl rfl (Nat.le_of_ble_eq_true rfl) (Nat.le_of_ble_eq_true rfl)
          refine mw_if0 8 i_Model_post_5 rfl (mj_bI1.mpr hc) ?_
          refine mw_ld 9 i_Model_post_8 rfl rfl rfl ?_
          refine mw_k 10 i_Model_post_9 rfl ?_
          refine mw_k 11 i_Model_post_10 rfl ?_
          refine mw_cs1 14 i_Model_post_11 rfl (sp_Model_isIn ?_) rfl rfl (Nat.le_of_ble_eq_true rfl) (Nat.le_of_ble_eq_true rfl)
          refine mw_if1 i_Model_post_14 (mj_bI1.mpr ht0) ?_
          refine mw_ld 21 i_Model_post_20 rfl rfl rfl ?_
          refine mw_ld 22 i_Model_post_21 rfl rfl rfl ?_
          refine mw_ld 23 i_Model_post_22 rfl rfl rfl ?_
          refine mw_cv1 26 i_Model_post_23 rfl (by assumption) (sp_Model_mayStand hO hs1 hc2 hd ?_) rfl rfl (Nat.le_of_ble_eq_true rfl) (Nat.le_of_ble_eq_true rfl)
          refine mw_if1 i_Model_post_26 (mj_bI1.mpr hs2) ?_
          refine mw_ld 33 i_Model_post_32 rfl rfl rfl ?_
          refine mw_cv1 36 i_Model_post_33 rfl (by assumption) (sp_Model_posts hO hs1 hp ?_) rfl rfl (Nat.le_of_ble_eq_true rfl) (Nat.le_of_ble_eq_true rfl)
          refine mw_k 38 i_Model_post_36 rfl ?_
          refine mw_ic0 41 i_Model_post_38 rfl (fun q => q (by rw [show n = 14 by omega]; rfl)) ?_
          refine mw_k 43 i_Model_post_41 rfl ?_
          refine mw_ri i_Model_post_43 rfl rfl ?_
          rw [if_pos hs2] at k1
          exact k1 (by simp [hn1])
      · skip
        refine mw_ld 1 i_Model_post_0 rfl rfl rfl ?_
        refine mw_ld 2 i_Model_post_1 rfl rfl rfl ?_
        refine mw_cv1 5 i_Model_post_2 rfl (by assumption) (sp_Model_isCell hO hd ?_) rfl rfl (Nat.le_of_ble_eq_true rfl) (Nat.le_of_ble_eq_true rfl)
        refine mw_if0 8 i_Model_post_5 rfl (mj_bI1.mpr hc) ?_
        refine mw_ld 9 i_Model_post_8 rfl rfl rfl ?_
        refine mw_k 10 i_Model_post_9 rfl ?_
        refine mw_k 11 i_Model_post_10 rfl ?_
        refine mw_cs1 14 i_Model_post_11 rfl (sp_Model_isIn ?_) rfl rfl (Nat.le_of_ble_eq_true rfl) (Nat.le_of_ble_eq_true rfl)
        refine mw_if1 i_Model_post_14 (mj_bI1.mpr ht0) ?_
        refine mw_ld 21 i_Model_post_20 rfl rfl rfl ?_
        refine mw_ld 22 i_Model_post_21 rfl rfl rfl ?_
        refine mw_ld 23 i_Model_post_22 rfl rfl rfl ?_
        refine mw_cv1 26 i_Model_post_23 rfl (by assumption) (sp_Model_mayStand hO hs1 hc2 hd ?_) rfl rfl (Nat.le_of_ble_eq_true rfl) (Nat.le_of_ble_eq_true rfl)
        refine mw_if0 29 i_Model_post_26 rfl (fun q => q (mj_bI0.mpr (gw_nt hs2))) ?_
        refine mw_k 31 i_Model_post_29 rfl ?_
        refine mw_ri i_Model_post_31 rfl rfl ?_
        rw [if_neg hs2] at k1
        exact k1 (by simp [hs2])
    · skip
      have ht : ¬ gw_kind t = true := by rw [← gw_in_kind]; exact ht0
      refine mw_ld 1 i_Model_post_0 rfl rfl rfl ?_
      refine mw_ld 2 i_Model_post_1 rfl rfl rfl ?_
      refine mw_cv1 5 i_Model_post_2 rfl (by assumption) (sp_Model_isCell hO hd ?_) rfl rfl (Nat.le_of_ble_eq_true rfl) (Nat.le_of_ble_eq_true rfl)
      refine mw_if0 8 i_Model_post_5 rfl (mj_bI1.mpr hc) ?_
      refine mw_ld 9 i_Model_post_8 rfl rfl rfl ?_
      refine mw_k 10 i_Model_post_9 rfl ?_
      refine mw_k 11 i_Model_post_10 rfl ?_
      refine mw_cs1 14 i_Model_post_11 rfl (sp_Model_isIn ?_) rfl rfl (Nat.le_of_ble_eq_true rfl) (Nat.le_of_ble_eq_true rfl)
      refine mw_if0 17 i_Model_post_14 rfl (fun q => q (mj_bI0.mpr (gw_nt ht0))) ?_
      refine mw_k 19 i_Model_post_17 rfl ?_
      refine mw_ri i_Model_post_19 rfl rfl ?_
      rw [a_post, if_pos hc, if_neg ht] at k1
      exact k1 (by simp [gw_okPost, ht])
  · skip
    refine mw_ld 1 i_Model_post_0 rfl rfl rfl ?_
    refine mw_ld 2 i_Model_post_1 rfl rfl rfl ?_
    refine mw_cv1 5 i_Model_post_2 rfl (by assumption) (sp_Model_isCell hO hd ?_) rfl rfl (Nat.le_of_ble_eq_true rfl) (Nat.le_of_ble_eq_true rfl)
    refine mw_if1 i_Model_post_5 (mj_bI0.mpr (gw_nt hc)) ?_
    refine mw_k 19 i_Model_post_17 rfl ?_
    refine mw_ri i_Model_post_19 rfl rfl ?_
    rw [a_post, if_neg hc] at k1
    exact k1 (by simp [gw_okPost, hc])
theorem gw_dirs_eq {f t : Int32} : gw_dirs f t = (gw_isd f && gw_isd t && !(decide (gw_acr f * gw_dwn t - gw_dwn f * gw_acr t < 0) || ((gw_acr f * gw_dwn t - gw_dwn f * gw_acr t == 0) && decide (gw_acr f * gw_acr t + gw_dwn f * gw_dwn t ≤ 0)))) := by
  rw [gw_dirs, gw_trn]
  congr 1
  generalize gw_acr f * gw_dwn t - gw_dwn f * gw_acr t = u
  generalize gw_acr f * gw_acr t + gw_dwn f * gw_dwn t = v
  rw [Bool.eq_iff_iff]
  simp only [Bool.or_eq_true, Bool.and_eq_true, Bool.not_eq_true', decide_eq_true_eq, decide_eq_false_iff_not, beq_iff_eq, Bool.or_eq_false_iff, Bool.and_eq_false_imp, mj_lt, mj_le, mj_eq, mj_lit0]
  constructor
  · rintro (q | ⟨q1, q2⟩)
    · exact ⟨by omega, fun z => by omega⟩
    · exact ⟨by omega, fun _ => q2⟩
  · rintro ⟨q1, q2⟩
    by_cases z : u.toInt = 0
    · exact .inr ⟨z, q2 z⟩
    · exact .inl (by omega)
theorem sp_Model_aim {X : mj_X} {d : Nat} {σ : mj_H} {Q : Value → mj_H → Prop} {w h n : Nat} {s : Nat → Int32} {kp : Nat} {hs : Nat → Nat → Int32} {P : List gw_Row} {sz : Int32} (hM : gw_MI σ.1 w h n s kp hs P sz) (hd : gw_dim w h) (hn14 : n ≤ 14) (hp : s 100 = nI n) (hv : gw_vp w h n s) {z a b : Int32} (hk10 : kp ≤ 10) (k1 : gw_okAim n s z a b = false → Q (.int (a_aim n z a b)) σ) (k2 : gw_okAim n s z a b = true → ∀ f, gw_fr gw_ML σ.1 f → gw_MI f w h n (gw_sAim s z.toInt.toNat a b) (min (kp + 1) 10) (gw_push kp hs s) [] sz → Q (.int (0)) (f, σ.2)) : mj_M X (d + 20) y_Model_aim [.ref 55, .int z, .int a, .int b] σ (mj_V Q) := by
  obtain ⟨tf, fu, fe, fi, ma, md, hO, hA, hRr, hSs, htf⟩ := id hM
  obtain ⟨hs1, bf, hB, hb⟩ := id hA
  obtain ⟨⟨wt0, hW⟩, ⟨he0, hH⟩, ⟨fr0, hF⟩, ⟨fa0, hFa⟩, ⟨ct0, hCt⟩, ⟨mc0, hm1⟩, ⟨mb0, hm2⟩, ⟨mp0, hm3⟩, ⟨mw0, hm4⟩⟩ := id hSs
  have hwh := gw_dim_le hd
  refine mw_in (l0 := [some (.ref 55), some (.int z), some (.int a), some (.int b), none, none, none, none, none]) rfl ?_
  by_cases hz : gw_isP n z = true
  · skip
    obtain ⟨i, hi, rfl⟩ := gw_isP_of hz
    rw [a_aim, if_pos hz] at k1
    rw [gw_okAim, gw_tn (by omega)] at k1 k2
    have hde := gw_dirs_eq (f := a) (t := b)
    by_cases hA : gw_isd a = true
    · skip
      by_cases hBb : gw_isd b = true
      · skip
        by_cases hn0 : gw_acr a * gw_dwn b - gw_dwn a * gw_acr b < 0
        · skip
          have hb2 : ¬ gw_dirs a b = true := by rw [hde]; simp [hA, hBb, hn0]
          refine mw_ld 1 i_Model_aim_0 rfl rfl rfl ?_
          refine mw_ld 2 i_Model_aim_1 rfl rfl rfl ?_
          refine mw_cv1 5 i_Model_aim_2 rfl (by assumption) (sp_Model_isPost hO hs1 hn14 hp ?_) rfl rfl (Nat.le_of_ble_eq_true rfl) (Nat.le_of_ble_eq_true rfl)
          refine mw_if0 8 i_Model_aim_5 rfl (mj_bI1.mpr hz) ?_
          refine mw_ld 9 i_Model_aim_8 rfl rfl rfl ?_
          refine mw_cs1 12 i_Model_aim_9 rfl (sp_Model_isDirection ?_) rfl rfl (Nat.le_of_ble_eq_true rfl) (Nat.le_of_ble_eq_true rfl)
          refine mw_if0 15 i_Model_aim_12 rfl (mj_bI1.mpr hA) ?_
          refine mw_ld 16 i_Model_aim_15 rfl rfl rfl ?_
          refine mw_cs1 19 i_Model_aim_16 rfl (sp_Model_isDirection ?_) rfl rfl (Nat.le_of_ble_eq_true rfl) (Nat.le_of_ble_eq_true rfl)
          refine mw_if1 i_Model_aim_19 (mj_bI1.mpr hBb) ?_
          refine mw_ld 26 i_Model_aim_25 rfl rfl rfl ?_
          refine mw_k 28 i_Model_aim_26 rfl ?_
          refine mw_d 29 i_Model_aim_28 rfl (by decide) ?_
          refine mw_k 31 i_Model_aim_29 rfl ?_
          refine mw_b 32 i_Model_aim_31 rfl ?_
          refine mw_st (ls' := [_, _, _, _, _, _, _, _, _]) 34 i_Model_aim_32 rfl rfl rfl rfl ?_
          refine mw_ld 35 i_Model_aim_34 rfl rfl rfl ?_
          refine mw_k 37 i_Model_aim_35 rfl ?_
          refine mw_d 38 i_Model_aim_37 rfl (by decide) ?_
          refine mw_k 40 i_Model_aim_38 rfl ?_
          refine mw_b 41 i_Model_aim_40 rfl ?_
          refine mw_st (ls' := [_, _, _, _, _, _, _, _, _]) 43 i_Model_aim_41 rfl rfl rfl rfl ?_
          refine mw_ld 44 i_Model_aim_43 rfl rfl rfl ?_
          refine mw_k 46 i_Model_aim_44 rfl ?_
          refine mw_d 47 i_Model_aim_46 rfl (by decide) ?_
          refine mw_k 49 i_Model_aim_47 rfl ?_
          refine mw_b 50 i_Model_aim_49 rfl ?_
          refine mw_st (ls' := [_, _, _, _, _, _, _, _, _]) 52 i_Model_aim_50 rfl rfl rfl rfl ?_
          refine mw_ld 53 i_Model_aim_52 rfl rfl rfl ?_
          refine mw_k 55 i_Model_aim_53 rfl ?_
          refine mw_d 56 i_Model_aim_55 rfl (by decide) ?_
          refine mw_k 58 i_Model_aim_56 rfl ?_
          refine mw_b 59 i_Model_aim_58 rfl ?_
          refine mw_st (ls' := [_, _, _, _, _, _, _, _, _]) 61 i_Model_aim_59 rfl rfl rfl rfl ?_
          refine mw_ld 63 i_Model_aim_61 rfl rfl rfl ?_
          refine mw_ld 65 i_Model_aim_63 rfl rfl rfl ?_
          refine mw_b 66 i_Model_aim_65 rfl ?_
          refine mw_ld 68 i_Model_aim_66 rfl rfl rfl ?_
          refine mw_ld 70 i_Model_aim_68 rfl rfl rfl ?_
          refine mw_b 71 i_Model_aim_70 rfl ?_
          refine mw_b 72 i_Model_aim_71 rfl ?_
          refine mw_st (ls' := [_, _, _, _, _, _, _, _, _]) 74 i_Model_aim_72 rfl rfl rfl rfl ?_
          refine mw_ld 76 i_Model_aim_74 rfl rfl rfl ?_
          refine mw_if1 i_Model_aim_76 hn0 ?_
          refine mw_k 100 i_Model_aim_98 rfl ?_
          refine mw_ri i_Model_aim_100 rfl rfl ?_
          rw [if_neg hb2] at k1
          exact k1 (by simp [hb2])
        · skip
          by_cases hn1 : gw_acr a * gw_dwn b - gw_dwn a * gw_acr b = 0
          · skip
            by_cases hn2 : gw_acr a * gw_acr b + gw_dwn a * gw_dwn b ≤ 0
            · skip
              have hb2 : ¬ gw_dirs a b = true := by rw [hde]; simp [hA, hBb, hn1, hn2]
              refine mw_ld 1 i_Model_aim_0 rfl rfl rfl ?_
              refine mw_ld 2 i_Model_aim_1 rfl rfl rfl ?_
              refine mw_cv1 5 i_Model_aim_2 rfl (by assumption) (sp_Model_isPost hO hs1 hn14 hp ?_) rfl rfl (Nat.le_of_ble_eq_true rfl) (Nat.le_of_ble_eq_true rfl)
              refine mw_if0 8 i_Model_aim_5 rfl (mj_bI1.mpr hz) ?_
              refine mw_ld 9 i_Model_aim_8 rfl rfl rfl ?_
              refine mw_cs1 12 i_Model_aim_9 rfl (sp_Model_isDirection ?_) rfl rfl (Nat.le_of_ble_eq_true rfl) (Nat.le_of_ble_eq_true rfl)
              refine mw_if0 15 i_Model_aim_12 rfl (mj_bI1.mpr hA) ?_
              refine mw_ld 16 i_Model_aim_15 rfl rfl rfl ?_
              refine mw_cs1 19 i_Model_aim_16 rfl (sp_Model_isDirection ?_) rfl rfl (Nat.le_of_ble_eq_true rfl) (Nat.le_of_ble_eq_true rfl)
              refine mw_if1 i_Model_aim_19 (mj_bI1.mpr hBb) ?_
              refine mw_ld 26 i_Model_aim_25 rfl rfl rfl ?_
              refine mw_k 28 i_Model_aim_26 rfl ?_
              refine mw_d 29 i_Model_aim_28 rfl (by decide) ?_
              refine mw_k 31 i_Model_aim_29 rfl ?_
              refine mw_b 32 i_Model_aim_31 rfl ?_
              refine mw_st (ls' := [_, _, _, _, _, _, _, _, _]) 34 i_Model_aim_32 rfl rfl rfl rfl ?_
              refine mw_ld 35 i_Model_aim_34 rfl rfl rfl ?_
              refine mw_k 37 i_Model_aim_35 rfl ?_
              refine mw_d 38 i_Model_aim_37 rfl (by decide) ?_
              refine mw_k 40 i_Model_aim_38 rfl ?_
              refine mw_b 41 i_Model_aim_40 rfl ?_
              refine mw_st (ls' := [_, _, _, _, _, _, _, _, _]) 43 i_Model_aim_41 rfl rfl rfl rfl ?_
              refine mw_ld 44 i_Model_aim_43 rfl rfl rfl ?_
              refine mw_k 46 i_Model_aim_44 rfl ?_
              refine mw_d 47 i_Model_aim_46 rfl (by decide) ?_
              refine mw_k 49 i_Model_aim_47 rfl ?_
              refine mw_b 50 i_Model_aim_49 rfl ?_
              refine mw_st (ls' := [_, _, _, _, _, _, _, _, _]) 52 i_Model_aim_50 rfl rfl rfl rfl ?_
              refine mw_ld 53 i_Model_aim_52 rfl rfl rfl ?_
              refine mw_k 55 i_Model_aim_53 rfl ?_
              refine mw_d 56 i_Model_aim_55 rfl (by decide) ?_
              refine mw_k 58 i_Model_aim_56 rfl ?_
              refine mw_b 59 i_Model_aim_58 rfl ?_
              refine mw_st (ls' := [_, _, _, _, _, _, _, _, _]) 61 i_Model_aim_59 rfl rfl rfl rfl ?_
              refine mw_ld 63 i_Model_aim_61 rfl rfl rfl ?_
              refine mw_ld 65 i_Model_aim_63 rfl rfl rfl ?_
              refine mw_b 66 i_Model_aim_65 rfl ?_
              refine mw_ld 68 i_Model_aim_66 rfl rfl rfl ?_
              refine mw_ld 70 i_Model_aim_68 rfl rfl rfl ?_
              refine mw_b 71 i_Model_aim_70 rfl ?_
              refine mw_b 72 i_Model_aim_71 rfl ?_
              refine mw_st (ls' := [_, _, _, _, _, _, _, _, _]) 74 i_Model_aim_72 rfl rfl rfl rfl ?_
              refine mw_ld 76 i_Model_aim_74 rfl rfl rfl ?_
              refine mw_if0 79 i_Model_aim_76 rfl hn0 ?_
              refine mw_ld 81 i_Model_aim_79 rfl rfl rfl ?_
              refine mw_if0 84 i_Model_aim_81 rfl (fun q => q hn1) ?_
              refine mw_ld 86 i_Model_aim_84 rfl rfl rfl ?_
              refine mw_ld 88 i_Model_aim_86 rfl rfl rfl ?_
              refine mw_b 89 i_Model_aim_88 rfl ?_
              refine mw_ld 91 i_Model_aim_89 rfl rfl rfl ?_
              refine mw_ld 93 i_Model_aim_91 rfl rfl rfl ?_
              refine mw_b 94 i_Model_aim_93 rfl ?_
              refine mw_b 95 i_Model_aim_94 rfl ?_
              refine mw_if0 98 i_Model_aim_95 rfl (fun q => absurd hn2 (Int32.not_le.mpr q)) ?_
              refine mw_k 100 i_Model_aim_98 rfl ?_
              refine mw_ri i_Model_aim_100 rfl rfl ?_
              rw [if_neg hb2] at k1
              exact k1 (by simp [hb2])
            · skip
              have hb2 : gw_dirs a b = true := by rw [hde]; simp [hA, hBb, hn1, hn2]
              by_cases hw : gw_wedge (s (115 + i)) = true
              · skip
                refine mw_ld 1 i_Model_aim_0 rfl rfl rfl ?_
                refine mw_ld 2 i_Model_aim_1 rfl rfl rfl ?_
                refine mw_cv1 5 i_Model_aim_2 rfl (by repeat (first | exact mj_hs2 | exact mj_hs | assumption | refine mj_hn2 (by omega) ?_ | refine mj_hn (by omega) ?_)) (sp_Model_isPost hO hs1 hn14 hp ?_) rfl rfl (Nat.le_of_ble_eq_true rfl) (Nat.le_of_ble_eq_true rfl)
                refine mw_if0 8 i_Model_aim_5 rfl (mj_bI1.mpr hz) ?_
                refine mw_ld 9 i_Model_aim_8 rfl rfl rfl ?_
                refine mw_cs1 12 i_Model_aim_9 rfl (sp_Model_isDirection ?_) rfl rfl (Nat.le_of_ble_eq_true rfl) (Nat.le_of_ble_eq_true rfl)
                refine mw_if0 15 i_Model_aim_12 rfl (mj_bI1.mpr hA) ?_
                refine mw_ld 16 i_Model_aim_15 rfl rfl rfl ?_
                refine mw_cs1 19 i_Model_aim_16 rfl (sp_Model_isDirection ?_) rfl rfl (Nat.le_of_ble_eq_true rfl) (Nat.le_of_ble_eq_true rfl)
                refine mw_if1 i_Model_aim_19 (mj_bI1.mpr hBb) ?_
                refine mw_ld 26 i_Model_aim_25 rfl rfl rfl ?_
                refine mw_k 28 i_Model_aim_26 rfl ?_
                refine mw_d 29 i_Model_aim_28 rfl (by decide) ?_
                refine mw_k 31 i_Model_aim_29 rfl ?_
                refine mw_b 32 i_Model_aim_31 rfl ?_
                refine mw_st (ls' := [_, _, _, _, _, _, _, _, _]) 34 i_Model_aim_32 rfl rfl rfl rfl ?_
                refine mw_ld 35 i_Model_aim_34 rfl rfl rfl ?_
                refine mw_k 37 i_Model_aim_35 rfl ?_
                refine mw_d 38 i_Model_aim_37 rfl (by decide) ?_
                refine mw_k 40 i_Model_aim_38 rfl ?_
                refine mw_b 41 i_Model_aim_40 rfl ?_
                refine mw_st (ls' := [_, _, _, _, _, _, _, _, _]) 43 i_Model_aim_41 rfl rfl rfl rfl ?_
                refine mw_ld 44 i_Model_aim_43 rfl rfl rfl ?_
                refine mw_k 46 i_Model_aim_44 rfl ?_
                refine mw_d 47 i_Model_aim_46 rfl (by decide) ?_
                refine mw_k 49 i_Model_aim_47 rfl ?_
                refine mw_b 50 i_Model_aim_49 rfl ?_
                refine mw_st (ls' := [_, _, _, _, _, _, _, _, _]) 52 i_Model_aim_50 rfl rfl rfl rfl ?_
                refine mw_ld 53 i_Model_aim_52 rfl rfl rfl ?_
                refine mw_k 55 i_Model_aim_53 rfl ?_
                refine mw_d 56 i_Model_aim_55 rfl (by decide) ?_
                refine mw_k 58 i_Model_aim_56 rfl ?_
                refine mw_b 59 i_Model_aim_58 rfl ?_
                refine mw_st (ls' := [_, _, _, _, _, _, _, _, _]) 61 i_Model_aim_59 rfl rfl rfl rfl ?_
                refine mw_ld 63 i_Model_aim_61 rfl rfl rfl ?_
                refine mw_ld 65 i_Model_aim_63 rfl rfl rfl ?_
                refine mw_b 66 i_Model_aim_65 rfl ?_
                refine mw_ld 68 i_Model_aim_66 rfl rfl rfl ?_
                refine mw_ld 70 i_Model_aim_68 rfl rfl rfl ?_
                refine mw_b 71 i_Model_aim_70 rfl ?_
                refine mw_b 72 i_Model_aim_71 rfl ?_
                refine mw_st (ls' := [_, _, _, _, _, _, _, _, _]) 74 i_Model_aim_72 rfl rfl rfl rfl ?_
                refine mw_ld 76 i_Model_aim_74 rfl rfl rfl ?_
                refine mw_if0 79 i_Model_aim_76 rfl hn0 ?_
                refine mw_ld 81 i_Model_aim_79 rfl rfl rfl ?_
                refine mw_if0 84 i_Model_aim_81 rfl (fun q => q hn1) ?_
                refine mw_ld 86 i_Model_aim_84 rfl rfl rfl ?_
                refine mw_ld 88 i_Model_aim_86 rfl rfl rfl ?_
                refine mw_b 89 i_Model_aim_88 rfl ?_
                refine mw_ld 91 i_Model_aim_89 rfl rfl rfl ?_
                refine mw_ld 93 i_Model_aim_91 rfl rfl rfl ?_
                refine mw_b 94 i_Model_aim_93 rfl ?_
                refine mw_b 95 i_Model_aim_94 rfl ?_
                refine mw_if1 i_Model_aim_95 (Int32.not_le.mp hn2) ?_
                refine mw_ld 102 i_Model_aim_101 rfl rfl rfl ?_
                refine mw_get 105 i_Model_aim_102 rfl (by repeat (first | exact mj_hs2 | exact mj_hs | assumption | refine mj_hn2 (by omega) ?_ | refine mj_hn (by omega) ?_)) (by rfl) ?_
                refine mw_k 107 i_Model_aim_105 rfl ?_
                refine mw_ld 108 i_Model_aim_107 rfl rfl rfl ?_
                refine mw_b 109 i_Model_aim_108 rfl ?_
                rw [show (115 : Int32) = nI 115 from rfl, nI_add]
                refine mw_iald 110 (115 + i) i_Model_aim_109 rfl (by repeat (first | exact mj_hs2 | exact mj_hs | assumption | refine mj_hn2 (by omega) ?_ | refine mj_hn (by omega) ?_)) rfl (by omega) (by decide) ?_
                refine mw_cs1 113 i_Model_aim_110 rfl (sp_Model_isWedge ?_) rfl rfl (Nat.le_of_ble_eq_true rfl) (Nat.le_of_ble_eq_true rfl)
                refine mw_if1 i_Model_aim_113 (mj_bI1.mpr hw) ?_
                refine mw_ld 120 i_Model_aim_119 rfl rfl rfl ?_
                refine mw_cv0 123 i_Model_aim_120 rfl (by repeat (first | exact mj_hs2 | exact mj_hs | assumption | refine mj_hn2 (by omega) ?_ | refine mj_hn (by omega) ?_)) (sp_Model_keep hO hs1 hB hk10 hb (fun f b g1 g2 g3 g4 => ?_)) rfl rfl (Nat.le_of_ble_eq_true rfl) (Nat.le_of_ble_eq_true rfl)
                have gs : f 56 = mj_AI 213 s := (g1 _ (by decide)).trans hs1
                refine mw_ld 124 i_Model_aim_123 rfl rfl rfl ?_
                refine mw_get 127 i_Model_aim_124 rfl (by repeat (first | exact mj_hs2 | exact mj_hs | assumption | refine mj_hn2 (by omega) ?_ | refine mj_hn (by omega) ?_)) (by rfl) ?_
                refine mw_k 130 i_Model_aim_127 rfl ?_
                refine mw_ld 131 i_Model_aim_130 rfl rfl rfl ?_
                refine mw_b 132 i_Model_aim_131 rfl ?_
                rw [show (129 : Int32) = nI 129 from rfl, nI_add]
                refine mw_ld 134 i_Model_aim_132 rfl rfl rfl ?_
                refine mw_iast 135 (129 + i) i_Model_aim_134 rfl (by repeat (first | exact mj_hs2 | exact mj_hs | assumption | refine mj_hn2 (by omega) ?_ | refine mj_hn (by omega) ?_)) rfl (by omega) (by decide) ?_
                refine mw_ld 136 i_Model_aim_135 rfl rfl rfl ?_
                refine mw_get 139 i_Model_aim_136 rfl (by repeat (first | exact mj_hs2 | exact mj_hs | assumption | refine mj_hn2 (by omega) ?_ | refine mj_hn (by omega) ?_)) (by rfl) ?_
                refine mw_k 142 i_Model_aim_139 rfl ?_
                refine mw_ld 143 i_Model_aim_142 rfl rfl rfl ?_
                refine mw_b 144 i_Model_aim_143 rfl ?_
                rw [show (143 : Int32) = nI 143 from rfl, nI_add]
                refine mw_ld 146 i_Model_aim_144 rfl rfl rfl ?_
                refine mw_iast 147 (143 + i) i_Model_aim_146 rfl (by repeat (first | exact mj_hs2 | exact mj_hs | assumption | refine mj_hn2 (by omega) ?_ | refine mj_hn (by omega) ?_)) rfl (by omega) (by decide) ?_
                refine mw_ld 148 i_Model_aim_147 rfl rfl rfl ?_
                refine mw_get 151 i_Model_aim_148 rfl (by repeat (first | exact mj_hs2 | exact mj_hs | assumption | refine mj_hn2 (by omega) ?_ | refine mj_hn (by omega) ?_)) (by rfl) ?_
                refine mw_k 154 i_Model_aim_151 rfl ?_
                refine mw_ld 155 i_Model_aim_154 rfl rfl rfl ?_
                refine mw_b 156 i_Model_aim_155 rfl ?_
                rw [show (157 : Int32) = nI 157 from rfl, nI_add]
                refine mw_ld 158 i_Model_aim_156 rfl rfl rfl ?_
                refine mw_iast 159 (157 + i) i_Model_aim_158 rfl (by repeat (first | exact mj_hs2 | exact mj_hs | assumption | refine mj_hn2 (by omega) ?_ | refine mj_hn (by omega) ?_)) rfl (by omega) (by decide) ?_
                refine mw_ld 160 i_Model_aim_159 rfl rfl rfl ?_
                refine mw_get 163 i_Model_aim_160 rfl (by repeat (first | exact mj_hs2 | exact mj_hs | assumption | refine mj_hn2 (by omega) ?_ | refine mj_hn (by omega) ?_)) (by rfl) ?_
                refine mw_k 166 i_Model_aim_163 rfl ?_
                refine mw_ld 167 i_Model_aim_166 rfl rfl rfl ?_
                refine mw_b 168 i_Model_aim_167 rfl ?_
                rw [show (171 : Int32) = nI 171 from rfl, nI_add]
                refine mw_ld 170 i_Model_aim_168 rfl rfl rfl ?_
                refine mw_iast 171 (171 + i) i_Model_aim_170 rfl (by repeat (first | exact mj_hs2 | exact mj_hs | assumption | refine mj_hn2 (by omega) ?_ | refine mj_hn (by omega) ?_)) rfl (by omega) (by decide) ?_
                refine mw_k 172 i_Model_aim_171 rfl ?_
                refine mw_ri i_Model_aim_172 rfl rfl ?_
                refine k2 (by simp [hz, hb2, hw]) _ (gw_fr_sub (L := [55, 56, 57]) (by repeat (first | exact gw_fr_sub g1 (by simp) | refine gw_fr_up ?_ (by simp))) (by decide)) (gw_MI_chg (L := [55, 56, 57]) (b := b) (by simp) hM (by repeat (first | exact gw_fr_sub g1 (by simp) | refine gw_fr_up ?_ (by simp))) (by repeat (first | exact mj_hs | assumption | refine mj_hn (by omega) ?_)) mj_hs (by repeat (first | exact mj_hs | assumption | refine mj_hn (by omega) ?_)) g4)
              · skip
                refine mw_ld 1 i_Model_aim_0 rfl rfl rfl ?_
                refine mw_ld 2 i_Model_aim_1 rfl rfl rfl ?_
                refine mw_cv1 5 i_Model_aim_2 rfl (by repeat (first | exact mj_hs2 | exact mj_hs | assumption | refine mj_hn2 (by omega) ?_ | refine mj_hn (by omega) ?_)) (sp_Model_isPost hO hs1 hn14 hp ?_) rfl rfl (Nat.le_of_ble_eq_true rfl) (Nat.le_of_ble_eq_true rfl)
                refine mw_if0 8 i_Model_aim_5 rfl (mj_bI1.mpr hz) ?_
                refine mw_ld 9 i_Model_aim_8 rfl rfl rfl ?_
                refine mw_cs1 12 i_Model_aim_9 rfl (sp_Model_isDirection ?_) rfl rfl (Nat.le_of_ble_eq_true rfl) (Nat.le_of_ble_eq_true rfl)
                refine mw_if0 15 i_Model_aim_12 rfl (mj_bI1.mpr hA) ?_
                refine mw_ld 16 i_Model_aim_15 rfl rfl rfl ?_
                refine mw_cs1 19 i_Model_aim_16 rfl (sp_Model_isDirection ?_) rfl rfl (Nat.le_of_ble_eq_true rfl) (Nat.le_of_ble_eq_true rfl)
                refine mw_if1 i_Model_aim_19 (mj_bI1.mpr hBb) ?_
                refine mw_ld 26 i_Model_aim_25 rfl rfl rfl ?_
                refine mw_k 28 i_Model_aim_26 rfl ?_
                refine mw_d 29 i_Model_aim_28 rfl (by decide) ?_
                refine mw_k 31 i_Model_aim_29 rfl ?_
                refine mw_b 32 i_Model_aim_31 rfl ?_
                refine mw_st (ls' := [_, _, _, _, _, _, _, _, _]) 34 i_Model_aim_32 rfl rfl rfl rfl ?_
                refine mw_ld 35 i_Model_aim_34 rfl rfl rfl ?_
                refine mw_k 37 i_Model_aim_35 rfl ?_
                refine mw_d 38 i_Model_aim_37 rfl (by decide) ?_
                refine mw_k 40 i_Model_aim_38 rfl ?_
                refine mw_b 41 i_Model_aim_40 rfl ?_
                refine mw_st (ls' := [_, _, _, _, _, _, _, _, _]) 43 i_Model_aim_41 rfl rfl rfl rfl ?_
                refine mw_ld 44 i_Model_aim_43 rfl rfl rfl ?_
                refine mw_k 46 i_Model_aim_44 rfl ?_
                refine mw_d 47 i_Model_aim_46 rfl (by decide) ?_
                refine mw_k 49 i_Model_aim_47 rfl ?_
                refine mw_b 50 i_Model_aim_49 rfl ?_
                refine mw_st (ls' := [_, _, _, _, _, _, _, _, _]) 52 i_Model_aim_50 rfl rfl rfl rfl ?_
                refine mw_ld 53 i_Model_aim_52 rfl rfl rfl ?_
                refine mw_k 55 i_Model_aim_53 rfl ?_
                refine mw_d 56 i_Model_aim_55 rfl (by decide) ?_
                refine mw_k 58 i_Model_aim_56 rfl ?_
                refine mw_b 59 i_Model_aim_58 rfl ?_
                refine mw_st (ls' := [_, _, _, _, _, _, _, _, _]) 61 i_Model_aim_59 rfl rfl rfl rfl ?_
                refine mw_ld 63 i_Model_aim_61 rfl rfl rfl ?_
                refine mw_ld 65 i_Model_aim_63 rfl rfl rfl ?_
                refine mw_b 66 i_Model_aim_65 rfl ?_
                refine mw_ld 68 i_Model_aim_66 rfl rfl rfl ?_
                refine mw_ld 70 i_Model_aim_68 rfl rfl rfl ?_
                refine mw_b 71 i_Model_aim_70 rfl ?_
                refine mw_b 72 i_Model_aim_71 rfl ?_
                refine mw_st (ls' := [_, _, _, _, _, _, _, _, _]) 74 i_Model_aim_72 rfl rfl rfl rfl ?_
                refine mw_ld 76 i_Model_aim_74 rfl rfl rfl ?_
                refine mw_if0 79 i_Model_aim_76 rfl hn0 ?_
                refine mw_ld 81 i_Model_aim_79 rfl rfl rfl ?_
                refine mw_if0 84 i_Model_aim_81 rfl (fun q => q hn1) ?_
                refine mw_ld 86 i_Model_aim_84 rfl rfl rfl ?_
                refine mw_ld 88 i_Model_aim_86 rfl rfl rfl ?_
                refine mw_b 89 i_Model_aim_88 rfl ?_
                refine mw_ld 91 i_Model_aim_89 rfl rfl rfl ?_
                refine mw_ld 93 i_Model_aim_91 rfl rfl rfl ?_
                refine mw_b 94 i_Model_aim_93 rfl ?_
                refine mw_b 95 i_Model_aim_94 rfl ?_
                refine mw_if1 i_Model_aim_95 (Int32.not_le.mp hn2) ?_
                refine mw_ld 102 i_Model_aim_101 rfl rfl rfl ?_
                refine mw_get 105 i_Model_aim_102 rfl (by repeat (first | exact mj_hs2 | exact mj_hs | assumption | refine mj_hn2 (by omega) ?_ | refine mj_hn (by omega) ?_)) (by rfl) ?_
                refine mw_k 107 i_Model_aim_105 rfl ?_
                refine mw_ld 108 i_Model_aim_107 rfl rfl rfl ?_
                refine mw_b 109 i_Model_aim_108 rfl ?_
                rw [show (115 : Int32) = nI 115 from rfl, nI_add]
                refine mw_iald 110 (115 + i) i_Model_aim_109 rfl (by repeat (first | exact mj_hs2 | exact mj_hs | assumption | refine mj_hn2 (by omega) ?_ | refine mj_hn (by omega) ?_)) rfl (by omega) (by decide) ?_
                refine mw_cs1 113 i_Model_aim_110 rfl (sp_Model_isWedge ?_) rfl rfl (Nat.le_of_ble_eq_true rfl) (Nat.le_of_ble_eq_true rfl)
                refine mw_if0 116 i_Model_aim_113 rfl (fun q => q (mj_bI0.mpr (gw_nt hw))) ?_
                refine mw_k 118 i_Model_aim_116 rfl ?_
                refine mw_ri i_Model_aim_118 rfl rfl ?_
                rw [if_pos hb2] at k1
                exact k1 (by simp [hw])
          · skip
            have hb2 : gw_dirs a b = true := by rw [hde]; simp [hA, hBb, hn0, hn1]
            by_cases hw : gw_wedge (s (115 + i)) = true
            · skip
              refine mw_ld 1 i_Model_aim_0 rfl rfl rfl ?_
              refine mw_ld 2 i_Model_aim_1 rfl rfl rfl ?_
              refine mw_cv1 5 i_Model_aim_2 rfl (by repeat (first | exact mj_hs2 | exact mj_hs | assumption | refine mj_hn2 (by omega) ?_ | refine mj_hn (by omega) ?_)) (sp_Model_isPost hO hs1 hn14 hp ?_) rfl rfl (Nat.le_of_ble_eq_true rfl) (Nat.le_of_ble_eq_true rfl)
              refine mw_if0 8 i_Model_aim_5 rfl (mj_bI1.mpr hz) ?_
              refine mw_ld 9 i_Model_aim_8 rfl rfl rfl ?_
              refine mw_cs1 12 i_Model_aim_9 rfl (sp_Model_isDirection ?_) rfl rfl (Nat.le_of_ble_eq_true rfl) (Nat.le_of_ble_eq_true rfl)
              refine mw_if0 15 i_Model_aim_12 rfl (mj_bI1.mpr hA) ?_
              refine mw_ld 16 i_Model_aim_15 rfl rfl rfl ?_
              refine mw_cs1 19 i_Model_aim_16 rfl (sp_Model_isDirection ?_) rfl rfl (Nat.le_of_ble_eq_true rfl) (Nat.le_of_ble_eq_true rfl)
              refine mw_if1 i_Model_aim_19 (mj_bI1.mpr hBb) ?_
              refine mw_ld 26 i_Model_aim_25 rfl rfl rfl ?_
              refine mw_k 28 i_Model_aim_26 rfl ?_
              refine mw_d 29 i_Model_aim_28 rfl (by decide) ?_
              refine mw_k 31 i_Model_aim_29 rfl ?_
              refine mw_b 32 i_Model_aim_31 rfl ?_
              refine mw_st (ls' := [_, _, _, _, _, _, _, _, _]) 34 i_Model_aim_32 rfl rfl rfl rfl ?_
              refine mw_ld 35 i_Model_aim_34 rfl rfl rfl ?_
              refine mw_k 37 i_Model_aim_35 rfl ?_
              refine mw_d 38 i_Model_aim_37 rfl (by decide) ?_
              refine mw_k 40 i_Model_aim_38 rfl ?_
              refine mw_b 41 i_Model_aim_40 rfl ?_
              refine mw_st (ls' := [_, _, _, _, _, _, _, _, _]) 43 i_Model_aim_41 rfl rfl rfl rfl ?_
              refine mw_ld 44 i_Model_aim_43 rfl rfl rfl ?_
              refine mw_k 46 i_Model_aim_44 rfl ?_
              refine mw_d 47 i_Model_aim_46 rfl (by decide) ?_
              refine mw_k 49 i_Model_aim_47 rfl ?_
              refine mw_b 50 i_Model_aim_49 rfl ?_
              refine mw_st (ls' := [_, _, _, _, _, _, _, _, _]) 52 i_Model_aim_50 rfl rfl rfl rfl ?_
              refine mw_ld 53 i_Model_aim_52 rfl rfl rfl ?_
              refine mw_k 55 i_Model_aim_53 rfl ?_
              refine mw_d 56 i_Model_aim_55 rfl (by decide) ?_
              refine mw_k 58 i_Model_aim_56 rfl ?_
              refine mw_b 59 i_Model_aim_58 rfl ?_
              refine mw_st (ls' := [_, _, _, _, _, _, _, _, _]) 61 i_Model_aim_59 rfl rfl rfl rfl ?_
              refine mw_ld 63 i_Model_aim_61 rfl rfl rfl ?_
              refine mw_ld 65 i_Model_aim_63 rfl rfl rfl ?_
              refine mw_b 66 i_Model_aim_65 rfl ?_
              refine mw_ld 68 i_Model_aim_66 rfl rfl rfl ?_
              refine mw_ld 70 i_Model_aim_68 rfl rfl rfl ?_
              refine mw_b 71 i_Model_aim_70 rfl ?_
              refine mw_b 72 i_Model_aim_71 rfl ?_
              refine mw_st (ls' := [_, _, _, _, _, _, _, _, _]) 74 i_Model_aim_72 rfl rfl rfl rfl ?_
              refine mw_ld 76 i_Model_aim_74 rfl rfl rfl ?_
              refine mw_if0 79 i_Model_aim_76 rfl hn0 ?_
              refine mw_ld 81 i_Model_aim_79 rfl rfl rfl ?_
              refine mw_if1 i_Model_aim_81 hn1 ?_
              refine mw_ld 102 i_Model_aim_101 rfl rfl rfl ?_
              refine mw_get 105 i_Model_aim_102 rfl (by repeat (first | exact mj_hs2 | exact mj_hs | assumption | refine mj_hn2 (by omega) ?_ | refine mj_hn (by omega) ?_)) (by rfl) ?_
              refine mw_k 107 i_Model_aim_105 rfl ?_
              refine mw_ld 108 i_Model_aim_107 rfl rfl rfl ?_
              refine mw_b 109 i_Model_aim_108 rfl ?_
              rw [show (115 : Int32) = nI 115 from rfl, nI_add]
              refine mw_iald 110 (115 + i) i_Model_aim_109 rfl (by repeat (first | exact mj_hs2 | exact mj_hs | assumption | refine mj_hn2 (by omega) ?_ | refine mj_hn (by omega) ?_)) rfl (by omega) (by decide) ?_
              refine mw_cs1 113 i_Model_aim_110 rfl (sp_Model_isWedge ?_) rfl rfl (Nat.le_of_ble_eq_true rfl) (Nat.le_of_ble_eq_true rfl)
              refine mw_if1 i_Model_aim_113 (mj_bI1.mpr hw) ?_
              refine mw_ld 120 i_Model_aim_119 rfl rfl rfl ?_
              refine mw_cv0 123 i_Model_aim_120 rfl (by repeat (first | exact mj_hs2 | exact mj_hs | assumption | refine mj_hn2 (by omega) ?_ | refine mj_hn (by omega) ?_)) (sp_Model_keep hO hs1 hB hk10 hb (fun f b g1 g2 g3 g4 => ?_)) rfl rfl (Nat.le_of_ble_eq_true rfl) (Nat.le_of_ble_eq_true rfl)
              have gs : f 56 = mj_AI 213 s := (g1 _ (by decide)).trans hs1
              refine mw_ld 124 i_Model_aim_123 rfl rfl rfl ?_
              refine mw_get 127 i_Model_aim_124 rfl (by repeat (first | exact mj_hs2 | exact mj_hs | assumption | refine mj_hn2 (by omega) ?_ | refine mj_hn (by omega) ?_)) (by rfl) ?_
              refine mw_k 130 i_Model_aim_127 rfl ?_
              refine mw_ld 131 i_Model_aim_130 rfl rfl rfl ?_
              refine mw_b 132 i_Model_aim_131 rfl ?_
              rw [show (129 : Int32) = nI 129 from rfl, nI_add]
              refine mw_ld 134 i_Model_aim_132 rfl rfl rfl ?_
              refine mw_iast 135 (129 + i) i_Model_aim_134 rfl (by repeat (first | exact mj_hs2 | exact mj_hs | assumption | refine mj_hn2 (by omega) ?_ | refine mj_hn (by omega) ?_)) rfl (by omega) (by decide) ?_
              refine mw_ld 136 i_Model_aim_135 rfl rfl rfl ?_
              refine mw_get 139 i_Model_aim_136 rfl (by repeat (first | exact mj_hs2 | exact mj_hs | assumption | refine mj_hn2 (by omega) ?_ | refine mj_hn (by omega) ?_)) (by rfl) ?_
              refine mw_k 142 i_Model_aim_139 rfl ?_
              refine mw_ld 143 i_Model_aim_142 rfl rfl rfl ?_
              refine mw_b 144 i_Model_aim_143 rfl ?_
              rw [show (143 : Int32) = nI 143 from rfl, nI_add]
              refine mw_ld 146 i_Model_aim_144 rfl rfl rfl ?_
              refine mw_iast 147 (143 + i) i_Model_aim_146 rfl (by repeat (first | exact mj_hs2 | exact mj_hs | assumption | refine mj_hn2 (by omega) ?_ | refine mj_hn (by omega) ?_)) rfl (by omega) (by decide) ?_
              refine mw_ld 148 i_Model_aim_147 rfl rfl rfl ?_
              refine mw_get 151 i_Model_aim_148 rfl (by repeat (first | exact mj_hs2 | exact mj_hs | assumption | refine mj_hn2 (by omega) ?_ | refine mj_hn (by omega) ?_)) (by rfl) ?_
              refine mw_k 154 i_Model_aim_151 rfl ?_
              refine mw_ld 155 i_Model_aim_154 rfl rfl rfl ?_
              refine mw_b 156 i_Model_aim_155 rfl ?_
              rw [show (157 : Int32) = nI 157 from rfl, nI_add]
              refine mw_ld 158 i_Model_aim_156 rfl rfl rfl ?_
              refine mw_iast 159 (157 + i) i_Model_aim_158 rfl (by repeat (first | exact mj_hs2 | exact mj_hs | assumption | refine mj_hn2 (by omega) ?_ | refine mj_hn (by omega) ?_)) rfl (by omega) (by decide) ?_
              refine mw_ld 160 i_Model_aim_159 rfl rfl rfl ?_
              refine mw_get 163 i_Model_aim_160 rfl (by repeat (first | exact mj_hs2 | exact mj_hs | assumption | refine mj_hn2 (by omega) ?_ | refine mj_hn (by omega) ?_)) (by rfl) ?_
              refine mw_k 166 i_Model_aim_163 rfl ?_
              refine mw_ld 167 i_Model_aim_166 rfl rfl rfl ?_
              refine mw_b 168 i_Model_aim_167 rfl ?_
              rw [show (171 : Int32) = nI 171 from rfl, nI_add]
              refine mw_ld 170 i_Model_aim_168 rfl rfl rfl ?_
              refine mw_iast 171 (171 + i) i_Model_aim_170 rfl (by repeat (first | exact mj_hs2 | exact mj_hs | assumption | refine mj_hn2 (by omega) ?_ | refine mj_hn (by omega) ?_)) rfl (by omega) (by decide) ?_
              refine mw_k 172 i_Model_aim_171 rfl ?_
              refine mw_ri i_Model_aim_172 rfl rfl ?_
              refine k2 (by simp [hz, hb2, hw]) _ (gw_fr_sub (L := [55, 56, 57]) (by repeat (first | exact gw_fr_sub g1 (by simp) | refine gw_fr_up ?_ (by simp))) (by decide)) (gw_MI_chg (L := [55, 56, 57]) (b := b) (by simp) hM (by repeat (first | exact gw_fr_sub g1 (by simp) | refine gw_fr_up ?_ (by simp))) (by repeat (first | exact mj_hs | assumption | refine mj_hn (by omega) ?_)) mj_hs (by repeat (first | exact mj_hs | assumption | refine mj_hn (by omega) ?_)) g4)
            · skip
              refine mw_ld 1 i_Model_aim_0 rfl rfl rfl ?_
              refine mw_ld 2 i_Model_aim_1 rfl rfl rfl ?_
              refine mw_cv1 5 i_Model_aim_2 rfl (by repeat (first | exact mj_hs2 | exact mj_hs | assumption | refine mj_hn2 (by omega) ?_ | refine mj_hn (by omega) ?_)) (sp_Model_isPost hO hs1 hn14 hp ?_) rfl rfl (Nat.le_of_ble_eq_true rfl) (Nat.le_of_ble_eq_true rfl)
              refine mw_if0 8 i_Model_aim_5 rfl (mj_bI1.mpr hz) ?_
              refine mw_ld 9 i_Model_aim_8 rfl rfl rfl ?_
              refine mw_cs1 12 i_Model_aim_9 rfl (sp_Model_isDirection ?_) rfl rfl (Nat.le_of_ble_eq_true rfl) (Nat.le_of_ble_eq_true rfl)
              refine mw_if0 15 i_Model_aim_12 rfl (mj_bI1.mpr hA) ?_
              refine mw_ld 16 i_Model_aim_15 rfl rfl rfl ?_
              refine mw_cs1 19 i_Model_aim_16 rfl (sp_Model_isDirection ?_) rfl rfl (Nat.le_of_ble_eq_true rfl) (Nat.le_of_ble_eq_true rfl)
              refine mw_if1 i_Model_aim_19 (mj_bI1.mpr hBb) ?_
              refine mw_ld 26 i_Model_aim_25 rfl rfl rfl ?_
              refine mw_k 28 i_Model_aim_26 rfl ?_
              refine mw_d 29 i_Model_aim_28 rfl (by decide) ?_
              refine mw_k 31 i_Model_aim_29 rfl ?_
              refine mw_b 32 i_Model_aim_31 rfl ?_
              refine mw_st (ls' := [_, _, _, _, _, _, _, _, _]) 34 i_Model_aim_32 rfl rfl rfl rfl ?_
              refine mw_ld 35 i_Model_aim_34 rfl rfl rfl ?_
              refine mw_k 37 i_Model_aim_35 rfl ?_
              refine mw_d 38 i_Model_aim_37 rfl (by decide) ?_
              refine mw_k 40 i_Model_aim_38 rfl ?_
              refine mw_b 41 i_Model_aim_40 rfl ?_
              refine mw_st (ls' := [_, _, _, _, _, _, _, _, _]) 43 i_Model_aim_41 rfl rfl rfl rfl ?_
              refine mw_ld 44 i_Model_aim_43 rfl rfl rfl ?_
              refine mw_k 46 i_Model_aim_44 rfl ?_
              refine mw_d 47 i_Model_aim_46 rfl (by decide) ?_
              refine mw_k 49 i_Model_aim_47 rfl ?_
              refine mw_b 50 i_Model_aim_49 rfl ?_
              refine mw_st (ls' := [_, _, _, _, _, _, _, _, _]) 52 i_Model_aim_50 rfl rfl rfl rfl ?_
              refine mw_ld 53 i_Model_aim_52 rfl rfl rfl ?_
              refine mw_k 55 i_Model_aim_53 rfl ?_
              refine mw_d 56 i_Model_aim_55 rfl (by decide) ?_
              refine mw_k 58 i_Model_aim_56 rfl ?_
              refine mw_b 59 i_Model_aim_58 rfl ?_
              refine mw_st (ls' := [_, _, _, _, _, _, _, _, _]) 61 i_Model_aim_59 rfl rfl rfl rfl ?_
              refine mw_ld 63 i_Model_aim_61 rfl rfl rfl ?_
              refine mw_ld 65 i_Model_aim_63 rfl rfl rfl ?_
              refine mw_b 66 i_Model_aim_65 rfl ?_
              refine mw_ld 68 i_Model_aim_66 rfl rfl rfl ?_
              refine mw_ld 70 i_Model_aim_68 rfl rfl rfl ?_
              refine mw_b 71 i_Model_aim_70 rfl ?_
              refine mw_b 72 i_Model_aim_71 rfl ?_
              refine mw_st (ls' := [_, _, _, _, _, _, _, _, _]) 74 i_Model_aim_72 rfl rfl rfl rfl ?_
              refine mw_ld 76 i_Model_aim_74 rfl rfl rfl ?_
              refine mw_if0 79 i_Model_aim_76 rfl hn0 ?_
              refine mw_ld 81 i_Model_aim_79 rfl rfl rfl ?_
              refine mw_if1 i_Model_aim_81 hn1 ?_
              refine mw_ld 102 i_Model_aim_101 rfl rfl rfl ?_
              refine mw_get 105 i_Model_aim_102 rfl (by repeat (first | exact mj_hs2 | exact mj_hs | assumption | refine mj_hn2 (by omega) ?_ | refine mj_hn (by omega) ?_)) (by rfl) ?_
              refine mw_k 107 i_Model_aim_105 rfl ?_
              refine mw_ld 108 i_Model_aim_107 rfl rfl rfl ?_
              refine mw_b 109 i_Model_aim_108 rfl ?_
              rw [show (115 : Int32) = nI 115 from rfl, nI_add]
              refine mw_iald 110 (115 + i) i_Model_aim_109 rfl (by repeat (first | exact mj_hs2 | exact mj_hs | assumption | refine mj_hn2 (by omega) ?_ | refine mj_hn (by omega) ?_)) rfl (by omega) (by decide) ?_
              refine mw_cs1 113 i_Model_aim_110 rfl (sp_Model_isWedge ?_) rfl rfl (Nat.le_of_ble_eq_true rfl) (Nat.le_of_ble_eq_true rfl)
              refine mw_if0 116 i_Model_aim_113 rfl (fun q => q (mj_bI0.mpr (gw_nt hw))) ?_
              refine mw_k 118 i_Model_aim_116 rfl ?_
              refine mw_ri i_Model_aim_118 rfl rfl ?_
              rw [if_pos hb2] at k1
              exact k1 (by simp [hw])
      · skip
        have hb2 : ¬ gw_dirs a b = true := by rw [hde]; simp [hBb]
        refine mw_ld 1 i_Model_aim_0 rfl rfl rfl ?_
        refine mw_ld 2 i_Model_aim_1 rfl rfl rfl ?_
        refine mw_cv1 5 i_Model_aim_2 rfl (by assumption) (sp_Model_isPost hO hs1 hn14 hp ?_) rfl rfl (Nat.le_of_ble_eq_true rfl) (Nat.le_of_ble_eq_true rfl)
        refine mw_if0 8 i_Model_aim_5 rfl (mj_bI1.mpr hz) ?_
        refine mw_ld 9 i_Model_aim_8 rfl rfl rfl ?_
        refine mw_cs1 12 i_Model_aim_9 rfl (sp_Model_isDirection ?_) rfl rfl (Nat.le_of_ble_eq_true rfl) (Nat.le_of_ble_eq_true rfl)
        refine mw_if0 15 i_Model_aim_12 rfl (mj_bI1.mpr hA) ?_
        refine mw_ld 16 i_Model_aim_15 rfl rfl rfl ?_
        refine mw_cs1 19 i_Model_aim_16 rfl (sp_Model_isDirection ?_) rfl rfl (Nat.le_of_ble_eq_true rfl) (Nat.le_of_ble_eq_true rfl)
        refine mw_if0 22 i_Model_aim_19 rfl (fun q => q (mj_bI0.mpr (gw_nt hBb))) ?_
        refine mw_k 24 i_Model_aim_22 rfl ?_
        refine mw_ri i_Model_aim_24 rfl rfl ?_
        rw [if_neg hb2] at k1
        exact k1 (by simp [hb2])
    · skip
      have hb2 : ¬ gw_dirs a b = true := by rw [hde]; simp [hA]
      refine mw_ld 1 i_Model_aim_0 rfl rfl rfl ?_
      refine mw_ld 2 i_Model_aim_1 rfl rfl rfl ?_
      refine mw_cv1 5 i_Model_aim_2 rfl (by assumption) (sp_Model_isPost hO hs1 hn14 hp ?_) rfl rfl (Nat.le_of_ble_eq_true rfl) (Nat.le_of_ble_eq_true rfl)
      refine mw_if0 8 i_Model_aim_5 rfl (mj_bI1.mpr hz) ?_
      refine mw_ld 9 i_Model_aim_8 rfl rfl rfl ?_
      refine mw_cs1 12 i_Model_aim_9 rfl (sp_Model_isDirection ?_) rfl rfl (Nat.le_of_ble_eq_true rfl) (Nat.le_of_ble_eq_true rfl)
      refine mw_if1 i_Model_aim_12 (mj_bI0.mpr (gw_nt hA)) ?_
      refine mw_k 24 i_Model_aim_22 rfl ?_
      refine mw_ri i_Model_aim_24 rfl rfl ?_
      rw [if_neg hb2] at k1
      exact k1 (by simp [hb2])
  · skip
    refine mw_ld 1 i_Model_aim_0 rfl rfl rfl ?_
    refine mw_ld 2 i_Model_aim_1 rfl rfl rfl ?_
    refine mw_cv1 5 i_Model_aim_2 rfl (by assumption) (sp_Model_isPost hO hs1 hn14 hp ?_) rfl rfl (Nat.le_of_ble_eq_true rfl) (Nat.le_of_ble_eq_true rfl)
    refine mw_if1 i_Model_aim_5 (mj_bI0.mpr (gw_nt hz)) ?_
    refine mw_k 24 i_Model_aim_22 rfl ?_
    refine mw_ri i_Model_aim_24 rfl rfl ?_
    rw [a_aim, if_neg hz] at k1
    exact k1 (by simp [gw_okAim, hz])
theorem sp_Model_reach {X : mj_X} {d : Nat} {σ : mj_H} {Q : Value → mj_H → Prop} {w h n : Nat} {s : Nat → Int32} {kp : Nat} {hs : Nat → Nat → Int32} {P : List gw_Row} {sz : Int32} (hM : gw_MI σ.1 w h n s kp hs P sz) (hd : gw_dim w h) (hn14 : n ≤ 14) (hp : s 100 = nI n) (hv : gw_vp w h n s) {z v : Int32} (hk10 : kp ≤ 10) (k1 : gw_okReach n s z v = false → Q (.int (a_reach n z v)) σ) (k2 : gw_okReach n s z v = true → ∀ f, gw_fr gw_ML σ.1 f → gw_MI f w h n (gw_sReach s z.toInt.toNat v) (min (kp + 1) 10) (gw_push kp hs s) [] sz → Q (.int (s (185 + z.toInt.toNat))) (f, σ.2)) : mj_M X (d + 20) y_Model_reach [.ref 55, .int z, .int v] σ (mj_V Q) := by
  obtain ⟨tf, fu, fe, fi, ma, md, hO, hA, hRr, hSs, htf⟩ := id hM
  obtain ⟨hs1, bf, hB, hb⟩ := id hA
  obtain ⟨⟨wt0, hW⟩, ⟨he0, hH⟩, ⟨fr0, hF⟩, ⟨fa0, hFa⟩, ⟨ct0, hCt⟩, ⟨mc0, hm1⟩, ⟨mb0, hm2⟩, ⟨mp0, hm3⟩, ⟨mw0, hm4⟩⟩ := id hSs
  have hwh := gw_dim_le hd
  refine mw_in (l0 := [some (.ref 55), some (.int z), some (.int v), none]) rfl ?_
  by_cases hz : gw_isP n z = true
  · skip
    obtain ⟨i, hi, rfl⟩ := gw_isP_of hz
    rw [a_reach, if_pos hz] at k1
    rw [gw_okReach, gw_tn (by omega)] at k1 k2
    by_cases hb2 : gw_in v 1 9 = true
    · skip
      by_cases hw : s (115 + i) = 4
      · skip
        refine mw_ld 1 i_Model_reach_0 rfl rfl rfl ?_
        refine mw_ld 2 i_Model_reach_1 rfl rfl rfl ?_
        refine mw_cv1 5 i_Model_reach_2 rfl (by repeat (first | exact mj_hs2 | exact mj_hs | assumption | refine mj_hn2 (by omega) ?_ | refine mj_hn (by omega) ?_)) (sp_Model_isPost hO hs1 hn14 hp ?_) rfl rfl (Nat.le_of_ble_eq_true rfl) (Nat.le_of_ble_eq_true rfl)
        refine mw_if0 8 i_Model_reach_5 rfl (mj_bI1.mpr hz) ?_
        refine mw_ld 9 i_Model_reach_8 rfl rfl rfl ?_
        refine mw_k 10 i_Model_reach_9 rfl ?_
        refine mw_k 12 i_Model_reach_10 rfl ?_
        refine mw_cs1 15 i_Model_reach_12 rfl (sp_Model_isIn ?_) rfl rfl (Nat.le_of_ble_eq_true rfl) (Nat.le_of_ble_eq_true rfl)
        refine mw_if1 i_Model_reach_15 (mj_bI1.mpr hb2) ?_
        refine mw_ld 22 i_Model_reach_21 rfl rfl rfl ?_
        refine mw_get 25 i_Model_reach_22 rfl (by repeat (first | exact mj_hs2 | exact mj_hs | assumption | refine mj_hn2 (by omega) ?_ | refine mj_hn (by omega) ?_)) (by rfl) ?_
        refine mw_k 27 i_Model_reach_25 rfl ?_
        refine mw_ld 28 i_Model_reach_27 rfl rfl rfl ?_
        refine mw_b 29 i_Model_reach_28 rfl ?_
        rw [show (115 : Int32) = nI 115 from rfl, nI_add]
        refine mw_iald 30 (115 + i) i_Model_reach_29 rfl (by repeat (first | exact mj_hs2 | exact mj_hs | assumption | refine mj_hn2 (by omega) ?_ | refine mj_hn (by omega) ?_)) rfl (by omega) (by decide) ?_
        refine mw_k 31 i_Model_reach_30 rfl ?_
        refine mw_ic1 i_Model_reach_31 hw ?_
        refine mw_ld 38 i_Model_reach_37 rfl rfl rfl ?_
        refine mw_cv0 41 i_Model_reach_38 rfl (by repeat (first | exact mj_hs2 | exact mj_hs | assumption | refine mj_hn2 (by omega) ?_ | refine mj_hn (by omega) ?_)) (sp_Model_keep hO hs1 hB hk10 hb (fun f b g1 g2 g3 g4 => ?_)) rfl rfl (Nat.le_of_ble_eq_true rfl) (Nat.le_of_ble_eq_true rfl)
        have gs : f 56 = mj_AI 213 s := (g1 _ (by decide)).trans hs1
        refine mw_ld 42 i_Model_reach_41 rfl rfl rfl ?_
        refine mw_get 45 i_Model_reach_42 rfl (by repeat (first | exact mj_hs2 | exact mj_hs | assumption | refine mj_hn2 (by omega) ?_ | refine mj_hn (by omega) ?_)) (by rfl) ?_
        refine mw_k 48 i_Model_reach_45 rfl ?_
        refine mw_ld 49 i_Model_reach_48 rfl rfl rfl ?_
        refine mw_b 50 i_Model_reach_49 rfl ?_
        rw [show (185 : Int32) = nI 185 from rfl, nI_add]
        refine mw_iald 51 (185 + i) i_Model_reach_50 rfl (by repeat (first | exact mj_hs2 | exact mj_hs | assumption | refine mj_hn2 (by omega) ?_ | refine mj_hn (by omega) ?_)) rfl (by omega) (by decide) ?_
        refine mw_st (ls' := [_, _, _, _]) 52 i_Model_reach_51 rfl rfl rfl rfl ?_
        refine mw_ld 53 i_Model_reach_52 rfl rfl rfl ?_
        refine mw_get 56 i_Model_reach_53 rfl (by repeat (first | exact mj_hs2 | exact mj_hs | assumption | refine mj_hn2 (by omega) ?_ | refine mj_hn (by omega) ?_)) (by rfl) ?_
        refine mw_k 59 i_Model_reach_56 rfl ?_
        refine mw_ld 60 i_Model_reach_59 rfl rfl rfl ?_
        refine mw_b 61 i_Model_reach_60 rfl ?_
        rw [show (185 : Int32) = nI 185 from rfl, nI_add]
        refine mw_ld 62 i_Model_reach_61 rfl rfl rfl ?_
        refine mw_iast 63 (185 + i) i_Model_reach_62 rfl (by repeat (first | exact mj_hs2 | exact mj_hs | assumption | refine mj_hn2 (by omega) ?_ | refine mj_hn (by omega) ?_)) rfl (by omega) (by decide) ?_
        refine mw_ld 64 i_Model_reach_63 rfl rfl rfl ?_
        refine mw_ri i_Model_reach_64 rfl rfl ?_
        refine k2 (by simp [hz, hb2, hw]) _ (gw_fr_sub (L := [55, 56, 57]) (by repeat (first | exact gw_fr_sub g1 (by simp) | refine gw_fr_up ?_ (by simp))) (by decide)) (gw_MI_chg (L := [55, 56, 57]) (b := b) (by simp) hM (by repeat (first | exact gw_fr_sub g1 (by simp) | refine gw_fr_up ?_ (by simp))) (by repeat (first | exact mj_hs | assumption | refine mj_hn (by omega) ?_)) mj_hs (by repeat (first | exact mj_hs | assumption | refine mj_hn (by omega) ?_)) g4)
      · skip
        refine mw_ld 1 i_Model_reach_0 rfl rfl rfl ?_
        refine mw_ld 2 i_Model_reach_1 rfl rfl rfl ?_
        refine mw_cv1 5 i_Model_reach_2 rfl (by assumption) (sp_Model_isPost hO hs1 hn14 hp ?_) rfl rfl (Nat.le_of_ble_eq_true rfl) (Nat.le_of_ble_eq_true rfl)
        refine mw_if0 8 i_Model_reach_5 rfl (mj_bI1.mpr hz) ?_
        refine mw_ld 9 i_Model_reach_8 rfl rfl rfl ?_
        refine mw_k 10 i_Model_reach_9 rfl ?_
        refine mw_k 12 i_Model_reach_10 rfl ?_
        refine mw_cs1 15 i_Model_reach_12 rfl (sp_Model_isIn ?_) rfl rfl (Nat.le_of_ble_eq_true rfl) (Nat.le_of_ble_eq_true rfl)
        refine mw_if1 i_Model_reach_15 (mj_bI1.mpr hb2) ?_
        refine mw_ld 22 i_Model_reach_21 rfl rfl rfl ?_
        refine mw_get 25 i_Model_reach_22 rfl (by assumption) (by rfl) ?_
        refine mw_k 27 i_Model_reach_25 rfl ?_
        refine mw_ld 28 i_Model_reach_27 rfl rfl rfl ?_
        refine mw_b 29 i_Model_reach_28 rfl ?_
        rw [show (115 : Int32) = nI 115 from rfl, nI_add]
        refine mw_iald 30 (115 + i) i_Model_reach_29 rfl (by assumption) rfl (by omega) (by decide) ?_
        refine mw_k 31 i_Model_reach_30 rfl ?_
        refine mw_ic0 34 i_Model_reach_31 rfl hw ?_
        refine mw_k 36 i_Model_reach_34 rfl ?_
        refine mw_ri i_Model_reach_36 rfl rfl ?_
        rw [if_pos hb2] at k1
        exact k1 (by simp [hw])
    · skip
      refine mw_ld 1 i_Model_reach_0 rfl rfl rfl ?_
      refine mw_ld 2 i_Model_reach_1 rfl rfl rfl ?_
      refine mw_cv1 5 i_Model_reach_2 rfl (by assumption) (sp_Model_isPost hO hs1 hn14 hp ?_) rfl rfl (Nat.le_of_ble_eq_true rfl) (Nat.le_of_ble_eq_true rfl)
      refine mw_if0 8 i_Model_reach_5 rfl (mj_bI1.mpr hz) ?_
      refine mw_ld 9 i_Model_reach_8 rfl rfl rfl ?_
      refine mw_k 10 i_Model_reach_9 rfl ?_
      refine mw_k 12 i_Model_reach_10 rfl ?_
      refine mw_cs1 15 i_Model_reach_12 rfl (sp_Model_isIn ?_) rfl rfl (Nat.le_of_ble_eq_true rfl) (Nat.le_of_ble_eq_true rfl)
      refine mw_if0 18 i_Model_reach_15 rfl (fun q => q (mj_bI0.mpr (gw_nt hb2))) ?_
      refine mw_k 20 i_Model_reach_18 rfl ?_
      refine mw_ri i_Model_reach_20 rfl rfl ?_
      rw [if_neg hb2] at k1
      exact k1 (by simp [hb2])
  · skip
    refine mw_ld 1 i_Model_reach_0 rfl rfl rfl ?_
    refine mw_ld 2 i_Model_reach_1 rfl rfl rfl ?_
    refine mw_cv1 5 i_Model_reach_2 rfl (by assumption) (sp_Model_isPost hO hs1 hn14 hp ?_) rfl rfl (Nat.le_of_ble_eq_true rfl) (Nat.le_of_ble_eq_true rfl)
    refine mw_if1 i_Model_reach_5 (mj_bI0.mpr (gw_nt hz)) ?_
    refine mw_k 20 i_Model_reach_18 rfl ?_
    refine mw_ri i_Model_reach_20 rfl rfl ?_
    rw [a_reach, if_neg hz] at k1
    exact k1 (by simp [gw_okReach, hz])
theorem sp_Model_lamp {X : mj_X} {d : Nat} {σ : mj_H} {Q : Value → mj_H → Prop} {w h n : Nat} {s : Nat → Int32} {kp : Nat} {hs : Nat → Nat → Int32} {P : List gw_Row} {sz : Int32} (hM : gw_MI σ.1 w h n s kp hs P sz) (hd : gw_dim w h) (hn14 : n ≤ 14) (hp : s 100 = nI n) (hv : gw_vp w h n s) {z v : Int32} (hk10 : kp ≤ 10) (k1 : gw_okLamp n s z v = false → Q (.int (a_lamp n z v)) σ) (k2 : gw_okLamp n s z v = true → ∀ f, gw_fr gw_ML σ.1 f → gw_MI f w h n (gw_sLamp s z.toInt.toNat v) (min (kp + 1) 10) (gw_push kp hs s) [] sz → Q (.int (s (199 + z.toInt.toNat))) (f, σ.2)) : mj_M X (d + 20) y_Model_lamp [.ref 55, .int z, .int v] σ (mj_V Q) := by
  obtain ⟨tf, fu, fe, fi, ma, md, hO, hA, hRr, hSs, htf⟩ := id hM
  obtain ⟨hs1, bf, hB, hb⟩ := id hA
  obtain ⟨⟨wt0, hW⟩, ⟨he0, hH⟩, ⟨fr0, hF⟩, ⟨fa0, hFa⟩, ⟨ct0, hCt⟩, ⟨mc0, hm1⟩, ⟨mb0, hm2⟩, ⟨mp0, hm3⟩, ⟨mw0, hm4⟩⟩ := id hSs
  have hwh := gw_dim_le hd
  refine mw_in (l0 := [some (.ref 55), some (.int z), some (.int v), none]) rfl ?_
  by_cases hz : gw_isP n z = true
  · skip
    obtain ⟨i, hi, rfl⟩ := gw_isP_of hz
    rw [a_lamp, if_pos hz] at k1
    rw [gw_okLamp, gw_tn (by omega)] at k1 k2
    by_cases hb2 : gw_in v 0 1 = true
    · skip
      by_cases hw : s (115 + i) = 3
      · skip
        refine mw_ld 1 i_Model_lamp_0 rfl rfl rfl ?_
        refine mw_ld 2 i_Model_lamp_1 rfl rfl rfl ?_
        refine mw_cv1 5 i_Model_lamp_2 rfl (by repeat (first | exact mj_hs2 | exact mj_hs | assumption | refine mj_hn2 (by omega) ?_ | refine mj_hn (by omega) ?_)) (sp_Model_isPost hO hs1 hn14 hp ?_) rfl rfl (Nat.le_of_ble_eq_true rfl) (Nat.le_of_ble_eq_true rfl)
        refine mw_if0 8 i_Model_lamp_5 rfl (mj_bI1.mpr hz) ?_
        refine mw_ld 9 i_Model_lamp_8 rfl rfl rfl ?_
        refine mw_k 10 i_Model_lamp_9 rfl ?_
        refine mw_k 11 i_Model_lamp_10 rfl ?_
        refine mw_cs1 14 i_Model_lamp_11 rfl (sp_Model_isIn ?_) rfl rfl (Nat.le_of_ble_eq_true rfl) (Nat.le_of_ble_eq_true rfl)
        refine mw_if1 i_Model_lamp_14 (mj_bI1.mpr hb2) ?_
        refine mw_ld 21 i_Model_lamp_20 rfl rfl rfl ?_
        refine mw_get 24 i_Model_lamp_21 rfl (by repeat (first | exact mj_hs2 | exact mj_hs | assumption | refine mj_hn2 (by omega) ?_ | refine mj_hn (by omega) ?_)) (by rfl) ?_
        refine mw_k 26 i_Model_lamp_24 rfl ?_
        refine mw_ld 27 i_Model_lamp_26 rfl rfl rfl ?_
        refine mw_b 28 i_Model_lamp_27 rfl ?_
        rw [show (115 : Int32) = nI 115 from rfl, nI_add]
        refine mw_iald 29 (115 + i) i_Model_lamp_28 rfl (by repeat (first | exact mj_hs2 | exact mj_hs | assumption | refine mj_hn2 (by omega) ?_ | refine mj_hn (by omega) ?_)) rfl (by omega) (by decide) ?_
        refine mw_k 30 i_Model_lamp_29 rfl ?_
        refine mw_ic1 i_Model_lamp_30 hw ?_
        refine mw_ld 37 i_Model_lamp_36 rfl rfl rfl ?_
        refine mw_cv0 40 i_Model_lamp_37 rfl (by repeat (first | exact mj_hs2 | exact mj_hs | assumption | refine mj_hn2 (by omega) ?_ | refine mj_hn (by omega) ?_)) (sp_Model_keep hO hs1 hB hk10 hb (fun f b g1 g2 g3 g4 => ?_)) rfl rfl (Nat.le_of_ble_eq_true rfl) (Nat.le_of_ble_eq_true rfl)
        have gs : f 56 = mj_AI 213 s := (g1 _ (by decide)).trans hs1
        refine mw_ld 41 i_Model_lamp_40 rfl rfl rfl ?_
        refine mw_get 44 i_Model_lamp_41 rfl (by repeat (first | exact mj_hs2 | exact mj_hs | assumption | refine mj_hn2 (by omega) ?_ | refine mj_hn (by omega) ?_)) (by rfl) ?_
        refine mw_k 47 i_Model_lamp_44 rfl ?_
        refine mw_ld 48 i_Model_lamp_47 rfl rfl rfl ?_
        refine mw_b 49 i_Model_lamp_48 rfl ?_
        rw [show (199 : Int32) = nI 199 from rfl, nI_add]
        refine mw_iald 50 (199 + i) i_Model_lamp_49 rfl (by repeat (first | exact mj_hs2 | exact mj_hs | assumption | refine mj_hn2 (by omega) ?_ | refine mj_hn (by omega) ?_)) rfl (by omega) (by decide) ?_
        refine mw_st (ls' := [_, _, _, _]) 51 i_Model_lamp_50 rfl rfl rfl rfl ?_
        refine mw_ld 52 i_Model_lamp_51 rfl rfl rfl ?_
        refine mw_get 55 i_Model_lamp_52 rfl (by repeat (first | exact mj_hs2 | exact mj_hs | assumption | refine mj_hn2 (by omega) ?_ | refine mj_hn (by omega) ?_)) (by rfl) ?_
        refine mw_k 58 i_Model_lamp_55 rfl ?_
        refine mw_ld 59 i_Model_lamp_58 rfl rfl rfl ?_
        refine mw_b 60 i_Model_lamp_59 rfl ?_
        rw [show (199 : Int32) = nI 199 from rfl, nI_add]
        refine mw_ld 61 i_Model_lamp_60 rfl rfl rfl ?_
        refine mw_iast 62 (199 + i) i_Model_lamp_61 rfl (by repeat (first | exact mj_hs2 | exact mj_hs | assumption | refine mj_hn2 (by omega) ?_ | refine mj_hn (by omega) ?_)) rfl (by omega) (by decide) ?_
        refine mw_ld 63 i_Model_lamp_62 rfl rfl rfl ?_
        refine mw_ri i_Model_lamp_63 rfl rfl ?_
        refine k2 (by simp [hz, hb2, hw]) _ (gw_fr_sub (L := [55, 56, 57]) (by repeat (first | exact gw_fr_sub g1 (by simp) | refine gw_fr_up ?_ (by simp))) (by decide)) (gw_MI_chg (L := [55, 56, 57]) (b := b) (by simp) hM (by repeat (first | exact gw_fr_sub g1 (by simp) | refine gw_fr_up ?_ (by simp))) (by repeat (first | exact mj_hs | assumption | refine mj_hn (by omega) ?_)) mj_hs (by repeat (first | exact mj_hs | assumption | refine mj_hn (by omega) ?_)) g4)
      · skip
        refine mw_ld 1 i_Model_lamp_0 rfl rfl rfl ?_
        refine mw_ld 2 i_Model_lamp_1 rfl rfl rfl ?_
        refine mw_cv1 5 i_Model_lamp_2 rfl (by assumption) (sp_Model_isPost hO hs1 hn14 hp ?_) rfl rfl (Nat.le_of_ble_eq_true rfl) (Nat.le_of_ble_eq_true rfl)
        refine mw_if0 8 i_Model_lamp_5 rfl (mj_bI1.mpr hz) ?_
        refine mw_ld 9 i_Model_lamp_8 rfl rfl rfl ?_
        refine mw_k 10 i_Model_lamp_9 rfl ?_
        refine mw_k 11 i_Model_lamp_10 rfl ?_
        refine mw_cs1 14 i_Model_lamp_11 rfl (sp_Model_isIn ?_) rfl rfl (Nat.le_of_ble_eq_true rfl) (Nat.le_of_ble_eq_true rfl)
        refine mw_if1 i_Model_lamp_14 (mj_bI1.mpr hb2) ?_
        refine mw_ld 21 i_Model_lamp_20 rfl rfl rfl ?_
        refine mw_get 24 i_Model_lamp_21 rfl (by assumption) (by rfl) ?_
        refine mw_k 26 i_Model_lamp_24 rfl ?_
        refine mw_ld 27 i_Model_lamp_26 rfl rfl rfl ?_
        refine mw_b 28 i_Model_lamp_27 rfl ?_
        rw [show (115 : Int32) = nI 115 from rfl, nI_add]
        refine mw_iald 29 (115 + i) i_Model_lamp_28 rfl (by assumption) rfl (by omega) (by decide) ?_
        refine mw_k 30 i_Model_lamp_29 rfl ?_
        refine mw_ic0 33 i_Model_lamp_30 rfl hw ?_
        refine mw_k 35 i_Model_lamp_33 rfl ?_
        refine mw_ri i_Model_lamp_35 rfl rfl ?_
        rw [if_pos hb2] at k1
        exact k1 (by simp [hw])
    · skip
      refine mw_ld 1 i_Model_lamp_0 rfl rfl rfl ?_
      refine mw_ld 2 i_Model_lamp_1 rfl rfl rfl ?_
      refine mw_cv1 5 i_Model_lamp_2 rfl (by assumption) (sp_Model_isPost hO hs1 hn14 hp ?_) rfl rfl (Nat.le_of_ble_eq_true rfl) (Nat.le_of_ble_eq_true rfl)
      refine mw_if0 8 i_Model_lamp_5 rfl (mj_bI1.mpr hz) ?_
      refine mw_ld 9 i_Model_lamp_8 rfl rfl rfl ?_
      refine mw_k 10 i_Model_lamp_9 rfl ?_
      refine mw_k 11 i_Model_lamp_10 rfl ?_
      refine mw_cs1 14 i_Model_lamp_11 rfl (sp_Model_isIn ?_) rfl rfl (Nat.le_of_ble_eq_true rfl) (Nat.le_of_ble_eq_true rfl)
      refine mw_if0 17 i_Model_lamp_14 rfl (fun q => q (mj_bI0.mpr (gw_nt hb2))) ?_
      refine mw_k 19 i_Model_lamp_17 rfl ?_
      refine mw_ri i_Model_lamp_19 rfl rfl ?_
      rw [if_neg hb2] at k1
      exact k1 (by simp [hb2])
  · skip
    refine mw_ld 1 i_Model_lamp_0 rfl rfl rfl ?_
    refine mw_ld 2 i_Model_lamp_1 rfl rfl rfl ?_
    refine mw_cv1 5 i_Model_lamp_2 rfl (by assumption) (sp_Model_isPost hO hs1 hn14 hp ?_) rfl rfl (Nat.le_of_ble_eq_true rfl) (Nat.le_of_ble_eq_true rfl)
    refine mw_if1 i_Model_lamp_5 (mj_bI0.mpr (gw_nt hz)) ?_
    refine mw_k 19 i_Model_lamp_17 rfl ?_
    refine mw_ri i_Model_lamp_19 rfl rfl ?_
    rw [a_lamp, if_neg hz] at k1
    exact k1 (by simp [gw_okLamp, hz])
theorem sp_Model_move {X : mj_X} {d : Nat} {σ : mj_H} {Q : Value → mj_H → Prop} {w h n : Nat} {s : Nat → Int32} {kp : Nat} {hs : Nat → Nat → Int32} {P : List gw_Row} {sz : Int32} (hM : gw_MI σ.1 w h n s kp hs P sz) (hd : gw_dim w h) (hn14 : n ≤ 14) (hp : s 100 = nI n) (hv : gw_vp w h n s) {z v : Int32} (hk10 : kp ≤ 10) (k1 : gw_okMove w h n s z v = false → Q (.int (a_move w h n z v)) σ) (k2 : gw_okMove w h n s z v = true → ∀ f, gw_fr gw_ML σ.1 f → gw_MI f w h n (gw_sMove s z.toInt.toNat v) (min (kp + 1) 10) (gw_push kp hs s) [] sz → Q (.int (s (101 + z.toInt.toNat))) (f, σ.2)) : mj_M X (d + 20) y_Model_move [.ref 55, .int z, .int v] σ (mj_V Q) := by
  obtain ⟨tf, fu, fe, fi, ma, md, hO, hA, hRr, hSs, htf⟩ := id hM
  obtain ⟨hs1, bf, hB, hb⟩ := id hA
  obtain ⟨⟨wt0, hW⟩, ⟨he0, hH⟩, ⟨fr0, hF⟩, ⟨fa0, hFa⟩, ⟨ct0, hCt⟩, ⟨mc0, hm1⟩, ⟨mb0, hm2⟩, ⟨mp0, hm3⟩, ⟨mw0, hm4⟩⟩ := id hSs
  have hwh := gw_dim_le hd
  refine mw_in (l0 := [some (.ref 55), some (.int z), some (.int v), none]) rfl ?_
  by_cases hz : gw_isP n z = true
  · skip
    obtain ⟨i, hi, rfl⟩ := gw_isP_of hz
    rw [a_move, if_pos hz] at k1
    rw [gw_okMove, gw_tn (show i < 2147483648 by omega)] at k1 k2
    by_cases hb2 : gw_ce w h v = true
    · skip
      obtain ⟨v, hv2, rfl⟩ := gw_ce_of hd hb2
      rw [gw_tn (show v < 2147483648 by omega)] at k1 k2
      by_cases hw : gw_st w h s v (s (115 + i)) = true
      · skip
        refine mw_ld 1 i_Model_move_0 rfl rfl rfl ?_
        refine mw_ld 2 i_Model_move_1 rfl rfl rfl ?_
        refine mw_cv1 5 i_Model_move_2 rfl (by repeat (first | exact mj_hs2 | exact mj_hs | assumption | refine mj_hn2 (by omega) ?_ | refine mj_hn (by omega) ?_)) (sp_Model_isPost hO hs1 hn14 hp ?_) rfl rfl (Nat.le_of_ble_eq_true rfl) (Nat.le_of_ble_eq_true rfl)
        refine mw_if0 8 i_Model_move_5 rfl (mj_bI1.mpr hz) ?_
        refine mw_ld 9 i_Model_move_8 rfl rfl rfl ?_
        refine mw_ld 10 i_Model_move_9 rfl rfl rfl ?_
        refine mw_cv1 13 i_Model_move_10 rfl (by repeat (first | exact mj_hs2 | exact mj_hs | assumption | refine mj_hn2 (by omega) ?_ | refine mj_hn (by omega) ?_)) (sp_Model_isCell hO hd ?_) rfl rfl (Nat.le_of_ble_eq_true rfl) (Nat.le_of_ble_eq_true rfl)
        refine mw_if1 i_Model_move_13 (mj_bI1.mpr hb2) ?_
        refine mw_ld 20 i_Model_move_19 rfl rfl rfl ?_
        refine mw_ld 21 i_Model_move_20 rfl rfl rfl ?_
        refine mw_ld 22 i_Model_move_21 rfl rfl rfl ?_
        refine mw_get 25 i_Model_move_22 rfl (by repeat (first | exact mj_hs2 | exact mj_hs | assumption | refine mj_hn2 (by omega) ?_ | refine mj_hn (by omega) ?_)) (by rfl) ?_
        refine mw_k 27 i_Model_move_25 rfl ?_
        refine mw_ld 28 i_Model_move_27 rfl rfl rfl ?_
        refine mw_b 29 i_Model_move_28 rfl ?_
        rw [show (115 : Int32) = nI 115 from rfl, nI_add]
        refine mw_iald 30 (115 + i) i_Model_move_29 rfl (by repeat (first | exact mj_hs2 | exact mj_hs | assumption | refine mj_hn2 (by omega) ?_ | refine mj_hn (by omega) ?_)) rfl (by omega) (by decide) ?_
        refine mw_cv1 33 i_Model_move_30 rfl (by repeat (first | exact mj_hs2 | exact mj_hs | assumption | refine mj_hn2 (by omega) ?_ | refine mj_hn (by omega) ?_)) (sp_Model_mayStand hO hs1 hv2 hd ?_) rfl rfl (Nat.le_of_ble_eq_true rfl) (Nat.le_of_ble_eq_true rfl)
        refine mw_if1 i_Model_move_33 (mj_bI1.mpr hw) ?_
        refine mw_ld 40 i_Model_move_39 rfl rfl rfl ?_
        refine mw_cv0 43 i_Model_move_40 rfl (by repeat (first | exact mj_hs2 | exact mj_hs | assumption | refine mj_hn2 (by omega) ?_ | refine mj_hn (by omega) ?_)) (sp_Model_keep hO hs1 hB hk10 hb (fun f b g1 g2 g3 g4 => ?_)) rfl rfl (Nat.le_of_ble_eq_true rfl) (Nat.le_of_ble_eq_true rfl)
        have gs : f 56 = mj_AI 213 s := (g1 _ (by decide)).trans hs1
        refine mw_ld 44 i_Model_move_43 rfl rfl rfl ?_
        refine mw_get 47 i_Model_move_44 rfl (by repeat (first | exact mj_hs2 | exact mj_hs | assumption | refine mj_hn2 (by omega) ?_ | refine mj_hn (by omega) ?_)) (by rfl) ?_
        refine mw_k 49 i_Model_move_47 rfl ?_
        refine mw_ld 50 i_Model_move_49 rfl rfl rfl ?_
        refine mw_b 51 i_Model_move_50 rfl ?_
        rw [show (101 : Int32) = nI 101 from rfl, nI_add]
        refine mw_iald 52 (101 + i) i_Model_move_51 rfl (by repeat (first | exact mj_hs2 | exact mj_hs | assumption | refine mj_hn2 (by omega) ?_ | refine mj_hn (by omega) ?_)) rfl (by omega) (by decide) ?_
        refine mw_st (ls' := [_, _, _, _]) 53 i_Model_move_52 rfl rfl rfl rfl ?_
        refine mw_ld 54 i_Model_move_53 rfl rfl rfl ?_
        refine mw_get 57 i_Model_move_54 rfl (by repeat (first | exact mj_hs2 | exact mj_hs | assumption | refine mj_hn2 (by omega) ?_ | refine mj_hn (by omega) ?_)) (by rfl) ?_
        refine mw_k 59 i_Model_move_57 rfl ?_
        refine mw_ld 60 i_Model_move_59 rfl rfl rfl ?_
        refine mw_b 61 i_Model_move_60 rfl ?_
        rw [show (101 : Int32) = nI 101 from rfl, nI_add]
        refine mw_ld 62 i_Model_move_61 rfl rfl rfl ?_
        refine mw_iast 63 (101 + i) i_Model_move_62 rfl (by repeat (first | exact mj_hs2 | exact mj_hs | assumption | refine mj_hn2 (by omega) ?_ | refine mj_hn (by omega) ?_)) rfl (by omega) (by decide) ?_
        refine mw_ld 64 i_Model_move_63 rfl rfl rfl ?_
        refine mw_ri i_Model_move_64 rfl rfl ?_
        refine k2 (by simp [hz, hb2, hw]) _ (gw_fr_sub (L := [55, 56, 57]) (by repeat (first | exact gw_fr_sub g1 (by simp) | refine gw_fr_up ?_ (by simp))) (by decide)) (gw_MI_chg (L := [55, 56, 57]) (b := b) (by simp) hM (by repeat (first | exact gw_fr_sub g1 (by simp) | refine gw_fr_up ?_ (by simp))) (by repeat (first | exact mj_hs | assumption | refine mj_hn (by omega) ?_)) mj_hs (by repeat (first | exact mj_hs | assumption | refine mj_hn (by omega) ?_)) g4)
      · skip
        refine mw_ld 1 i_Model_move_0 rfl rfl rfl ?_
        refine mw_ld 2 i_Model_move_1 rfl rfl rfl ?_
        refine mw_cv1 5 i_Model_move_2 rfl (by assumption) (sp_Model_isPost hO hs1 hn14 hp ?_) rfl rfl (Nat.le_of_ble_eq_true rfl) (Nat.le_of_ble_eq_true rfl)
        refine mw_if0 8 i_Model_move_5 rfl (mj_bI1.mpr hz) ?_
        refine mw_ld 9 i_Model_move_8 rfl rfl rfl ?_
        refine mw_ld 10 i_Model_move_9 rfl rfl rfl ?_
        refine mw_cv1 13 i_Model_move_10 rfl (by assumption) (sp_Model_isCell hO hd ?_) rfl rfl (Nat.le_of_ble_eq_true rfl) (Nat.le_of_ble_eq_true rfl)
        refine mw_if1 i_Model_move_13 (mj_bI1.mpr hb2) ?_
        refine mw_ld 20 i_Model_move_19 rfl rfl rfl ?_
        refine mw_ld 21 i_Model_move_20 rfl rfl rfl ?_
        refine mw_ld 22 i_Model_move_21 rfl rfl rfl ?_
        refine mw_get 25 i_Model_move_22 rfl (by assumption) (by rfl) ?_
        refine mw_k 27 i_Model_move_25 rfl ?_
        refine mw_ld 28 i_Model_move_27 rfl rfl rfl ?_
        refine mw_b 29 i_Model_move_28 rfl ?_
        rw [show (115 : Int32) = nI 115 from rfl, nI_add]
        refine mw_iald 30 (115 + i) i_Model_move_29 rfl (by assumption) rfl (by omega) (by decide) ?_
        refine mw_cv1 33 i_Model_move_30 rfl (by assumption) (sp_Model_mayStand hO hs1 hv2 hd ?_) rfl rfl (Nat.le_of_ble_eq_true rfl) (Nat.le_of_ble_eq_true rfl)
        refine mw_if0 36 i_Model_move_33 rfl (fun q => q (mj_bI0.mpr (gw_nt hw))) ?_
        refine mw_k 38 i_Model_move_36 rfl ?_
        refine mw_ri i_Model_move_38 rfl rfl ?_
        rw [if_pos hb2] at k1
        exact k1 (by simp [hw])
    · skip
      refine mw_ld 1 i_Model_move_0 rfl rfl rfl ?_
      refine mw_ld 2 i_Model_move_1 rfl rfl rfl ?_
      refine mw_cv1 5 i_Model_move_2 rfl (by assumption) (sp_Model_isPost hO hs1 hn14 hp ?_) rfl rfl (Nat.le_of_ble_eq_true rfl) (Nat.le_of_ble_eq_true rfl)
      refine mw_if0 8 i_Model_move_5 rfl (mj_bI1.mpr hz) ?_
      refine mw_ld 9 i_Model_move_8 rfl rfl rfl ?_
      refine mw_ld 10 i_Model_move_9 rfl rfl rfl ?_
      refine mw_cv1 13 i_Model_move_10 rfl (by assumption) (sp_Model_isCell hO hd ?_) rfl rfl (Nat.le_of_ble_eq_true rfl) (Nat.le_of_ble_eq_true rfl)
      refine mw_if0 16 i_Model_move_13 rfl (fun q => q (mj_bI0.mpr (gw_nt hb2))) ?_
      refine mw_k 18 i_Model_move_16 rfl ?_
      refine mw_ri i_Model_move_18 rfl rfl ?_
      rw [if_neg hb2] at k1
      exact k1 (by simp [hb2])
  · skip
    refine mw_ld 1 i_Model_move_0 rfl rfl rfl ?_
    refine mw_ld 2 i_Model_move_1 rfl rfl rfl ?_
    refine mw_cv1 5 i_Model_move_2 rfl (by assumption) (sp_Model_isPost hO hs1 hn14 hp ?_) rfl rfl (Nat.le_of_ble_eq_true rfl) (Nat.le_of_ble_eq_true rfl)
    refine mw_if1 i_Model_move_5 (mj_bI0.mpr (gw_nt hz)) ?_
    refine mw_k 18 i_Model_move_16 rfl ?_
    refine mw_ri i_Model_move_18 rfl rfl ?_
    rw [a_move, if_neg hz] at k1
    exact k1 (by simp [gw_okMove, hz])
theorem sp_Model_drop {X : mj_X} {d : Nat} {σ : mj_H} {Q : Value → mj_H → Prop} {w h n : Nat} {s : Nat → Int32} {kp : Nat} {hs : Nat → Nat → Int32} {P : List gw_Row} {sz : Int32} (hM : gw_MI σ.1 w h n s kp hs P sz) (hd : gw_dim w h) (hn14 : n ≤ 14) (hp : s 100 = nI n) (hv : gw_vp w h n s) (hk10 : kp ≤ 10) (k1 : n = 0 → Q (.int gw_NO) σ) (k2 : ∀ n', n = n' + 1 → ∀ f, gw_fr gw_ML σ.1 f → gw_MI f w h n' (upd s 100 (nI n')) (min (kp + 1) 10) (gw_push kp hs s) [] sz → Q (.int (nI n')) (f, σ.2)) : mj_M X (d + 20) y_Model_drop [.ref 55] σ (mj_V Q) := by
  obtain ⟨tf, fu, fe, fi, ma, md, hO, hA, hRr, hSs, htf⟩ := id hM
  obtain ⟨hs1, bf, hB, hb⟩ := id hA
  obtain ⟨⟨wt0, hW⟩, ⟨he0, hH⟩, ⟨fr0, hF⟩, ⟨fa0, hFa⟩, ⟨ct0, hCt⟩, ⟨mc0, hm1⟩, ⟨mb0, hm2⟩, ⟨mp0, hm3⟩, ⟨mw0, hm4⟩⟩ := id hSs
  have hwh := gw_dim_le hd
  refine mw_in (l0 := [some (.ref 55)]) rfl ?_
  cases n with
  | zero =>
    refine mw_ld 1 i_Model_drop_0 rfl rfl rfl ?_
    refine mw_cv1 4 i_Model_drop_1 rfl (by assumption) (sp_Model_posts hO hs1 hp ?_) rfl rfl (Nat.le_of_ble_eq_true rfl) (Nat.le_of_ble_eq_true rfl)
    refine mw_if0 7 i_Model_drop_4 rfl (fun q => q rfl) ?_
    refine mw_k 9 i_Model_drop_7 rfl ?_
    refine mw_ri i_Model_drop_9 rfl rfl ?_
    exact k1 rfl
  | succ n =>
    refine mw_ld 1 i_Model_drop_0 rfl rfl rfl ?_
    refine mw_cv1 4 i_Model_drop_1 rfl (by repeat (first | exact mj_hs2 | exact mj_hs | assumption | refine mj_hn2 (by omega) ?_ | refine mj_hn (by omega) ?_)) (sp_Model_posts hO hs1 hp ?_) rfl rfl (Nat.le_of_ble_eq_true rfl) (Nat.le_of_ble_eq_true rfl)
    refine mw_if1 i_Model_drop_4 (nI_ne0 (by omega) (by omega)) ?_
    refine mw_ld 11 i_Model_drop_10 rfl rfl rfl ?_
    refine mw_cv0 14 i_Model_drop_11 rfl (by repeat (first | exact mj_hs2 | exact mj_hs | assumption | refine mj_hn2 (by omega) ?_ | refine mj_hn (by omega) ?_)) (sp_Model_keep hO hs1 hB hk10 hb (fun f b g1 g2 g3 g4 => ?_)) rfl rfl (Nat.le_of_ble_eq_true rfl) (Nat.le_of_ble_eq_true rfl)
    have gs : f 56 = mj_AI 213 s := (g1 _ (by decide)).trans hs1
    refine mw_ld 15 i_Model_drop_14 rfl rfl rfl ?_
    refine mw_get 18 i_Model_drop_15 rfl (by repeat (first | exact mj_hs2 | exact mj_hs | assumption | refine mj_hn2 (by omega) ?_ | refine mj_hn (by omega) ?_)) (by rfl) ?_
    refine mw_k 20 i_Model_drop_18 rfl ?_
    refine mw_dup2 21 i_Model_drop_20 rfl rfl rfl ?_
    refine mw_iald 22 100 i_Model_drop_21 rfl gs rfl (by decide) (by decide) ?_
    rw [hp]
    refine mw_k 23 i_Model_drop_22 rfl ?_
    refine mw_b 24 i_Model_drop_23 rfl ?_
    rw [nI_pred]
    refine mw_iast 25 100 i_Model_drop_24 rfl (by repeat (first | exact mj_hs2 | exact mj_hs | assumption | refine mj_hn2 (by omega) ?_ | refine mj_hn (by omega) ?_)) rfl (by decide) (by decide) ?_
    refine mw_ld 26 i_Model_drop_25 rfl rfl rfl ?_
    refine mw_cv1 29 i_Model_drop_26 rfl (by repeat (first | exact mj_hs2 | exact mj_hs | assumption | refine mj_hn2 (by omega) ?_ | refine mj_hn (by omega) ?_)) (sp_Model_posts (σ := (_, σ.2)) (s := upd s 100 (nI n)) (by repeat (first | exact mj_hs2 | exact mj_hs | assumption | refine mj_hn2 (by omega) ?_ | refine mj_hn (by omega) ?_)) (by repeat (first | exact mj_hs2 | exact mj_hs | assumption | refine mj_hn2 (by omega) ?_ | refine mj_hn (by omega) ?_)) pk_us ?_) rfl rfl (Nat.le_of_ble_eq_true rfl) (Nat.le_of_ble_eq_true rfl)
    refine mw_ri i_Model_drop_29 rfl rfl ?_
    refine k2 n rfl _ (gw_fr_sub (L := [55, 56, 57]) (by repeat (first | exact gw_fr_sub g1 (by simp) | refine gw_fr_up ?_ (by simp))) (by decide)) (gw_MI_chg (L := [55, 56, 57]) (b := b) (by simp) hM (by repeat (first | exact gw_fr_sub g1 (by simp) | refine gw_fr_up ?_ (by simp))) (by repeat (first | exact mj_hs | assumption | refine mj_hn (by omega) ?_)) mj_hs (by repeat (first | exact mj_hs | assumption | refine mj_hn (by omega) ?_)) g4)
theorem sp_Model_about {X : mj_X} {d : Nat} {σ : mj_H} {Q : Value → mj_H → Prop} {w h n : Nat} {s : Nat → Int32} {kp : Nat} {hs : Nat → Nat → Int32} {P : List gw_Row} {sz : Int32} (hM : gw_MI σ.1 w h n s kp hs P sz) (hd : gw_dim w h) (hn14 : n ≤ 14) (hp : s 100 = nI n) (hv : gw_vp w h n s) {z t : Int32} (k : Q (.int (a_about n s z t)) σ) : mj_M X (d + 20) y_Model_about [.ref 55, .int z, .int t] σ (mj_V Q) := by
  obtain ⟨tf, fu, fe, fi, ma, md, hO, hA, hRr, hSs, htf⟩ := id hM
  obtain ⟨hs1, bf, hB, hb⟩ := id hA
  obtain ⟨⟨wt0, hW⟩, ⟨he0, hH⟩, ⟨fr0, hF⟩, ⟨fa0, hFa⟩, ⟨ct0, hCt⟩, ⟨mc0, hm1⟩, ⟨mb0, hm2⟩, ⟨mp0, hm3⟩, ⟨mw0, hm4⟩⟩ := id hSs
  have hwh := gw_dim_le hd
  refine mw_in (l0 := [some (.ref 55), some (.int z), some (.int t), none]) rfl ?_
  by_cases hz : gw_isP n z = true
  · skip
    obtain ⟨i, hi, rfl⟩ := gw_isP_of hz
    rw [a_about, if_pos hz, gw_tn (by omega)] at k
    by_cases ht : gw_in t 0 5 = true
    · skip
      refine mw_ld 1 i_Model_about_0 rfl rfl rfl ?_
      refine mw_ld 2 i_Model_about_1 rfl rfl rfl ?_
      refine mw_cv1 5 i_Model_about_2 rfl (by assumption) (sp_Model_isPost hO hs1 hn14 hp ?_) rfl rfl (Nat.le_of_ble_eq_true rfl) (Nat.le_of_ble_eq_true rfl)
      refine mw_if0 8 i_Model_about_5 rfl (mj_bI1.mpr hz) ?_
      refine mw_ld 9 i_Model_about_8 rfl rfl rfl ?_
      refine mw_k 10 i_Model_about_9 rfl ?_
      refine mw_k 11 i_Model_about_10 rfl ?_
      refine mw_cs1 14 i_Model_about_11 rfl (sp_Model_isIn ?_) rfl rfl (Nat.le_of_ble_eq_true rfl) (Nat.le_of_ble_eq_true rfl)
      refine mw_if1 i_Model_about_14 (mj_bI1.mpr ht) ?_
      refine mw_ld 21 i_Model_about_20 rfl rfl rfl ?_
      refine mw_get 24 i_Model_about_21 rfl (by assumption) (by rfl) ?_
      refine mw_k 26 i_Model_about_24 rfl ?_
      refine mw_ld 27 i_Model_about_26 rfl rfl rfl ?_
      refine mw_b 28 i_Model_about_27 rfl ?_
      rw [show (115 : Int32) = nI 115 from rfl, nI_add]
      refine mw_iald 29 (115 + i) i_Model_about_28 rfl (by assumption) rfl (by omega) (by decide) ?_
      refine mw_st (ls' := [_, _, _, _]) 30 i_Model_about_29 rfl rfl rfl rfl ?_
      refine mw_ld 31 i_Model_about_30 rfl rfl rfl ?_
      by_cases w0 : t = 0
      · subst w0
        refine mw_sw i_Model_about_31_0 ?_
        refine mw_ld 65 i_Model_about_64 rfl rfl rfl ?_
        refine mw_get 68 i_Model_about_65 rfl (by assumption) (by rfl) ?_
        refine mw_k 70 i_Model_about_68 rfl ?_
        refine mw_ld 71 i_Model_about_70 rfl rfl rfl ?_
        refine mw_b 72 i_Model_about_71 rfl ?_
        rw [show (101 : Int32) = nI 101 from rfl, nI_add]
        refine mw_iald 73 (101 + i) i_Model_about_72 rfl (by assumption) rfl (by omega) (by decide) ?_
        refine mw_ri i_Model_about_73 rfl rfl ?_
        rw [if_pos rfl] at k
        exact k
      by_cases w1 : t = 1
      · subst w1
        refine mw_sw i_Model_about_31_1 ?_
        refine mw_ld 75 i_Model_about_74 rfl rfl rfl ?_
        refine mw_ri i_Model_about_75 rfl rfl ?_
        rw [if_neg (by decide), if_pos rfl] at k
        exact k
      by_cases w2 : t = 2
      · subst w2
        refine mw_sw i_Model_about_31_2 ?_
        by_cases hq : gw_wedge (s (115 + i)) = true
        · skip
          refine mw_ld 77 i_Model_about_76 rfl rfl rfl ?_
          refine mw_cs1 80 i_Model_about_77 rfl (sp_Model_isWedge ?_) rfl rfl (Nat.le_of_ble_eq_true rfl) (Nat.le_of_ble_eq_true rfl)
          refine mw_if0 83 i_Model_about_80 rfl (mj_bI1.mpr hq) ?_
          refine mw_ld 84 i_Model_about_83 rfl rfl rfl ?_
          refine mw_get 87 i_Model_about_84 rfl (by assumption) (by rfl) ?_
          refine mw_k 90 i_Model_about_87 rfl ?_
          refine mw_ld 91 i_Model_about_90 rfl rfl rfl ?_
          refine mw_b 92 i_Model_about_91 rfl ?_
          rw [show (129 : Int32) = nI 129 from rfl, nI_add]
          refine mw_iald 93 (129 + i) i_Model_about_92 rfl (by assumption) rfl (by omega) (by decide) ?_
          refine mw_ld 94 i_Model_about_93 rfl rfl rfl ?_
          refine mw_get 97 i_Model_about_94 rfl (by assumption) (by rfl) ?_
          refine mw_k 100 i_Model_about_97 rfl ?_
          refine mw_ld 101 i_Model_about_100 rfl rfl rfl ?_
          refine mw_b 102 i_Model_about_101 rfl ?_
          rw [show (143 : Int32) = nI 143 from rfl, nI_add]
          refine mw_iald 103 (143 + i) i_Model_about_102 rfl (by assumption) rfl (by omega) (by decide) ?_
          refine mw_cs1 106 i_Model_about_103 rfl (sp_Model_coded ?_) rfl rfl (Nat.le_of_ble_eq_true rfl) (Nat.le_of_ble_eq_true rfl)
          refine mw_go i_Model_about_106 ?_
          refine mw_ri i_Model_about_111 rfl rfl ?_
          rw [if_neg (by decide), if_neg (by decide), if_pos rfl] at k
          have e : gw_pv s i 2 = _ := if_pos hq
          rw [e] at k
          exact k
        · skip
          refine mw_ld 77 i_Model_about_76 rfl rfl rfl ?_
          refine mw_cs1 80 i_Model_about_77 rfl (sp_Model_isWedge ?_) rfl rfl (Nat.le_of_ble_eq_true rfl) (Nat.le_of_ble_eq_true rfl)
          refine mw_if1 i_Model_about_80 (mj_bI0.mpr (gw_nt hq)) ?_
          refine mw_k 111 i_Model_about_109 rfl ?_
          refine mw_ri i_Model_about_111 rfl rfl ?_
          rw [if_neg (by decide), if_neg (by decide), if_pos rfl] at k
          have e : gw_pv s i 2 = _ := if_neg hq
          rw [e] at k
          exact k
      by_cases w3 : t = 3
      · subst w3
        refine mw_sw i_Model_about_31_3 ?_
        by_cases hq : gw_wedge (s (115 + i)) = true
        · skip
          refine mw_ld 113 i_Model_about_112 rfl rfl rfl ?_
          refine mw_cs1 116 i_Model_about_113 rfl (sp_Model_isWedge ?_) rfl rfl (Nat.le_of_ble_eq_true rfl) (Nat.le_of_ble_eq_true rfl)
          refine mw_if0 119 i_Model_about_116 rfl (mj_bI1.mpr hq) ?_
          refine mw_ld 120 i_Model_about_119 rfl rfl rfl ?_
          refine mw_get 123 i_Model_about_120 rfl (by assumption) (by rfl) ?_
          refine mw_k 126 i_Model_about_123 rfl ?_
          refine mw_ld 127 i_Model_about_126 rfl rfl rfl ?_
          refine mw_b 128 i_Model_about_127 rfl ?_
          rw [show (157 : Int32) = nI 157 from rfl, nI_add]
          refine mw_iald 129 (157 + i) i_Model_about_128 rfl (by assumption) rfl (by omega) (by decide) ?_
          refine mw_ld 130 i_Model_about_129 rfl rfl rfl ?_
          refine mw_get 133 i_Model_about_130 rfl (by assumption) (by rfl) ?_
          refine mw_k 136 i_Model_about_133 rfl ?_
          refine mw_ld 137 i_Model_about_136 rfl rfl rfl ?_
          refine mw_b 138 i_Model_about_137 rfl ?_
          rw [show (171 : Int32) = nI 171 from rfl, nI_add]
          refine mw_iald 139 (171 + i) i_Model_about_138 rfl (by assumption) rfl (by omega) (by decide) ?_
          refine mw_cs1 142 i_Model_about_139 rfl (sp_Model_coded ?_) rfl rfl (Nat.le_of_ble_eq_true rfl) (Nat.le_of_ble_eq_true rfl)
          refine mw_go i_Model_about_142 ?_
          refine mw_ri i_Model_about_147 rfl rfl ?_
          rw [if_neg (by decide), if_neg (by decide), if_neg (by decide), if_pos rfl] at k
          have e : gw_pv s i 3 = _ := if_pos hq
          rw [e] at k
          exact k
        · skip
          refine mw_ld 113 i_Model_about_112 rfl rfl rfl ?_
          refine mw_cs1 116 i_Model_about_113 rfl (sp_Model_isWedge ?_) rfl rfl (Nat.le_of_ble_eq_true rfl) (Nat.le_of_ble_eq_true rfl)
          refine mw_if1 i_Model_about_116 (mj_bI0.mpr (gw_nt hq)) ?_
          refine mw_k 147 i_Model_about_145 rfl ?_
          refine mw_ri i_Model_about_147 rfl rfl ?_
          rw [if_neg (by decide), if_neg (by decide), if_neg (by decide), if_pos rfl] at k
          have e : gw_pv s i 3 = _ := if_neg hq
          rw [e] at k
          exact k
      by_cases w4 : t = 4
      · subst w4
        refine mw_sw i_Model_about_31_4 ?_
        by_cases hq : s (115 + i) = 4
        · skip
          refine mw_ld 149 i_Model_about_148 rfl rfl rfl ?_
          refine mw_k 150 i_Model_about_149 rfl ?_
          refine mw_ic0 153 i_Model_about_150 rfl (fun q => q hq) ?_
          refine mw_ld 154 i_Model_about_153 rfl rfl rfl ?_
          refine mw_get 157 i_Model_about_154 rfl (by assumption) (by rfl) ?_
          refine mw_k 160 i_Model_about_157 rfl ?_
          refine mw_ld 161 i_Model_about_160 rfl rfl rfl ?_
          refine mw_b 162 i_Model_about_161 rfl ?_
          rw [show (185 : Int32) = nI 185 from rfl, nI_add]
          refine mw_iald 163 (185 + i) i_Model_about_162 rfl (by assumption) rfl (by omega) (by decide) ?_
          refine mw_go i_Model_about_163 ?_
          refine mw_ri i_Model_about_168 rfl rfl ?_
          rw [if_neg (by decide), if_neg (by decide), if_neg (by decide), if_neg (by decide), if_pos rfl] at k
          have e : gw_pv s i 4 = _ := if_pos hq
          rw [e] at k
          exact k
        · skip
          refine mw_ld 149 i_Model_about_148 rfl rfl rfl ?_
          refine mw_k 150 i_Model_about_149 rfl ?_
          refine mw_ic1 i_Model_about_150 hq ?_
          refine mw_k 168 i_Model_about_166 rfl ?_
          refine mw_ri i_Model_about_168 rfl rfl ?_
          rw [if_neg (by decide), if_neg (by decide), if_neg (by decide), if_neg (by decide), if_pos rfl] at k
          have e : gw_pv s i 4 = _ := if_neg hq
          rw [e] at k
          exact k
      refine mw_sw (i_Model_about_31_o (by have q0 := gw_ne_lit (k := 0) (by decide) w0; have q1 := gw_ne_lit (k := 1) (by decide) w1; have q2 := gw_ne_lit (k := 2) (by decide) w2; have q3 := gw_ne_lit (k := 3) (by decide) w3; have q4 := gw_ne_lit (k := 4) (by decide) w4; omega)) ?_
      have w5 : t = 5 := by
        have q0 := gw_ne_lit (k := 0) (by decide) w0; have q1 := gw_ne_lit (k := 1) (by decide) w1; have q2 := gw_ne_lit (k := 2) (by decide) w2; have q3 := gw_ne_lit (k := 3) (by decide) w3; have q4 := gw_ne_lit (k := 4) (by decide) w4
        have q5 := gw_in_iff.mp ht
        have p5 : (5 : Int32).toInt = 5 := by decide
        rw [mj_lit0, p5] at q5
        rw [mj_eq, p5]; omega
      by_cases hq : s (115 + i) = 3
      · skip
        refine mw_ld 170 i_Model_about_169 rfl rfl rfl ?_
        refine mw_k 171 i_Model_about_170 rfl ?_
        refine mw_ic0 174 i_Model_about_171 rfl (fun q => q hq) ?_
        refine mw_ld 175 i_Model_about_174 rfl rfl rfl ?_
        refine mw_get 178 i_Model_about_175 rfl (by assumption) (by rfl) ?_
        refine mw_k 181 i_Model_about_178 rfl ?_
        refine mw_ld 182 i_Model_about_181 rfl rfl rfl ?_
        refine mw_b 183 i_Model_about_182 rfl ?_
        rw [show (199 : Int32) = nI 199 from rfl, nI_add]
        refine mw_iald 184 (199 + i) i_Model_about_183 rfl (by assumption) rfl (by omega) (by decide) ?_
        refine mw_go i_Model_about_184 ?_
        refine mw_ri i_Model_about_189 rfl rfl ?_
        rw [if_neg w0, if_neg w1, if_neg w2, if_neg w3, if_neg w4, if_pos w5] at k
        have e : gw_pv s i 5 = _ := if_pos hq
        rw [e] at k
        exact k
      · skip
        refine mw_ld 170 i_Model_about_169 rfl rfl rfl ?_
        refine mw_k 171 i_Model_about_170 rfl ?_
        refine mw_ic1 i_Model_about_171 hq ?_
        refine mw_k 189 i_Model_about_187 rfl ?_
        refine mw_ri i_Model_about_189 rfl rfl ?_
        rw [if_neg w0, if_neg w1, if_neg w2, if_neg w3, if_neg w4, if_pos w5] at k
        have e : gw_pv s i 5 = _ := if_neg hq
        rw [e] at k
        exact k
    · skip
      have wn : ∀ j : Nat, j ≤ 5 → ¬ t = nI j := fun j hj q => ht (by
        rw [q, gw_in_iff, mj_nI j (by omega)]
        have p5 : (5 : Int32).toInt = 5 := by decide
        rw [mj_lit0, p5]; omega)
      refine mw_ld 1 i_Model_about_0 rfl rfl rfl ?_
      refine mw_ld 2 i_Model_about_1 rfl rfl rfl ?_
      refine mw_cv1 5 i_Model_about_2 rfl (by assumption) (sp_Model_isPost hO hs1 hn14 hp ?_) rfl rfl (Nat.le_of_ble_eq_true rfl) (Nat.le_of_ble_eq_true rfl)
      refine mw_if0 8 i_Model_about_5 rfl (mj_bI1.mpr hz) ?_
      refine mw_ld 9 i_Model_about_8 rfl rfl rfl ?_
      refine mw_k 10 i_Model_about_9 rfl ?_
      refine mw_k 11 i_Model_about_10 rfl ?_
      refine mw_cs1 14 i_Model_about_11 rfl (sp_Model_isIn ?_) rfl rfl (Nat.le_of_ble_eq_true rfl) (Nat.le_of_ble_eq_true rfl)
      refine mw_if0 17 i_Model_about_14 rfl (fun q => q (mj_bI0.mpr (gw_nt ht))) ?_
      refine mw_k 19 i_Model_about_17 rfl ?_
      refine mw_ri i_Model_about_19 rfl rfl ?_
      rw [if_neg (show ¬ t = 0 from wn 0 (by decide)), if_neg (show ¬ t = 1 from wn 1 (by decide)), if_neg (show ¬ t = 2 from wn 2 (by decide)), if_neg (show ¬ t = 3 from wn 3 (by decide)), if_neg (show ¬ t = 4 from wn 4 (by decide)), if_neg (show ¬ t = 5 from wn 5 (by decide))] at k
      exact k
  · skip
    refine mw_ld 1 i_Model_about_0 rfl rfl rfl ?_
    refine mw_ld 2 i_Model_about_1 rfl rfl rfl ?_
    refine mw_cv1 5 i_Model_about_2 rfl (by assumption) (sp_Model_isPost hO hs1 hn14 hp ?_) rfl rfl (Nat.le_of_ble_eq_true rfl) (Nat.le_of_ble_eq_true rfl)
    refine mw_if1 i_Model_about_5 (mj_bI0.mpr (gw_nt hz)) ?_
    refine mw_k 19 i_Model_about_17 rfl ?_
    refine mw_ri i_Model_about_19 rfl rfl ?_
    rw [a_about, if_neg hz] at k
    exact k
theorem sp_Model_isOf {X : mj_X} {d : Nat} {σ : mj_H} {Q : Value → mj_H → Prop} {w h n : Nat} {s : Nat → Int32} {kp : Nat} {hs : Nat → Nat → Int32} {P : List gw_Row} {sz : Int32} (hM : gw_MI σ.1 w h n s kp hs P sz) (hd : gw_dim w h) (hn14 : n ≤ 14) (hp : s 100 = nI n) (hv : gw_vp w h n s) {z t : Int32} (k : Q (.int (a_isOf n s z t)) σ) : mj_M X (d + 20) y_Model_isOf [.ref 55, .int z, .int t] σ (mj_V Q) := by
  obtain ⟨tf, fu, fe, fi, ma, md, hO, hA, hRr, hSs, htf⟩ := id hM
  obtain ⟨hs1, bf, hB, hb⟩ := id hA
  obtain ⟨⟨wt0, hW⟩, ⟨he0, hH⟩, ⟨fr0, hF⟩, ⟨fa0, hFa⟩, ⟨ct0, hCt⟩, ⟨mc0, hm1⟩, ⟨mb0, hm2⟩, ⟨mp0, hm3⟩, ⟨mw0, hm4⟩⟩ := id hSs
  have hwh := gw_dim_le hd
  refine mw_in (l0 := [some (.ref 55), some (.int z), some (.int t), none, none]) rfl ?_
  by_cases hz : gw_isP n z = true
  · skip
    obtain ⟨i, hi, rfl⟩ := gw_isP_of hz
    rw [a_isOf, if_pos hz, gw_tn (by omega)] at k
    obtain ⟨q5, hq5, eq5⟩ := gw_kind_of (hv i hi).2.1
    rw [eq5] at k
    by_cases ht0 : gw_in t 0 4 = true
    · skip
      have ht : gw_kind t = true := by rw [← gw_in_kind]; exact ht0
      rw [if_pos ht] at k
      obtain ⟨j5, hj5, rfl⟩ := gw_kind_of ht
      clear hM hA hSs hRr hb htf
      refine mw_ld 1 i_Model_isOf_0 rfl rfl rfl ?_
      refine mw_ld 2 i_Model_isOf_1 rfl rfl rfl ?_
      refine mw_cv1 5 i_Model_isOf_2 rfl (by assumption) (sp_Model_isPost hO hs1 hn14 hp ?_) rfl rfl (Nat.le_of_ble_eq_true rfl) (Nat.le_of_ble_eq_true rfl)
      refine mw_if0 8 i_Model_isOf_5 rfl (mj_bI1.mpr hz) ?_
      refine mw_ld 9 i_Model_isOf_8 rfl rfl rfl ?_
      refine mw_k 10 i_Model_isOf_9 rfl ?_
      refine mw_k 11 i_Model_isOf_10 rfl ?_
      refine mw_cs1 14 i_Model_isOf_11 rfl (sp_Model_isIn ?_) rfl rfl (Nat.le_of_ble_eq_true rfl) (Nat.le_of_ble_eq_true rfl)
      refine mw_if1 i_Model_isOf_14 (mj_bI1.mpr ht0) ?_
      refine mw_ld 21 i_Model_isOf_20 rfl rfl rfl ?_
      refine mw_get 24 i_Model_isOf_21 rfl (by assumption) (by rfl) ?_
      refine mw_k 26 i_Model_isOf_24 rfl ?_
      refine mw_ld 27 i_Model_isOf_26 rfl rfl rfl ?_
      refine mw_b 28 i_Model_isOf_27 rfl ?_
      rw [show (115 : Int32) = nI 115 from rfl, nI_add]
      refine mw_iald 29 (115 + i) i_Model_isOf_28 rfl hs1 rfl (by omega) (by decide) ?_
      rw [eq5]
      refine mw_st (ls' := [_, _, _, _, _]) 30 i_Model_isOf_29 rfl rfl rfl rfl ?_
      refine mw_ld 31 i_Model_isOf_30 rfl rfl rfl ?_
      refine mw_if 34 i_Model_isOf_31 rfl (fun h31 => ?_) (fun h31 => ?_)
      · refine mw_k 64 i_Model_isOf_63 rfl ?_
        refine mw_go i_Model_isOf_64 ?_
        refine mw_st (ls' := [_, _, _, _, _]) 70 i_Model_isOf_68 rfl rfl rfl rfl ?_
        refine mw_ld 72 i_Model_isOf_70 rfl rfl rfl ?_
        refine mw_if0 75 i_Model_isOf_72 rfl (by decide) ?_
        refine mw_k 76 i_Model_isOf_75 rfl ?_
        refine mw_go i_Model_isOf_76 ?_
        refine mw_ri i_Model_isOf_80 rfl rfl ?_
        try simp only [mj_bI0, mj_bI1, Classical.not_not, Bool.not_eq_true, Bool.not_eq_false] at *
        first
        | exact absurd (h41.symm.trans h53) (by decide)
        | exact mj_q1 (by rw [gw_isOf_all _ hq5 _ hj5]; simp [*]) k
        | exact mj_q0 (by rw [gw_isOf_all _ hq5 _ hj5]; simp_all) k
      · refine mw_ld 35 i_Model_isOf_34 rfl rfl rfl ?_
        refine mw_ld 36 i_Model_isOf_35 rfl rfl rfl ?_
        refine mw_ic 39 i_Model_isOf_36 rfl (fun h36 => ?_) (fun h36 => ?_)
        · refine mw_k 64 i_Model_isOf_63 rfl ?_
          refine mw_go i_Model_isOf_64 ?_
          refine mw_st (ls' := [_, _, _, _, _]) 70 i_Model_isOf_68 rfl rfl rfl rfl ?_
          refine mw_ld 72 i_Model_isOf_70 rfl rfl rfl ?_
          refine mw_if0 75 i_Model_isOf_72 rfl (by decide) ?_
          refine mw_k 76 i_Model_isOf_75 rfl ?_
          refine mw_go i_Model_isOf_76 ?_
          refine mw_ri i_Model_isOf_80 rfl rfl ?_
          try simp only [mj_bI0, mj_bI1, Classical.not_not, Bool.not_eq_true, Bool.not_eq_false] at *
          first
          | exact absurd (h41.symm.trans h53) (by decide)
          | exact mj_q1 (by rw [gw_isOf_all _ hq5 _ hj5]; simp [*]) k
          | exact mj_q0 (by rw [gw_isOf_all _ hq5 _ hj5]; simp_all) k
        · refine mw_ld 40 i_Model_isOf_39 rfl rfl rfl ?_
          refine mw_k 41 i_Model_isOf_40 rfl ?_
          refine mw_ic 44 i_Model_isOf_41 rfl (fun h41 => ?_) (fun h41 => ?_)
          · refine mw_ld 52 i_Model_isOf_51 rfl rfl rfl ?_
            refine mw_k 53 i_Model_isOf_52 rfl ?_
            refine mw_ic 56 i_Model_isOf_53 rfl (fun h53 => ?_) (fun h53 => ?_)
            · refine mw_k 68 i_Model_isOf_67 rfl ?_
              refine mw_st (ls' := [_, _, _, _, _]) 70 i_Model_isOf_68 rfl rfl rfl rfl ?_
              refine mw_ld 72 i_Model_isOf_70 rfl rfl rfl ?_
              refine mw_if1 i_Model_isOf_72 (by decide) ?_
              refine mw_k 80 i_Model_isOf_79 rfl ?_
              refine mw_ri i_Model_isOf_80 rfl rfl ?_
              try simp only [mj_bI0, mj_bI1, Classical.not_not, Bool.not_eq_true, Bool.not_eq_false] at *
              first
              | exact absurd (h41.symm.trans h53) (by decide)
              | exact mj_q1 (by rw [gw_isOf_all _ hq5 _ hj5]; simp [*]) k
              | exact mj_q0 (by rw [gw_isOf_all _ hq5 _ hj5]; simp_all) k
            · refine mw_ld 57 i_Model_isOf_56 rfl rfl rfl ?_
              refine mw_cs1 60 i_Model_isOf_57 rfl (sp_Model_isDoor ?_) rfl rfl (Nat.le_of_ble_eq_true rfl) (Nat.le_of_ble_eq_true rfl)
              refine mw_if 63 i_Model_isOf_60 rfl (fun h60 => ?_) (fun h60 => ?_)
              · refine mw_k 68 i_Model_isOf_67 rfl ?_
                refine mw_st (ls' := [_, _, _, _, _]) 70 i_Model_isOf_68 rfl rfl rfl rfl ?_
                refine mw_ld 72 i_Model_isOf_70 rfl rfl rfl ?_
                refine mw_if1 i_Model_isOf_72 (by decide) ?_
                refine mw_k 80 i_Model_isOf_79 rfl ?_
                refine mw_ri i_Model_isOf_80 rfl rfl ?_
                try simp only [mj_bI0, mj_bI1, Classical.not_not, Bool.not_eq_true, Bool.not_eq_false] at *
                first
                | exact absurd (h41.symm.trans h53) (by decide)
                | exact mj_q1 (by rw [gw_isOf_all _ hq5 _ hj5]; simp [*]) k
                | exact mj_q0 (by rw [gw_isOf_all _ hq5 _ hj5]; simp_all) k
              · refine mw_k 64 i_Model_isOf_63 rfl ?_
                refine mw_go i_Model_isOf_64 ?_
                refine mw_st (ls' := [_, _, _, _, _]) 70 i_Model_isOf_68 rfl rfl rfl rfl ?_
                refine mw_ld 72 i_Model_isOf_70 rfl rfl rfl ?_
                refine mw_if0 75 i_Model_isOf_72 rfl (by decide) ?_
                refine mw_k 76 i_Model_isOf_75 rfl ?_
                refine mw_go i_Model_isOf_76 ?_
                refine mw_ri i_Model_isOf_80 rfl rfl ?_
                try simp only [mj_bI0, mj_bI1, Classical.not_not, Bool.not_eq_true, Bool.not_eq_false] at *
                first
                | exact absurd (h41.symm.trans h53) (by decide)
                | exact mj_q1 (by rw [gw_isOf_all _ hq5 _ hj5]; simp [*]) k
                | exact mj_q0 (by rw [gw_isOf_all _ hq5 _ hj5]; simp_all) k
          · refine mw_ld 45 i_Model_isOf_44 rfl rfl rfl ?_
            refine mw_cs1 48 i_Model_isOf_45 rfl (sp_Model_isWedge ?_) rfl rfl (Nat.le_of_ble_eq_true rfl) (Nat.le_of_ble_eq_true rfl)
            refine mw_if 51 i_Model_isOf_48 rfl (fun h48 => ?_) (fun h48 => ?_)
            · refine mw_k 64 i_Model_isOf_63 rfl ?_
              refine mw_go i_Model_isOf_64 ?_
              refine mw_st (ls' := [_, _, _, _, _]) 70 i_Model_isOf_68 rfl rfl rfl rfl ?_
              refine mw_ld 72 i_Model_isOf_70 rfl rfl rfl ?_
              refine mw_if0 75 i_Model_isOf_72 rfl (by decide) ?_
              refine mw_k 76 i_Model_isOf_75 rfl ?_
              refine mw_go i_Model_isOf_76 ?_
              refine mw_ri i_Model_isOf_80 rfl rfl ?_
              try simp only [mj_bI0, mj_bI1, Classical.not_not, Bool.not_eq_true, Bool.not_eq_false] at *
              first
              | exact absurd (h41.symm.trans h53) (by decide)
              | exact mj_q1 (by rw [gw_isOf_all _ hq5 _ hj5]; simp [*]) k
              | exact mj_q0 (by rw [gw_isOf_all _ hq5 _ hj5]; simp_all) k
            · refine mw_ld 52 i_Model_isOf_51 rfl rfl rfl ?_
              refine mw_k 53 i_Model_isOf_52 rfl ?_
              refine mw_ic 56 i_Model_isOf_53 rfl (fun h53 => ?_) (fun h53 => ?_)
              · refine mw_k 68 i_Model_isOf_67 rfl ?_
                refine mw_st (ls' := [_, _, _, _, _]) 70 i_Model_isOf_68 rfl rfl rfl rfl ?_
                refine mw_ld 72 i_Model_isOf_70 rfl rfl rfl ?_
                refine mw_if1 i_Model_isOf_72 (by decide) ?_
                refine mw_k 80 i_Model_isOf_79 rfl ?_
                refine mw_ri i_Model_isOf_80 rfl rfl ?_
                try simp only [mj_bI0, mj_bI1, Classical.not_not, Bool.not_eq_true, Bool.not_eq_false] at *
                first
                | exact absurd (h41.symm.trans h53) (by decide)
                | exact mj_q1 (by rw [gw_isOf_all _ hq5 _ hj5]; simp [*]) k
                | exact mj_q0 (by rw [gw_isOf_all _ hq5 _ hj5]; simp_all) k
              · refine mw_ld 57 i_Model_isOf_56 rfl rfl rfl ?_
                refine mw_cs1 60 i_Model_isOf_57 rfl (sp_Model_isDoor ?_) rfl rfl (Nat.le_of_ble_eq_true rfl) (Nat.le_of_ble_eq_true rfl)
                refine mw_if 63 i_Model_isOf_60 rfl (fun h60 => ?_) (fun h60 => ?_)
                · refine mw_k 68 i_Model_isOf_67 rfl ?_
                  refine mw_st (ls' := [_, _, _, _, _]) 70 i_Model_isOf_68 rfl rfl rfl rfl ?_
                  refine mw_ld 72 i_Model_isOf_70 rfl rfl rfl ?_
                  refine mw_if1 i_Model_isOf_72 (by decide) ?_
                  refine mw_k 80 i_Model_isOf_79 rfl ?_
                  refine mw_ri i_Model_isOf_80 rfl rfl ?_
                  try simp only [mj_bI0, mj_bI1, Classical.not_not, Bool.not_eq_true, Bool.not_eq_false] at *
                  first
                  | exact absurd (h41.symm.trans h53) (by decide)
                  | exact mj_q1 (by rw [gw_isOf_all _ hq5 _ hj5]; simp [*]) k
                  | exact mj_q0 (by rw [gw_isOf_all _ hq5 _ hj5]; simp_all) k
                · refine mw_k 64 i_Model_isOf_63 rfl ?_
                  refine mw_go i_Model_isOf_64 ?_
                  refine mw_st (ls' := [_, _, _, _, _]) 70 i_Model_isOf_68 rfl rfl rfl rfl ?_
                  refine mw_ld 72 i_Model_isOf_70 rfl rfl rfl ?_
                  refine mw_if0 75 i_Model_isOf_72 rfl (by decide) ?_
                  refine mw_k 76 i_Model_isOf_75 rfl ?_
                  refine mw_go i_Model_isOf_76 ?_
                  refine mw_ri i_Model_isOf_80 rfl rfl ?_
                  try simp only [mj_bI0, mj_bI1, Classical.not_not, Bool.not_eq_true, Bool.not_eq_false] at *
                  first
                  | exact absurd (h41.symm.trans h53) (by decide)
                  | exact mj_q1 (by rw [gw_isOf_all _ hq5 _ hj5]; simp [*]) k
                  | exact mj_q0 (by rw [gw_isOf_all _ hq5 _ hj5]; simp_all) k
    · skip
      have ht : ¬ gw_kind t = true := by rw [← gw_in_kind]; exact ht0
      refine mw_ld 1 i_Model_isOf_0 rfl rfl rfl ?_
      refine mw_ld 2 i_Model_isOf_1 rfl rfl rfl ?_
      refine mw_cv1 5 i_Model_isOf_2 rfl (by assumption) (sp_Model_isPost hO hs1 hn14 hp ?_) rfl rfl (Nat.le_of_ble_eq_true rfl) (Nat.le_of_ble_eq_true rfl)
      refine mw_if0 8 i_Model_isOf_5 rfl (mj_bI1.mpr hz) ?_
      refine mw_ld 9 i_Model_isOf_8 rfl rfl rfl ?_
      refine mw_k 10 i_Model_isOf_9 rfl ?_
      refine mw_k 11 i_Model_isOf_10 rfl ?_
      refine mw_cs1 14 i_Model_isOf_11 rfl (sp_Model_isIn ?_) rfl rfl (Nat.le_of_ble_eq_true rfl) (Nat.le_of_ble_eq_true rfl)
      refine mw_if0 17 i_Model_isOf_14 rfl (fun q => q (mj_bI0.mpr (gw_nt ht0))) ?_
      refine mw_k 19 i_Model_isOf_17 rfl ?_
      refine mw_ri i_Model_isOf_19 rfl rfl ?_
      rw [if_neg ht] at k
      exact k
  · skip
    refine mw_ld 1 i_Model_isOf_0 rfl rfl rfl ?_
    refine mw_ld 2 i_Model_isOf_1 rfl rfl rfl ?_
    refine mw_cv1 5 i_Model_isOf_2 rfl (by assumption) (sp_Model_isPost hO hs1 hn14 hp ?_) rfl rfl (Nat.le_of_ble_eq_true rfl) (Nat.le_of_ble_eq_true rfl)
    refine mw_if1 i_Model_isOf_5 (mj_bI0.mpr (gw_nt hz)) ?_
    refine mw_k 19 i_Model_isOf_17 rfl ?_
    refine mw_ri i_Model_isOf_19 rfl rfl ?_
    rw [a_isOf, if_neg hz] at k
    exact k
