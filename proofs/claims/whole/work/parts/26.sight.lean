/-! Room: sight -/
theorem nI_min {a b : Nat} (ha : a < 2147483648) (hb : b < 2147483648) : (if nI b < nI a then nI b else nI a) = nI (min a b) := by
  by_cases h : b < a
  · rw [if_pos ((nI_ltI hb ha).mpr h)]; congr 1; omega
  · rw [if_neg (fun q => h ((nI_ltI hb ha).mp q))]; congr 1; omega
theorem nI_max {a b : Nat} (ha : a < 2147483648) (hb : b < 2147483648) : (if nI a < nI b then nI b else nI a) = nI (max a b) := by
  by_cases h : a < b
  · rw [if_pos ((nI_ltI ha hb).mpr h)]; congr 1; omega
  · rw [if_neg (fun q => h ((nI_ltI ha hb).mp q))]; congr 1; omega
/-- a line passes a cell's inside: dx, dy from the one end to the other, x, y from the one end to the cell -/
def gw_ctI (dx dy x y : Int) : Bool := decide (2 * ((dx * y - dy * x).natAbs : Int) < (dy.natAbs : Int) + (dx.natAbs : Int))
def gw_box (a b c : Nat) : Bool := decide (min a b ≤ c) && decide (c ≤ max a b)
def gw_ct (w a b c : Nat) : Bool := gw_box (a / w) (b / w) (c / w) && gw_box (a % w) (b % w) (c % w) && gw_ctI ((b % w : Nat) - (a % w : Nat)) ((b / w : Nat) - (a / w : Nat)) ((c % w : Nat) - (a % w : Nat)) ((c / w : Nat) - (a / w : Nat))
def gw_si (w h : Nat) (s : Nat → Int32) (a b : Nat) : Bool := (s a == 0) && (s b == 0) && (List.range (w * h)).all fun c => (s c == 0) || !gw_ct w a b c
theorem gw_prod {a b : Int} (ha : -9 ≤ a ∧ a ≤ 9) (hb : -9 ≤ b ∧ b ≤ 9) : -81 ≤ a * b ∧ a * b ≤ 81 := by
  obtain ⟨p, hp⟩ : ∃ p : Nat, a.natAbs = p := ⟨_, rfl⟩
  have h1 : (a * b).natAbs ≤ 9 * 9 := by rw [Int.natAbs_mul]; exact Nat.mul_le_mul (by omega) (by omega)
  omega
theorem gw_cut32 {ra rb ca cb i j : Nat} (h1 : ra ≤ 9) (h2 : rb ≤ 9) (h3 : ca ≤ 9) (h4 : cb ≤ 9) (h5 : i ≤ 9) (h6 : j ≤ 9) :
    ((if 0 ≤ nI rb - nI ra then nI rb - nI ra else 0 - (nI rb - nI ra)) + (if 0 ≤ nI cb - nI ca then nI cb - nI ca else 0 - (nI cb - nI ca)) ≤
      2 * (if 0 ≤ (nI cb - nI ca) * (nI i - nI ra) - (nI rb - nI ra) * (nI j - nI ca) then (nI cb - nI ca) * (nI i - nI ra) - (nI rb - nI ra) * (nI j - nI ca) else 0 - ((nI cb - nI ca) * (nI i - nI ra) - (nI rb - nI ra) * (nI j - nI ca)))) ↔
      gw_ctI ((cb : Nat) - (ca : Nat)) ((rb : Nat) - (ra : Nat)) ((j : Nat) - (ca : Nat)) ((i : Nat) - (ra : Nat)) = false := by
  have p1 := gw_prod (a := (cb : Int) - ca) (b := (i : Int) - ra) (by omega) (by omega)
  have p2 := gw_prod (a := (rb : Int) - ra) (b := (j : Int) - ca) (by omega) (by omega)
  simp only [iI_nI, iI_sub, iI_mul]
  rw [show (2 : Int32) = iI 2 from rfl, iI_abs (by omega), iI_abs (by omega), iI_abs (by omega), iI_add, iI_mul, iI_le (by omega) (by omega)]
  simp only [gw_ctI, decide_eq_false_iff_not, Int.not_lt]
/-- a loop that counts up, from a place on -/
theorem mj_forF {S : Type} (W : Nat → S → Prop) (I : Nat → S → Prop) (a N : Nat) (hx : ∀ s, I N s → W N s) (hs : ∀ i s, a ≤ i → i < N → I i s → (∀ s', I (i + 1) s' → W (i + 1) s') → W i s) : ∀ s, a ≤ N → I a s → W a s := by
  intro s ha hI
  refine mj_for W (fun i s => a ≤ i ∧ I i s) N (fun s h => hx s h.2) (fun i s h1 h2 h3 => hs i s h2.1 h1 h2.2 (fun s' h => h3 s' ⟨by omega, h⟩)) a s ha ⟨Nat.le_refl _, hI⟩
theorem sp_Room_inSight {X : mj_X} {d : Nat} {σ : mj_H} {Q : Value → mj_H → Prop} {r w h n : Nat} {s : Nat → Int32} {a b : Nat} (ha : a < w * h) (hb : b < w * h) (hd : gw_dim w h) (hR : gw_rm σ.1 r w h n s) (k : Q (.int (mj_bI (gw_si w h s a b))) σ) : mj_M X (d + 2) y_Room_inSight [.ref r, .int (nI a), .int (nI b)] σ (mj_V Q) := by
  obtain ⟨wl, ps, c1, c2, c3, c4, c5⟩ := id hR
  have hw1 := hd.1
  have hw2 := hd.2.1
  have hh1 := hd.2.2.1
  have hh2 := hd.2.2.2
  have hwh := gw_dim_le hd
  obtain ⟨ra, era⟩ : ∃ q, q = a / w := ⟨_, rfl⟩
  obtain ⟨ca, eca⟩ : ∃ q, q = a % w := ⟨_, rfl⟩
  obtain ⟨rb, erb⟩ : ∃ q, q = b / w := ⟨_, rfl⟩
  obtain ⟨cb, ecb⟩ : ∃ q, q = b % w := ⟨_, rfl⟩
  have l1 : ra < h := by rw [era]; exact Nat.div_lt_of_lt_mul ha
  have l2 : rb < h := by rw [erb]; exact Nat.div_lt_of_lt_mul hb
  have l3 : ca < w := by rw [eca]; exact Nat.mod_lt _ (by omega)
  have l4 : cb < w := by rw [ecb]; exact Nat.mod_lt _ (by omega)
  have hct : ∀ i j, j < w → gw_ct w a b (i * w + j) = (gw_box ra rb i && gw_box ca cb j && gw_ctI ((cb : Nat) - (ca : Nat)) ((rb : Nat) - (ra : Nat)) ((j : Nat) - (ca : Nat)) ((i : Nat) - (ra : Nat))) := by
    intro i j hj
    have e1 : (i * w + j) / w = i := by rw [Nat.mul_comm, Nat.mul_add_div (by omega), Nat.div_eq_of_lt hj]; rfl
    have e2 : (i * w + j) % w = j := by rw [Nat.mul_comm, Nat.mul_add_mod]; exact Nat.mod_eq_of_lt hj
    rw [gw_ct, e1, e2, ← era, ← eca, ← erb, ← ecb]
  refine mw_in (l0 := [some (.ref r), some (.int (nI a)), some (.int (nI b)), none, none, none, none, none, none, none, none, none, none]) rfl ?_
  refine mw_ld 1 i_Room_inSight_0 rfl rfl rfl ?_
  refine mw_ld 2 i_Room_inSight_1 rfl rfl rfl ?_
  refine mw_cv1 5 i_Room_inSight_2 rfl (by assumption) (sp_Room_isOpen hd hR ?_) rfl rfl (Nat.le_of_ble_eq_true rfl) (Nat.le_of_ble_eq_true rfl)
  refine mw_if 8 i_Room_inSight_5 rfl (fun h5 => ?_) (fun h5 => ?_)
  · refine mw_k 17 i_Room_inSight_16 rfl ?_
    refine mw_ri i_Room_inSight_17 rfl rfl ?_
    refine mj_q0 ?_ k
    simp only [mj_bI0, mj_bI1, gw_op_nI (show a < 2147483648 by omega), gw_op_nI (show b < 2147483648 by omega), Classical.not_not] at *
    simp_all [gw_si]
  · refine mw_ld 9 i_Room_inSight_8 rfl rfl rfl ?_
    refine mw_ld 10 i_Room_inSight_9 rfl rfl rfl ?_
    refine mw_cv1 13 i_Room_inSight_10 rfl (by assumption) (sp_Room_isOpen hd hR ?_) rfl rfl (Nat.le_of_ble_eq_true rfl) (Nat.le_of_ble_eq_true rfl)
    refine mw_if 16 i_Room_inSight_13 rfl (fun h13 => ?_) (fun h13 => ?_)
    · have hsa : s a = 0 := by
        have hop := mj_bI1.mp h5
        rw [gw_op_nI (by omega)] at hop
        simp only [Bool.and_eq_true, beq_iff_eq] at hop
        exact hop.2
      have hsb : s b = 0 := by
        have hop := mj_bI1.mp h13
        rw [gw_op_nI (by omega)] at hop
        simp only [Bool.and_eq_true, beq_iff_eq] at hop
        exact hop.2
      refine mw_ld 19 i_Room_inSight_18 rfl rfl rfl ?_
      refine mw_ld 20 i_Room_inSight_19 rfl rfl rfl ?_
      refine mw_cv1 23 i_Room_inSight_20 rfl (by assumption) (sp_Room_rowOf (by omega) hd hR ?_) rfl rfl (Nat.le_of_ble_eq_true rfl) (Nat.le_of_ble_eq_true rfl)
      rw [← era]
      refine mw_st (ls' := [_, _, _, _, _, _, _, _, _, _, _, _, _]) 24 i_Room_inSight_23 rfl rfl rfl rfl ?_
      refine mw_ld 25 i_Room_inSight_24 rfl rfl rfl ?_
      refine mw_ld 26 i_Room_inSight_25 rfl rfl rfl ?_
      refine mw_cv1 29 i_Room_inSight_26 rfl (by assumption) (sp_Room_columnOf (by omega) hd hR ?_) rfl rfl (Nat.le_of_ble_eq_true rfl) (Nat.le_of_ble_eq_true rfl)
      rw [← eca]
      refine mw_st (ls' := [_, _, _, _, _, _, _, _, _, _, _, _, _]) 31 i_Room_inSight_29 rfl rfl rfl rfl ?_
      refine mw_ld 32 i_Room_inSight_31 rfl rfl rfl ?_
      refine mw_ld 33 i_Room_inSight_32 rfl rfl rfl ?_
      refine mw_cv1 36 i_Room_inSight_33 rfl (by assumption) (sp_Room_rowOf (by omega) hd hR ?_) rfl rfl (Nat.le_of_ble_eq_true rfl) (Nat.le_of_ble_eq_true rfl)
      rw [← erb]
      refine mw_st (ls' := [_, _, _, _, _, _, _, _, _, _, _, _, _]) 38 i_Room_inSight_36 rfl rfl rfl rfl ?_
      refine mw_ld 39 i_Room_inSight_38 rfl rfl rfl ?_
      refine mw_ld 40 i_Room_inSight_39 rfl rfl rfl ?_
      refine mw_cv1 43 i_Room_inSight_40 rfl (by assumption) (sp_Room_columnOf (by omega) hd hR ?_) rfl rfl (Nat.le_of_ble_eq_true rfl) (Nat.le_of_ble_eq_true rfl)
      rw [← ecb]
      refine mw_st (ls' := [_, _, _, _, _, _, _, _, _, _, _, _, _]) 45 i_Room_inSight_43 rfl rfl rfl rfl ?_
      refine mw_ld 47 i_Room_inSight_45 rfl rfl rfl ?_
      refine mw_ld 48 i_Room_inSight_47 rfl rfl rfl ?_
      refine mw_b 49 i_Room_inSight_48 rfl ?_
      refine mw_st (ls' := [_, _, _, _, _, _, _, _, _, _, _, _, _]) 51 i_Room_inSight_49 rfl rfl rfl rfl ?_
      refine mw_ld 53 i_Room_inSight_51 rfl rfl rfl ?_
      refine mw_ld 55 i_Room_inSight_53 rfl rfl rfl ?_
      refine mw_b 56 i_Room_inSight_55 rfl ?_
      refine mw_st (ls' := [_, _, _, _, _, _, _, _, _, _, _, _, _]) 58 i_Room_inSight_56 rfl rfl rfl rfl ?_
      refine mw_ld 60 i_Room_inSight_58 rfl rfl rfl ?_
      refine mw_abs 63 i_Room_inSight_60 rfl (Nat.le_of_ble_eq_true rfl) ?_
      refine mw_ld 65 i_Room_inSight_63 rfl rfl rfl ?_
      refine mw_abs 68 i_Room_inSight_65 rfl (Nat.le_of_ble_eq_true rfl) ?_
      refine mw_b 69 i_Room_inSight_68 rfl ?_
      refine mw_st (ls' := [_, _, _, _, _, _, _, _, _, _, _, _, _]) 71 i_Room_inSight_69 rfl rfl rfl rfl ?_
      refine mw_ld 72 i_Room_inSight_71 rfl rfl rfl ?_
      refine mw_ld 74 i_Room_inSight_72 rfl rfl rfl ?_
      refine mw_max 77 i_Room_inSight_74 rfl (Nat.le_of_ble_eq_true rfl) ?_
      rw [nI_min (by omega) (by omega)]
      refine mw_st (ls' := [_, _, _, _, _, _, _, _, _, _, _, _, _]) 79 i_Room_inSight_77 rfl rfl rfl rfl ?_
      refine mj_forF (S := Option Value × Option Value) (fun i u => mj_Wp X (d + 2) y_Room_inSight 79 [some (.ref r), some (.int (nI a)), some (.int (nI b)), some (.int (nI ra)), some (.int (nI ca)), some (.int (nI rb)), some (.int (nI cb)), some (.int (nI rb - nI ra)), some (.int (nI cb - nI ca)), some (.int ((if 0 ≤ nI rb - nI ra then nI rb - nI ra else 0 - (nI rb - nI ra)) + (if 0 ≤ nI cb - nI ca then nI cb - nI ca else 0 - (nI cb - nI ca)))), some (.int (nI i)), u.1, u.2] [] σ (mj_V Q)) (fun i _ => ∀ x y, x < i → x < h → y < w → gw_ct w a b (x * w + y) = true → s (x * w + y) = 0) (min ra rb) (max ra rb + 1) ?_ ?_ (none, none) (by omega) (fun x y hx hxh hyw hq => by
        rw [hct x y hyw] at hq
        simp only [gw_box, Bool.and_eq_true, decide_eq_true_eq] at hq
        omega)
      · intro u hI
        refine mw_ld 81 i_Room_inSight_79 rfl rfl rfl ?_
        refine mw_ld 82 i_Room_inSight_81 rfl rfl rfl ?_
        refine mw_ld 84 i_Room_inSight_82 rfl rfl rfl ?_
        refine mw_max 87 i_Room_inSight_84 rfl (Nat.le_of_ble_eq_true rfl) ?_
        rw [nI_max (by omega) (by omega)]
        refine mw_ic1 i_Room_inSight_87 (nI_lt (by omega) (by omega)) ?_
        refine mw_k 173 i_Room_inSight_172 rfl ?_
        refine mw_ri i_Room_inSight_173 rfl rfl ?_
        refine mj_q1 ?_ k
        simp only [gw_si, Bool.and_eq_true, List.all_eq_true, List.mem_range, Bool.or_eq_true, beq_iff_eq, Bool.not_eq_true']
        refine ⟨⟨hsa, hsb⟩, fun x hx => ?_⟩
        by_cases hq : gw_ct w a b x = true
        · left
          have e := Nat.div_add_mod x w
          have hxr : x / w < h := Nat.div_lt_of_lt_mul hx
          have hxc : x % w < w := Nat.mod_lt _ (by omega)
          have ex : x = x / w * w + x % w := by rw [Nat.mul_comm]; omega
          have hb1 : x / w < max ra rb + 1 := by
            have hq2 := hq
            simp only [gw_ct, gw_box, Bool.and_eq_true, decide_eq_true_eq] at hq2
            rw [era, erb]; omega
          rw [ex]
          exact hI (x / w) (x % w) hb1 hxr hxc (by rw [← ex]; exact hq)
        · right
          simpa using hq
      · intro i u hil hi hI ih
        have hih : i < h := by omega
        refine mw_ld 81 i_Room_inSight_79 rfl rfl rfl ?_
        refine mw_ld 82 i_Room_inSight_81 rfl rfl rfl ?_
        refine mw_ld 84 i_Room_inSight_82 rfl rfl rfl ?_
        refine mw_max 87 i_Room_inSight_84 rfl (Nat.le_of_ble_eq_true rfl) ?_
        rw [nI_max (by omega) (by omega)]
        refine mw_ic0 90 i_Room_inSight_87 rfl (nI_nlt (by omega) (by omega)) ?_
        refine mw_ld 92 i_Room_inSight_90 rfl rfl rfl ?_
        refine mw_ld 94 i_Room_inSight_92 rfl rfl rfl ?_
        refine mw_max 97 i_Room_inSight_94 rfl (Nat.le_of_ble_eq_true rfl) ?_
        rw [nI_min (by omega) (by omega)]
        refine mw_st (ls' := [_, _, _, _, _, _, _, _, _, _, _, _, _]) 99 i_Room_inSight_97 rfl rfl rfl rfl ?_
        refine mj_forF (S := Option Value) (fun j u => mj_Wp X (d + 2) y_Room_inSight 99 [some (.ref r), some (.int (nI a)), some (.int (nI b)), some (.int (nI ra)), some (.int (nI ca)), some (.int (nI rb)), some (.int (nI cb)), some (.int (nI rb - nI ra)), some (.int (nI cb - nI ca)), some (.int ((if 0 ≤ nI rb - nI ra then nI rb - nI ra else 0 - (nI rb - nI ra)) + (if 0 ≤ nI cb - nI ca then nI cb - nI ca else 0 - (nI cb - nI ca)))), some (.int (nI i)), some (.int (nI j)), u] [] σ (mj_V Q)) (fun j _ => ∀ y, y < j → y < w → gw_ct w a b (i * w + y) = true → s (i * w + y) = 0) (min ca cb) (max ca cb + 1) ?_ ?_ _ (by omega) (fun y hy hyw hq => by
          rw [hct i y hyw] at hq
          simp only [gw_box, Bool.and_eq_true, decide_eq_true_eq] at hq
          omega)
        · intro u hI2
          refine mw_ld 101 i_Room_inSight_99 rfl rfl rfl ?_
          refine mw_ld 103 i_Room_inSight_101 rfl rfl rfl ?_
          refine mw_ld 105 i_Room_inSight_103 rfl rfl rfl ?_
          refine mw_max 108 i_Room_inSight_105 rfl (Nat.le_of_ble_eq_true rfl) ?_
          rw [nI_max (by omega) (by omega)]
          refine mw_ic1 i_Room_inSight_108 (nI_lt (by omega) (by omega)) ?_
          refine mw_inc (ls' := [_, _, _, _, _, _, _, _, _, _, _, _, _]) 169 (nI (i + 1)) i_Room_inSight_166 rfl rfl rfl (nI_1 i) rfl ?_
          refine mw_go i_Room_inSight_169 ?_
          refine ih (_, _) (fun x y hx hxh hyw hq => ?_)
          rcases Nat.lt_succ_iff_lt_or_eq.mp hx with q | q
          · exact hI x y q hxh hyw hq
          · subst q
            refine hI2 y ?_ hyw hq
            rw [hct x y hyw] at hq
            simp only [gw_box, Bool.and_eq_true, decide_eq_true_eq] at hq
            omega
        · intro j u hjl hj hI2 ih2
          refine mw_ld 101 i_Room_inSight_99 rfl rfl rfl ?_
          refine mw_ld 103 i_Room_inSight_101 rfl rfl rfl ?_
          refine mw_ld 105 i_Room_inSight_103 rfl rfl rfl ?_
          refine mw_max 108 i_Room_inSight_105 rfl (Nat.le_of_ble_eq_true rfl) ?_
          rw [nI_max (by omega) (by omega)]
          refine mw_ic0 111 i_Room_inSight_108 rfl (nI_nlt (by omega) (by omega)) ?_
          refine mw_k 112 i_Room_inSight_111 rfl ?_
          refine mw_ld 114 i_Room_inSight_112 rfl rfl rfl ?_
          refine mw_ld 116 i_Room_inSight_114 rfl rfl rfl ?_
          refine mw_ld 117 i_Room_inSight_116 rfl rfl rfl ?_
          refine mw_b 118 i_Room_inSight_117 rfl ?_
          refine mw_b 119 i_Room_inSight_118 rfl ?_
          refine mw_ld 121 i_Room_inSight_119 rfl rfl rfl ?_
          refine mw_ld 123 i_Room_inSight_121 rfl rfl rfl ?_
          refine mw_ld 125 i_Room_inSight_123 rfl rfl rfl ?_
          refine mw_b 126 i_Room_inSight_125 rfl ?_
          refine mw_b 127 i_Room_inSight_126 rfl ?_
          refine mw_b 128 i_Room_inSight_127 rfl ?_
          refine mw_abs 131 i_Room_inSight_128 rfl (Nat.le_of_ble_eq_true rfl) ?_
          refine mw_b 132 i_Room_inSight_131 rfl ?_
          refine mw_st (ls' := [_, _, _, _, _, _, _, _, _, _, _, _, _]) 134 i_Room_inSight_132 rfl rfl rfl rfl ?_
          refine mw_ld 136 i_Room_inSight_134 rfl rfl rfl ?_
          refine mw_ld 138 i_Room_inSight_136 rfl rfl rfl ?_
          refine mw_ic 141 i_Room_inSight_138 rfl (fun h138 => ?_) (fun h138 => ?_)
          · refine mw_inc (ls' := [_, _, _, _, _, _, _, _, _, _, _, _, _]) 163 (nI (j + 1)) i_Room_inSight_160 rfl rfl rfl (nI_1 j) rfl ?_
            refine mw_go i_Room_inSight_163 ?_
            refine ih2 _ (fun y hy hyw hq => ?_)
            rcases Nat.lt_succ_iff_lt_or_eq.mp hy with q | q
            · exact hI2 y q hyw hq
            · subst q
              first
              | (have hop := mj_bI1.mp h155
                 rw [gw_op_nI (by omega)] at hop
                 simp only [Bool.and_eq_true, beq_iff_eq] at hop
                 exact hop.2)
              | (exfalso
                 rw [gw_cut32 (by omega) (by omega) (by omega) (by omega) (by omega) (by omega)] at h138
                 rw [hct i y hyw, h138] at hq
                 simp at hq)
          · refine mw_ld 142 i_Room_inSight_141 rfl rfl rfl ?_
            refine mw_ld 144 i_Room_inSight_142 rfl rfl rfl ?_
            refine mw_ld 145 i_Room_inSight_144 rfl rfl rfl ?_
            refine mw_get 148 i_Room_inSight_145 rfl (by assumption) (by rfl) ?_
            refine mw_b 149 i_Room_inSight_148 rfl ?_
            refine mw_ld 151 i_Room_inSight_149 rfl rfl rfl ?_
            refine mw_b 152 i_Room_inSight_151 rfl ?_
            rw [pk_mul, nI_add]
            have hcell : i * w + j < w * h := by
              have : i * w + w ≤ h * w := by rw [← Nat.succ_mul]; exact Nat.mul_le_mul_right w hih
              rw [Nat.mul_comm w h]; omega
            refine mw_cv1 155 i_Room_inSight_152 rfl (by assumption) (sp_Room_isOpen hd hR ?_) rfl rfl (Nat.le_of_ble_eq_true rfl) (Nat.le_of_ble_eq_true rfl)
            refine mw_if 158 i_Room_inSight_155 rfl (fun h155 => ?_) (fun h155 => ?_)
            · refine mw_inc (ls' := [_, _, _, _, _, _, _, _, _, _, _, _, _]) 163 (nI (j + 1)) i_Room_inSight_160 rfl rfl rfl (nI_1 j) rfl ?_
              refine mw_go i_Room_inSight_163 ?_
              refine ih2 _ (fun y hy hyw hq => ?_)
              rcases Nat.lt_succ_iff_lt_or_eq.mp hy with q | q
              · exact hI2 y q hyw hq
              · subst q
                first
                | (have hop := mj_bI1.mp h155
                   rw [gw_op_nI (by omega)] at hop
                   simp only [Bool.and_eq_true, beq_iff_eq] at hop
                   exact hop.2)
                | (exfalso
                   rw [gw_cut32 (by omega) (by omega) (by omega) (by omega) (by omega) (by omega)] at h138
                   rw [hct i y hyw, h138] at hq
                   simp at hq)
            · refine mw_k 159 i_Room_inSight_158 rfl ?_
              refine mw_ri i_Room_inSight_159 rfl rfl ?_
              refine mj_q0 ?_ k
              rw [Bool.eq_false_iff]
              intro hq
              simp only [gw_si, Bool.and_eq_true, List.all_eq_true, List.mem_range, Bool.or_eq_true, beq_iff_eq, Bool.not_eq_true'] at hq
              have hop := mj_bI0.mp (Classical.not_not.mp h155)
              rw [gw_op_nI (by omega)] at hop
              rcases hq.2 (i * w + j) hcell with q | q
              · simp [hcell, q] at hop
              · rw [hct i j (by omega)] at q
                have q2 : gw_ctI ((cb : Nat) - (ca : Nat)) ((rb : Nat) - (ra : Nat)) ((j : Nat) - (ca : Nat)) ((i : Nat) - (ra : Nat)) = true := by
                  rw [gw_cut32 (by omega) (by omega) (by omega) (by omega) (by omega) (by omega)] at h138
                  simpa using h138
                rw [q2] at q
                have q3 : gw_box ra rb i = true := by simp only [gw_box, Bool.and_eq_true, decide_eq_true_eq]; omega
                have q4 : gw_box ca cb j = true := by simp only [gw_box, Bool.and_eq_true, decide_eq_true_eq]; omega
                rw [q3, q4] at q
                cases q
    · refine mw_k 17 i_Room_inSight_16 rfl ?_
      refine mw_ri i_Room_inSight_17 rfl rfl ?_
      refine mj_q0 ?_ k
      simp only [mj_bI0, mj_bI1, gw_op_nI (show a < 2147483648 by omega), gw_op_nI (show b < 2147483648 by omega), Classical.not_not] at *
      simp_all [gw_si]
