/-! the model: sight -/
def gw_sg (v : Int32) : Int32 := if 0 ≤ v then (if v ≤ 0 then 0 else 1) else -1
theorem gw_sg_neg (v : Int32) : gw_sg v < 0 ↔ v < 0 := by
  rw [gw_sg]
  by_cases h1 : 0 ≤ v
  · rw [if_pos h1]
    have : ¬ v < 0 := by simp only [mj_lt, mj_le, mj_lit0] at *; omega
    by_cases h2 : v ≤ 0
    · rw [if_pos h2]; simp only [this, iff_false]; decide
    · rw [if_neg h2]; simp only [this, iff_false]; decide
  · rw [if_neg h1]
    have : v < 0 := by simp only [mj_lt, mj_le, mj_lit0] at *; omega
    simp only [this, iff_true]; decide
theorem gw_sg_pos (v : Int32) : 0 < gw_sg v ↔ 0 < v := by
  rw [gw_sg]
  by_cases h1 : 0 ≤ v
  · rw [if_pos h1]
    by_cases h2 : v ≤ 0
    · have : ¬ 0 < v := by simp only [mj_lt, mj_le, mj_lit0] at *; omega
      rw [if_pos h2]; simp only [this, iff_false]; decide
    · have : 0 < v := by simp only [mj_lt, mj_le, mj_lit0] at *; omega
      rw [if_neg h2]; simp only [this, iff_true]; decide
  · rw [if_neg h1]
    have : ¬ 0 < v := by simp only [mj_lt, mj_le, mj_lit0] at *; omega
    simp only [this, iff_false]; decide
theorem gw_pr2 {a b : Int} (ha : -20 ≤ a ∧ a ≤ 20) (hb : -20 ≤ b ∧ b ≤ 20) : -400 ≤ a * b ∧ a * b ≤ 400 := by
  have h1 : (a * b).natAbs ≤ 20 * 20 := by rw [Int.natAbs_mul]; exact Nat.mul_le_mul (by omega) (by omega)
  omega
/-- a corner's side: dx, dy from the one end to the other, x, y from the one end to the cell; the j-th corner -/
def gw_V (dx dy x y : Int) (j : Nat) : Int := (2 * dx) * (2 * y + 2 * ((j / 2 : Nat) : Int) - 1) - (2 * dy) * (2 * x + 2 * ((j % 2 : Nat) : Int) - 1)
theorem gw_V_ct {dx dy x y : Int} : ((∃ j, j < 4 ∧ gw_V dx dy x y j < 0) ∧ (∃ j, j < 4 ∧ 0 < gw_V dx dy x y j)) ↔ gw_ctI dx dy x y = true := by
  have ex : ∀ z c : Int, (2 * z) * (2 * c + 2 * 0 - 1) = 4 * (z * c) - 2 * z := fun z c => by rw [show 2 * c + 2 * 0 - 1 = 2 * c - 1 by omega, Int.mul_sub, Int.mul_one, Int.mul_assoc, Int.mul_left_comm z 2 c]; omega
  have ex1 : ∀ z c : Int, (2 * z) * (2 * c + 2 * 1 - 1) = 4 * (z * c) + 2 * z := fun z c => by rw [show 2 * c + 2 * 1 - 1 = 2 * c + 1 by omega, Int.mul_add, Int.mul_one, Int.mul_assoc, Int.mul_left_comm z 2 c]; omega
  have v0 : gw_V dx dy x y 0 = 4 * (dx * y) - 2 * dx - (4 * (dy * x) - 2 * dy) := by show _ * (2 * y + 2 * 0 - 1) - _ * (2 * x + 2 * 0 - 1) = _; rw [ex, ex]
  have v1 : gw_V dx dy x y 1 = 4 * (dx * y) - 2 * dx - (4 * (dy * x) + 2 * dy) := by show _ * (2 * y + 2 * 0 - 1) - _ * (2 * x + 2 * 1 - 1) = _; rw [ex, ex1]
  have v2 : gw_V dx dy x y 2 = 4 * (dx * y) + 2 * dx - (4 * (dy * x) - 2 * dy) := by show _ * (2 * y + 2 * 1 - 1) - _ * (2 * x + 2 * 0 - 1) = _; rw [ex1, ex]
  have v3 : gw_V dx dy x y 3 = 4 * (dx * y) + 2 * dx - (4 * (dy * x) + 2 * dy) := by show _ * (2 * y + 2 * 1 - 1) - _ * (2 * x + 2 * 1 - 1) = _; rw [ex1, ex1]
  have all4 : ∀ P : Nat → Prop, (∃ j, j < 4 ∧ P j) ↔ (P 0 ∨ P 1 ∨ P 2 ∨ P 3) := by
    intro P
    constructor
    · rintro ⟨j, hj, hp⟩
      match j, hj with
      | 0, _ => exact .inl hp
      | 1, _ => exact .inr (.inl hp)
      | 2, _ => exact .inr (.inr (.inl hp))
      | 3, _ => exact .inr (.inr (.inr hp))
    · rintro (q | q | q | q)
      · exact ⟨0, by decide, q⟩
      · exact ⟨1, by decide, q⟩
      · exact ⟨2, by decide, q⟩
      · exact ⟨3, by decide, q⟩
  rw [all4, all4, v0, v1, v2, v3]
  simp only [gw_ctI, decide_eq_true_eq]
  generalize dx * y = p
  generalize dy * x = q
  omega
theorem gw_ex_succ {P : Nat → Prop} {i : Nat} : (∃ j, j < i + 1 ∧ P j) ↔ (∃ j, j < i ∧ P j) ∨ P i := by
  constructor
  · rintro ⟨j, hj, hp⟩
    by_cases e : j = i
    · subst e; exact .inr hp
    · exact .inl ⟨j, by omega, hp⟩
  · rintro (⟨j, hj, hp⟩ | hp)
    · exact ⟨j, by omega, hp⟩
    · exact ⟨i, by omega, hp⟩
theorem gw_V32 {ra rb ca cb rc cc i : Nat} (h1 : ra ≤ 9) (h2 : rb ≤ 9) (h3 : ca ≤ 9) (h4 : cb ≤ 9) (h5 : rc ≤ 9) (h6 : cc ≤ 9) (hi : i < 4) :
    (nI (2 * cb + 1) - nI (2 * ca + 1)) * (nI (2 * rc + 2 * (i / 2)) - nI (2 * ra + 1)) - (nI (2 * rb + 1) - nI (2 * ra + 1)) * (nI (2 * cc + 2 * (i % 2)) - nI (2 * ca + 1)) = iI (gw_V ((cb : Nat) - (ca : Nat)) ((rb : Nat) - (ra : Nat)) ((cc : Nat) - (ca : Nat)) ((rc : Nat) - (ra : Nat)) i) ∧
      -2000 ≤ gw_V ((cb : Nat) - (ca : Nat)) ((rb : Nat) - (ra : Nat)) ((cc : Nat) - (ca : Nat)) ((rc : Nat) - (ra : Nat)) i ∧ gw_V ((cb : Nat) - (ca : Nat)) ((rb : Nat) - (ra : Nat)) ((cc : Nat) - (ca : Nat)) ((rc : Nat) - (ra : Nat)) i ≤ 2000 := by
  constructor
  · simp only [iI_nI, iI_sub, iI_mul]
    rw [gw_V]
    congr 2
    · congr 1 <;> omega
    · congr 1 <;> omega
  · have p1 := gw_pr2 (a := 2 * ((cb : Int) - ca)) (b := 2 * ((rc : Int) - ra) + 2 * ((i / 2 : Nat) : Int) - 1) (by omega) (by omega)
    have p2 := gw_pr2 (a := 2 * ((rb : Int) - ra)) (b := 2 * ((cc : Int) - ca) + 2 * ((i % 2 : Nat) : Int) - 1) (by omega) (by omega)
    rw [gw_V]
    omega
theorem sp_Model_side {X : mj_X} {d : Nat} {σ : mj_H} {Q : Value → mj_H → Prop} {a b c e f g : Int32} (k : Q (.int (gw_sg ((c - a) * (g - b) - (e - b) * (f - a)))) σ) : mj_M X d y_Model_side [.int a, .int b, .int c, .int e, .int f, .int g] σ (mj_V Q) := by
  refine mw_in (l0 := [some (.int a), some (.int b), some (.int c), some (.int e), some (.int f), some (.int g), none]) rfl ?_
  refine mw_ld 1 i_Model_side_0 rfl rfl rfl ?_
  refine mw_ld 2 i_Model_side_1 rfl rfl rfl ?_
  refine mw_b 3 i_Model_side_2 rfl ?_
  refine mw_ld 5 i_Model_side_3 rfl rfl rfl ?_
  refine mw_ld 6 i_Model_side_5 rfl rfl rfl ?_
  refine mw_b 7 i_Model_side_6 rfl ?_
  refine mw_b 8 i_Model_side_7 rfl ?_
  refine mw_ld 9 i_Model_side_8 rfl rfl rfl ?_
  refine mw_ld 10 i_Model_side_9 rfl rfl rfl ?_
  refine mw_b 11 i_Model_side_10 rfl ?_
  refine mw_ld 13 i_Model_side_11 rfl rfl rfl ?_
  refine mw_ld 14 i_Model_side_13 rfl rfl rfl ?_
  refine mw_b 15 i_Model_side_14 rfl ?_
  refine mw_b 16 i_Model_side_15 rfl ?_
  refine mw_b 17 i_Model_side_16 rfl ?_
  refine mw_st (ls' := [_, _, _, _, _, _, _]) 19 i_Model_side_17 rfl rfl rfl rfl ?_
  refine mw_ld 21 i_Model_side_19 rfl rfl rfl ?_
  refine mw_if 24 i_Model_side_21 rfl (fun h21 => ?_) (fun h21 => ?_)
  · refine mw_ld 30 i_Model_side_28 rfl rfl rfl ?_
    refine mw_if 33 i_Model_side_30 rfl (fun h30 => ?_) (fun h30 => ?_)
    · refine mw_k 38 i_Model_side_37 rfl ?_
      refine mw_ri i_Model_side_38 rfl rfl ?_
      first
      | (rw [gw_sg, if_neg h21] at k; exact k)
      | (rw [gw_sg, if_pos h21, if_pos h30] at k; exact k)
      | (rw [gw_sg, if_pos h21, if_neg h30] at k; exact k)
    · refine mw_k 34 i_Model_side_33 rfl ?_
      refine mw_go i_Model_side_34 ?_
      refine mw_ri i_Model_side_38 rfl rfl ?_
      first
      | (rw [gw_sg, if_neg h21] at k; exact k)
      | (rw [gw_sg, if_pos h21, if_pos h30] at k; exact k)
      | (rw [gw_sg, if_pos h21, if_neg h30] at k; exact k)
  · refine mw_k 25 i_Model_side_24 rfl ?_
    refine mw_go i_Model_side_25 ?_
    refine mw_ri i_Model_side_38 rfl rfl ?_
    first
    | (rw [gw_sg, if_neg h21] at k; exact k)
    | (rw [gw_sg, if_pos h21, if_pos h30] at k; exact k)
    | (rw [gw_sg, if_pos h21, if_neg h30] at k; exact k)
theorem sp_Model_cuts {X : mj_X} {d : Nat} {σ : mj_H} {Q : Value → mj_H → Prop} {w h kp rw : Nat} {tf fu fe fi ma md : Int32} (hO : σ.1 55 = gw_mo w h kp rw tf fu fe fi ma md) {a b c : Nat} (hc : c < w * h) (ha : a < w * h) (hb : b < w * h) (hd : gw_dim w h) (k : Q (.int (mj_bI (gw_ct w a b c))) σ) : mj_M X (d + 1) y_Model_cuts [.ref 55, .int (nI a), .int (nI b), .int (nI c)] σ (mj_V Q) := by
  have hw1 := hd.1
  have hw2 := hd.2.1
  have hh1 := hd.2.2.1
  have hh2 := hd.2.2.2
  have hwh := gw_dim_le hd
  have hw0 : ¬ nI w = 0 := nI_ne0 (by omega) (by omega)
  obtain ⟨rc, erc⟩ : ∃ q, q = c / w := ⟨_, rfl⟩
  obtain ⟨cc, ecc⟩ : ∃ q, q = c % w := ⟨_, rfl⟩
  obtain ⟨ra, era⟩ : ∃ q, q = a / w := ⟨_, rfl⟩
  obtain ⟨ca, eca⟩ : ∃ q, q = a % w := ⟨_, rfl⟩
  obtain ⟨rb, erb⟩ : ∃ q, q = b / w := ⟨_, rfl⟩
  obtain ⟨cb, ecb⟩ : ∃ q, q = b % w := ⟨_, rfl⟩
  have l1 : ra < h := by rw [era]; exact Nat.div_lt_of_lt_mul ha
  have l2 : rb < h := by rw [erb]; exact Nat.div_lt_of_lt_mul hb
  have l5 : rc < h := by rw [erc]; exact Nat.div_lt_of_lt_mul hc
  have l3 : ca < w := by rw [eca]; exact Nat.mod_lt _ (by omega)
  have l4 : cb < w := by rw [ecb]; exact Nat.mod_lt _ (by omega)
  have l6 : cc < w := by rw [ecc]; exact Nat.mod_lt _ (by omega)
  have ect : gw_ct w a b c = (gw_box ra rb rc && gw_box ca cb cc && gw_ctI ((cb : Nat) - (ca : Nat)) ((rb : Nat) - (ra : Nat)) ((cc : Nat) - (ca : Nat)) ((rc : Nat) - (ra : Nat))) := by rw [gw_ct, ← era, ← erb, ← erc, ← eca, ← ecb, ← ecc]
  rw [ect] at k
  have hbox : ∀ x y z : Nat, gw_box x y z = true ↔ (min x y ≤ z ∧ z ≤ max x y) := fun x y z => by simp [gw_box]
  have kk : mj_Wp X (d + 1) y_Model_cuts 100 [some (.ref 55), some (.int (nI a)), some (.int (nI b)), some (.int (nI c)), some (.int (nI (2 * ca + 1))), some (.int (nI (2 * ra + 1))), some (.int (nI (2 * cb + 1))), some (.int (nI (2 * rb + 1))), some (.int (nI (2 * cc))), some (.int (nI (2 * rc))), some (.int (nI (min (2 * ca + 1) (2 * cb + 1)))), some (.int (nI (min (2 * ra + 1) (2 * rb + 1)))), none, none, none, none, none, none] [] σ (mj_V Q) := by
    refine mw_ld 102 i_Model_cuts_100 rfl rfl rfl ?_
    refine mw_ld 104 i_Model_cuts_102 rfl rfl rfl ?_
    refine mw_b 105 i_Model_cuts_104 rfl ?_
    rw [nI_add]
    refine mw_ld 107 i_Model_cuts_105 rfl rfl rfl ?_
    refine mw_b 108 i_Model_cuts_107 rfl ?_
    rw [pk_sub (by omega)]
    refine mw_st (ls' := [_, _, _, _, _, _, _, _, _, _, _, _, _, _, _, _, _, _]) 110 i_Model_cuts_108 rfl rfl rfl rfl ?_
    refine mw_ld 112 i_Model_cuts_110 rfl rfl rfl ?_
    refine mw_ld 114 i_Model_cuts_112 rfl rfl rfl ?_
    refine mw_b 115 i_Model_cuts_114 rfl ?_
    rw [nI_add]
    refine mw_ld 117 i_Model_cuts_115 rfl rfl rfl ?_
    refine mw_b 118 i_Model_cuts_117 rfl ?_
    rw [pk_sub (by omega)]
    refine mw_st (ls' := [_, _, _, _, _, _, _, _, _, _, _, _, _, _, _, _, _, _]) 120 i_Model_cuts_118 rfl rfl rfl rfl ?_
    refine mw_ld 122 i_Model_cuts_120 rfl rfl rfl ?_
    refine mw_ld 124 i_Model_cuts_122 rfl rfl rfl ?_
    refine mw_ic 127 i_Model_cuts_124 rfl (fun h124 => ?_) (fun h124 => ?_)
    · refine mw_k 153 i_Model_cuts_152 rfl ?_
      refine mw_ri i_Model_cuts_153 rfl rfl ?_
      refine mj_q0 ?_ k
      rw [Bool.eq_false_iff]
      intro q
      simp only [Bool.and_eq_true] at q
      have q1 := (hbox _ _ _).mp q.1.1
      have q2 := (hbox _ _ _).mp q.1.2
      simp only [mj_lt, mj_le, mj_nI _ (show 2 * ca + 1 + (2 * cb + 1) - min (2 * ca + 1) (2 * cb + 1) < 2147483648 by omega), mj_nI _ (show 2 * ra + 1 + (2 * rb + 1) - min (2 * ra + 1) (2 * rb + 1) < 2147483648 by omega), mj_nI _ (show 2 * cc < 2147483648 by omega), mj_nI _ (show 2 * rc < 2147483648 by omega), mj_nI _ (show 2 * cc + 2 < 2147483648 by omega), mj_nI _ (show 2 * rc + 2 < 2147483648 by omega), mj_nI _ (show min (2 * ca + 1) (2 * cb + 1) < 2147483648 by omega), mj_nI _ (show min (2 * ra + 1) (2 * rb + 1) < 2147483648 by omega)] at *
      omega
    · refine mw_ld 129 i_Model_cuts_127 rfl rfl rfl ?_
      refine mw_ld 131 i_Model_cuts_129 rfl rfl rfl ?_
      refine mw_k 132 i_Model_cuts_131 rfl ?_
      refine mw_b 133 i_Model_cuts_132 rfl ?_
      rw [show (2 : Int32) = nI 2 from rfl, nI_add]
      refine mw_ic 136 i_Model_cuts_133 rfl (fun h133 => ?_) (fun h133 => ?_)
      · refine mw_k 153 i_Model_cuts_152 rfl ?_
        refine mw_ri i_Model_cuts_153 rfl rfl ?_
        refine mj_q0 ?_ k
        rw [Bool.eq_false_iff]
        intro q
        simp only [Bool.and_eq_true] at q
        have q1 := (hbox _ _ _).mp q.1.1
        have q2 := (hbox _ _ _).mp q.1.2
        simp only [mj_lt, mj_le, mj_nI _ (show 2 * ca + 1 + (2 * cb + 1) - min (2 * ca + 1) (2 * cb + 1) < 2147483648 by omega), mj_nI _ (show 2 * ra + 1 + (2 * rb + 1) - min (2 * ra + 1) (2 * rb + 1) < 2147483648 by omega), mj_nI _ (show 2 * cc < 2147483648 by omega), mj_nI _ (show 2 * rc < 2147483648 by omega), mj_nI _ (show 2 * cc + 2 < 2147483648 by omega), mj_nI _ (show 2 * rc + 2 < 2147483648 by omega), mj_nI _ (show min (2 * ca + 1) (2 * cb + 1) < 2147483648 by omega), mj_nI _ (show min (2 * ra + 1) (2 * rb + 1) < 2147483648 by omega)] at *
        omega
      · refine mw_ld 138 i_Model_cuts_136 rfl rfl rfl ?_
        refine mw_ld 140 i_Model_cuts_138 rfl rfl rfl ?_
        refine mw_ic 143 i_Model_cuts_140 rfl (fun h140 => ?_) (fun h140 => ?_)
        · refine mw_k 153 i_Model_cuts_152 rfl ?_
          refine mw_ri i_Model_cuts_153 rfl rfl ?_
          refine mj_q0 ?_ k
          rw [Bool.eq_false_iff]
          intro q
          simp only [Bool.and_eq_true] at q
          have q1 := (hbox _ _ _).mp q.1.1
          have q2 := (hbox _ _ _).mp q.1.2
          simp only [mj_lt, mj_le, mj_nI _ (show 2 * ca + 1 + (2 * cb + 1) - min (2 * ca + 1) (2 * cb + 1) < 2147483648 by omega), mj_nI _ (show 2 * ra + 1 + (2 * rb + 1) - min (2 * ra + 1) (2 * rb + 1) < 2147483648 by omega), mj_nI _ (show 2 * cc < 2147483648 by omega), mj_nI _ (show 2 * rc < 2147483648 by omega), mj_nI _ (show 2 * cc + 2 < 2147483648 by omega), mj_nI _ (show 2 * rc + 2 < 2147483648 by omega), mj_nI _ (show min (2 * ca + 1) (2 * cb + 1) < 2147483648 by omega), mj_nI _ (show min (2 * ra + 1) (2 * rb + 1) < 2147483648 by omega)] at *
          omega
        · refine mw_ld 145 i_Model_cuts_143 rfl rfl rfl ?_
          refine mw_ld 147 i_Model_cuts_145 rfl rfl rfl ?_
          refine mw_k 148 i_Model_cuts_147 rfl ?_
          refine mw_b 149 i_Model_cuts_148 rfl ?_
          rw [show (2 : Int32) = nI 2 from rfl, nI_add]
          refine mw_ic 152 i_Model_cuts_149 rfl (fun h149 => ?_) (fun h149 => ?_)
          · refine mw_k 155 i_Model_cuts_154 rfl ?_
            refine mw_st (ls' := [_, _, _, _, _, _, _, _, _, _, _, _, _, _, _, _, _, _]) 157 i_Model_cuts_155 rfl rfl rfl rfl ?_
            refine mw_k 158 i_Model_cuts_157 rfl ?_
            refine mw_st (ls' := [_, _, _, _, _, _, _, _, _, _, _, _, _, _, _, _, _, _]) 160 i_Model_cuts_158 rfl rfl rfl rfl ?_
            refine mw_k 161 i_Model_cuts_160 rfl ?_
            refine mw_st (ls' := [_, _, _, _, _, _, _, _, _, _, _, _, _, _, _, _, _, _]) 163 i_Model_cuts_161 rfl rfl rfl rfl ?_
            have hb1 : gw_box ra rb rc = true := (hbox _ _ _).mpr (by simp only [mj_lt, mj_le, mj_nI _ (show 2 * ca + 1 + (2 * cb + 1) - min (2 * ca + 1) (2 * cb + 1) < 2147483648 by omega), mj_nI _ (show 2 * ra + 1 + (2 * rb + 1) - min (2 * ra + 1) (2 * rb + 1) < 2147483648 by omega), mj_nI _ (show 2 * cc < 2147483648 by omega), mj_nI _ (show 2 * rc < 2147483648 by omega), mj_nI _ (show 2 * cc + 2 < 2147483648 by omega), mj_nI _ (show 2 * rc + 2 < 2147483648 by omega), mj_nI _ (show min (2 * ca + 1) (2 * cb + 1) < 2147483648 by omega), mj_nI _ (show min (2 * ra + 1) (2 * rb + 1) < 2147483648 by omega)] at h124 h133 h140 h149; omega)
            have hb2 : gw_box ca cb cc = true := (hbox _ _ _).mpr (by simp only [mj_lt, mj_le, mj_nI _ (show 2 * ca + 1 + (2 * cb + 1) - min (2 * ca + 1) (2 * cb + 1) < 2147483648 by omega), mj_nI _ (show 2 * ra + 1 + (2 * rb + 1) - min (2 * ra + 1) (2 * rb + 1) < 2147483648 by omega), mj_nI _ (show 2 * cc < 2147483648 by omega), mj_nI _ (show 2 * rc < 2147483648 by omega), mj_nI _ (show 2 * cc + 2 < 2147483648 by omega), mj_nI _ (show 2 * rc + 2 < 2147483648 by omega), mj_nI _ (show min (2 * ca + 1) (2 * cb + 1) < 2147483648 by omega), mj_nI _ (show min (2 * ra + 1) (2 * rb + 1) < 2147483648 by omega)] at h124 h133 h140 h149; omega)
            rw [hb1, hb2, Bool.true_and, Bool.true_and] at k
            refine mj_for (S := Int32 × Int32 × Option Value) (fun i u => mj_Wp X (d + 1) y_Model_cuts 163 [some (.ref 55), some (.int (nI a)), some (.int (nI b)), some (.int (nI c)), some (.int (nI (2 * ca + 1))), some (.int (nI (2 * ra + 1))), some (.int (nI (2 * cb + 1))), some (.int (nI (2 * rb + 1))), some (.int (nI (2 * cc))), some (.int (nI (2 * rc))), some (.int (nI (min (2 * ca + 1) (2 * cb + 1)))), some (.int (nI (min (2 * ra + 1) (2 * rb + 1)))), some (.int (nI (2 * ca + 1 + (2 * cb + 1) - min (2 * ca + 1) (2 * cb + 1)))), some (.int (nI (2 * ra + 1 + (2 * rb + 1) - min (2 * ra + 1) (2 * rb + 1)))), some (.int u.1), some (.int u.2.1), some (.int (nI i)), u.2.2] [] σ (mj_V Q)) (fun i u => (u.1 < 0 ↔ ∃ j, j < i ∧ gw_V ((cb : Nat) - (ca : Nat)) ((rb : Nat) - (ra : Nat)) ((cc : Nat) - (ca : Nat)) ((rc : Nat) - (ra : Nat)) j < 0) ∧ (0 < u.2.1 ↔ ∃ j, j < i ∧ 0 < gw_V ((cb : Nat) - (ca : Nat)) ((rb : Nat) - (ra : Nat)) ((cc : Nat) - (ca : Nat)) ((rc : Nat) - (ra : Nat)) j)) 4 ?_ ?_ 0 (1, -1, none) (Nat.zero_le _) ⟨⟨fun q => absurd q (by decide), fun ⟨j, hj, _⟩ => absurd hj (Nat.not_lt_zero j)⟩, ⟨fun q => absurd q (by decide), fun ⟨j, hj, _⟩ => absurd hj (Nat.not_lt_zero j)⟩⟩
            · rintro ⟨lo, hi, u⟩ ⟨g1, g2⟩
              dsimp only at g1 g2 ⊢
              have hfin := gw_V_ct (dx := (cb : Nat) - (ca : Nat)) (dy := (rb : Nat) - (ra : Nat)) (x := (cc : Nat) - (ca : Nat)) (y := (rc : Nat) - (ra : Nat))
              rw [← g1, ← g2] at hfin
              refine mw_ld 165 i_Model_cuts_163 rfl rfl rfl ?_
              refine mw_k 166 i_Model_cuts_165 rfl ?_
              refine mw_ic1 i_Model_cuts_166 (by decide) ?_
              refine mw_ld 240 i_Model_cuts_238 rfl rfl rfl ?_
              refine mw_if 243 i_Model_cuts_240 rfl (fun h240 => ?_) (fun h240 => ?_)
              · refine mw_k 253 i_Model_cuts_252 rfl ?_
                refine mw_ri i_Model_cuts_253 rfl rfl ?_
                first
                | exact mj_q1 (hfin.mp ⟨by simp only [mj_lt, mj_le, mj_lit0] at *; omega, by simp only [mj_lt, mj_le, mj_lit0] at *; omega⟩) k
                | exact mj_q0 (by rw [Bool.eq_false_iff]; intro q; have q := hfin.mpr q; simp only [mj_lt, mj_le, mj_lit0] at *; omega) k
              · refine mw_ld 245 i_Model_cuts_243 rfl rfl rfl ?_
                refine mw_if 248 i_Model_cuts_245 rfl (fun h245 => ?_) (fun h245 => ?_)
                · refine mw_k 253 i_Model_cuts_252 rfl ?_
                  refine mw_ri i_Model_cuts_253 rfl rfl ?_
                  first
                  | exact mj_q1 (hfin.mp ⟨by simp only [mj_lt, mj_le, mj_lit0] at *; omega, by simp only [mj_lt, mj_le, mj_lit0] at *; omega⟩) k
                  | exact mj_q0 (by rw [Bool.eq_false_iff]; intro q; have q := hfin.mpr q; simp only [mj_lt, mj_le, mj_lit0] at *; omega) k
                · refine mw_k 249 i_Model_cuts_248 rfl ?_
                  refine mw_go i_Model_cuts_249 ?_
                  refine mw_ri i_Model_cuts_253 rfl rfl ?_
                  first
                  | exact mj_q1 (hfin.mp ⟨by simp only [mj_lt, mj_le, mj_lit0] at *; omega, by simp only [mj_lt, mj_le, mj_lit0] at *; omega⟩) k
                  | exact mj_q0 (by rw [Bool.eq_false_iff]; intro q; have q := hfin.mpr q; simp only [mj_lt, mj_le, mj_lit0] at *; omega) k
            · rintro i ⟨lo, hi, u⟩ hi4 ⟨g1, g2⟩ ih
              dsimp only at g1 g2 ⊢
              obtain ⟨ev, ev1, ev2⟩ := gw_V32 (ra := ra) (rb := rb) (ca := ca) (cb := cb) (rc := rc) (cc := cc) (i := i) (by omega) (by omega) (by omega) (by omega) (by omega) (by omega) hi4
              refine mw_ld 165 i_Model_cuts_163 rfl rfl rfl ?_
              refine mw_k 166 i_Model_cuts_165 rfl ?_
              refine mw_ic0 169 i_Model_cuts_166 rfl (nI_ge (b := 4) hi4 (by decide)) ?_
              refine mw_ld 171 i_Model_cuts_169 rfl rfl rfl ?_
              refine mw_ld 173 i_Model_cuts_171 rfl rfl rfl ?_
              refine mw_ld 175 i_Model_cuts_173 rfl rfl rfl ?_
              refine mw_ld 177 i_Model_cuts_175 rfl rfl rfl ?_
              refine mw_ld 179 i_Model_cuts_177 rfl rfl rfl ?_
              refine mw_k 180 i_Model_cuts_179 rfl ?_
              refine mw_ld 182 i_Model_cuts_180 rfl rfl rfl ?_
              refine mw_k 183 i_Model_cuts_182 rfl ?_
              refine mw_d 184 i_Model_cuts_183 rfl (by decide) ?_
              rw [show (2 : Int32) = nI 2 from rfl, pk_rem (by omega) (by decide) (by decide)]
              refine mw_b 185 i_Model_cuts_184 rfl ?_
              rw [pk_mul]
              refine mw_b 186 i_Model_cuts_185 rfl ?_
              rw [nI_add]
              refine mw_ld 188 i_Model_cuts_186 rfl rfl rfl ?_
              refine mw_k 189 i_Model_cuts_188 rfl ?_
              refine mw_ld 191 i_Model_cuts_189 rfl rfl rfl ?_
              refine mw_k 192 i_Model_cuts_191 rfl ?_
              refine mw_d 193 i_Model_cuts_192 rfl (by decide) ?_
              rw [show (2 : Int32) = nI 2 from rfl, pk_div (by omega) (by decide) (by decide)]
              refine mw_b 194 i_Model_cuts_193 rfl ?_
              rw [pk_mul]
              refine mw_b 195 i_Model_cuts_194 rfl ?_
              rw [nI_add]
              refine mw_cs1 198 i_Model_cuts_195 rfl (sp_Model_side ?_) rfl rfl (Nat.le_of_ble_eq_true rfl) (Nat.le_of_ble_eq_true rfl)
              rw [ev]
              have n1 := gw_sg_neg (iI (gw_V ((cb : Nat) - (ca : Nat)) ((rb : Nat) - (ra : Nat)) ((cc : Nat) - (ca : Nat)) ((rc : Nat) - (ra : Nat)) i))
              have n2 := gw_sg_pos (iI (gw_V ((cb : Nat) - (ca : Nat)) ((rb : Nat) - (ra : Nat)) ((cc : Nat) - (ca : Nat)) ((rc : Nat) - (ra : Nat)) i))
              rw [show (0 : Int32) = iI 0 from rfl, iI_lt (a := gw_V ((cb : Nat) - (ca : Nat)) ((rb : Nat) - (ra : Nat)) ((cc : Nat) - (ca : Nat)) ((rc : Nat) - (ra : Nat)) i) (b := 0) (by omega) (by omega)] at n1
              rw [show (0 : Int32) = iI 0 from rfl, iI_lt (a := 0) (b := gw_V ((cb : Nat) - (ca : Nat)) ((rb : Nat) - (ra : Nat)) ((cc : Nat) - (ca : Nat)) ((rc : Nat) - (ra : Nat)) i) (by omega) (by omega)] at n2
              generalize gw_sg (iI (gw_V ((cb : Nat) - (ca : Nat)) ((rb : Nat) - (ra : Nat)) ((cc : Nat) - (ca : Nat)) ((rc : Nat) - (ra : Nat)) i)) = v at *
              refine mw_st (ls' := [_, _, _, _, _, _, _, _, _, _, _, _, _, _, _, _, _, _]) 200 i_Model_cuts_198 rfl rfl rfl rfl ?_
              refine mw_ld 202 i_Model_cuts_200 rfl rfl rfl ?_
              refine mw_ld 204 i_Model_cuts_202 rfl rfl rfl ?_
              refine mw_ic 207 i_Model_cuts_204 rfl (fun h204 => ?_) (fun h204 => ?_)
              · refine mw_ld 214 i_Model_cuts_212 rfl rfl rfl ?_
                refine mw_st (ls' := [_, _, _, _, _, _, _, _, _, _, _, _, _, _, _, _, _, _]) 216 i_Model_cuts_214 rfl rfl rfl rfl ?_
                refine mw_ld 218 i_Model_cuts_216 rfl rfl rfl ?_
                refine mw_ld 220 i_Model_cuts_218 rfl rfl rfl ?_
                refine mw_ic 223 i_Model_cuts_220 rfl (fun h220 => ?_) (fun h220 => ?_)
                · refine mw_ld 230 i_Model_cuts_228 rfl rfl rfl ?_
                  refine mw_st (ls' := [_, _, _, _, _, _, _, _, _, _, _, _, _, _, _, _, _, _]) 232 i_Model_cuts_230 rfl rfl rfl rfl ?_
                  refine mw_inc (ls' := [_, _, _, _, _, _, _, _, _, _, _, _, _, _, _, _, _, _]) 235 (nI (i + 1)) i_Model_cuts_232 rfl rfl rfl (nI_1 i) rfl ?_
                  refine mw_go i_Model_cuts_235 ?_
                  refine ih (_, _, _) ⟨?_, ?_⟩
                  · rw [gw_ex_succ, ← g1, ← n1]
                    dsimp only
                    have e0 : (iI 0).toInt = 0 := rfl
                    simp only [mj_lt, mj_le, mj_lit0, e0] at *; omega
                  · rw [gw_ex_succ, ← g2, ← n2]
                    dsimp only
                    have e0 : (iI 0).toInt = 0 := rfl
                    simp only [mj_lt, mj_le, mj_lit0, e0] at *; omega
                · refine mw_ld 225 i_Model_cuts_223 rfl rfl rfl ?_
                  refine mw_go i_Model_cuts_225 ?_
                  refine mw_st (ls' := [_, _, _, _, _, _, _, _, _, _, _, _, _, _, _, _, _, _]) 232 i_Model_cuts_230 rfl rfl rfl rfl ?_
                  refine mw_inc (ls' := [_, _, _, _, _, _, _, _, _, _, _, _, _, _, _, _, _, _]) 235 (nI (i + 1)) i_Model_cuts_232 rfl rfl rfl (nI_1 i) rfl ?_
                  refine mw_go i_Model_cuts_235 ?_
                  refine ih (_, _, _) ⟨?_, ?_⟩
                  · rw [gw_ex_succ, ← g1, ← n1]
                    dsimp only
                    have e0 : (iI 0).toInt = 0 := rfl
                    simp only [mj_lt, mj_le, mj_lit0, e0] at *; omega
                  · rw [gw_ex_succ, ← g2, ← n2]
                    dsimp only
                    have e0 : (iI 0).toInt = 0 := rfl
                    simp only [mj_lt, mj_le, mj_lit0, e0] at *; omega
              · refine mw_ld 209 i_Model_cuts_207 rfl rfl rfl ?_
                refine mw_go i_Model_cuts_209 ?_
                refine mw_st (ls' := [_, _, _, _, _, _, _, _, _, _, _, _, _, _, _, _, _, _]) 216 i_Model_cuts_214 rfl rfl rfl rfl ?_
                refine mw_ld 218 i_Model_cuts_216 rfl rfl rfl ?_
                refine mw_ld 220 i_Model_cuts_218 rfl rfl rfl ?_
                refine mw_ic 223 i_Model_cuts_220 rfl (fun h220 => ?_) (fun h220 => ?_)
                · refine mw_ld 230 i_Model_cuts_228 rfl rfl rfl ?_
                  refine mw_st (ls' := [_, _, _, _, _, _, _, _, _, _, _, _, _, _, _, _, _, _]) 232 i_Model_cuts_230 rfl rfl rfl rfl ?_
                  refine mw_inc (ls' := [_, _, _, _, _, _, _, _, _, _, _, _, _, _, _, _, _, _]) 235 (nI (i + 1)) i_Model_cuts_232 rfl rfl rfl (nI_1 i) rfl ?_
                  refine mw_go i_Model_cuts_235 ?_
                  refine ih (_, _, _) ⟨?_, ?_⟩
                  · rw [gw_ex_succ, ← g1, ← n1]
                    dsimp only
                    have e0 : (iI 0).toInt = 0 := rfl
                    simp only [mj_lt, mj_le, mj_lit0, e0] at *; omega
                  · rw [gw_ex_succ, ← g2, ← n2]
                    dsimp only
                    have e0 : (iI 0).toInt = 0 := rfl
                    simp only [mj_lt, mj_le, mj_lit0, e0] at *; omega
                · refine mw_ld 225 i_Model_cuts_223 rfl rfl rfl ?_
                  refine mw_go i_Model_cuts_225 ?_
                  refine mw_st (ls' := [_, _, _, _, _, _, _, _, _, _, _, _, _, _, _, _, _, _]) 232 i_Model_cuts_230 rfl rfl rfl rfl ?_
                  refine mw_inc (ls' := [_, _, _, _, _, _, _, _, _, _, _, _, _, _, _, _, _, _]) 235 (nI (i + 1)) i_Model_cuts_232 rfl rfl rfl (nI_1 i) rfl ?_
                  refine mw_go i_Model_cuts_235 ?_
                  refine ih (_, _, _) ⟨?_, ?_⟩
                  · rw [gw_ex_succ, ← g1, ← n1]
                    dsimp only
                    have e0 : (iI 0).toInt = 0 := rfl
                    simp only [mj_lt, mj_le, mj_lit0, e0] at *; omega
                  · rw [gw_ex_succ, ← g2, ← n2]
                    dsimp only
                    have e0 : (iI 0).toInt = 0 := rfl
                    simp only [mj_lt, mj_le, mj_lit0, e0] at *; omega
          · refine mw_k 153 i_Model_cuts_152 rfl ?_
            refine mw_ri i_Model_cuts_153 rfl rfl ?_
            refine mj_q0 ?_ k
            rw [Bool.eq_false_iff]
            intro q
            simp only [Bool.and_eq_true] at q
            have q1 := (hbox _ _ _).mp q.1.1
            have q2 := (hbox _ _ _).mp q.1.2
            simp only [mj_lt, mj_le, mj_nI _ (show 2 * ca + 1 + (2 * cb + 1) - min (2 * ca + 1) (2 * cb + 1) < 2147483648 by omega), mj_nI _ (show 2 * ra + 1 + (2 * rb + 1) - min (2 * ra + 1) (2 * rb + 1) < 2147483648 by omega), mj_nI _ (show 2 * cc < 2147483648 by omega), mj_nI _ (show 2 * rc < 2147483648 by omega), mj_nI _ (show 2 * cc + 2 < 2147483648 by omega), mj_nI _ (show 2 * rc + 2 < 2147483648 by omega), mj_nI _ (show min (2 * ca + 1) (2 * cb + 1) < 2147483648 by omega), mj_nI _ (show min (2 * ra + 1) (2 * rb + 1) < 2147483648 by omega)] at *
            omega
  refine mw_in (l0 := [some (.ref 55), some (.int (nI a)), some (.int (nI b)), some (.int (nI c)), none, none, none, none, none, none, none, none, none, none, none, none, none, none]) rfl ?_
  refine mw_k 1 i_Model_cuts_0 rfl ?_
  refine mw_ld 2 i_Model_cuts_1 rfl rfl rfl ?_
  refine mw_ld 3 i_Model_cuts_2 rfl rfl rfl ?_
  refine mw_get 6 i_Model_cuts_3 rfl (by assumption) (by rfl) ?_
  refine mw_d 7 i_Model_cuts_6 rfl hw0 ?_
  rw [pk_rem (by omega) (by omega) (by omega), ← eca]
  refine mw_b 8 i_Model_cuts_7 rfl ?_
  rw [show (2 : Int32) = nI 2 from rfl, pk_mul]
  refine mw_k 9 i_Model_cuts_8 rfl ?_
  refine mw_b 10 i_Model_cuts_9 rfl ?_
  rw [nI_1]
  refine mw_st (ls' := [_, _, _, _, _, _, _, _, _, _, _, _, _, _, _, _, _, _]) 12 i_Model_cuts_10 rfl rfl rfl rfl ?_
  refine mw_k 13 i_Model_cuts_12 rfl ?_
  refine mw_ld 14 i_Model_cuts_13 rfl rfl rfl ?_
  refine mw_ld 15 i_Model_cuts_14 rfl rfl rfl ?_
  refine mw_get 18 i_Model_cuts_15 rfl (by assumption) (by rfl) ?_
  refine mw_d 19 i_Model_cuts_18 rfl hw0 ?_
  rw [pk_div (by omega) (by omega) (by omega), ← era]
  refine mw_b 20 i_Model_cuts_19 rfl ?_
  rw [show (2 : Int32) = nI 2 from rfl, pk_mul]
  refine mw_k 21 i_Model_cuts_20 rfl ?_
  refine mw_b 22 i_Model_cuts_21 rfl ?_
  rw [nI_1]
  refine mw_st (ls' := [_, _, _, _, _, _, _, _, _, _, _, _, _, _, _, _, _, _]) 24 i_Model_cuts_22 rfl rfl rfl rfl ?_
  refine mw_k 25 i_Model_cuts_24 rfl ?_
  refine mw_ld 26 i_Model_cuts_25 rfl rfl rfl ?_
  refine mw_ld 27 i_Model_cuts_26 rfl rfl rfl ?_
  refine mw_get 30 i_Model_cuts_27 rfl (by assumption) (by rfl) ?_
  refine mw_d 31 i_Model_cuts_30 rfl hw0 ?_
  rw [pk_rem (by omega) (by omega) (by omega), ← ecb]
  refine mw_b 32 i_Model_cuts_31 rfl ?_
  rw [show (2 : Int32) = nI 2 from rfl, pk_mul]
  refine mw_k 33 i_Model_cuts_32 rfl ?_
  refine mw_b 34 i_Model_cuts_33 rfl ?_
  rw [nI_1]
  refine mw_st (ls' := [_, _, _, _, _, _, _, _, _, _, _, _, _, _, _, _, _, _]) 36 i_Model_cuts_34 rfl rfl rfl rfl ?_
  refine mw_k 37 i_Model_cuts_36 rfl ?_
  refine mw_ld 38 i_Model_cuts_37 rfl rfl rfl ?_
  refine mw_ld 39 i_Model_cuts_38 rfl rfl rfl ?_
  refine mw_get 42 i_Model_cuts_39 rfl (by assumption) (by rfl) ?_
  refine mw_d 43 i_Model_cuts_42 rfl hw0 ?_
  rw [pk_div (by omega) (by omega) (by omega), ← erb]
  refine mw_b 44 i_Model_cuts_43 rfl ?_
  rw [show (2 : Int32) = nI 2 from rfl, pk_mul]
  refine mw_k 45 i_Model_cuts_44 rfl ?_
  refine mw_b 46 i_Model_cuts_45 rfl ?_
  rw [nI_1]
  refine mw_st (ls' := [_, _, _, _, _, _, _, _, _, _, _, _, _, _, _, _, _, _]) 48 i_Model_cuts_46 rfl rfl rfl rfl ?_
  refine mw_k 49 i_Model_cuts_48 rfl ?_
  refine mw_ld 50 i_Model_cuts_49 rfl rfl rfl ?_
  refine mw_ld 51 i_Model_cuts_50 rfl rfl rfl ?_
  refine mw_get 54 i_Model_cuts_51 rfl (by assumption) (by rfl) ?_
  refine mw_d 55 i_Model_cuts_54 rfl hw0 ?_
  rw [pk_rem (by omega) (by omega) (by omega), ← ecc]
  refine mw_b 56 i_Model_cuts_55 rfl ?_
  rw [show (2 : Int32) = nI 2 from rfl, pk_mul]
  refine mw_st (ls' := [_, _, _, _, _, _, _, _, _, _, _, _, _, _, _, _, _, _]) 58 i_Model_cuts_56 rfl rfl rfl rfl ?_
  refine mw_k 59 i_Model_cuts_58 rfl ?_
  refine mw_ld 60 i_Model_cuts_59 rfl rfl rfl ?_
  refine mw_ld 61 i_Model_cuts_60 rfl rfl rfl ?_
  refine mw_get 64 i_Model_cuts_61 rfl (by assumption) (by rfl) ?_
  refine mw_d 65 i_Model_cuts_64 rfl hw0 ?_
  rw [pk_div (by omega) (by omega) (by omega), ← erc]
  refine mw_b 66 i_Model_cuts_65 rfl ?_
  rw [show (2 : Int32) = nI 2 from rfl, pk_mul]
  refine mw_st (ls' := [_, _, _, _, _, _, _, _, _, _, _, _, _, _, _, _, _, _]) 68 i_Model_cuts_66 rfl rfl rfl rfl ?_
  refine mw_ld 70 i_Model_cuts_68 rfl rfl rfl ?_
  refine mw_ld 72 i_Model_cuts_70 rfl rfl rfl ?_
  refine mw_ic 75 i_Model_cuts_72 rfl (fun h72 => ?_) (fun h72 => ?_)
  · refine mw_ld 82 i_Model_cuts_80 rfl rfl rfl ?_
    refine mw_st (ls' := [_, _, _, _, _, _, _, _, _, _, _, _, _, _, _, _, _, _]) 84 i_Model_cuts_82 rfl rfl rfl rfl ?_
    refine mw_ld 86 i_Model_cuts_84 rfl rfl rfl ?_
    refine mw_ld 88 i_Model_cuts_86 rfl rfl rfl ?_
    refine mw_ic 91 i_Model_cuts_88 rfl (fun h88 => ?_) (fun h88 => ?_)
    · refine mw_ld 98 i_Model_cuts_96 rfl rfl rfl ?_
      refine mw_st (ls' := [_, _, _, _, _, _, _, _, _, _, _, _, _, _, _, _, _, _]) 100 i_Model_cuts_98 rfl rfl rfl rfl ?_
      rw [nI_leI (by omega) (by omega)] at h72 h88
      first
      | (rw [show min (2 * ca + 1) (2 * cb + 1) = 2 * ca + 1 by omega, show min (2 * ra + 1) (2 * rb + 1) = 2 * ra + 1 by omega] at kk; exact kk)
      | (rw [show min (2 * ca + 1) (2 * cb + 1) = 2 * ca + 1 by omega, show min (2 * ra + 1) (2 * rb + 1) = 2 * rb + 1 by omega] at kk; exact kk)
      | (rw [show min (2 * ca + 1) (2 * cb + 1) = 2 * cb + 1 by omega, show min (2 * ra + 1) (2 * rb + 1) = 2 * ra + 1 by omega] at kk; exact kk)
      | (rw [show min (2 * ca + 1) (2 * cb + 1) = 2 * cb + 1 by omega, show min (2 * ra + 1) (2 * rb + 1) = 2 * rb + 1 by omega] at kk; exact kk)
    · refine mw_ld 93 i_Model_cuts_91 rfl rfl rfl ?_
      refine mw_go i_Model_cuts_93 ?_
      refine mw_st (ls' := [_, _, _, _, _, _, _, _, _, _, _, _, _, _, _, _, _, _]) 100 i_Model_cuts_98 rfl rfl rfl rfl ?_
      rw [nI_leI (by omega) (by omega)] at h72 h88
      first
      | (rw [show min (2 * ca + 1) (2 * cb + 1) = 2 * ca + 1 by omega, show min (2 * ra + 1) (2 * rb + 1) = 2 * ra + 1 by omega] at kk; exact kk)
      | (rw [show min (2 * ca + 1) (2 * cb + 1) = 2 * ca + 1 by omega, show min (2 * ra + 1) (2 * rb + 1) = 2 * rb + 1 by omega] at kk; exact kk)
      | (rw [show min (2 * ca + 1) (2 * cb + 1) = 2 * cb + 1 by omega, show min (2 * ra + 1) (2 * rb + 1) = 2 * ra + 1 by omega] at kk; exact kk)
      | (rw [show min (2 * ca + 1) (2 * cb + 1) = 2 * cb + 1 by omega, show min (2 * ra + 1) (2 * rb + 1) = 2 * rb + 1 by omega] at kk; exact kk)
  · refine mw_ld 77 i_Model_cuts_75 rfl rfl rfl ?_
    refine mw_go i_Model_cuts_77 ?_
    refine mw_st (ls' := [_, _, _, _, _, _, _, _, _, _, _, _, _, _, _, _, _, _]) 84 i_Model_cuts_82 rfl rfl rfl rfl ?_
    refine mw_ld 86 i_Model_cuts_84 rfl rfl rfl ?_
    refine mw_ld 88 i_Model_cuts_86 rfl rfl rfl ?_
    refine mw_ic 91 i_Model_cuts_88 rfl (fun h88 => ?_) (fun h88 => ?_)
    · refine mw_ld 98 i_Model_cuts_96 rfl rfl rfl ?_
      refine mw_st (ls' := [_, _, _, _, _, _, _, _, _, _, _, _, _, _, _, _, _, _]) 100 i_Model_cuts_98 rfl rfl rfl rfl ?_
      rw [nI_leI (by omega) (by omega)] at h72 h88
      first
      | (rw [show min (2 * ca + 1) (2 * cb + 1) = 2 * ca + 1 by omega, show min (2 * ra + 1) (2 * rb + 1) = 2 * ra + 1 by omega] at kk; exact kk)
      | (rw [show min (2 * ca + 1) (2 * cb + 1) = 2 * ca + 1 by omega, show min (2 * ra + 1) (2 * rb + 1) = 2 * rb + 1 by omega] at kk; exact kk)
      | (rw [show min (2 * ca + 1) (2 * cb + 1) = 2 * cb + 1 by omega, show min (2 * ra + 1) (2 * rb + 1) = 2 * ra + 1 by omega] at kk; exact kk)
      | (rw [show min (2 * ca + 1) (2 * cb + 1) = 2 * cb + 1 by omega, show min (2 * ra + 1) (2 * rb + 1) = 2 * rb + 1 by omega] at kk; exact kk)
    · refine mw_ld 93 i_Model_cuts_91 rfl rfl rfl ?_
      refine mw_go i_Model_cuts_93 ?_
      refine mw_st (ls' := [_, _, _, _, _, _, _, _, _, _, _, _, _, _, _, _, _, _]) 100 i_Model_cuts_98 rfl rfl rfl rfl ?_
      rw [nI_leI (by omega) (by omega)] at h72 h88
      first
      | (rw [show min (2 * ca + 1) (2 * cb + 1) = 2 * ca + 1 by omega, show min (2 * ra + 1) (2 * rb + 1) = 2 * ra + 1 by omega] at kk; exact kk)
      | (rw [show min (2 * ca + 1) (2 * cb + 1) = 2 * ca + 1 by omega, show min (2 * ra + 1) (2 * rb + 1) = 2 * rb + 1 by omega] at kk; exact kk)
      | (rw [show min (2 * ca + 1) (2 * cb + 1) = 2 * cb + 1 by omega, show min (2 * ra + 1) (2 * rb + 1) = 2 * ra + 1 by omega] at kk; exact kk)
      | (rw [show min (2 * ca + 1) (2 * cb + 1) = 2 * cb + 1 by omega, show min (2 * ra + 1) (2 * rb + 1) = 2 * rb + 1 by omega] at kk; exact kk)
theorem sp_Model_inSight {X : mj_X} {d : Nat} {σ : mj_H} {Q : Value → mj_H → Prop} {w h kp rw : Nat} {tf fu fe fi ma md : Int32} {s : Nat → Int32} (hO : σ.1 55 = gw_mo w h kp rw tf fu fe fi ma md) (hs1 : σ.1 56 = mj_AI 213 s) {a b : Nat} (ha : a < w * h) (hb : b < w * h) (hd : gw_dim w h) (k : Q (.int (mj_bI (gw_si w h s a b))) σ) : mj_M X (d + 2) y_Model_inSight [.ref 55, .int (nI a), .int (nI b)] σ (mj_V Q) := by
  have hwh := gw_dim_le hd
  refine mw_in (l0 := [some (.ref 55), some (.int (nI a)), some (.int (nI b)), none, none]) rfl ?_
  refine mw_ld 1 i_Model_inSight_0 rfl rfl rfl ?_
  refine mw_ld 2 i_Model_inSight_1 rfl rfl rfl ?_
  refine mw_cv1 5 i_Model_inSight_2 rfl (by assumption) (sp_Model_isOpen hO hs1 (by omega) ?_) rfl rfl (Nat.le_of_ble_eq_true rfl) (Nat.le_of_ble_eq_true rfl)
  refine mw_if 8 i_Model_inSight_5 rfl (fun h5 => ?_) (fun h5 => ?_)
  · refine mw_k 17 i_Model_inSight_16 rfl ?_
    refine mw_ri i_Model_inSight_17 rfl rfl ?_
    exact mj_q0 (by simp only [mj_bI0, mj_bI1, Classical.not_not] at *; simp [gw_si, *]) k
  · refine mw_ld 9 i_Model_inSight_8 rfl rfl rfl ?_
    refine mw_ld 10 i_Model_inSight_9 rfl rfl rfl ?_
    refine mw_cv1 13 i_Model_inSight_10 rfl (by assumption) (sp_Model_isOpen hO hs1 (by omega) ?_) rfl rfl (Nat.le_of_ble_eq_true rfl) (Nat.le_of_ble_eq_true rfl)
    refine mw_if 16 i_Model_inSight_13 rfl (fun h13 => ?_) (fun h13 => ?_)
    · refine mw_k 19 i_Model_inSight_18 rfl ?_
      refine mw_st (ls' := [_, _, _, _, _]) 20 i_Model_inSight_19 rfl rfl rfl rfl ?_
      refine mw_k 21 i_Model_inSight_20 rfl ?_
      refine mw_st (ls' := [_, _, _, _, _]) 23 i_Model_inSight_21 rfl rfl rfl rfl ?_
      have hsa := mj_bI1.mp h5
      have hsb := mj_bI1.mp h13
      rw [gw_si, hsa, hsb, Bool.true_and, Bool.true_and] at k
      refine mj_for (S := Unit) (fun i _ => mj_Wp X (d + 2) y_Model_inSight 23 [some (.ref 55), some (.int (nI a)), some (.int (nI b)), some (.int (mj_bI ((List.range i).all (fun c => (s c == 0) || !gw_ct w a b c)))), some (.int (nI i))] [] σ (mj_V Q)) (fun i _ => True) (w * h) ?_ ?_ 0 () (Nat.zero_le _) trivial
      · intro _ _
        refine mw_ld 25 i_Model_inSight_23 rfl rfl rfl ?_
        refine mw_ld 26 i_Model_inSight_25 rfl rfl rfl ?_
        refine mw_cv1 29 i_Model_inSight_26 rfl (by assumption) (sp_Model_cells hO ?_) rfl rfl (Nat.le_of_ble_eq_true rfl) (Nat.le_of_ble_eq_true rfl)
        refine mw_ic1 i_Model_inSight_29 (nI_le (Nat.le_refl _) (by omega)) ?_
        refine mw_ld 69 i_Model_inSight_68 rfl rfl rfl ?_
        refine mw_ri i_Model_inSight_69 rfl (mj_bI_nar _) ?_
        exact k
      · intro i _ hi _ ih
        by_cases hA : ((List.range i).all (fun c => (s c == 0) || !gw_ct w a b c)) = true
        · have eall : ∀ b', (((List.range i).all (fun c => (s c == 0) || !gw_ct w a b c)) && ((s i == 0) || !gw_ct w a b i)) = b' → mj_Wp X (d + 2) y_Model_inSight 23 [some (.ref 55), some (.int (nI a)), some (.int (nI b)), some (.int (mj_bI b')), some (.int (nI (i + 1)))] [] σ (mj_V Q) := by
            intro b' hb'
            have := ih () trivial
            rw [List.range_succ, List.all_append] at this
            simp only [List.all_cons, List.all_nil, Bool.and_true] at this
            rw [hb'] at this
            exact this
          by_cases hB : (s i == 0) = true
          · skip
            refine mw_ld 25 i_Model_inSight_23 rfl rfl rfl ?_
            refine mw_ld 26 i_Model_inSight_25 rfl rfl rfl ?_
            refine mw_cv1 29 i_Model_inSight_26 rfl (by assumption) (sp_Model_cells hO ?_) rfl rfl (Nat.le_of_ble_eq_true rfl) (Nat.le_of_ble_eq_true rfl)
            refine mw_ic0 32 i_Model_inSight_29 rfl (nI_ge hi (by omega)) ?_
            refine mw_ld 33 i_Model_inSight_32 rfl rfl rfl ?_
            refine mw_if0 36 i_Model_inSight_33 rfl (mj_bI1.mpr hA) ?_
            refine mw_ld 37 i_Model_inSight_36 rfl rfl rfl ?_
            refine mw_ld 39 i_Model_inSight_37 rfl rfl rfl ?_
            refine mw_cv1 42 i_Model_inSight_39 rfl (by assumption) (sp_Model_isOpen hO hs1 (by omega) ?_) rfl rfl (Nat.le_of_ble_eq_true rfl) (Nat.le_of_ble_eq_true rfl)
            refine mw_if1 i_Model_inSight_42 (mj_bI1.mpr hB) ?_
            refine mw_k 57 i_Model_inSight_56 rfl ?_
            refine mw_go i_Model_inSight_57 ?_
            refine mw_st (ls' := [_, _, _, _, _]) 62 i_Model_inSight_61 rfl rfl rfl rfl ?_
            refine mw_inc (ls' := [_, _, _, _, _]) 65 (nI (i + 1)) i_Model_inSight_62 rfl rfl rfl (nI_1 i) rfl ?_
            refine mw_go i_Model_inSight_65 ?_
            exact eall true (by simp [hA, hB])
          · by_cases hC : gw_ct w a b i = true
            · skip
              refine mw_ld 25 i_Model_inSight_23 rfl rfl rfl ?_
              refine mw_ld 26 i_Model_inSight_25 rfl rfl rfl ?_
              refine mw_cv1 29 i_Model_inSight_26 rfl (by assumption) (sp_Model_cells hO ?_) rfl rfl (Nat.le_of_ble_eq_true rfl) (Nat.le_of_ble_eq_true rfl)
              refine mw_ic0 32 i_Model_inSight_29 rfl (nI_ge hi (by omega)) ?_
              refine mw_ld 33 i_Model_inSight_32 rfl rfl rfl ?_
              refine mw_if0 36 i_Model_inSight_33 rfl (mj_bI1.mpr hA) ?_
              refine mw_ld 37 i_Model_inSight_36 rfl rfl rfl ?_
              refine mw_ld 39 i_Model_inSight_37 rfl rfl rfl ?_
              refine mw_cv1 42 i_Model_inSight_39 rfl (by assumption) (sp_Model_isOpen hO hs1 (by omega) ?_) rfl rfl (Nat.le_of_ble_eq_true rfl) (Nat.le_of_ble_eq_true rfl)
              refine mw_if0 45 i_Model_inSight_42 rfl (fun q => q (mj_bI0.mpr (gw_nt hB))) ?_
              refine mw_ld 46 i_Model_inSight_45 rfl rfl rfl ?_
              refine mw_ld 47 i_Model_inSight_46 rfl rfl rfl ?_
              refine mw_ld 48 i_Model_inSight_47 rfl rfl rfl ?_
              refine mw_ld 50 i_Model_inSight_48 rfl rfl rfl ?_
              refine mw_cv1 53 i_Model_inSight_50 rfl (by assumption) (sp_Model_cuts hO hi ha hb hd ?_) rfl rfl (Nat.le_of_ble_eq_true rfl) (Nat.le_of_ble_eq_true rfl)
              refine mw_if1 i_Model_inSight_53 (mj_bI1.mpr hC) ?_
              refine mw_k 61 i_Model_inSight_60 rfl ?_
              refine mw_st (ls' := [_, _, _, _, _]) 62 i_Model_inSight_61 rfl rfl rfl rfl ?_
              refine mw_inc (ls' := [_, _, _, _, _]) 65 (nI (i + 1)) i_Model_inSight_62 rfl rfl rfl (nI_1 i) rfl ?_
              refine mw_go i_Model_inSight_65 ?_
              exact eall false (by simp [hA, hB, hC])
            · skip
              refine mw_ld 25 i_Model_inSight_23 rfl rfl rfl ?_
              refine mw_ld 26 i_Model_inSight_25 rfl rfl rfl ?_
              refine mw_cv1 29 i_Model_inSight_26 rfl (by assumption) (sp_Model_cells hO ?_) rfl rfl (Nat.le_of_ble_eq_true rfl) (Nat.le_of_ble_eq_true rfl)
              refine mw_ic0 32 i_Model_inSight_29 rfl (nI_ge hi (by omega)) ?_
              refine mw_ld 33 i_Model_inSight_32 rfl rfl rfl ?_
              refine mw_if0 36 i_Model_inSight_33 rfl (mj_bI1.mpr hA) ?_
              refine mw_ld 37 i_Model_inSight_36 rfl rfl rfl ?_
              refine mw_ld 39 i_Model_inSight_37 rfl rfl rfl ?_
              refine mw_cv1 42 i_Model_inSight_39 rfl (by assumption) (sp_Model_isOpen hO hs1 (by omega) ?_) rfl rfl (Nat.le_of_ble_eq_true rfl) (Nat.le_of_ble_eq_true rfl)
              refine mw_if0 45 i_Model_inSight_42 rfl (fun q => q (mj_bI0.mpr (gw_nt hB))) ?_
              refine mw_ld 46 i_Model_inSight_45 rfl rfl rfl ?_
              refine mw_ld 47 i_Model_inSight_46 rfl rfl rfl ?_
              refine mw_ld 48 i_Model_inSight_47 rfl rfl rfl ?_
              refine mw_ld 50 i_Model_inSight_48 rfl rfl rfl ?_
              refine mw_cv1 53 i_Model_inSight_50 rfl (by assumption) (sp_Model_cuts hO hi ha hb hd ?_) rfl rfl (Nat.le_of_ble_eq_true rfl) (Nat.le_of_ble_eq_true rfl)
              refine mw_if0 56 i_Model_inSight_53 rfl (fun q => q (mj_bI0.mpr (gw_nt hC))) ?_
              refine mw_k 57 i_Model_inSight_56 rfl ?_
              refine mw_go i_Model_inSight_57 ?_
              refine mw_st (ls' := [_, _, _, _, _]) 62 i_Model_inSight_61 rfl rfl rfl rfl ?_
              refine mw_inc (ls' := [_, _, _, _, _]) 65 (nI (i + 1)) i_Model_inSight_62 rfl rfl rfl (nI_1 i) rfl ?_
              refine mw_go i_Model_inSight_65 ?_
              exact eall true (by simp [hA, hB, hC])
        · have hF : ((List.range (w * h)).all (fun c => (s c == 0) || !gw_ct w a b c)) = false := by
            rw [Bool.eq_false_iff]
            intro q
            apply hA
            rw [List.all_eq_true] at q ⊢
            exact fun x hx => q x (List.mem_range.mpr (by have := List.mem_range.mp hx; omega))
          rw [hF] at k
          refine mw_ld 25 i_Model_inSight_23 rfl rfl rfl ?_
          refine mw_ld 26 i_Model_inSight_25 rfl rfl rfl ?_
          refine mw_cv1 29 i_Model_inSight_26 rfl (by assumption) (sp_Model_cells hO ?_) rfl rfl (Nat.le_of_ble_eq_true rfl) (Nat.le_of_ble_eq_true rfl)
          refine mw_ic0 32 i_Model_inSight_29 rfl (nI_ge hi (by omega)) ?_
          refine mw_ld 33 i_Model_inSight_32 rfl rfl rfl ?_
          refine mw_if1 i_Model_inSight_33 (mj_bI0.mpr (gw_nt hA)) ?_
          refine mw_ld 69 i_Model_inSight_68 rfl rfl rfl ?_
          refine mw_ri i_Model_inSight_69 rfl (mj_bI_nar _) ?_
          rw [gw_nt hA]
          exact k
    · refine mw_k 17 i_Model_inSight_16 rfl ?_
      refine mw_ri i_Model_inSight_17 rfl rfl ?_
      exact mj_q0 (by simp only [mj_bI0, mj_bI1, Classical.not_not] at *; simp [gw_si, *]) k
