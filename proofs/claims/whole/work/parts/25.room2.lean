/-! Room: neighbours, standing -/
/-- whole numbers as the machine's ints -/
def iI (z : Int) : Int32 := Int32.ofInt z
theorem iI_nI (k : Nat) : nI k = iI (k : Int) := by
  apply Int32.toBitVec_inj.mp
  show BitVec.ofNat 32 k = BitVec.ofInt 32 (k : Int)
  exact (BitVec.ofInt_natCast 32 k).symm
theorem iI_add (a b : Int) : iI a + iI b = iI (a + b) := (Int32.ofInt_add a b).symm
theorem iI_sub (a b : Int) : iI a - iI b = iI (a - b) := (Int32.ofInt_sub a b).symm
theorem iI_mul (a b : Int) : iI a * iI b = iI (a * b) := (Int32.ofInt_mul a b).symm
theorem iI_neg (a : Int) : -iI a = iI (-a) := (Int32.ofInt_neg a).symm
theorem iI_toInt {z : Int} (h1 : -2147483648 ≤ z) (h2 : z < 2147483648) : (iI z).toInt = z := Int32.toInt_ofInt_of_le h1 h2
theorem iI_lit (k : Nat) : (OfNat.ofNat k : Int32) = iI (k : Int) := iI_nI k
theorem iI_of (c : Int32) : c = iI c.toInt := (Int32.ofInt_toInt c).symm
theorem iI_lt {a b : Int} (ha : -2147483648 ≤ a ∧ a < 2147483648) (hb : -2147483648 ≤ b ∧ b < 2147483648) : iI a < iI b ↔ a < b := by
  rw [mj_lt, iI_toInt ha.1 ha.2, iI_toInt hb.1 hb.2]
theorem iI_le {a b : Int} (ha : -2147483648 ≤ a ∧ a < 2147483648) (hb : -2147483648 ≤ b ∧ b < 2147483648) : iI a ≤ iI b ↔ a ≤ b := by
  rw [mj_le, iI_toInt ha.1 ha.2, iI_toInt hb.1 hb.2]
theorem iI_eq {a b : Int} (ha : -2147483648 ≤ a ∧ a < 2147483648) (hb : -2147483648 ≤ b ∧ b < 2147483648) : iI a = iI b ↔ a = b := by
  rw [mj_eq, iI_toInt ha.1 ha.2, iI_toInt hb.1 hb.2]
theorem iI_abs {a : Int} (ha : -2147483647 ≤ a ∧ a < 2147483648) : (if 0 ≤ iI a then iI a else 0 - iI a) = iI (a.natAbs : Int) := by
  have e : (0 : Int32) = iI 0 := rfl
  rw [e]
  by_cases h : 0 ≤ a
  · rw [if_pos ((iI_le (by omega) (by omega)).mpr h)]
    congr 1; omega
  · rw [if_neg (fun q => h ((iI_le (by omega) (by omega)).mp q)), iI_sub]
    congr 1; omega
theorem gw_div_le {c w : Nat} (h : 0 < c / w) : w ≤ c := by
  rcases Nat.lt_or_ge c w with q | q
  · rw [Nat.div_eq_of_lt q] at h
    omega
  · exact q
theorem iI_nab (a : Int) (k : Nat) (h : (k : Int) = a) : iI a = nI k := by rw [iI_nI, h]
/-- the cell beside, on a side; -1: none -/
def gw_be (w h c : Nat) : Nat → Int32
  | 0 => if 0 < c / w then nI (c - w) else -1
  | 1 => if 0 < c % w then nI (c - 1) else -1
  | 2 => if c % w < w - 1 then nI (c + 1) else -1
  | _ => if c / w < h - 1 then nI (c + w) else -1
def gw_aw (w h : Nat) (s : Nat → Int32) (c : Nat) : Bool := (List.range 4).any fun i => !gw_op w h s (gw_be w h c i)
def gw_st (w h : Nat) (s : Nat → Int32) (c : Nat) (kd : Int32) : Bool := gw_op w h s (nI c) && (!gw_door kd || gw_aw w h s c)
theorem sp_Room_beside {X : mj_X} {d : Nat} {σ : mj_H} {Q : Value → mj_H → Prop} {r w h n : Nat} {s : Nat → Int32} {c i : Nat} (hc : c < w * h) (hi : i < 4) (hd : gw_dim w h) (hR : gw_rm σ.1 r w h n s) (k : Q (.int (gw_be w h c i)) σ) : mj_M X (d + 1) y_Room_beside [.ref r, .int (nI c), .int (nI i)] σ (mj_V Q) := by
  have hw1 := hd.1
  have hh1 := hd.2.2.1
  have hw2 := hd.2.1
  have hh2 := hd.2.2.2
  have hwh := gw_dim_le hd
  have hdm := Nat.div_add_mod c w
  have hq1 : c / w < h := Nat.div_lt_of_lt_mul hc
  have hq2 : c % w < w := Nat.mod_lt _ (by omega)
  obtain ⟨wl, ps, c1, c2, c3, c4, c5⟩ := id hR
  have hc2 : c < 2147483648 := by omega
  refine mw_in (l0 := [some (.ref r), some (.int (nI c)), some (.int (nI i)), none, none]) rfl ?_
  refine mw_ld 1 i_Room_beside_0 rfl rfl rfl ?_
  refine mw_ld 2 i_Room_beside_1 rfl rfl rfl ?_
  refine mw_cv1 5 i_Room_beside_2 rfl (by assumption) (sp_Room_rowOf (by omega) hd hR ?_) rfl rfl (Nat.le_of_ble_eq_true rfl) (Nat.le_of_ble_eq_true rfl)
  refine mw_st (ls' := [_, _, _, _, _]) 6 i_Room_beside_5 rfl rfl rfl rfl ?_
  refine mw_ld 7 i_Room_beside_6 rfl rfl rfl ?_
  refine mw_ld 8 i_Room_beside_7 rfl rfl rfl ?_
  refine mw_cv1 11 i_Room_beside_8 rfl (by assumption) (sp_Room_columnOf (by omega) hd hR ?_) rfl rfl (Nat.le_of_ble_eq_true rfl) (Nat.le_of_ble_eq_true rfl)
  refine mw_st (ls' := [_, _, _, _, _]) 13 i_Room_beside_11 rfl rfl rfl rfl ?_
  refine mw_ld 14 i_Room_beside_13 rfl rfl rfl ?_
  match i, hi with
  | 0, _ =>
    refine mw_sw i_Room_beside_14_0 ?_
    refine mw_ld 41 i_Room_beside_40 rfl rfl rfl ?_
    refine mw_if 44 i_Room_beside_41 rfl (fun h41 => ?_) (fun h41 => ?_)
    · refine mw_k 54 i_Room_beside_53 rfl ?_
      refine mw_ri i_Room_beside_54 rfl rfl ?_
      first
      | (rw [show gw_be w h c 0 = -1 by simp only [gw_be]; exact if_neg (by simp only [mj_le, mj_nI _ (show c / w < 2147483648 by omega), mj_lit0] at h41; omega)] at k; exact k)
      | (have e : gw_be w h c 0 = nI c - nI w := by simp only [gw_be]; rw [if_pos (by simp only [mj_le, mj_nI _ (show c / w < 2147483648 by omega), mj_lit0] at h41; omega)]; symm; rw [pk_sub (gw_div_le (by simp only [mj_le, mj_nI _ (show c / w < 2147483648 by omega), mj_lit0] at h41; omega))]
         rw [e] at k; exact k)
    · refine mw_ld 45 i_Room_beside_44 rfl rfl rfl ?_
      refine mw_ld 46 i_Room_beside_45 rfl rfl rfl ?_
      refine mw_get 49 i_Room_beside_46 rfl (by assumption) (by rfl) ?_
      refine mw_b 50 i_Room_beside_49 rfl ?_
      refine mw_go i_Room_beside_50 ?_
      refine mw_ri i_Room_beside_54 rfl rfl ?_
      first
      | (rw [show gw_be w h c 0 = -1 by simp only [gw_be]; exact if_neg (by simp only [mj_le, mj_nI _ (show c / w < 2147483648 by omega), mj_lit0] at h41; omega)] at k; exact k)
      | (have e : gw_be w h c 0 = nI c - nI w := by simp only [gw_be]; rw [if_pos (by simp only [mj_le, mj_nI _ (show c / w < 2147483648 by omega), mj_lit0] at h41; omega)]; symm; rw [pk_sub (gw_div_le (by simp only [mj_le, mj_nI _ (show c / w < 2147483648 by omega), mj_lit0] at h41; omega))]
         rw [e] at k; exact k)
  | 1, _ =>
    refine mw_sw i_Room_beside_14_1 ?_
    refine mw_ld 57 i_Room_beside_55 rfl rfl rfl ?_
    refine mw_if 60 i_Room_beside_57 rfl (fun h57 => ?_) (fun h57 => ?_)
    · refine mw_k 67 i_Room_beside_66 rfl ?_
      refine mw_ri i_Room_beside_67 rfl rfl ?_
      first
      | (rw [show gw_be w h c 1 = -1 by simp only [gw_be]; exact if_neg (by simp only [mj_le, mj_nI _ (show c % w < 2147483648 by omega), mj_lit0] at h57; omega)] at k; exact k)
      | (have e : gw_be w h c 1 = nI c - 1 := by simp only [gw_be]; rw [if_pos (by simp only [mj_le, mj_nI _ (show c % w < 2147483648 by omega), mj_lit0] at h57; omega)]; symm; rw [show (1 : Int32) = nI 1 from rfl, pk_sub (by have := Nat.mod_le c w; simp only [mj_le, mj_nI _ (show c % w < 2147483648 by omega), mj_lit0] at h57; omega)]
         rw [e] at k; exact k)
    · refine mw_ld 61 i_Room_beside_60 rfl rfl rfl ?_
      refine mw_k 62 i_Room_beside_61 rfl ?_
      refine mw_b 63 i_Room_beside_62 rfl ?_
      refine mw_go i_Room_beside_63 ?_
      refine mw_ri i_Room_beside_67 rfl rfl ?_
      first
      | (rw [show gw_be w h c 1 = -1 by simp only [gw_be]; exact if_neg (by simp only [mj_le, mj_nI _ (show c % w < 2147483648 by omega), mj_lit0] at h57; omega)] at k; exact k)
      | (have e : gw_be w h c 1 = nI c - 1 := by simp only [gw_be]; rw [if_pos (by simp only [mj_le, mj_nI _ (show c % w < 2147483648 by omega), mj_lit0] at h57; omega)]; symm; rw [show (1 : Int32) = nI 1 from rfl, pk_sub (by have := Nat.mod_le c w; simp only [mj_le, mj_nI _ (show c % w < 2147483648 by omega), mj_lit0] at h57; omega)]
         rw [e] at k; exact k)
  | 2, _ =>
    refine mw_sw i_Room_beside_14_2 ?_
    refine mw_ld 70 i_Room_beside_68 rfl rfl rfl ?_
    refine mw_ld 71 i_Room_beside_70 rfl rfl rfl ?_
    refine mw_get 74 i_Room_beside_71 rfl (by assumption) (by rfl) ?_
    refine mw_k 75 i_Room_beside_74 rfl ?_
    refine mw_b 76 i_Room_beside_75 rfl ?_
    refine mw_ic 79 i_Room_beside_76 rfl (fun h76 => ?_) (fun h76 => ?_)
    · refine mw_k 86 i_Room_beside_85 rfl ?_
      refine mw_ri i_Room_beside_86 rfl rfl ?_
      first
      | (rw [show gw_be w h c 2 = -1 by simp only [gw_be]; exact if_neg (by rw [show (1 : Int32) = nI 1 from rfl, pk_sub (by omega)] at h76; simp only [mj_le, mj_nI _ (show c % w < 2147483648 by omega), mj_nI _ (show w - 1 < 2147483648 by omega)] at h76; omega)] at k; exact k)
      | (have e : gw_be w h c 2 = nI c + 1 := by simp only [gw_be]; rw [if_pos (by rw [show (1 : Int32) = nI 1 from rfl, pk_sub (by omega)] at h76; simp only [mj_le, mj_nI _ (show c % w < 2147483648 by omega), mj_nI _ (show w - 1 < 2147483648 by omega)] at h76; omega)]; symm; rw [nI_1]
         rw [e] at k; exact k)
    · refine mw_ld 80 i_Room_beside_79 rfl rfl rfl ?_
      refine mw_k 81 i_Room_beside_80 rfl ?_
      refine mw_b 82 i_Room_beside_81 rfl ?_
      refine mw_go i_Room_beside_82 ?_
      refine mw_ri i_Room_beside_86 rfl rfl ?_
      first
      | (rw [show gw_be w h c 2 = -1 by simp only [gw_be]; exact if_neg (by rw [show (1 : Int32) = nI 1 from rfl, pk_sub (by omega)] at h76; simp only [mj_le, mj_nI _ (show c % w < 2147483648 by omega), mj_nI _ (show w - 1 < 2147483648 by omega)] at h76; omega)] at k; exact k)
      | (have e : gw_be w h c 2 = nI c + 1 := by simp only [gw_be]; rw [if_pos (by rw [show (1 : Int32) = nI 1 from rfl, pk_sub (by omega)] at h76; simp only [mj_le, mj_nI _ (show c % w < 2147483648 by omega), mj_nI _ (show w - 1 < 2147483648 by omega)] at h76; omega)]; symm; rw [nI_1]
         rw [e] at k; exact k)
  | 3, _ =>
    refine mw_sw (i_Room_beside_14_o (.inr (by decide))) ?_
    refine mw_ld 88 i_Room_beside_87 rfl rfl rfl ?_
    refine mw_ld 89 i_Room_beside_88 rfl rfl rfl ?_
    refine mw_get 92 i_Room_beside_89 rfl (by assumption) (by rfl) ?_
    refine mw_k 93 i_Room_beside_92 rfl ?_
    refine mw_b 94 i_Room_beside_93 rfl ?_
    refine mw_ic 97 i_Room_beside_94 rfl (fun h94 => ?_) (fun h94 => ?_)
    · refine mw_k 107 i_Room_beside_106 rfl ?_
      refine mw_ri i_Room_beside_107 rfl rfl ?_
      first
      | (rw [show gw_be w h c 3 = -1 by simp only [gw_be]; exact if_neg (by rw [show (1 : Int32) = nI 1 from rfl, pk_sub (by omega)] at h94; simp only [mj_le, mj_nI _ (show c / w < 2147483648 by omega), mj_nI _ (show h - 1 < 2147483648 by omega)] at h94; generalize c / w = q at *; omega)] at k; exact k)
      | (have e : gw_be w h c 3 = nI c + nI w := by simp only [gw_be]; rw [if_pos (by rw [show (1 : Int32) = nI 1 from rfl, pk_sub (by omega)] at h94; simp only [mj_le, mj_nI _ (show c / w < 2147483648 by omega), mj_nI _ (show h - 1 < 2147483648 by omega)] at h94; generalize c / w = q at *; omega)]; symm; rw [nI_add]
         rw [e] at k; exact k)
    · refine mw_ld 98 i_Room_beside_97 rfl rfl rfl ?_
      refine mw_ld 99 i_Room_beside_98 rfl rfl rfl ?_
      refine mw_get 102 i_Room_beside_99 rfl (by assumption) (by rfl) ?_
      refine mw_b 103 i_Room_beside_102 rfl ?_
      refine mw_go i_Room_beside_103 ?_
      refine mw_ri i_Room_beside_107 rfl rfl ?_
      first
      | (rw [show gw_be w h c 3 = -1 by simp only [gw_be]; exact if_neg (by rw [show (1 : Int32) = nI 1 from rfl, pk_sub (by omega)] at h94; simp only [mj_le, mj_nI _ (show c / w < 2147483648 by omega), mj_nI _ (show h - 1 < 2147483648 by omega)] at h94; generalize c / w = q at *; omega)] at k; exact k)
      | (have e : gw_be w h c 3 = nI c + nI w := by simp only [gw_be]; rw [if_pos (by rw [show (1 : Int32) = nI 1 from rfl, pk_sub (by omega)] at h94; simp only [mj_le, mj_nI _ (show c / w < 2147483648 by omega), mj_nI _ (show h - 1 < 2147483648 by omega)] at h94; generalize c / w = q at *; omega)]; symm; rw [nI_add]
         rw [e] at k; exact k)
theorem sp_Room_isAtWall {X : mj_X} {d : Nat} {σ : mj_H} {Q : Value → mj_H → Prop} {r w h n : Nat} {s : Nat → Int32} {c : Nat} (hc : c < w * h) (hd : gw_dim w h) (hR : gw_rm σ.1 r w h n s) (k : Q (.int (mj_bI (gw_aw w h s c))) σ) : mj_M X (d + 2) y_Room_isAtWall [.ref r, .int (nI c)] σ (mj_V Q) := by
  obtain ⟨wl, ps, c1, c2, c3, c4, c5⟩ := id hR
  refine mw_in (l0 := [some (.ref r), some (.int (nI c)), none]) rfl ?_
  refine mw_k 1 i_Room_isAtWall_0 rfl ?_
  refine mw_st (ls' := [_, _, _]) 2 i_Room_isAtWall_1 rfl rfl rfl rfl ?_
  refine mj_for (S := Unit) (fun i _ => mj_Wp X (d + 2) y_Room_isAtWall 2 [some (.ref r), some (.int (nI c)), some (.int (nI i))] [] σ (mj_V Q)) (fun i _ => ∀ j, j < i → gw_op w h s (gw_be w h c j) = true) 4 ?_ ?_ 0 () (Nat.zero_le _) (fun j hj => absurd hj (Nat.not_lt_zero j))
  · intro _ hI
    refine mw_ld 3 i_Room_isAtWall_2 rfl rfl rfl ?_
    refine mw_k 4 i_Room_isAtWall_3 rfl ?_
    refine mw_ic1 i_Room_isAtWall_4 (by decide) ?_
    refine mw_k 29 i_Room_isAtWall_28 rfl ?_
    refine mw_ri i_Room_isAtWall_29 rfl rfl ?_
    refine mj_q0 ?_ k
    simp only [gw_aw, List.any_eq_false, List.mem_range, Bool.not_eq_true]
    intro j hj
    rw [hI j hj]; rfl
  · intro i _ hi hI ih
    refine mw_ld 3 i_Room_isAtWall_2 rfl rfl rfl ?_
    refine mw_k 4 i_Room_isAtWall_3 rfl ?_
    refine mw_ic0 7 i_Room_isAtWall_4 rfl (by have := nI_ge (a := i) (b := 4) hi (by decide); exact this) ?_
    refine mw_ld 8 i_Room_isAtWall_7 rfl rfl rfl ?_
    refine mw_ld 9 i_Room_isAtWall_8 rfl rfl rfl ?_
    refine mw_ld 10 i_Room_isAtWall_9 rfl rfl rfl ?_
    refine mw_ld 11 i_Room_isAtWall_10 rfl rfl rfl ?_
    refine mw_cv1 14 i_Room_isAtWall_11 rfl (by assumption) (sp_Room_beside hc (by omega) hd hR ?_) rfl rfl (Nat.le_of_ble_eq_true rfl) (Nat.le_of_ble_eq_true rfl)
    refine mw_cv1 17 i_Room_isAtWall_14 rfl (by assumption) (sp_Room_isOpen hd hR ?_) rfl rfl (Nat.le_of_ble_eq_true rfl) (Nat.le_of_ble_eq_true rfl)
    refine mw_if 20 i_Room_isAtWall_17 rfl (fun h17 => ?_) (fun h17 => ?_)
    · refine mw_inc (ls' := [_, _, _]) 25 (nI (i + 1)) i_Room_isAtWall_22 rfl rfl rfl (nI_1 i) rfl ?_
      refine mw_go i_Room_isAtWall_25 ?_
      exact ih () (fun j hj => by rcases Nat.lt_succ_iff_lt_or_eq.mp hj with q | q; exact hI j q; subst q; exact mj_bI1.mp h17)
    · refine mw_k 21 i_Room_isAtWall_20 rfl ?_
      refine mw_ri i_Room_isAtWall_21 rfl rfl ?_
      refine mj_q1 ?_ k
      simp only [gw_aw, List.any_eq_true, List.mem_range]
      exact ⟨i, hi, by rw [mj_bI0.mp (Classical.not_not.mp h17)]; rfl⟩
theorem sp_Room_canStand {X : mj_X} {d : Nat} {σ : mj_H} {Q : Value → mj_H → Prop} {r w h n : Nat} {s : Nat → Int32} {c q : Nat} (hc : c < w * h) (hq : q < 5) (hd : gw_dim w h) (hR : gw_rm σ.1 r w h n s) (k : Q (.int (mj_bI (gw_st w h s c (nI q)))) σ) : mj_M X (d + 3) y_Room_canStand [.ref r, .int (nI c), .int (nI q)] σ (mj_V Q) := by
  obtain ⟨wl, ps, c1, c2, c3, c4, c5⟩ := id hR
  refine mw_in (l0 := [some (.ref r), some (.int (nI c)), some (.int (nI q))]) rfl ?_
  refine mw_ld 1 i_Room_canStand_0 rfl rfl rfl ?_
  refine mw_ld 2 i_Room_canStand_1 rfl rfl rfl ?_
  refine mw_cv1 5 i_Room_canStand_2 rfl (by assumption) (sp_Room_isOpen hd hR ?_) rfl rfl (Nat.le_of_ble_eq_true rfl) (Nat.le_of_ble_eq_true rfl)
  refine mw_if 8 i_Room_canStand_5 rfl (fun h5 => ?_) (fun h5 => ?_)
  · refine mw_k 29 i_Room_canStand_28 rfl ?_
    refine mw_ri i_Room_canStand_29 rfl rfl ?_
    simp only [mj_bI0, mj_bI1, gw_isOf_2 q hq] at *
    first
    | exact mj_q0 (by simp_all [gw_st]) k
    | exact mj_q1 (by simp_all [gw_st]) k
  · refine mw_ld 9 i_Room_canStand_8 rfl rfl rfl ?_
    refine mw_k 10 i_Room_canStand_9 rfl ?_
    refine mw_cs1 13 i_Room_canStand_10 rfl (sp_GW_isKindOf ?_) rfl rfl (Nat.le_of_ble_eq_true rfl) (Nat.le_of_ble_eq_true rfl)
    refine mw_if 16 i_Room_canStand_13 rfl (fun h13 => ?_) (fun h13 => ?_)
    · refine mw_k 25 i_Room_canStand_24 rfl ?_
      refine mw_go i_Room_canStand_25 ?_
      refine mw_ri i_Room_canStand_29 rfl rfl ?_
      simp only [mj_bI0, mj_bI1, gw_isOf_2 q hq] at *
      first
      | exact mj_q0 (by simp_all [gw_st]) k
      | exact mj_q1 (by simp_all [gw_st]) k
    · refine mw_ld 17 i_Room_canStand_16 rfl rfl rfl ?_
      refine mw_ld 18 i_Room_canStand_17 rfl rfl rfl ?_
      refine mw_cv1 21 i_Room_canStand_18 rfl (by assumption) (sp_Room_isAtWall (by assumption) hd hR ?_) rfl rfl (Nat.le_of_ble_eq_true rfl) (Nat.le_of_ble_eq_true rfl)
      refine mw_if 24 i_Room_canStand_21 rfl (fun h21 => ?_) (fun h21 => ?_)
      · refine mw_k 29 i_Room_canStand_28 rfl ?_
        refine mw_ri i_Room_canStand_29 rfl rfl ?_
        simp only [mj_bI0, mj_bI1, gw_isOf_2 q hq] at *
        first
        | exact mj_q0 (by simp_all [gw_st]) k
        | exact mj_q1 (by simp_all [gw_st]) k
      · refine mw_k 25 i_Room_canStand_24 rfl ?_
        refine mw_go i_Room_canStand_25 ?_
        refine mw_ri i_Room_canStand_29 rfl rfl ?_
        simp only [mj_bI0, mj_bI1, gw_isOf_2 q hq] at *
        first
        | exact mj_q0 (by simp_all [gw_st]) k
        | exact mj_q1 (by simp_all [gw_st]) k
