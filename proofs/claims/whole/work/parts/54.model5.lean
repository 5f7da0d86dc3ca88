/-! the model as a whole; what is asked of it -/
abbrev gw_ML : List Nat := [55, 56, 57, 58, 59, 60, 61, 62, 63, 64, 65, 66, 67, 68, 69, 70]
def gw_mA (f : Nat → mj_C) (s : Nat → Int32) (kp : Nat) (hs : Nat → Nat → Int32) : Prop := f 56 = mj_AI 213 s ∧ ∃ bf, f 57 = mj_AI 2130 bf ∧ ∀ j i, j < kp → i < 213 → bf (213 * j + i) = hs j i
def gw_mR (f : Nat → mj_C) (P : List gw_Row) : Prop := ∃ rc ra rp ry, f 59 = mj_AI 601 rc ∧ f 60 = mj_AI 601 ra ∧ f 61 = mj_AI 601 rp ∧ f 62 = mj_AI 601 ry ∧ ∀ j, j < P.length → gw_rw P j = (rc j, ra j, rp j, ry j, (gw_rw P j).2.2.2.2)
def gw_mS (f : Nat → mj_C) : Prop := (∃ g, f 58 = mj_AI 100 g) ∧ (∃ g, f 63 = mj_AI 100 g) ∧ (∃ g, f 64 = mj_AI 100 g) ∧ (∃ g, f 65 = mj_AI 100 g) ∧ (∃ g, f 66 = mj_AZ 100 g) ∧ (∃ g, f 67 = mj_AI 601 g) ∧ (∃ g, f 68 = mj_AI 601 g) ∧ (∃ g, f 69 = mj_AI 601 g) ∧ (∃ g, f 70 = mj_AI 601 g)
/-- the model's whole picture -/
def gw_MI (f : Nat → mj_C) (w h n : Nat) (s : Nat → Int32) (kp : Nat) (hs : Nat → Nat → Int32) (P : List gw_Row) (sz : Int32) : Prop :=
  ∃ tf fu fe fi ma md, f 55 = gw_mo w h kp P.length tf fu fe fi ma md ∧ gw_mA f s kp hs ∧ gw_mR f P ∧ gw_mS f ∧ (P.length = 0 ∨ tf = sz)
theorem gw_mA_fr {L : List Nat} {f f' : Nat → mj_C} {s : Nat → Int32} {kp : Nat} {hs : Nat → Nat → Int32} (hf : gw_fr L f f') (h1 : 56 ∉ L) (h2 : 57 ∉ L) (hA : gw_mA f s kp hs) : gw_mA f' s kp hs := by
  obtain ⟨a1, bf, a2, a3⟩ := hA
  exact ⟨(hf _ h1).trans a1, bf, (hf _ h2).trans a2, a3⟩
theorem gw_mR_fr {L : List Nat} {f f' : Nat → mj_C} {P : List gw_Row} (hf : gw_fr L f f') (h1 : ∀ a, 59 ≤ a → a ≤ 62 → a ∉ L) (hA : gw_mR f P) : gw_mR f' P := by
  obtain ⟨rc, ra, rp, ry, a1, a2, a3, a4, a5⟩ := hA
  exact ⟨rc, ra, rp, ry, (hf _ (h1 _ (by decide) (by decide))).trans a1, (hf _ (h1 _ (by decide) (by decide))).trans a2, (hf _ (h1 _ (by decide) (by decide))).trans a3, (hf _ (h1 _ (by decide) (by decide))).trans a4, a5⟩
theorem gw_mS_fr {L : List Nat} {f f' : Nat → mj_C} (hf : gw_fr L f f') (h58 : 58 ∈ L → ∃ g, f' 58 = mj_AI 100 g) (h63 : 63 ∈ L → ∃ g, f' 63 = mj_AI 100 g) (h64 : 64 ∈ L → ∃ g, f' 64 = mj_AI 100 g) (h65 : 65 ∈ L → ∃ g, f' 65 = mj_AI 100 g) (h66 : 66 ∈ L → ∃ g, f' 66 = mj_AZ 100 g) (h67 : 67 ∈ L → ∃ g, f' 67 = mj_AI 601 g) (h68 : 68 ∈ L → ∃ g, f' 68 = mj_AI 601 g) (h69 : 69 ∈ L → ∃ g, f' 69 = mj_AI 601 g) (h70 : 70 ∈ L → ∃ g, f' 70 = mj_AI 601 g) (hS : gw_mS f) : gw_mS f' := by
  have key : ∀ (a : Nat) (p : (Nat → Int32) → mj_C), (a ∈ L → ∃ g, f' a = p g) → (∃ g, f a = p g) → ∃ g, f' a = p g := by
    intro a p h1 h2
    by_cases e : a ∈ L
    · exact h1 e
    · obtain ⟨g, hg⟩ := h2; exact ⟨g, (hf a e).trans hg⟩
  obtain ⟨s1, s2, s3, s4, s5, s6, s7, s8, s9⟩ := hS
  exact ⟨key _ _ h58 s1, key _ _ h63 s2, key _ _ h64 s3, key _ _ h65 s4, key _ _ h66 s5, key _ _ h67 s6, key _ _ h68 s7, key _ _ h69 s8, key _ _ h70 s9⟩
theorem gw_no_in {α : Prop} {a : Nat} {L : List Nat} (h : a ∉ L) : a ∈ L → α := fun q => absurd q h
theorem gw_MI_look {f f' : Nat → mj_C} {w h n : Nat} {s : Nat → Int32} {kp : Nat} {hs : Nat → Nat → Int32} {P : List gw_Row} {sz : Int32} {wt : Nat → Int32} (hf : gw_fr [58] f f') (hw : f' 58 = mj_AI 100 wt) (hM : gw_MI f w h n s kp hs P sz) : gw_MI f' w h n s kp hs P sz := by
  obtain ⟨tf, fu, fe, fi, ma, md, m1, m2, m3, m4, m5⟩ := hM
  exact ⟨tf, fu, fe, fi, ma, md, (hf _ (by decide)).trans m1, gw_mA_fr hf (by decide) (by decide) m2, gw_mR_fr hf (fun a _ _ => by simp; omega) m3, gw_mS_fr hf (fun _ => ⟨_, hw⟩) (gw_no_in (by decide)) (gw_no_in (by decide)) (gw_no_in (by decide)) (gw_no_in (by decide)) (gw_no_in (by decide)) (gw_no_in (by decide)) (gw_no_in (by decide)) (gw_no_in (by decide)) m4, m5⟩
theorem gw_all_bt : ∀ n, n < 15 → ∀ i, i < 32 → bt (gw_all n) i = decide (i < n) := by decide +kernel
theorem gw_all_nI : ∀ n, n < 15 → gw_all n = nI (2 ^ n - 1) := by decide +kernel
theorem gw_bt_nI {m i : Nat} (hi : i < 32) : bt (nI m) i = m.testBit i := by
  show (BitVec.ofNat 32 m).getLsbD i = _
  rw [BitVec.getLsbD_ofNat]; simp [hi]
theorem gw_has_iff {n : Nat} {z : Int32} (hn : n ≤ 14) : gw_has n z = true ↔ ∀ i, n ≤ i → i < 32 → bt z i = false := by
  rw [gw_has, beq_iff_eq]
  constructor
  · intro hq i h1 h2
    have e := b_and z (gw_all n ^^^ (-1)) i
    rw [hq, b_0, b_xor, gw_all_bt n (by omega) i h2, b_m1 i h2, decide_eq_false (by omega)] at e
    simpa using e.symm
  · intro hq
    refine b_ext (fun i hi => ?_)
    rw [b_and, b_xor, gw_all_bt n (by omega) i hi, b_m1 i hi, b_0]
    rcases Nat.lt_or_ge i n with q | q
    · simp [q]
    · rw [hq i q hi]; rfl
theorem gw_nat_of (z : Int32) : z = nI z.toBitVec.toNat := by
  apply Int32.toBitVec_inj.mp
  show z.toBitVec = BitVec.ofNat 32 z.toBitVec.toNat
  simp
theorem gw_has_lt {n : Nat} {z : Int32} (hn : n ≤ 14) : gw_has n z = true ↔ ∃ m, m < 2 ^ n ∧ z = nI m := by
  rw [gw_has_iff hn]
  have h14 : 2 ^ n ≤ 2 ^ 14 := Nat.pow_le_pow_right (by decide) hn
  constructor
  · intro hq
    refine ⟨z.toBitVec.toNat, Nat.lt_pow_two_of_testBit _ (fun i hi => ?_), gw_nat_of z⟩
    rcases Nat.lt_or_ge i 32 with q | q
    · exact hq i hi q
    · exact BitVec.getLsbD_of_ge _ _ q
  · rintro ⟨m, hm, rfl⟩ i h1 h2
    rw [gw_bt_nI h2]
    exact Nat.testBit_lt_two_pow (Nat.lt_of_lt_of_le hm (Nat.pow_le_pow_right (by decide) h1))
theorem gw_in_has {n : Nat} {z : Int32} (hn : n ≤ 14) : gw_in z 0 ((1 : Int32) <<< (nI n &&& 31) - 1) = gw_has n z := by
  have h14 : 2 ^ n ≤ 2 ^ 14 := Nat.pow_le_pow_right (by decide) hn
  have h15 : (2 : Nat) ^ 14 = 16384 := by decide
  have hp : 0 < 2 ^ n := Nat.two_pow_pos n
  have e : ((1 : Int32) <<< (nI n &&& 31) - 1) = nI (2 ^ n - 1) := gw_all_nI n (by omega)
  rw [Bool.eq_iff_iff, e, gw_in_iff, gw_has_lt hn, mj_nI _ (by omega), mj_lit0]
  constructor
  · rintro ⟨h1, h2⟩
    exact ⟨z.toInt.toNat, by omega, mj_of h1⟩
  · rintro ⟨m, hm, rfl⟩
    rw [mj_nI _ (by omega)]; omega
theorem gw_has_bit {n i : Nat} (hn : n ≤ 14) (hi : i < n) : gw_has n ((1 : Int32) <<< (nI i &&& 31)) = true := (gw_has_iff hn).mpr (fun j h1 h2 => by
  have := gw_bt_bit (k := i) (i := j) (by omega)
  rw [gw_bit] at this
  rw [this]; simp; omega)
theorem gw_lo_lt {w h n : Nat} {s : Nat → Int32} {z : Int32} (hd : gw_dim w h) : ∀ c, gw_lo w h n s z = some c → c < 2147483648 := fun c hc => by have := (gw_ff_spec hc).1; have := gw_dim_le hd; omega
theorem gw_dI_neg {o : Option Nat} (h : ∀ c, o = some c → c < 2147483648) : gw_dI o < 0 ↔ o = none := by
  cases o with
  | none => simp only [gw_dI, iff_true]; decide
  | some c =>
    simp only [gw_dI, reduceCtorEq, iff_false, mj_lt, mj_lit0, mj_nI c (h c rfl)]; omega
theorem gw_dI_ge {o : Option Nat} (h : ∀ c, o = some c → c < 2147483648) : 0 ≤ gw_dI o ↔ ¬ o = none := by
  rw [← gw_dI_neg h]; simp only [mj_lt, mj_le, mj_lit0]; omega
theorem sp_Model_isWall {X : mj_X} {d : Nat} {σ : mj_H} {Q : Value → mj_H → Prop} {w h n : Nat} {s : Nat → Int32} {kp : Nat} {hs : Nat → Nat → Int32} {P : List gw_Row} {sz : Int32} (hM : gw_MI σ.1 w h n s kp hs P sz) (hd : gw_dim w h) (hn14 : n ≤ 14) (hp : s 100 = nI n) (hv : gw_vp w h n s) {c : Int32} (h01 : ∀ c, c < 100 → s c = 0 ∨ s c = 1) (k : Q (.int (a_isWall w h s c)) σ) : mj_M X (d + 20) y_Model_isWall [.ref 55, .int c] σ (mj_V Q) := by
  obtain ⟨tf, fu, fe, fi, ma, md, hO, hA, hRr, hSs, htf⟩ := id hM
  obtain ⟨hs1, bf, hB, hb⟩ := id hA
  obtain ⟨⟨wt0, hW⟩, ⟨he0, hH⟩, ⟨fr0, hF⟩, ⟨fa0, hFa⟩, ⟨ct0, hCt⟩, ⟨mc0, hm1⟩, ⟨mb0, hm2⟩, ⟨mp0, hm3⟩, ⟨mw0, hm4⟩⟩ := id hSs
  have hwh := gw_dim_le hd
  refine mw_in (l0 := [some (.ref 55), some (.int c)]) rfl ?_
  by_cases hc : gw_ce w h c = true
  · skip
    obtain ⟨c, hc2, rfl⟩ := gw_ce_of hd hc
    rw [a_isWall, if_pos hc, gw_op_nI (by omega)] at k
    have ev : mj_bI (!(decide (c < w * h) && (s c == 0))) = s c := by
      rcases h01 c (by omega) with q | q <;> simp [hc2, q, mj_bI]
    rw [ev] at k
    refine mw_ld 1 i_Model_isWall_0 rfl rfl rfl ?_
    refine mw_ld 2 i_Model_isWall_1 rfl rfl rfl ?_
    refine mw_cv1 5 i_Model_isWall_2 rfl (by assumption) (sp_Model_isCell hO hd ?_) rfl rfl (Nat.le_of_ble_eq_true rfl) (Nat.le_of_ble_eq_true rfl)
    refine mw_if0 8 i_Model_isWall_5 rfl (mj_bI1.mpr hc) ?_
    refine mw_ld 9 i_Model_isWall_8 rfl rfl rfl ?_
    refine mw_get 12 i_Model_isWall_9 rfl (by assumption) (by rfl) ?_
    refine mw_ld 13 i_Model_isWall_12 rfl rfl rfl ?_
    refine mw_iald 14 c i_Model_isWall_13 rfl (by assumption) rfl (by omega) (by decide) ?_
    refine mw_go i_Model_isWall_14 ?_
    refine mw_ri i_Model_isWall_19 rfl rfl ?_
    exact k
  · skip
    refine mw_ld 1 i_Model_isWall_0 rfl rfl rfl ?_
    refine mw_ld 2 i_Model_isWall_1 rfl rfl rfl ?_
    refine mw_cv1 5 i_Model_isWall_2 rfl (by assumption) (sp_Model_isCell hO hd ?_) rfl rfl (Nat.le_of_ble_eq_true rfl) (Nat.le_of_ble_eq_true rfl)
    refine mw_if1 i_Model_isWall_5 (mj_bI0.mpr (gw_nt hc)) ?_
    refine mw_k 19 i_Model_isWall_17 rfl ?_
    refine mw_ri i_Model_isWall_19 rfl rfl ?_
    rw [a_isWall, if_neg hc] at k
    exact k
theorem sp_Model_sight {X : mj_X} {d : Nat} {σ : mj_H} {Q : Value → mj_H → Prop} {w h n : Nat} {s : Nat → Int32} {kp : Nat} {hs : Nat → Nat → Int32} {P : List gw_Row} {sz : Int32} (hM : gw_MI σ.1 w h n s kp hs P sz) (hd : gw_dim w h) (hn14 : n ≤ 14) (hp : s 100 = nI n) (hv : gw_vp w h n s) {a b : Int32} (k : Q (.int (a_sight w h s a b)) σ) : mj_M X (d + 20) y_Model_sight [.ref 55, .int a, .int b] σ (mj_V Q) := by
  obtain ⟨tf, fu, fe, fi, ma, md, hO, hA, hRr, hSs, htf⟩ := id hM
  obtain ⟨hs1, bf, hB, hb⟩ := id hA
  obtain ⟨⟨wt0, hW⟩, ⟨he0, hH⟩, ⟨fr0, hF⟩, ⟨fa0, hFa⟩, ⟨ct0, hCt⟩, ⟨mc0, hm1⟩, ⟨mb0, hm2⟩, ⟨mp0, hm3⟩, ⟨mw0, hm4⟩⟩ := id hSs
  have hwh := gw_dim_le hd
  refine mw_in (l0 := [some (.ref 55), some (.int a), some (.int b)]) rfl ?_
  by_cases ha : gw_ce w h a = true
  · skip
    by_cases hb2 : gw_ce w h b = true
    · skip
      obtain ⟨a, ha2, rfl⟩ := gw_ce_of hd ha
      obtain ⟨b, hb3, rfl⟩ := gw_ce_of hd hb2
      rw [a_sight, if_pos ha, if_pos hb2, gw_tn (by omega), gw_tn (by omega)] at k
      refine mw_ld 1 i_Model_sight_0 rfl rfl rfl ?_
      refine mw_ld 2 i_Model_sight_1 rfl rfl rfl ?_
      refine mw_cv1 5 i_Model_sight_2 rfl (by assumption) (sp_Model_isCell hO hd ?_) rfl rfl (Nat.le_of_ble_eq_true rfl) (Nat.le_of_ble_eq_true rfl)
      refine mw_if0 8 i_Model_sight_5 rfl (mj_bI1.mpr ha) ?_
      refine mw_ld 9 i_Model_sight_8 rfl rfl rfl ?_
      refine mw_ld 10 i_Model_sight_9 rfl rfl rfl ?_
      refine mw_cv1 13 i_Model_sight_10 rfl (by assumption) (sp_Model_isCell hO hd ?_) rfl rfl (Nat.le_of_ble_eq_true rfl) (Nat.le_of_ble_eq_true rfl)
      refine mw_if1 i_Model_sight_13 (mj_bI1.mpr hb2) ?_
      refine mw_ld 20 i_Model_sight_19 rfl rfl rfl ?_
      refine mw_ld 21 i_Model_sight_20 rfl rfl rfl ?_
      refine mw_ld 22 i_Model_sight_21 rfl rfl rfl ?_
      refine mw_cv1 25 i_Model_sight_22 rfl (by assumption) (sp_Model_inSight hO hs1 ha2 hb3 hd ?_) rfl rfl (Nat.le_of_ble_eq_true rfl) (Nat.le_of_ble_eq_true rfl)
      refine mw_if 28 i_Model_sight_25 rfl (fun h25 => ?_) (fun h25 => ?_)
      · refine mw_k 33 i_Model_sight_32 rfl ?_
        refine mw_ri i_Model_sight_33 rfl rfl ?_
        first
        | exact mj_q0 (mj_bI0.mp h25) k
        | exact mj_q1 (mj_bI1.mp h25) k
      · refine mw_k 29 i_Model_sight_28 rfl ?_
        refine mw_go i_Model_sight_29 ?_
        refine mw_ri i_Model_sight_33 rfl rfl ?_
        first
        | exact mj_q0 (mj_bI0.mp h25) k
        | exact mj_q1 (mj_bI1.mp h25) k
    · skip
      refine mw_ld 1 i_Model_sight_0 rfl rfl rfl ?_
      refine mw_ld 2 i_Model_sight_1 rfl rfl rfl ?_
      refine mw_cv1 5 i_Model_sight_2 rfl (by assumption) (sp_Model_isCell hO hd ?_) rfl rfl (Nat.le_of_ble_eq_true rfl) (Nat.le_of_ble_eq_true rfl)
      refine mw_if0 8 i_Model_sight_5 rfl (mj_bI1.mpr ha) ?_
      refine mw_ld 9 i_Model_sight_8 rfl rfl rfl ?_
      refine mw_ld 10 i_Model_sight_9 rfl rfl rfl ?_
      refine mw_cv1 13 i_Model_sight_10 rfl (by assumption) (sp_Model_isCell hO hd ?_) rfl rfl (Nat.le_of_ble_eq_true rfl) (Nat.le_of_ble_eq_true rfl)
      refine mw_if0 16 i_Model_sight_13 rfl (fun q => q (mj_bI0.mpr (gw_nt hb2))) ?_
      refine mw_k 18 i_Model_sight_16 rfl ?_
      refine mw_ri i_Model_sight_18 rfl rfl ?_
      rw [a_sight, if_pos ha, if_neg hb2] at k
      exact k
  · skip
    refine mw_ld 1 i_Model_sight_0 rfl rfl rfl ?_
    refine mw_ld 2 i_Model_sight_1 rfl rfl rfl ?_
    refine mw_cv1 5 i_Model_sight_2 rfl (by assumption) (sp_Model_isCell hO hd ?_) rfl rfl (Nat.le_of_ble_eq_true rfl) (Nat.le_of_ble_eq_true rfl)
    refine mw_if1 i_Model_sight_5 (mj_bI0.mpr (gw_nt ha)) ?_
    refine mw_k 18 i_Model_sight_16 rfl ?_
    refine mw_ri i_Model_sight_18 rfl rfl ?_
    rw [a_sight, if_neg ha] at k
    exact k
theorem sp_Model_sees {X : mj_X} {d : Nat} {σ : mj_H} {Q : Value → mj_H → Prop} {w h n : Nat} {s : Nat → Int32} {kp : Nat} {hs : Nat → Nat → Int32} {P : List gw_Row} {sz : Int32} (hM : gw_MI σ.1 w h n s kp hs P sz) (hd : gw_dim w h) (hn14 : n ≤ 14) (hp : s 100 = nI n) (hv : gw_vp w h n s) {z c : Int32} (k : ∀ f, gw_fr gw_ML σ.1 f → gw_MI f w h n s kp hs P sz → Q (.int (a_sees w h n s z c)) (f, σ.2)) : mj_M X (d + 20) y_Model_sees [.ref 55, .int z, .int c] σ (mj_V Q) := by
  obtain ⟨tf, fu, fe, fi, ma, md, hO, hA, hRr, hSs, htf⟩ := id hM
  obtain ⟨hs1, bf, hB, hb⟩ := id hA
  obtain ⟨⟨wt0, hW⟩, ⟨he0, hH⟩, ⟨fr0, hF⟩, ⟨fa0, hFa⟩, ⟨ct0, hCt⟩, ⟨mc0, hm1⟩, ⟨mb0, hm2⟩, ⟨mp0, hm3⟩, ⟨mw0, hm4⟩⟩ := id hSs
  have hwh := gw_dim_le hd
  refine mw_in (l0 := [some (.ref 55), some (.int z), some (.int c)]) rfl ?_
  by_cases hz : gw_isP n z = true
  · skip
    rw [a_sees, if_pos hz] at k
    by_cases hc : gw_ce w h c = true
    · skip
      obtain ⟨c, hc2, rfl⟩ := gw_ce_of hd hc
      rw [if_pos hc, gw_wo_nI (by omega), if_pos hc2] at k
      refine mw_ld 1 i_Model_sees_0 rfl rfl rfl ?_
      refine mw_ld 2 i_Model_sees_1 rfl rfl rfl ?_
      refine mw_cv1 5 i_Model_sees_2 rfl (by assumption) (sp_Model_isPost hO hs1 hn14 hp ?_) rfl rfl (Nat.le_of_ble_eq_true rfl) (Nat.le_of_ble_eq_true rfl)
      refine mw_if0 8 i_Model_sees_5 rfl (mj_bI1.mpr hz) ?_
      refine mw_ld 9 i_Model_sees_8 rfl rfl rfl ?_
      refine mw_ld 10 i_Model_sees_9 rfl rfl rfl ?_
      refine mw_cv1 13 i_Model_sees_10 rfl (by assumption) (sp_Model_isCell hO hd ?_) rfl rfl (Nat.le_of_ble_eq_true rfl) (Nat.le_of_ble_eq_true rfl)
      refine mw_if1 i_Model_sees_13 (mj_bI1.mpr hc) ?_
      refine mw_ld 20 i_Model_sees_19 rfl rfl rfl ?_
      refine mw_cv0 23 i_Model_sees_20 rfl (by assumption) (sp_Model_look hO hs1 hd hn14 hp hv hW (fun f wt g1 g2 g3 => ?_)) rfl rfl (Nat.le_of_ble_eq_true rfl) (Nat.le_of_ble_eq_true rfl)
      have go : f 55 = gw_mo w h kp P.length tf fu fe fi ma md := (g1 _ (by decide)).trans hO
      have gs : f 56 = mj_AI 213 s := (g1 _ (by decide)).trans hs1
      have hMf := gw_MI_look g1 g2 hM
      have hff : gw_fr gw_ML σ.1 f := gw_fr_sub g1 (by decide)
      refine mw_ld 24 i_Model_sees_23 rfl rfl rfl ?_
      refine mw_get 27 i_Model_sees_24 rfl (by assumption) (by rfl) ?_
      refine mw_ld 28 i_Model_sees_27 rfl rfl rfl ?_
      refine mw_iald 29 c i_Model_sees_28 rfl g2 rfl (by omega) (by decide) ?_
      rw [g3 c hc2]
      refine mw_ld 30 i_Model_sees_29 rfl rfl rfl ?_
      refine mw_b 31 i_Model_sees_30 rfl ?_
      refine mw_k 32 i_Model_sees_31 rfl ?_
      refine mw_b 33 i_Model_sees_32 rfl ?_
      refine mw_ri i_Model_sees_33 rfl rfl ?_
      exact k f hff hMf
    · skip
      refine mw_ld 1 i_Model_sees_0 rfl rfl rfl ?_
      refine mw_ld 2 i_Model_sees_1 rfl rfl rfl ?_
      refine mw_cv1 5 i_Model_sees_2 rfl (by assumption) (sp_Model_isPost hO hs1 hn14 hp ?_) rfl rfl (Nat.le_of_ble_eq_true rfl) (Nat.le_of_ble_eq_true rfl)
      refine mw_if0 8 i_Model_sees_5 rfl (mj_bI1.mpr hz) ?_
      refine mw_ld 9 i_Model_sees_8 rfl rfl rfl ?_
      refine mw_ld 10 i_Model_sees_9 rfl rfl rfl ?_
      refine mw_cv1 13 i_Model_sees_10 rfl (by assumption) (sp_Model_isCell hO hd ?_) rfl rfl (Nat.le_of_ble_eq_true rfl) (Nat.le_of_ble_eq_true rfl)
      refine mw_if0 16 i_Model_sees_13 rfl (fun q => q (mj_bI0.mpr (gw_nt hc))) ?_
      refine mw_k 18 i_Model_sees_16 rfl ?_
      refine mw_ri i_Model_sees_18 rfl rfl ?_
      rw [if_neg hc] at k
      exact k σ.1 (gw_fr_rf _ _) hM
  · skip
    refine mw_ld 1 i_Model_sees_0 rfl rfl rfl ?_
    refine mw_ld 2 i_Model_sees_1 rfl rfl rfl ?_
    refine mw_cv1 5 i_Model_sees_2 rfl (by assumption) (sp_Model_isPost hO hs1 hn14 hp ?_) rfl rfl (Nat.le_of_ble_eq_true rfl) (Nat.le_of_ble_eq_true rfl)
    refine mw_if1 i_Model_sees_5 (mj_bI0.mpr (gw_nt hz)) ?_
    refine mw_k 18 i_Model_sees_16 rfl ?_
    refine mw_ri i_Model_sees_18 rfl rfl ?_
    rw [a_sees, if_neg hz] at k
    exact k σ.1 (gw_fr_rf _ _) hM
theorem sp_Model_watchers {X : mj_X} {d : Nat} {σ : mj_H} {Q : Value → mj_H → Prop} {w h n : Nat} {s : Nat → Int32} {kp : Nat} {hs : Nat → Nat → Int32} {P : List gw_Row} {sz : Int32} (hM : gw_MI σ.1 w h n s kp hs P sz) (hd : gw_dim w h) (hn14 : n ≤ 14) (hp : s 100 = nI n) (hv : gw_vp w h n s) {c : Int32} (k : ∀ f, gw_fr gw_ML σ.1 f → gw_MI f w h n s kp hs P sz → Q (.int (a_watchers w h n s c)) (f, σ.2)) : mj_M X (d + 20) y_Model_watchers [.ref 55, .int c] σ (mj_V Q) := by
  obtain ⟨tf, fu, fe, fi, ma, md, hO, hA, hRr, hSs, htf⟩ := id hM
  obtain ⟨hs1, bf, hB, hb⟩ := id hA
  obtain ⟨⟨wt0, hW⟩, ⟨he0, hH⟩, ⟨fr0, hF⟩, ⟨fa0, hFa⟩, ⟨ct0, hCt⟩, ⟨mc0, hm1⟩, ⟨mb0, hm2⟩, ⟨mp0, hm3⟩, ⟨mw0, hm4⟩⟩ := id hSs
  have hwh := gw_dim_le hd
  refine mw_in (l0 := [some (.ref 55), some (.int c)]) rfl ?_
  by_cases hc : gw_ce w h c = true
  · skip
    obtain ⟨c, hc2, rfl⟩ := gw_ce_of hd hc
    rw [a_watchers, if_pos hc, gw_wo_nI (by omega), if_pos hc2] at k
    refine mw_ld 1 i_Model_watchers_0 rfl rfl rfl ?_
    refine mw_ld 2 i_Model_watchers_1 rfl rfl rfl ?_
    refine mw_cv1 5 i_Model_watchers_2 rfl (by assumption) (sp_Model_isCell hO hd ?_) rfl rfl (Nat.le_of_ble_eq_true rfl) (Nat.le_of_ble_eq_true rfl)
    refine mw_if1 i_Model_watchers_5 (mj_bI1.mpr hc) ?_
    refine mw_ld 12 i_Model_watchers_11 rfl rfl rfl ?_
    refine mw_cv0 15 i_Model_watchers_12 rfl (by assumption) (sp_Model_look hO hs1 hd hn14 hp hv hW (fun f wt g1 g2 g3 => ?_)) rfl rfl (Nat.le_of_ble_eq_true rfl) (Nat.le_of_ble_eq_true rfl)
    have go : f 55 = gw_mo w h kp P.length tf fu fe fi ma md := (g1 _ (by decide)).trans hO
    have gs : f 56 = mj_AI 213 s := (g1 _ (by decide)).trans hs1
    have hMf := gw_MI_look g1 g2 hM
    have hff : gw_fr gw_ML σ.1 f := gw_fr_sub g1 (by decide)
    refine mw_ld 16 i_Model_watchers_15 rfl rfl rfl ?_
    refine mw_get 19 i_Model_watchers_16 rfl (by assumption) (by rfl) ?_
    refine mw_ld 20 i_Model_watchers_19 rfl rfl rfl ?_
    refine mw_iald 21 c i_Model_watchers_20 rfl g2 rfl (by omega) (by decide) ?_
    rw [g3 c hc2]
    refine mw_ri i_Model_watchers_21 rfl rfl ?_
    exact k f hff hMf
  · skip
    refine mw_ld 1 i_Model_watchers_0 rfl rfl rfl ?_
    refine mw_ld 2 i_Model_watchers_1 rfl rfl rfl ?_
    refine mw_cv1 5 i_Model_watchers_2 rfl (by assumption) (sp_Model_isCell hO hd ?_) rfl rfl (Nat.le_of_ble_eq_true rfl) (Nat.le_of_ble_eq_true rfl)
    refine mw_if0 8 i_Model_watchers_5 rfl (fun q => q (mj_bI0.mpr (gw_nt hc))) ?_
    refine mw_k 10 i_Model_watchers_8 rfl ?_
    refine mw_ri i_Model_watchers_10 rfl rfl ?_
    rw [a_watchers, if_neg hc] at k
    exact k σ.1 (gw_fr_rf _ _) hM
theorem sp_Model_isSet {X : mj_X} {d : Nat} {σ : mj_H} {Q : Value → mj_H → Prop} {w h kp rw : Nat} {tf fu fe fi ma md : Int32} {s : Nat → Int32} (hO : σ.1 55 = gw_mo w h kp rw tf fu fe fi ma md) (hs1 : σ.1 56 = mj_AI 213 s) {n : Nat} {z : Int32} (hn14 : n ≤ 14) (hp : s 100 = nI n) (k : Q (.int (mj_bI (gw_has n z))) σ) : mj_M X (d + 1) y_Model_isSet [.ref 55, .int z] σ (mj_V Q) := by
  refine mw_in (l0 := [some (.ref 55), some (.int z)]) rfl ?_
  refine mw_ld 1 i_Model_isSet_0 rfl rfl rfl ?_
  refine mw_k 2 i_Model_isSet_1 rfl ?_
  refine mw_k 3 i_Model_isSet_2 rfl ?_
  refine mw_ld 4 i_Model_isSet_3 rfl rfl rfl ?_
  refine mw_cv1 7 i_Model_isSet_4 rfl (by assumption) (sp_Model_posts hO hs1 hp ?_) rfl rfl (Nat.le_of_ble_eq_true rfl) (Nat.le_of_ble_eq_true rfl)
  refine mw_b 8 i_Model_isSet_7 rfl ?_
  refine mw_k 9 i_Model_isSet_8 rfl ?_
  refine mw_b 10 i_Model_isSet_9 rfl ?_
  refine mw_cs1 13 i_Model_isSet_10 rfl (sp_Model_isIn ?_) rfl rfl (Nat.le_of_ble_eq_true rfl) (Nat.le_of_ble_eq_true rfl)
  refine mw_ri i_Model_isSet_13 rfl (mj_bI_nar _) ?_
  rw [gw_in_has hn14]
  exact k
theorem sp_Model_blind {X : mj_X} {d : Nat} {σ : mj_H} {Q : Value → mj_H → Prop} {w h n : Nat} {s : Nat → Int32} {kp : Nat} {hs : Nat → Nat → Int32} {P : List gw_Row} {sz : Int32} (hM : gw_MI σ.1 w h n s kp hs P sz) (hd : gw_dim w h) (hn14 : n ≤ 14) (hp : s 100 = nI n) (hv : gw_vp w h n s) {z : Int32} (k : ∀ f, gw_fr gw_ML σ.1 f → gw_MI f w h n s kp hs P sz → Q (.int (a_blind w h n s z)) (f, σ.2)) : mj_M X (d + 20) y_Model_blind [.ref 55, .int z] σ (mj_V Q) := by
  obtain ⟨tf, fu, fe, fi, ma, md, hO, hA, hRr, hSs, htf⟩ := id hM
  obtain ⟨hs1, bf, hB, hb⟩ := id hA
  obtain ⟨⟨wt0, hW⟩, ⟨he0, hH⟩, ⟨fr0, hF⟩, ⟨fa0, hFa⟩, ⟨ct0, hCt⟩, ⟨mc0, hm1⟩, ⟨mb0, hm2⟩, ⟨mp0, hm3⟩, ⟨mw0, hm4⟩⟩ := id hSs
  have hwh := gw_dim_le hd
  refine mw_in (l0 := [some (.ref 55), some (.int z), none]) rfl ?_
  by_cases hz : gw_has n z = true
  · skip
    rw [a_blind, if_pos hz, gw_lu] at k
    have hl := gw_lo_lt (w := w) (h := h) (n := n) (s := s) (z := z) hd
    cases ho : gw_lo w h n s z with
    | none =>
      rw [ho] at k
      refine mw_ld 1 i_Model_blind_0 rfl rfl rfl ?_
      refine mw_ld 2 i_Model_blind_1 rfl rfl rfl ?_
      refine mw_cv1 5 i_Model_blind_2 rfl (by assumption) (sp_Model_isSet hO hs1 hn14 hp ?_) rfl rfl (Nat.le_of_ble_eq_true rfl) (Nat.le_of_ble_eq_true rfl)
      refine mw_if1 i_Model_blind_5 (mj_bI1.mpr hz) ?_
      refine mw_ld 12 i_Model_blind_11 rfl rfl rfl ?_
      refine mw_cv0 15 i_Model_blind_12 rfl (by assumption) (sp_Model_look hO hs1 hd hn14 hp hv hW (fun f wt g1 g2 g3 => ?_)) rfl rfl (Nat.le_of_ble_eq_true rfl) (Nat.le_of_ble_eq_true rfl)
      have go : f 55 = gw_mo w h kp P.length tf fu fe fi ma md := (g1 _ (by decide)).trans hO
      have gs : f 56 = mj_AI 213 s := (g1 _ (by decide)).trans hs1
      have hMf := gw_MI_look g1 g2 hM
      have hff : gw_fr gw_ML σ.1 f := gw_fr_sub g1 (by decide)
      refine mw_ld 16 i_Model_blind_15 rfl rfl rfl ?_
      refine mw_ld 17 i_Model_blind_16 rfl rfl rfl ?_
      refine mw_cv1 20 i_Model_blind_17 rfl (by assumption) (sp_Model_unseenBy (σ := (f, σ.2)) go gs hd g2 g3 ?_) rfl rfl (Nat.le_of_ble_eq_true rfl) (Nat.le_of_ble_eq_true rfl)
      refine mw_st (ls' := [_, _, _]) 21 i_Model_blind_20 rfl rfl rfl rfl ?_
      refine mw_ld 22 i_Model_blind_21 rfl rfl rfl ?_
      refine mw_if0 25 i_Model_blind_22 rfl (by rw [ho]; decide) ?_
      refine mw_k 27 i_Model_blind_25 rfl ?_
      refine mw_go i_Model_blind_27 ?_
      refine mw_ri i_Model_blind_31 rfl rfl ?_
      exact k f hff hMf
    | some c =>
      rw [ho] at k
      refine mw_ld 1 i_Model_blind_0 rfl rfl rfl ?_
      refine mw_ld 2 i_Model_blind_1 rfl rfl rfl ?_
      refine mw_cv1 5 i_Model_blind_2 rfl (by assumption) (sp_Model_isSet hO hs1 hn14 hp ?_) rfl rfl (Nat.le_of_ble_eq_true rfl) (Nat.le_of_ble_eq_true rfl)
      refine mw_if1 i_Model_blind_5 (mj_bI1.mpr hz) ?_
      refine mw_ld 12 i_Model_blind_11 rfl rfl rfl ?_
      refine mw_cv0 15 i_Model_blind_12 rfl (by assumption) (sp_Model_look hO hs1 hd hn14 hp hv hW (fun f wt g1 g2 g3 => ?_)) rfl rfl (Nat.le_of_ble_eq_true rfl) (Nat.le_of_ble_eq_true rfl)
      have go : f 55 = gw_mo w h kp P.length tf fu fe fi ma md := (g1 _ (by decide)).trans hO
      have gs : f 56 = mj_AI 213 s := (g1 _ (by decide)).trans hs1
      have hMf := gw_MI_look g1 g2 hM
      have hff : gw_fr gw_ML σ.1 f := gw_fr_sub g1 (by decide)
      refine mw_ld 16 i_Model_blind_15 rfl rfl rfl ?_
      refine mw_ld 17 i_Model_blind_16 rfl rfl rfl ?_
      refine mw_cv1 20 i_Model_blind_17 rfl (by assumption) (sp_Model_unseenBy (σ := (f, σ.2)) go gs hd g2 g3 ?_) rfl rfl (Nat.le_of_ble_eq_true rfl) (Nat.le_of_ble_eq_true rfl)
      refine mw_st (ls' := [_, _, _]) 21 i_Model_blind_20 rfl rfl rfl rfl ?_
      refine mw_ld 22 i_Model_blind_21 rfl rfl rfl ?_
      refine mw_if1 i_Model_blind_22 (by rw [gw_dI_ge hl, ho]; simp) ?_
      refine mw_ld 31 i_Model_blind_30 rfl rfl rfl ?_
      refine mw_ri i_Model_blind_31 rfl rfl ?_
      rw [ho]
      exact k f hff hMf
  · skip
    refine mw_ld 1 i_Model_blind_0 rfl rfl rfl ?_
    refine mw_ld 2 i_Model_blind_1 rfl rfl rfl ?_
    refine mw_cv1 5 i_Model_blind_2 rfl (by assumption) (sp_Model_isSet hO hs1 hn14 hp ?_) rfl rfl (Nat.le_of_ble_eq_true rfl) (Nat.le_of_ble_eq_true rfl)
    refine mw_if0 8 i_Model_blind_5 rfl (fun q => q (mj_bI0.mpr (gw_nt hz))) ?_
    refine mw_k 10 i_Model_blind_8 rfl ?_
    refine mw_ri i_Model_blind_10 rfl rfl ?_
    rw [a_blind, if_neg hz] at k
    exact k σ.1 (gw_fr_rf _ _) hM
theorem sp_Model_seen {X : mj_X} {d : Nat} {σ : mj_H} {Q : Value → mj_H → Prop} {w h n : Nat} {s : Nat → Int32} {kp : Nat} {hs : Nat → Nat → Int32} {P : List gw_Row} {sz : Int32} (hM : gw_MI σ.1 w h n s kp hs P sz) (hd : gw_dim w h) (hn14 : n ≤ 14) (hp : s 100 = nI n) (hv : gw_vp w h n s) {z : Int32} (k : ∀ f, gw_fr gw_ML σ.1 f → gw_MI f w h n s kp hs P sz → Q (.int (a_seen w h n s z)) (f, σ.2)) : mj_M X (d + 19) y_Model_seen [.ref 55, .int z] σ (mj_V Q) := by
  obtain ⟨tf, fu, fe, fi, ma, md, hO, hA, hRr, hSs, htf⟩ := id hM
  obtain ⟨hs1, bf, hB, hb⟩ := id hA
  obtain ⟨⟨wt0, hW⟩, ⟨he0, hH⟩, ⟨fr0, hF⟩, ⟨fa0, hFa⟩, ⟨ct0, hCt⟩, ⟨mc0, hm1⟩, ⟨mb0, hm2⟩, ⟨mp0, hm3⟩, ⟨mw0, hm4⟩⟩ := id hSs
  have hwh := gw_dim_le hd
  refine mw_in (l0 := [some (.ref 55), some (.int z), none, none]) rfl ?_
  by_cases hz : gw_has n z = true
  · skip
    rw [a_seen, if_pos hz, a_num] at k
    refine mw_ld 1 i_Model_seen_0 rfl rfl rfl ?_
    refine mw_ld 2 i_Model_seen_1 rfl rfl rfl ?_
    refine mw_cv1 5 i_Model_seen_2 rfl (by assumption) (sp_Model_isSet hO hs1 hn14 hp ?_) rfl rfl (Nat.le_of_ble_eq_true rfl) (Nat.le_of_ble_eq_true rfl)
    refine mw_if1 i_Model_seen_5 (mj_bI1.mpr hz) ?_
    refine mw_ld 12 i_Model_seen_11 rfl rfl rfl ?_
    refine mw_cv0 15 i_Model_seen_12 rfl (by assumption) (sp_Model_look hO hs1 hd hn14 hp hv hW (fun f wt g1 g2 g3 => ?_)) rfl rfl (Nat.le_of_ble_eq_true rfl) (Nat.le_of_ble_eq_true rfl)
    have go : f 55 = gw_mo w h kp P.length tf fu fe fi ma md := (g1 _ (by decide)).trans hO
    have gs : f 56 = mj_AI 213 s := (g1 _ (by decide)).trans hs1
    have hMf := gw_MI_look g1 g2 hM
    have hff : gw_fr gw_ML σ.1 f := gw_fr_sub g1 (by decide)
    refine mw_k 16 i_Model_seen_15 rfl ?_
    refine mw_st (ls' := [_, _, _, _]) 17 i_Model_seen_16 rfl rfl rfl rfl ?_
    refine mw_k 18 i_Model_seen_17 rfl ?_
    refine mw_st (ls' := [_, _, _, _]) 19 i_Model_seen_18 rfl rfl rfl rfl ?_
    refine mj_for (S := Unit) (fun i _ => mj_Wp X (d + 19) y_Model_seen 19 [some (.ref 55), some (.int z), some (.int (nI (gw_cn (fun c => !(gw_wt w h n s c &&& z == 0)) i))), some (.int (nI i))] [] (f, σ.2) (mj_V Q)) (fun i _ => True) (w * h) ?_ ?_ 0 () (Nat.zero_le _) trivial
    · intro _ _
      refine mw_ld 20 i_Model_seen_19 rfl rfl rfl ?_
      refine mw_ld 21 i_Model_seen_20 rfl rfl rfl ?_
      refine mw_cv1 24 i_Model_seen_21 rfl (by assumption) (sp_Model_cells (σ := (f, σ.2)) go ?_) rfl rfl (Nat.le_of_ble_eq_true rfl) (Nat.le_of_ble_eq_true rfl)
      refine mw_ic1 i_Model_seen_24 (nI_le (Nat.le_refl _) (by omega)) ?_
      refine mw_ld 53 i_Model_seen_52 rfl rfl rfl ?_
      refine mw_ri i_Model_seen_53 rfl rfl ?_
      exact k f hff hMf
    · intro i _ hi _ ih
      by_cases hq : gw_wt w h n s i &&& z = 0
      · skip
        refine mw_ld 20 i_Model_seen_19 rfl rfl rfl ?_
        refine mw_ld 21 i_Model_seen_20 rfl rfl rfl ?_
        refine mw_cv1 24 i_Model_seen_21 rfl (by assumption) (sp_Model_cells (σ := (f, σ.2)) go ?_) rfl rfl (Nat.le_of_ble_eq_true rfl) (Nat.le_of_ble_eq_true rfl)
        refine mw_ic0 27 i_Model_seen_24 rfl (nI_ge hi (by omega)) ?_
        refine mw_ld 28 i_Model_seen_27 rfl rfl rfl ?_
        refine mw_ld 29 i_Model_seen_28 rfl rfl rfl ?_
        refine mw_get 32 i_Model_seen_29 rfl (by assumption) (by rfl) ?_
        refine mw_ld 33 i_Model_seen_32 rfl rfl rfl ?_
        refine mw_iald 34 i i_Model_seen_33 rfl g2 rfl (by omega) (by decide) ?_
        rw [g3 i hi]
        refine mw_ld 35 i_Model_seen_34 rfl rfl rfl ?_
        refine mw_b 36 i_Model_seen_35 rfl ?_
        refine mw_if1 i_Model_seen_36 hq ?_
        refine mw_k 44 i_Model_seen_43 rfl ?_
        refine mw_b 45 i_Model_seen_44 rfl ?_
        rw [show (0 : Int32) = nI 0 from rfl, nI_add]
        refine mw_st (ls' := [_, _, _, _]) 46 i_Model_seen_45 rfl rfl rfl rfl ?_
        refine mw_inc (ls' := [_, _, _, _]) 49 (nI (i + 1)) i_Model_seen_46 rfl rfl rfl (nI_1 i) rfl ?_
        refine mw_go i_Model_seen_49 ?_
        have e := ih () trivial
        simp only [gw_cn] at e
        rw [if_neg (by simp [hq])] at e
        exact e
      · skip
        refine mw_ld 20 i_Model_seen_19 rfl rfl rfl ?_
        refine mw_ld 21 i_Model_seen_20 rfl rfl rfl ?_
        refine mw_cv1 24 i_Model_seen_21 rfl (by assumption) (sp_Model_cells (σ := (f, σ.2)) go ?_) rfl rfl (Nat.le_of_ble_eq_true rfl) (Nat.le_of_ble_eq_true rfl)
        refine mw_ic0 27 i_Model_seen_24 rfl (nI_ge hi (by omega)) ?_
        refine mw_ld 28 i_Model_seen_27 rfl rfl rfl ?_
        refine mw_ld 29 i_Model_seen_28 rfl rfl rfl ?_
        refine mw_get 32 i_Model_seen_29 rfl (by assumption) (by rfl) ?_
        refine mw_ld 33 i_Model_seen_32 rfl rfl rfl ?_
        refine mw_iald 34 i i_Model_seen_33 rfl g2 rfl (by omega) (by decide) ?_
        rw [g3 i hi]
        refine mw_ld 35 i_Model_seen_34 rfl rfl rfl ?_
        refine mw_b 36 i_Model_seen_35 rfl ?_
        refine mw_if0 39 i_Model_seen_36 rfl hq ?_
        refine mw_k 40 i_Model_seen_39 rfl ?_
        refine mw_go i_Model_seen_40 ?_
        refine mw_b 45 i_Model_seen_44 rfl ?_
        rw [show (1 : Int32) = nI 1 from rfl, nI_add]
        refine mw_st (ls' := [_, _, _, _]) 46 i_Model_seen_45 rfl rfl rfl rfl ?_
        refine mw_inc (ls' := [_, _, _, _]) 49 (nI (i + 1)) i_Model_seen_46 rfl rfl rfl (nI_1 i) rfl ?_
        refine mw_go i_Model_seen_49 ?_
        have e := ih () trivial
        simp only [gw_cn] at e
        rw [if_pos (by simp [hq])] at e
        exact e
  · skip
    refine mw_ld 1 i_Model_seen_0 rfl rfl rfl ?_
    refine mw_ld 2 i_Model_seen_1 rfl rfl rfl ?_
    refine mw_cv1 5 i_Model_seen_2 rfl (by assumption) (sp_Model_isSet hO hs1 hn14 hp ?_) rfl rfl (Nat.le_of_ble_eq_true rfl) (Nat.le_of_ble_eq_true rfl)
    refine mw_if0 8 i_Model_seen_5 rfl (fun q => q (mj_bI0.mpr (gw_nt hz))) ?_
    refine mw_k 10 i_Model_seen_8 rfl ?_
    refine mw_ri i_Model_seen_10 rfl rfl ?_
    rw [a_seen, if_neg hz] at k
    exact k σ.1 (gw_fr_rf _ _) hM
theorem sp_Model_region {X : mj_X} {d : Nat} {σ : mj_H} {Q : Value → mj_H → Prop} {w h n : Nat} {s : Nat → Int32} {kp : Nat} {hs : Nat → Nat → Int32} {P : List gw_Row} {sz : Int32} (hM : gw_MI σ.1 w h n s kp hs P sz) (hd : gw_dim w h) (hn14 : n ≤ 14) (hp : s 100 = nI n) (hv : gw_vp w h n s) {z : Int32} (k : ∀ f, gw_fr gw_ML σ.1 f → gw_MI f w h n s kp hs P sz → Q (.int (a_region w h n s z)) (f, σ.2)) : mj_M X (d + 20) y_Model_region [.ref 55, .int z] σ (mj_V Q) := by
  obtain ⟨tf, fu, fe, fi, ma, md, hO, hA, hRr, hSs, htf⟩ := id hM
  obtain ⟨hs1, bf, hB, hb⟩ := id hA
  obtain ⟨⟨wt0, hW⟩, ⟨he0, hH⟩, ⟨fr0, hF⟩, ⟨fa0, hFa⟩, ⟨ct0, hCt⟩, ⟨mc0, hm1⟩, ⟨mb0, hm2⟩, ⟨mp0, hm3⟩, ⟨mw0, hm4⟩⟩ := id hSs
  have hwh := gw_dim_le hd
  refine mw_in (l0 := [some (.ref 55), some (.int z)]) rfl ?_
  by_cases hz : gw_isP n z = true
  · skip
    obtain ⟨i, hi, rfl⟩ := gw_isP_of hz
    rw [a_region, if_pos hz] at k
    have hk2 : ∀ f, gw_fr gw_ML σ.1 f → gw_MI f w h n s kp hs P sz → Q (.int (a_seen w h n s ((1 : Int32) <<< (nI i &&& 31)))) (f, σ.2) := by rw [a_seen, if_pos (gw_has_bit hn14 hi)]; exact k
    refine mw_ld 1 i_Model_region_0 rfl rfl rfl ?_
    refine mw_ld 2 i_Model_region_1 rfl rfl rfl ?_
    refine mw_cv1 5 i_Model_region_2 rfl (by assumption) (sp_Model_isPost hO hs1 hn14 hp ?_) rfl rfl (Nat.le_of_ble_eq_true rfl) (Nat.le_of_ble_eq_true rfl)
    refine mw_if1 i_Model_region_5 (mj_bI1.mpr hz) ?_
    refine mw_ld 12 i_Model_region_11 rfl rfl rfl ?_
    refine mw_k 13 i_Model_region_12 rfl ?_
    refine mw_ld 14 i_Model_region_13 rfl rfl rfl ?_
    refine mw_b 15 i_Model_region_14 rfl ?_
    refine mw_cv1 18 i_Model_region_15 rfl (by assumption) (sp_Model_seen hM hd hn14 hp hv (fun f g1 g2 => ?_)) rfl rfl (Nat.le_of_ble_eq_true rfl) (Nat.le_of_ble_eq_true rfl)
    refine mw_ri i_Model_region_18 rfl rfl ?_
    exact hk2 f g1 g2
  · skip
    refine mw_ld 1 i_Model_region_0 rfl rfl rfl ?_
    refine mw_ld 2 i_Model_region_1 rfl rfl rfl ?_
    refine mw_cv1 5 i_Model_region_2 rfl (by assumption) (sp_Model_isPost hO hs1 hn14 hp ?_) rfl rfl (Nat.le_of_ble_eq_true rfl) (Nat.le_of_ble_eq_true rfl)
    refine mw_if0 8 i_Model_region_5 rfl (fun q => q (mj_bI0.mpr (gw_nt hz))) ?_
    refine mw_k 10 i_Model_region_8 rfl ?_
    refine mw_ri i_Model_region_10 rfl rfl ?_
    rw [a_region, if_neg hz] at k
    exact k σ.1 (gw_fr_rf _ _) hM
