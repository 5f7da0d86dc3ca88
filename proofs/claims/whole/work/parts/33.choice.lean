/-! Choice: bits, gathering -/
/-! bits of ints, of longs -/
theorem gw_bit_bt : ∀ k, k < 32 → ∀ i, i < 32 → bt (gw_bit k) i = decide (i = k) := by decide +kernel
theorem gw_bt_bit {k i : Nat} (hk : k < 32) : bt (gw_bit k) i = decide (i = k) := by
  rcases Nat.lt_or_ge i 32 with h | h
  · exact gw_bit_bt k hk i h
  · rw [b_big h, decide_eq_false (by omega)]
theorem gw_tb (z : Int32) {k : Nat} (hk : k < 32) : ((z >>> (nI k &&& 31)) &&& 1 = 1) ↔ bt z k = true := by
  have e : bt ((z >>> (nI k &&& 31)) &&& 1) 0 = bt z k := by
    rw [b_and, b_sshr k hk z (by decide)]
    have : bt 1 0 = true := by decide
    rw [this, if_pos (by omega), Nat.add_zero, Bool.and_true]
  constructor
  · intro h
    rw [h] at e
    rw [← e]; decide
  · intro h
    refine b_ext (fun i hi => ?_)
    rcases Nat.eq_zero_or_pos i with q | q
    · subst q; rw [e, h]; decide
    · have h1 : bt 1 i = false := (by decide +kernel : ∀ i, i < 32 → 0 < i → bt 1 i = false) i hi q
      rw [b_and, h1, Bool.and_false]
theorem gw_ab0 (z : Int32) {k : Nat} (hk : k < 32) : (z &&& gw_bit k = 0) ↔ bt z k = false := by
  constructor
  · intro h
    have e := b_and z (gw_bit k) k
    rw [h, gw_bt_bit hk, b_0] at e
    simpa using e.symm
  · intro h
    refine b_ext (fun i hi => ?_)
    rw [b_and, gw_bt_bit hk, b_0]
    by_cases q : i = k
    · subst q; rw [h]; rfl
    · simp [q]
theorem gw_fm_bt (p : Nat → Bool) : ∀ {n : Nat}, n ≤ 31 → ∀ k, bt (gw_fm p n) k = (decide (k < n) && p k)
  | 0, _, k => by rw [gw_fm, b_0]; simp
  | n + 1, hn, k => by
    rw [gw_fm]
    have ih := gw_fm_bt p (n := n) (by omega) k
    by_cases q : p n = true
    · rw [if_pos q, b_or, ih, gw_bt_bit (by omega)]
      by_cases e : k = n
      · subst e; simp [q]
      · have : (k < n + 1) ↔ k < n := by omega
        simp [e, this]
    · rw [if_neg q, ih]
      by_cases e : k = n
      · subst e; simp [q]
      · have : (k < n + 1) ↔ k < n := by omega
        simp [this]
theorem gw_wt_bt {w h n : Nat} {s : Nat → Int32} {c k : Nat} (hn : n ≤ 14) : bt (gw_wt w h n s c) k = (decide (k < n) && gw_see w h s k c) := gw_fm_bt _ (by omega) k
theorem gw_and0 {a b : Int32} : a &&& b = 0 ↔ ∀ k, k < 32 → ¬ (bt a k = true ∧ bt b k = true) := by
  constructor
  · intro h k _ ⟨h1, h2⟩
    have e := b_and a b k
    rw [h, b_0, h1, h2] at e
    cases e
  · intro h
    refine b_ext (fun i hi => ?_)
    rw [b_and, b_0]
    have := h i hi
    cases h1 : bt a i <;> cases h2 : bt b i <;> simp_all
/-- two longs as a picture of the cells: the first 64, the rest -/
def gw_rp (lo hi : Int64) (p : Nat → Bool) : Prop := (∀ i, i < 64 → lo.toBitVec.getLsbD i = p i) ∧ ∀ i, i < 64 → hi.toBitVec.getLsbD i = p (64 + i)
theorem gw_rp_0 : gw_rp 0 0 (fun _ => false) := ⟨fun i _ => BitVec.getLsbD_zero, fun i _ => BitVec.getLsbD_zero⟩
theorem gw_rp_or {a b c e : Int64} {p q : Nat → Bool} (h1 : gw_rp a b p) (h2 : gw_rp c e q) : gw_rp (a ||| c) (b ||| e) (fun i => p i || q i) :=
  ⟨fun i hi => by rw [Int64.toBitVec_or, BitVec.getLsbD_or, h1.1 i hi, h2.1 i hi], fun i hi => by rw [Int64.toBitVec_or, BitVec.getLsbD_or, h1.2 i hi, h2.2 i hi]⟩
theorem gw_rp_cg {a b : Int64} {p q : Nat → Bool} (h : ∀ i, i < 128 → p i = q i) (h1 : gw_rp a b p) : gw_rp a b q :=
  ⟨fun i hi => by rw [h1.1 i hi, h i (by omega)], fun i hi => by rw [h1.2 i hi, h (64 + i) (by omega)]⟩
def gw_lb (c : Int32) : Int64 := if 64 ≤ c then 0 else (1 : Int64) <<< (c.toInt64 &&& 63)
def gw_hb (c : Int32) : Int64 := if 64 ≤ c then (1 : Int64) <<< ((c - 64).toInt64 &&& 63) else 0
theorem gw_rp_l : ∀ c, c < 64 → ∀ i, i < 64 → ((1 : Int64) <<< ((nI c).toInt64 &&& 63)).toBitVec.getLsbD i = decide (i = c) := by decide +kernel
theorem gw_rp_b {c : Nat} (hc : c < 100) : gw_rp (gw_lb (nI c)) (gw_hb (nI c)) (fun i => decide (i = c)) := by
  rw [gw_lb, gw_hb]
  rcases Nat.lt_or_ge c 64 with q | q
  · have : ¬ (64 : Int32) ≤ nI c := nI_ge (b := 64) q (by decide)
    rw [if_neg this, if_neg this]
    exact ⟨fun i hi => gw_rp_l c q i hi, fun i hi => by show _ = decide (64 + i = c); rw [decide_eq_false (by omega)]; exact BitVec.getLsbD_zero⟩
  · have : (64 : Int32) ≤ nI c := nI_le (a := 64) q (by omega)
    rw [if_pos this, if_pos this, show (64 : Int32) = nI 64 from rfl, pk_sub q]
    refine ⟨fun i hi => by show _ = decide (i = c); rw [decide_eq_false (by omega)]; exact BitVec.getLsbD_zero, fun i hi => ?_⟩
    rw [gw_rp_l (c - 64) (by omega) i hi]
    congr 1
    exact propext ⟨fun _ => by omega, fun _ => by omega⟩
def gw_cov (po ps : Nat → Bool) : Bool := (List.range 128).all fun c => !po c || ps c
theorem gw_l0 {a b : Int64} {p q : Nat → Bool} (ha : ∀ i, i < 64 → a.toBitVec.getLsbD i = p i) (hb : ∀ i, i < 64 → b.toBitVec.getLsbD i = q i) : a &&& (b ^^^ (-1)) = 0 ↔ ∀ i, i < 64 → p i = true → q i = true := by
  have hm : ∀ i, i < 64 → (-1 : Int64).toBitVec.getLsbD i = true := by decide +kernel
  have key : ∀ i, i < 64 → (a &&& (b ^^^ (-1))).toBitVec.getLsbD i = (p i && !q i) := by
    intro i hi
    rw [Int64.toBitVec_and, BitVec.getLsbD_and, Int64.toBitVec_xor, BitVec.getLsbD_xor, ha i hi, hb i hi, hm i hi]
    simp
  constructor
  · intro h i hi hp
    have := key i hi
    rw [h, hp] at this
    have e : (0 : Int64).toBitVec.getLsbD i = false := BitVec.getLsbD_zero
    rw [e] at this
    cases hq : q i
    · rw [hq] at this; cases this
    · rfl
  · intro h
    refine Int64.toBitVec_inj.mp (BitVec.eq_of_getLsbD_eq (fun i hi => ?_))
    rw [key i hi]
    have e : (0 : Int64).toBitVec.getLsbD i = false := BitVec.getLsbD_zero
    rw [e]
    cases hp : p i
    · rfl
    · rw [h i hi hp]; rfl
theorem gw_cov_iff {ol oh sl sh : Int64} {po ps : Nat → Bool} (h1 : gw_rp ol oh po) (h2 : gw_rp sl sh ps) : gw_cov po ps = (decide (ol &&& (sl ^^^ (-1)) = 0) && decide (oh &&& (sh ^^^ (-1)) = 0)) := by
  rw [Bool.eq_iff_iff, Bool.and_eq_true, decide_eq_true_iff, decide_eq_true_iff, gw_l0 h1.1 h2.1, gw_l0 h1.2 h2.2]
  simp only [gw_cov, List.all_eq_true, List.mem_range, Bool.or_eq_true, Bool.not_eq_true']
  constructor
  · intro h
    exact ⟨fun i hi hp => by rcases h i (by omega) with q | q; rw [hp] at q; cases q; exact q, fun i hi hp => by rcases h (64 + i) (by omega) with q | q; rw [hp] at q; cases q; exact q⟩
  · rintro ⟨h1, h2⟩ i hi
    cases hp : po i
    · exact Or.inl rfl
    · right
      rcases Nat.lt_or_ge i 64 with q | q
      · exact h1 i q hp
      · have e : i = 64 + (i - 64) := by omega
        rw [e]
        exact h2 (i - 64) (by omega) (by rw [← e]; exact hp)
/-- the Choice's cells: 41 to 45 -/
def gw_ch (f : Nat → mj_C) (ol oh : Int64) (up sz fi fo : Int32) (lo hi rl rh : Nat → Int64) : Prop := f 41 = mj_O 0 [.ref 4, .ref 42, .ref 43, .ref 44, .ref 45, .long ol, .long oh, .int up, .int sz, .int fi, .int fo] ∧ f 42 = mj_AJ 14 lo ∧ f 43 = mj_AJ 14 hi ∧ f 44 = mj_AJ 14 rl ∧ f 45 = mj_AJ 14 rh
theorem sp_Choice_lowBit {X : mj_X} {d : Nat} {σ : mj_H} {Q : Value → mj_H → Prop} {c : Int32} (k : Q (.long (gw_lb c)) σ) : mj_M X d y_Choice_lowBit [.int c] σ (mj_V Q) := by
  refine mw_in (l0 := [some (.int c)]) rfl ?_
  refine mw_ld 1 i_Choice_lowBit_0 rfl rfl rfl ?_
  refine mw_k 3 i_Choice_lowBit_1 rfl ?_
  refine mw_ic 6 i_Choice_lowBit_3 rfl (fun h3 => ?_) (fun h3 => ?_)
  · refine mw_k 13 i_Choice_lowBit_12 rfl ?_
    refine mw_rl i_Choice_lowBit_13 rfl ?_
    first
    | (rw [gw_lb, if_pos h3] at k; exact k)
    | (rw [gw_lb, if_neg h3] at k; exact k)
  · refine mw_k 7 i_Choice_lowBit_6 rfl ?_
    refine mw_ld 8 i_Choice_lowBit_7 rfl rfl rfl ?_
    refine mw_lshl 9 i_Choice_lowBit_8 rfl ?_
    refine mw_go i_Choice_lowBit_9 ?_
    refine mw_rl i_Choice_lowBit_13 rfl ?_
    first
    | (rw [gw_lb, if_pos h3] at k; exact k)
    | (rw [gw_lb, if_neg h3] at k; exact k)
theorem sp_Choice_highBit {X : mj_X} {d : Nat} {σ : mj_H} {Q : Value → mj_H → Prop} {c : Int32} (k : Q (.long (gw_hb c)) σ) : mj_M X d y_Choice_highBit [.int c] σ (mj_V Q) := by
  refine mw_in (l0 := [some (.int c)]) rfl ?_
  refine mw_ld 1 i_Choice_highBit_0 rfl rfl rfl ?_
  refine mw_k 3 i_Choice_highBit_1 rfl ?_
  refine mw_ic 6 i_Choice_highBit_3 rfl (fun h3 => ?_) (fun h3 => ?_)
  · refine mw_k 11 i_Choice_highBit_10 rfl ?_
    refine mw_ld 12 i_Choice_highBit_11 rfl rfl rfl ?_
    refine mw_k 14 i_Choice_highBit_12 rfl ?_
    refine mw_b 15 i_Choice_highBit_14 rfl ?_
    refine mw_lshl 16 i_Choice_highBit_15 rfl ?_
    refine mw_rl i_Choice_highBit_16 rfl ?_
    first
    | (rw [gw_hb, if_pos h3] at k; exact k)
    | (rw [gw_hb, if_neg h3] at k; exact k)
  · refine mw_k 7 i_Choice_highBit_6 rfl ?_
    refine mw_go i_Choice_highBit_7 ?_
    refine mw_rl i_Choice_highBit_16 rfl ?_
    first
    | (rw [gw_hb, if_pos h3] at k; exact k)
    | (rw [gw_hb, if_neg h3] at k; exact k)
theorem sp_Choice_isAll {X : mj_X} {d : Nat} {σ : mj_H} {Q : Value → mj_H → Prop} {ol oh : Int64} {up sz fi fo : Int32} {lo hi rl rh : Nat → Int64} (hC : gw_ch σ.1 ol oh up sz fi fo lo hi rl rh) {sl sh : Int64} {po ps : Nat → Bool} (r1 : gw_rp ol oh po) (r2 : gw_rp sl sh ps) (k : Q (.int (mj_bI (gw_cov po ps))) σ) : mj_M X d y_Choice_isAll [.ref 41, .long sl, .long sh] σ (mj_V Q) := by
  obtain ⟨h1, h2, h3, h4, h5⟩ := id hC
  refine mw_in (l0 := [some (.ref 41), some (.long sl), none, some (.long sh), none]) rfl ?_
  refine mw_ld 1 i_Choice_isAll_0 rfl rfl rfl ?_
  refine mw_get 4 i_Choice_isAll_1 rfl (by assumption) (by rfl) ?_
  refine mw_ld 5 i_Choice_isAll_4 rfl rfl rfl ?_
  refine mw_k 8 i_Choice_isAll_5 rfl ?_
  refine mw_bl 9 i_Choice_isAll_8 rfl ?_
  refine mw_bl 10 i_Choice_isAll_9 rfl ?_
  refine mw_k 11 i_Choice_isAll_10 rfl ?_
  refine mw_lcmp 12 i_Choice_isAll_11 rfl ?_
  refine mw_if 15 i_Choice_isAll_12 rfl (fun h12 => ?_) (fun h12 => ?_)
  · refine mw_k 35 i_Choice_isAll_34 rfl ?_
    refine mw_ri i_Choice_isAll_35 rfl rfl ?_
    rw [gw_cov_iff r1 r2] at k
    simp only [lg_cmp_eq] at *
    first
    | exact mj_q0 (by simp_all) k
    | exact mj_q1 (by simp_all) k
  · refine mw_ld 16 i_Choice_isAll_15 rfl rfl rfl ?_
    refine mw_get 19 i_Choice_isAll_16 rfl (by assumption) (by rfl) ?_
    refine mw_ld 20 i_Choice_isAll_19 rfl rfl rfl ?_
    refine mw_k 23 i_Choice_isAll_20 rfl ?_
    refine mw_bl 24 i_Choice_isAll_23 rfl ?_
    refine mw_bl 25 i_Choice_isAll_24 rfl ?_
    refine mw_k 26 i_Choice_isAll_25 rfl ?_
    refine mw_lcmp 27 i_Choice_isAll_26 rfl ?_
    refine mw_if 30 i_Choice_isAll_27 rfl (fun h27 => ?_) (fun h27 => ?_)
    · refine mw_k 35 i_Choice_isAll_34 rfl ?_
      refine mw_ri i_Choice_isAll_35 rfl rfl ?_
      rw [gw_cov_iff r1 r2] at k
      simp only [lg_cmp_eq] at *
      first
      | exact mj_q0 (by simp_all) k
      | exact mj_q1 (by simp_all) k
    · refine mw_k 31 i_Choice_isAll_30 rfl ?_
      refine mw_go i_Choice_isAll_31 ?_
      refine mw_ri i_Choice_isAll_35 rfl rfl ?_
      rw [gw_cov_iff r1 r2] at k
      simp only [lg_cmp_eq] at *
      first
      | exact mj_q0 (by simp_all) k
      | exact mj_q1 (by simp_all) k
theorem sp_Choice_outdate {X : mj_X} {d : Nat} {σ : mj_H} {Q : mj_H → Prop} {ol oh : Int64} {up sz fi fo : Int32} {lo hi rl rh : Nat → Int64} (hC : gw_ch σ.1 ol oh up sz fi fo lo hi rl rh) (k : ∀ f, gw_fr [41] σ.1 f → gw_ch f ol oh 0 sz fi fo lo hi rl rh → Q (f, σ.2)) : mj_M X d y_Choice_outdate [.ref 41] σ (mj_U Q) := by
  obtain ⟨h1, h2, h3, h4, h5⟩ := id hC
  refine mw_in (l0 := [some (.ref 41)]) rfl ?_
  refine mw_ld 1 i_Choice_outdate_0 rfl rfl rfl ?_
  refine mw_k 2 i_Choice_outdate_1 rfl ?_
  refine mw_put (fs' := [_, _, _, _, _, _, _, _, _, _, _]) 5 i_Choice_outdate_2 rfl (by assumption) (Nat.le_of_ble_eq_true rfl) rfl rfl (fun _ h => by cases h) (by rfl) ?_
  refine mw_rv i_Choice_outdate_5 rfl ?_
  exact k _ (gw_fr_up (gw_fr_rf _ _) (by simp)) ⟨mj_hs, mj_hn (by decide) h2, mj_hn (by decide) h3, mj_hn (by decide) h4, mj_hn (by decide) h5⟩
def gw_opn (w h : Nat) (s : Nat → Int32) (c : Nat) : Bool := decide (c < w * h) && (s c == 0)
theorem sp_Choice_gatherOpen {X : mj_X} {d : Nat} {σ : mj_H} {Q : mj_H → Prop} {w h n : Nat} {s : Nat → Int32} {u : Int32} {wt : Nat → Int32} {ol oh : Int64} {up sz fi fo : Int32} {lo hi rl rh : Nat → Int64} (hC : gw_ch σ.1 ol oh up sz fi fo lo hi rl rh) (hd : gw_dim w h) (hR : gw_rm σ.1 1 w h n s) (hV : gw_vw σ.1 u wt) (k : ∀ f ol2 oh2, gw_fr [41] σ.1 f → gw_ch f ol2 oh2 up sz fi fo lo hi rl rh → gw_rp ol2 oh2 (gw_opn w h s) → Q (f, σ.2)) : mj_M X (d + 2) y_Choice_gatherOpen [.ref 41] σ (mj_U Q) := by
  obtain ⟨h1, h2, h3, h4, h5⟩ := id hC
  obtain ⟨v1, v2⟩ := id hV
  have hwh := gw_dim_le hd
  refine mw_in (l0 := [some (.ref 41), none]) rfl ?_
  refine mw_ld 1 i_Choice_gatherOpen_0 rfl rfl rfl ?_
  refine mw_k 2 i_Choice_gatherOpen_1 rfl ?_
  refine mw_put (fs' := [_, _, _, _, _, _, _, _, _, _, _]) 5 i_Choice_gatherOpen_2 rfl (by repeat (first | exact mj_hs2 | exact mj_hs | assumption | refine mj_hn2 (by omega) ?_ | refine mj_hn (by omega) ?_)) (Nat.le_of_ble_eq_true rfl) rfl rfl (fun _ h => by cases h) (by rfl) ?_
  refine mw_ld 6 i_Choice_gatherOpen_5 rfl rfl rfl ?_
  refine mw_k 7 i_Choice_gatherOpen_6 rfl ?_
  refine mw_put (fs' := [_, _, _, _, _, _, _, _, _, _, _]) 10 i_Choice_gatherOpen_7 rfl (by repeat (first | exact mj_hs2 | exact mj_hs | assumption | refine mj_hn2 (by omega) ?_ | refine mj_hn (by omega) ?_)) (Nat.le_of_ble_eq_true rfl) rfl rfl (fun _ h => by cases h) (by rfl) ?_
  refine mw_k 11 i_Choice_gatherOpen_10 rfl ?_
  refine mw_st (ls' := [_, _]) 12 i_Choice_gatherOpen_11 rfl rfl rfl rfl ?_
  refine mj_for (S := Nat → mj_C) (fun i f => mj_Wp X (d + 2) y_Choice_gatherOpen 12 [some (.ref 41), some (.int (nI i))] [] (f, σ.2) (mj_U Q)) (fun i f => gw_fr [41] σ.1 f ∧ ∃ ol oh, gw_ch f ol oh up sz fi fo lo hi rl rh ∧ gw_rp ol oh (fun c => decide (c < i) && gw_opn w h s c)) 100 ?_ ?_ 0 _ (Nat.zero_le _) ⟨gw_fr_up (gw_fr_up (gw_fr_rf _ _) (by simp)) (by simp), 0, 0, ⟨mj_hs, mj_hn (by decide) (mj_hn (by decide) h2), mj_hn (by decide) (mj_hn (by decide) h3), mj_hn (by decide) (mj_hn (by decide) h4), mj_hn (by decide) (mj_hn (by decide) h5)⟩, gw_rp_cg (fun i _ => by simp) gw_rp_0⟩
  · rintro f ⟨f1, ol, oh, hC, hrp⟩
    refine mw_ld 13 i_Choice_gatherOpen_12 rfl rfl rfl ?_
    refine mw_k 15 i_Choice_gatherOpen_13 rfl ?_
    refine mw_ic1 i_Choice_gatherOpen_15 (by decide) ?_
    refine mw_rv i_Choice_gatherOpen_64 rfl ?_
    exact k f ol oh f1 hC (gw_rp_cg (fun c hc => by simp only [gw_opn]; by_cases q : c < w * h; (have : c < 100 := by omega); simp [this]; simp [q]) hrp)
  · rintro i f hi ⟨f1, ol, oh, hC, hrp⟩ ih
    obtain ⟨e1, e2, e3, e4, e5⟩ := id hC
    have hR2 : gw_rm f 1 w h n s := gw_rm_fr f1 (by decide) (by decide) (by decide) (by decide) hR
    have v1f : f 4 = _ := (f1 4 (by decide)).trans v1
    obtain ⟨wl, ps, c1, -⟩ := id hR2
    refine mw_ld 13 i_Choice_gatherOpen_12 rfl rfl rfl ?_
    refine mw_k 15 i_Choice_gatherOpen_13 rfl ?_
    refine mw_ic0 18 i_Choice_gatherOpen_15 rfl (nI_ge (b := 100) hi (by decide)) ?_
    refine mw_ld 19 i_Choice_gatherOpen_18 rfl rfl rfl ?_
    refine mw_get 22 i_Choice_gatherOpen_19 rfl (by repeat (first | exact mj_hs2 | exact mj_hs | assumption | refine mj_hn2 (by omega) ?_ | refine mj_hn (by omega) ?_)) (by rfl) ?_
    refine mw_get 25 i_Choice_gatherOpen_22 rfl (by repeat (first | exact mj_hs2 | exact mj_hs | assumption | refine mj_hn2 (by omega) ?_ | refine mj_hn (by omega) ?_)) (by rfl) ?_
    refine mw_ld 26 i_Choice_gatherOpen_25 rfl rfl rfl ?_
    refine mw_cv1 29 i_Choice_gatherOpen_26 rfl (by repeat (first | exact mj_hs2 | exact mj_hs | assumption | refine mj_hn2 (by omega) ?_ | refine mj_hn (by omega) ?_)) (sp_Room_isOpen (σ := (f, σ.2)) hd hR2 ?_) rfl rfl (Nat.le_of_ble_eq_true rfl) (Nat.le_of_ble_eq_true rfl)
    refine mw_if 32 i_Choice_gatherOpen_29 rfl (fun h29 => ?_) (fun h29 => ?_)
    · refine mw_inc (ls' := [_, _]) 61 (nI (i + 1)) i_Choice_gatherOpen_58 rfl rfl rfl (nI_1 i) rfl ?_
      refine mw_go i_Choice_gatherOpen_61 ?_
      first
      | (have hop := mj_bI1.mp h29
         rw [gw_op_nI (by omega)] at hop
         refine ih _ ⟨gw_fr_up (gw_fr_up f1 (by simp)) (by simp), _, _, ⟨mj_hs, mj_hn (by decide) (mj_hn (by decide) e2), mj_hn (by decide) (mj_hn (by decide) e3), mj_hn (by decide) (mj_hn (by decide) e4), mj_hn (by decide) (mj_hn (by decide) e5)⟩, gw_rp_cg (fun c _ => ?_) (gw_rp_or hrp (gw_rp_b hi))⟩
         by_cases e : c = i
         · subst e; simp [gw_opn, hop]
         · have : c < i + 1 ↔ c < i := by omega
           simp [e, this])
      | (have hop := mj_bI0.mp h29
         rw [gw_op_nI (by omega)] at hop
         refine ih _ ⟨f1, ol, oh, hC, gw_rp_cg (fun c _ => ?_) hrp⟩
         by_cases e : c = i
         · subst e; simp only [gw_opn, hop]; simp
         · have : c < i + 1 ↔ c < i := by omega
           simp [this])
    · refine mw_ld 33 i_Choice_gatherOpen_32 rfl rfl rfl ?_
      refine mw_dup 34 i_Choice_gatherOpen_33 rfl rfl ?_
      refine mw_get 37 i_Choice_gatherOpen_34 rfl (by repeat (first | exact mj_hs2 | exact mj_hs | assumption | refine mj_hn2 (by omega) ?_ | refine mj_hn (by omega) ?_)) (by rfl) ?_
      refine mw_ld 38 i_Choice_gatherOpen_37 rfl rfl rfl ?_
      refine mw_cs1 41 i_Choice_gatherOpen_38 rfl (sp_Choice_lowBit ?_) rfl rfl (Nat.le_of_ble_eq_true rfl) (Nat.le_of_ble_eq_true rfl)
      refine mw_bl 42 i_Choice_gatherOpen_41 rfl ?_
      refine mw_put (fs' := [_, _, _, _, _, _, _, _, _, _, _]) 45 i_Choice_gatherOpen_42 rfl (by repeat (first | exact mj_hs2 | exact mj_hs | assumption | refine mj_hn2 (by omega) ?_ | refine mj_hn (by omega) ?_)) (Nat.le_of_ble_eq_true rfl) rfl rfl (fun _ h => by cases h) (by rfl) ?_
      refine mw_ld 46 i_Choice_gatherOpen_45 rfl rfl rfl ?_
      refine mw_dup 47 i_Choice_gatherOpen_46 rfl rfl ?_
      refine mw_get 50 i_Choice_gatherOpen_47 rfl (by repeat (first | exact mj_hs2 | exact mj_hs | assumption | refine mj_hn2 (by omega) ?_ | refine mj_hn (by omega) ?_)) (by rfl) ?_
      refine mw_ld 51 i_Choice_gatherOpen_50 rfl rfl rfl ?_
      refine mw_cs1 54 i_Choice_gatherOpen_51 rfl (sp_Choice_highBit ?_) rfl rfl (Nat.le_of_ble_eq_true rfl) (Nat.le_of_ble_eq_true rfl)
      refine mw_bl 55 i_Choice_gatherOpen_54 rfl ?_
      refine mw_put (fs' := [_, _, _, _, _, _, _, _, _, _, _]) 58 i_Choice_gatherOpen_55 rfl (by repeat (first | exact mj_hs2 | exact mj_hs | assumption | refine mj_hn2 (by omega) ?_ | refine mj_hn (by omega) ?_)) (Nat.le_of_ble_eq_true rfl) rfl rfl (fun _ h => by cases h) (by rfl) ?_
      refine mw_inc (ls' := [_, _]) 61 (nI (i + 1)) i_Choice_gatherOpen_58 rfl rfl rfl (nI_1 i) rfl ?_
      refine mw_go i_Choice_gatherOpen_61 ?_
      first
      | (have hop := mj_bI1.mp h29
         rw [gw_op_nI (by omega)] at hop
         refine ih _ ⟨gw_fr_up (gw_fr_up f1 (by simp)) (by simp), _, _, ⟨mj_hs, mj_hn (by decide) (mj_hn (by decide) e2), mj_hn (by decide) (mj_hn (by decide) e3), mj_hn (by decide) (mj_hn (by decide) e4), mj_hn (by decide) (mj_hn (by decide) e5)⟩, gw_rp_cg (fun c _ => ?_) (gw_rp_or hrp (gw_rp_b hi))⟩
         by_cases e : c = i
         · subst e; simp [gw_opn, hop]
         · have : c < i + 1 ↔ c < i := by omega
           simp [e, this])
      | (have hop := mj_bI0.mp h29
         rw [gw_op_nI (by omega)] at hop
         refine ih _ ⟨f1, ol, oh, hC, gw_rp_cg (fun c _ => ?_) hrp⟩
         by_cases e : c = i
         · subst e; simp only [gw_opn, hop]; simp
         · have : c < i + 1 ↔ c < i := by omega
           simp [this])
