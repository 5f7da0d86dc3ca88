/-! View: what is read -/
theorem sp_GW_bit2 {X : mj_X} {d : Nat} {σ : mj_H} {Q : Value → mj_H → Prop} {b : Bool} {c : Int32} (hc : c = mj_bI b) (k : Q (.int (mj_bI b)) σ) : mj_M X d y_GW_bit [.int c] σ (mj_V Q) := by
  subst hc
  exact sp_GW_bit k
def gw_wo (w h n : Nat) (s : Nat → Int32) (c : Int32) : Int32 := if gw_ce w h c then gw_wt w h n s c.toInt.toNat else 0
theorem gw_wo_nI {w h n : Nat} {s : Nat → Int32} {k : Nat} (hk : k < 2147483648) : gw_wo w h n s (nI k) = if k < w * h then gw_wt w h n s k else 0 := by
  rw [gw_wo, gw_ce_nI hk, mj_nI k hk]
  simp
def gw_un (w h n : Nat) (s : Nat → Int32) (c : Int32) : Bool := gw_op w h s c && (gw_wo w h n s c == 0)
/-- unseen, by a cell's number -/
def gw_us (w h n : Nat) (s : Nat → Int32) (c : Nat) : Bool := (s c == 0) && (gw_wt w h n s c == 0)
theorem gw_un_nI {w h n : Nat} {s : Nat → Int32} {k : Nat} (hk : k < 2147483648) : gw_un w h n s (nI k) = (decide (k < w * h) && gw_us w h n s k) := by
  rw [gw_un, gw_op_nI hk, gw_wo_nI hk, gw_us]
  by_cases q : k < w * h
  · simp [q]
  · simp [q]
/-- the first -/
def gw_ff (p : Nat → Bool) (N : Nat) : Option Nat := (List.range N).find? p
theorem gw_ff_none {p : Nat → Bool} {N : Nat} : gw_ff p N = none ↔ ∀ c, c < N → p c = false := by
  simp only [gw_ff, List.find?_eq_none, List.mem_range, Bool.not_eq_true]
theorem gw_ff_some {p : Nat → Bool} {N c : Nat} (hc : c < N) (hp : p c = true) (hm : ∀ j, j < c → p j = false) : gw_ff p N = some c := by
  rw [gw_ff, List.find?_eq_some_iff_append]
  refine ⟨hp, List.range c, (List.range (N - c - 1)).map (fun x => c + 1 + x), ?_, fun a ha => by rw [hm a (List.mem_range.mp ha)]; rfl⟩
  have e : N = c + (1 + (N - c - 1)) := by omega
  conv => lhs; rw [e, List.range_add, List.range_add]
  simp [List.map_map, Function.comp_def, Nat.add_assoc]
theorem gw_ff_spec {p : Nat → Bool} {N c : Nat} (h : gw_ff p N = some c) : c < N ∧ p c = true := ⟨List.mem_range.mp (List.mem_of_find?_eq_some h), List.find?_some h⟩
def gw_up (w h n : Nat) (s : Nat → Int32) (z : Int32) (c : Nat) : Bool := (s c == 0) && (gw_wt w h n s c &&& z == 0)
def gw_lo (w h n : Nat) (s : Nat → Int32) (z : Int32) : Option Nat := gw_ff (gw_up w h n s z) (w * h)
def gw_oI (o : Option Nat) : Int32 := match o with
  | some c => nI c
  | none => gw_NONE
def gw_lu (w h n : Nat) (s : Nat → Int32) (z : Int32) : Int32 := gw_oI (gw_lo w h n s z)
theorem gw_oI_none {o : Option Nat} (h : ∀ c, o = some c → c < 2147483648) : gw_oI o = gw_NONE ↔ o = none := by
  cases o with
  | none => simp [gw_oI]
  | some c =>
    have hc := h c rfl
    simp only [gw_oI, reduceCtorEq, iff_false]
    intro q
    have q2 := congrArg Int32.toInt q
    rw [mj_nI c hc] at q2
    have : (gw_NONE).toInt = -2000000005 := by decide
    omega
theorem gw_lu_none {w h n : Nat} {s : Nat → Int32} {z : Int32} (hd : gw_dim w h) : gw_lu w h n s z = gw_NONE ↔ gw_lo w h n s z = none :=
  gw_oI_none (fun c hc => by have := (gw_ff_spec hc).1; have := gw_dim_le hd; omega)
def gw_sp (w h n : Nat) (s : Nat → Int32) (z : Int32) (k : Nat) : Bool := !(z &&& gw_bit k == 0) && (gw_lu w h n s (z &&& (gw_bit k ^^^ (-1))) == gw_NONE)
theorem sp_View_watchersOf {X : mj_X} {d : Nat} {σ : mj_H} {Q : Value → mj_H → Prop} {w h n : Nat} {s : Nat → Int32} {c : Int32} (hd : gw_dim w h) (hR : gw_rm σ.1 1 w h n s) (hU : gw_vup σ.1 w h n s) (k : Q (.int (gw_wo w h n s c)) σ) : mj_M X (d + 1) y_View_watchersOf [.ref 4, .int c] σ (mj_V Q) := by
  obtain ⟨wl, ps, c1, c2, c3, c4, c5⟩ := id hR
  obtain ⟨wt, ⟨v1, v2⟩, hw⟩ := id hU
  have hwh := gw_dim_le hd
  refine mw_in (l0 := [some (.ref 4), some (.int c)]) rfl ?_
  refine mw_ld 1 i_View_watchersOf_0 rfl rfl rfl ?_
  refine mw_get 4 i_View_watchersOf_1 rfl (by assumption) (by rfl) ?_
  refine mw_ld 5 i_View_watchersOf_4 rfl rfl rfl ?_
  refine mw_cv1 8 i_View_watchersOf_5 rfl (by assumption) (sp_Room_hasCell hd hR ?_) rfl rfl (Nat.le_of_ble_eq_true rfl) (Nat.le_of_ble_eq_true rfl)
  refine mw_if 11 i_View_watchersOf_8 rfl (fun h8 => ?_) (fun h8 => ?_)
  · refine mw_k 21 i_View_watchersOf_20 rfl ?_
    refine mw_ri i_View_watchersOf_21 rfl rfl ?_
    first
    | (rw [gw_wo, mj_bI0.mp h8] at k; exact k)
    | (rw [gw_wo_nI (by omega), if_pos hq] at k; exact k)
  · refine mw_ld 12 i_View_watchersOf_11 rfl rfl rfl ?_
    refine mw_get 15 i_View_watchersOf_12 rfl (by assumption) (by rfl) ?_
    refine mw_ld 16 i_View_watchersOf_15 rfl rfl rfl ?_
    obtain ⟨q, hq, rfl⟩ := gw_ce_of hd (mj_bI1.mp h8)
    refine mw_iald 17 q i_View_watchersOf_16 rfl v2 rfl (by omega) (by decide) ?_
    rw [hw q hq]
    refine mw_go i_View_watchersOf_17 ?_
    refine mw_ri i_View_watchersOf_21 rfl rfl ?_
    first
    | (rw [gw_wo, mj_bI0.mp h8] at k; exact k)
    | (rw [gw_wo_nI (by omega), if_pos hq] at k; exact k)
theorem sp_View_isUnseen {X : mj_X} {d : Nat} {σ : mj_H} {Q : Value → mj_H → Prop} {w h n : Nat} {s : Nat → Int32} {c : Int32} (hd : gw_dim w h) (hR : gw_rm σ.1 1 w h n s) (hU : gw_vup σ.1 w h n s) (k : Q (.int (mj_bI (gw_un w h n s c))) σ) : mj_M X (d + 2) y_View_isUnseen [.ref 4, .int c] σ (mj_V Q) := by
  obtain ⟨wl, ps, c1, c2, c3, c4, c5⟩ := id hR
  obtain ⟨wt, ⟨v1, v2⟩, hw⟩ := id hU
  have hwh := gw_dim_le hd
  refine mw_in (l0 := [some (.ref 4), some (.int c)]) rfl ?_
  refine mw_ld 1 i_View_isUnseen_0 rfl rfl rfl ?_
  refine mw_get 4 i_View_isUnseen_1 rfl (by assumption) (by rfl) ?_
  refine mw_ld 5 i_View_isUnseen_4 rfl rfl rfl ?_
  refine mw_cv1 8 i_View_isUnseen_5 rfl (by assumption) (sp_Room_isOpen hd hR ?_) rfl rfl (Nat.le_of_ble_eq_true rfl) (Nat.le_of_ble_eq_true rfl)
  refine mw_if 11 i_View_isUnseen_8 rfl (fun h8 => ?_) (fun h8 => ?_)
  · refine mw_k 24 i_View_isUnseen_23 rfl ?_
    refine mw_ri i_View_isUnseen_24 rfl rfl ?_
    first
    | exact mj_q0 (by simp_all [gw_un, mj_bI0, mj_bI1]) k
    | exact mj_q1 (by simp_all [gw_un, mj_bI0, mj_bI1]) k
  · refine mw_ld 12 i_View_isUnseen_11 rfl rfl rfl ?_
    refine mw_ld 13 i_View_isUnseen_12 rfl rfl rfl ?_
    refine mw_cv1 16 i_View_isUnseen_13 rfl (by assumption) (sp_View_watchersOf hd hR hU ?_) rfl rfl (Nat.le_of_ble_eq_true rfl) (Nat.le_of_ble_eq_true rfl)
    refine mw_if 19 i_View_isUnseen_16 rfl (fun h16 => ?_) (fun h16 => ?_)
    · refine mw_k 24 i_View_isUnseen_23 rfl ?_
      refine mw_ri i_View_isUnseen_24 rfl rfl ?_
      first
      | exact mj_q0 (by simp_all [gw_un, mj_bI0, mj_bI1]) k
      | exact mj_q1 (by simp_all [gw_un, mj_bI0, mj_bI1]) k
    · refine mw_k 20 i_View_isUnseen_19 rfl ?_
      refine mw_go i_View_isUnseen_20 ?_
      refine mw_ri i_View_isUnseen_24 rfl rfl ?_
      first
      | exact mj_q0 (by simp_all [gw_un, mj_bI0, mj_bI1]) k
      | exact mj_q1 (by simp_all [gw_un, mj_bI0, mj_bI1]) k
theorem sp_View_unseenCells {X : mj_X} {d : Nat} {σ : mj_H} {Q : Value → mj_H → Prop} {w h n : Nat} {s : Nat → Int32} (hd : gw_dim w h) (hR : gw_rm σ.1 1 w h n s) (hU : gw_vup σ.1 w h n s) (k : Q (.int (nI (gw_cn (gw_us w h n s) (w * h)))) σ) : mj_M X (d + 3) y_View_unseenCells [.ref 4] σ (mj_V Q) := by
  obtain ⟨wl, ps, c1, c2, c3, c4, c5⟩ := id hR
  obtain ⟨wt, ⟨v1, v2⟩, hw⟩ := id hU
  have hwh := gw_dim_le hd
  refine mw_in (l0 := [some (.ref 4), none, none]) rfl ?_
  refine mw_k 1 i_View_unseenCells_0 rfl ?_
  refine mw_st (ls' := [_, _, _]) 2 i_View_unseenCells_1 rfl rfl rfl rfl ?_
  refine mw_k 3 i_View_unseenCells_2 rfl ?_
  refine mw_st (ls' := [_, _, _]) 4 i_View_unseenCells_3 rfl rfl rfl rfl ?_
  refine mj_for (S := Nat) (fun i u => mj_Wp X (d + 3) y_View_unseenCells 4 [some (.ref 4), some (.int (nI u)), some (.int (nI i))] [] σ (mj_V Q)) (fun i u => u = gw_cn (fun c => gw_un w h n s (nI c)) i) 100 ?_ ?_ 0 0 (Nat.zero_le _) rfl
  · rintro u rfl
    refine mw_ld 5 i_View_unseenCells_4 rfl rfl rfl ?_
    refine mw_k 7 i_View_unseenCells_5 rfl ?_
    refine mw_ic1 i_View_unseenCells_7 (by decide) ?_
    refine mw_ld 28 i_View_unseenCells_27 rfl rfl rfl ?_
    refine mw_ri i_View_unseenCells_28 rfl rfl ?_
    rw [← gw_cn_cut (p := fun c => decide (c < w * h) && gw_us w h n s c) (N := 100) (fun c hc => by simp [hc]) (fun c hc => by simp; omega) hwh, gw_cn_cg (q := fun c => gw_un w h n s (nI c)) (fun c hc => by rw [gw_un_nI (by omega)])] at k
    exact k
  · rintro i u hi rfl ih
    refine mw_ld 5 i_View_unseenCells_4 rfl rfl rfl ?_
    refine mw_k 7 i_View_unseenCells_5 rfl ?_
    refine mw_ic0 10 i_View_unseenCells_7 rfl (nI_ge (b := 100) hi (by decide)) ?_
    refine mw_ld 11 i_View_unseenCells_10 rfl rfl rfl ?_
    refine mw_ld 12 i_View_unseenCells_11 rfl rfl rfl ?_
    refine mw_ld 13 i_View_unseenCells_12 rfl rfl rfl ?_
    refine mw_cv1 16 i_View_unseenCells_13 rfl (by assumption) (sp_View_isUnseen hd hR hU ?_) rfl rfl (Nat.le_of_ble_eq_true rfl) (Nat.le_of_ble_eq_true rfl)
    refine mw_cs1 19 i_View_unseenCells_16 rfl (sp_GW_bit ?_) rfl rfl (Nat.le_of_ble_eq_true rfl) (Nat.le_of_ble_eq_true rfl)
    refine mw_b 20 i_View_unseenCells_19 rfl ?_
    rw [nI_bI]
    refine mw_st (ls' := [_, _, _]) 21 i_View_unseenCells_20 rfl rfl rfl rfl ?_
    refine mw_inc (ls' := [_, _, _]) 24 (nI (i + 1)) i_View_unseenCells_21 rfl rfl rfl (nI_1 i) rfl ?_
    refine mw_go i_View_unseenCells_24 ?_
    exact ih _ rfl
theorem sp_View_cellsSeenBy {X : mj_X} {d : Nat} {σ : mj_H} {Q : Value → mj_H → Prop} {w h n : Nat} {s : Nat → Int32} {z : Int32} (hd : gw_dim w h) (hR : gw_rm σ.1 1 w h n s) (hU : gw_vup σ.1 w h n s) (k : Q (.int (nI (gw_cn (fun c => !(gw_wt w h n s c &&& z == 0)) (w * h)))) σ) : mj_M X (d + 2) y_View_cellsSeenBy [.ref 4, .int z] σ (mj_V Q) := by
  obtain ⟨wl, ps, c1, c2, c3, c4, c5⟩ := id hR
  obtain ⟨wt, ⟨v1, v2⟩, hw⟩ := id hU
  have hwh := gw_dim_le hd
  refine mw_in (l0 := [some (.ref 4), some (.int z), none, none]) rfl ?_
  refine mw_k 1 i_View_cellsSeenBy_0 rfl ?_
  refine mw_st (ls' := [_, _, _, _]) 2 i_View_cellsSeenBy_1 rfl rfl rfl rfl ?_
  refine mw_k 3 i_View_cellsSeenBy_2 rfl ?_
  refine mw_st (ls' := [_, _, _, _]) 4 i_View_cellsSeenBy_3 rfl rfl rfl rfl ?_
  refine mj_for (S := Nat) (fun i u => mj_Wp X (d + 2) y_View_cellsSeenBy 4 [some (.ref 4), some (.int z), some (.int (nI u)), some (.int (nI i))] [] σ (mj_V Q)) (fun i u => u = gw_cn (fun c => !(gw_wo w h n s (nI c) &&& z == 0)) i) 100 ?_ ?_ 0 0 (Nat.zero_le _) rfl
  · rintro u rfl
    refine mw_ld 5 i_View_cellsSeenBy_4 rfl rfl rfl ?_
    refine mw_k 7 i_View_cellsSeenBy_5 rfl ?_
    refine mw_ic1 i_View_cellsSeenBy_7 (by decide) ?_
    refine mw_ld 38 i_View_cellsSeenBy_37 rfl rfl rfl ?_
    refine mw_ri i_View_cellsSeenBy_38 rfl rfl ?_
    rw [← gw_cn_cut (p := fun c => decide (c < w * h) && !(gw_wt w h n s c &&& z == 0)) (N := 100) (fun c hc => by simp [hc]) (fun c hc => by simp; omega) hwh, gw_cn_cg (q := fun c => !(gw_wo w h n s (nI c) &&& z == 0)) (fun c hc => by
      rw [gw_wo_nI (by omega)]
      by_cases q : c < w * h <;> simp [q])] at k
    exact k
  · rintro i u hi rfl ih
    refine mw_ld 5 i_View_cellsSeenBy_4 rfl rfl rfl ?_
    refine mw_k 7 i_View_cellsSeenBy_5 rfl ?_
    refine mw_ic0 10 i_View_cellsSeenBy_7 rfl (nI_ge (b := 100) hi (by decide)) ?_
    refine mw_ld 11 i_View_cellsSeenBy_10 rfl rfl rfl ?_
    refine mw_ld 12 i_View_cellsSeenBy_11 rfl rfl rfl ?_
    refine mw_ld 13 i_View_cellsSeenBy_12 rfl rfl rfl ?_
    refine mw_cv1 16 i_View_cellsSeenBy_13 rfl (by assumption) (sp_View_watchersOf hd hR hU ?_) rfl rfl (Nat.le_of_ble_eq_true rfl) (Nat.le_of_ble_eq_true rfl)
    refine mw_ld 17 i_View_cellsSeenBy_16 rfl rfl rfl ?_
    refine mw_b 18 i_View_cellsSeenBy_17 rfl ?_
    refine mw_if 21 i_View_cellsSeenBy_18 rfl (fun h18 => ?_) (fun h18 => ?_)
    · refine mw_k 26 i_View_cellsSeenBy_25 rfl ?_
      refine mw_cs1 29 i_View_cellsSeenBy_26 rfl (sp_GW_bit2 (b := !(gw_wo w h n s (nI i) &&& z == 0)) (by simp [h18, mj_bI]) ?_) rfl rfl (Nat.le_of_ble_eq_true rfl) (Nat.le_of_ble_eq_true rfl)
      refine mw_b 30 i_View_cellsSeenBy_29 rfl ?_
      rw [nI_bI]
      refine mw_st (ls' := [_, _, _, _]) 31 i_View_cellsSeenBy_30 rfl rfl rfl rfl ?_
      refine mw_inc (ls' := [_, _, _, _]) 34 (nI (i + 1)) i_View_cellsSeenBy_31 rfl rfl rfl (nI_1 i) rfl ?_
      refine mw_go i_View_cellsSeenBy_34 ?_
      exact ih _ rfl
    · refine mw_k 22 i_View_cellsSeenBy_21 rfl ?_
      refine mw_go i_View_cellsSeenBy_22 ?_
      refine mw_cs1 29 i_View_cellsSeenBy_26 rfl (sp_GW_bit2 (b := !(gw_wo w h n s (nI i) &&& z == 0)) (by simp [h18, mj_bI]) ?_) rfl rfl (Nat.le_of_ble_eq_true rfl) (Nat.le_of_ble_eq_true rfl)
      refine mw_b 30 i_View_cellsSeenBy_29 rfl ?_
      rw [nI_bI]
      refine mw_st (ls' := [_, _, _, _]) 31 i_View_cellsSeenBy_30 rfl rfl rfl rfl ?_
      refine mw_inc (ls' := [_, _, _, _]) 34 (nI (i + 1)) i_View_cellsSeenBy_31 rfl rfl rfl (nI_1 i) rfl ?_
      refine mw_go i_View_cellsSeenBy_34 ?_
      exact ih _ rfl
theorem sp_View_leastUnwatched {X : mj_X} {d : Nat} {σ : mj_H} {Q : Value → mj_H → Prop} {w h n : Nat} {s : Nat → Int32} {z : Int32} (hd : gw_dim w h) (hR : gw_rm σ.1 1 w h n s) (hU : gw_vup σ.1 w h n s) (k : Q (.int (gw_lu w h n s z)) σ) : mj_M X (d + 2) y_View_leastUnwatched [.ref 4, .int z] σ (mj_V Q) := by
  obtain ⟨wl, ps, c1, c2, c3, c4, c5⟩ := id hR
  obtain ⟨wt, ⟨v1, v2⟩, hw⟩ := id hU
  have hwh := gw_dim_le hd
  refine mw_in (l0 := [some (.ref 4), some (.int z), none]) rfl ?_
  refine mw_k 1 i_View_leastUnwatched_0 rfl ?_
  refine mw_st (ls' := [_, _, _]) 2 i_View_leastUnwatched_1 rfl rfl rfl rfl ?_
  refine mj_for (S := Unit) (fun i _ => mj_Wp X (d + 2) y_View_leastUnwatched 2 [some (.ref 4), some (.int z), some (.int (nI i))] [] σ (mj_V Q)) (fun i _ => ∀ j, j < i → j < w * h → gw_up w h n s z j = false) 100 ?_ ?_ 0 () (Nat.zero_le _) (fun j hj => absurd hj (Nat.not_lt_zero j))
  · intro _ hI
    refine mw_ld 3 i_View_leastUnwatched_2 rfl rfl rfl ?_
    refine mw_k 5 i_View_leastUnwatched_3 rfl ?_
    refine mw_ic1 i_View_leastUnwatched_5 (by decide) ?_
    refine mw_k 39 i_View_leastUnwatched_37 rfl ?_
    refine mw_ri i_View_leastUnwatched_39 rfl rfl ?_
    rw [gw_lu, gw_lo, gw_ff_none.mpr (fun c hc => hI c (by omega) hc)] at k
    exact k
  · intro i _ hi hI ih
    refine mw_ld 3 i_View_leastUnwatched_2 rfl rfl rfl ?_
    refine mw_k 5 i_View_leastUnwatched_3 rfl ?_
    refine mw_ic0 8 i_View_leastUnwatched_5 rfl (nI_ge (b := 100) hi (by decide)) ?_
    refine mw_ld 9 i_View_leastUnwatched_8 rfl rfl rfl ?_
    refine mw_get 12 i_View_leastUnwatched_9 rfl (by assumption) (by rfl) ?_
    refine mw_ld 13 i_View_leastUnwatched_12 rfl rfl rfl ?_
    refine mw_cv1 16 i_View_leastUnwatched_13 rfl (by assumption) (sp_Room_isOpen hd hR ?_) rfl rfl (Nat.le_of_ble_eq_true rfl) (Nat.le_of_ble_eq_true rfl)
    refine mw_if 19 i_View_leastUnwatched_16 rfl (fun h16 => ?_) (fun h16 => ?_)
    · refine mw_inc (ls' := [_, _, _]) 34 (nI (i + 1)) i_View_leastUnwatched_31 rfl rfl rfl (nI_1 i) rfl ?_
      refine mw_go i_View_leastUnwatched_34 ?_
      refine ih () (fun j hj hjw => ?_)
      rcases Nat.lt_succ_iff_lt_or_eq.mp hj with q | q
      · exact hI j q hjw
      · subst q
        simp only [mj_bI0, mj_bI1, gw_op_nI (show j < 2147483648 by omega), gw_wo_nI (show j < 2147483648 by omega), if_pos hjw] at *
        simp_all [gw_up]
    · refine mw_ld 20 i_View_leastUnwatched_19 rfl rfl rfl ?_
      refine mw_ld 21 i_View_leastUnwatched_20 rfl rfl rfl ?_
      refine mw_cv1 24 i_View_leastUnwatched_21 rfl (by assumption) (sp_View_watchersOf hd hR hU ?_) rfl rfl (Nat.le_of_ble_eq_true rfl) (Nat.le_of_ble_eq_true rfl)
      refine mw_ld 25 i_View_leastUnwatched_24 rfl rfl rfl ?_
      refine mw_b 26 i_View_leastUnwatched_25 rfl ?_
      refine mw_if 29 i_View_leastUnwatched_26 rfl (fun h26 => ?_) (fun h26 => ?_)
      · refine mw_inc (ls' := [_, _, _]) 34 (nI (i + 1)) i_View_leastUnwatched_31 rfl rfl rfl (nI_1 i) rfl ?_
        refine mw_go i_View_leastUnwatched_34 ?_
        refine ih () (fun j hj hjw => ?_)
        rcases Nat.lt_succ_iff_lt_or_eq.mp hj with q | q
        · exact hI j q hjw
        · subst q
          simp only [mj_bI0, mj_bI1, gw_op_nI (show j < 2147483648 by omega), gw_wo_nI (show j < 2147483648 by omega), if_pos hjw] at *
          simp_all [gw_up]
      · refine mw_ld 30 i_View_leastUnwatched_29 rfl rfl rfl ?_
        refine mw_ri i_View_leastUnwatched_30 rfl rfl ?_
        simp only [mj_bI0, mj_bI1, gw_op_nI (show i < 2147483648 by omega), gw_wo_nI (show i < 2147483648 by omega), Classical.not_not, Bool.not_eq_false, Bool.and_eq_true, decide_eq_true_eq] at *
        rw [if_pos h16.1] at h26
        rw [gw_lu, gw_lo, gw_ff_some h16.1 (by rw [gw_up, h16.2, h26]; rfl) (fun j hj => hI j hj (by omega))] at k
        exact k
theorem sp_View_sparedOf {X : mj_X} {d : Nat} {σ : mj_H} {Q : Value → mj_H → Prop} {w h n : Nat} {s : Nat → Int32} {z : Int32} (hd : gw_dim w h) (hR : gw_rm σ.1 1 w h n s) (hU : gw_vup σ.1 w h n s) (k : Q (.int (gw_fm (gw_sp w h n s z) 14)) σ) : mj_M X (d + 3) y_View_sparedOf [.ref 4, .int z] σ (mj_V Q) := by
  obtain ⟨wl, ps, c1, c2, c3, c4, c5⟩ := id hR
  obtain ⟨wt, ⟨v1, v2⟩, hw⟩ := id hU
  have hwh := gw_dim_le hd
  refine mw_in (l0 := [some (.ref 4), some (.int z), none, none, none]) rfl ?_
  refine mw_k 1 i_View_sparedOf_0 rfl ?_
  refine mw_st (ls' := [_, _, _, _, _]) 2 i_View_sparedOf_1 rfl rfl rfl rfl ?_
  refine mw_k 3 i_View_sparedOf_2 rfl ?_
  refine mw_st (ls' := [_, _, _, _, _]) 4 i_View_sparedOf_3 rfl rfl rfl rfl ?_
  refine mj_for (S := Int32 × Option Value) (fun i q => mj_Wp X (d + 3) y_View_sparedOf 4 [some (.ref 4), some (.int z), some (.int q.1), some (.int (nI i)), q.2] [] σ (mj_V Q)) (fun i q => q.1 = gw_fm (gw_sp w h n s z) i) 14 ?_ ?_ 0 (0, none) (Nat.zero_le _) rfl
  · rintro ⟨q, q2⟩ hq
    have hq : q = gw_fm (gw_sp w h n s z) 14 := hq
    subst hq
    refine mw_ld 5 i_View_sparedOf_4 rfl rfl rfl ?_
    refine mw_k 7 i_View_sparedOf_5 rfl ?_
    refine mw_ic1 i_View_sparedOf_7 (by decide) ?_
    refine mw_ld 49 i_View_sparedOf_48 rfl rfl rfl ?_
    refine mw_ri i_View_sparedOf_49 rfl rfl ?_
    exact k
  · rintro i ⟨q, q2⟩ hi hq ih
    have hq : q = gw_fm (gw_sp w h n s z) i := hq
    subst hq
    dsimp only
    refine mw_ld 5 i_View_sparedOf_4 rfl rfl rfl ?_
    refine mw_k 7 i_View_sparedOf_5 rfl ?_
    refine mw_ic0 10 i_View_sparedOf_7 rfl (nI_ge (b := 14) hi (by decide)) ?_
    refine mw_k 11 i_View_sparedOf_10 rfl ?_
    refine mw_ld 12 i_View_sparedOf_11 rfl rfl rfl ?_
    refine mw_b 13 i_View_sparedOf_12 rfl ?_
    refine mw_st (ls' := [_, _, _, _, _]) 15 i_View_sparedOf_13 rfl rfl rfl rfl ?_
    refine mw_ld 16 i_View_sparedOf_15 rfl rfl rfl ?_
    refine mw_ld 18 i_View_sparedOf_16 rfl rfl rfl ?_
    refine mw_b 19 i_View_sparedOf_18 rfl ?_
    refine mw_if 22 i_View_sparedOf_19 rfl (fun h19 => ?_) (fun h19 => ?_)
    · refine mw_inc (ls' := [_, _, _, _, _]) 45 (nI (i + 1)) i_View_sparedOf_42 rfl rfl rfl (nI_1 i) rfl ?_
      refine mw_go i_View_sparedOf_45 ?_
      refine ih (_, _) ?_
      show _ = gw_fm _ (i + 1)
      simp only [gw_fm]
      first
      | (rw [if_pos (by rw [gw_sp]; simp_all [gw_bit])]; rfl)
      | (rw [if_neg (by rw [gw_sp]; simp_all [gw_bit])])
    · refine mw_ld 23 i_View_sparedOf_22 rfl rfl rfl ?_
      refine mw_ld 24 i_View_sparedOf_23 rfl rfl rfl ?_
      refine mw_ld 26 i_View_sparedOf_24 rfl rfl rfl ?_
      refine mw_k 27 i_View_sparedOf_26 rfl ?_
      refine mw_b 28 i_View_sparedOf_27 rfl ?_
      refine mw_b 29 i_View_sparedOf_28 rfl ?_
      refine mw_cv1 32 i_View_sparedOf_29 rfl (by assumption) (sp_View_leastUnwatched hd hR hU ?_) rfl rfl (Nat.le_of_ble_eq_true rfl) (Nat.le_of_ble_eq_true rfl)
      refine mw_k 34 i_View_sparedOf_32 rfl ?_
      refine mw_ic 37 i_View_sparedOf_34 rfl (fun h34 => ?_) (fun h34 => ?_)
      · refine mw_inc (ls' := [_, _, _, _, _]) 45 (nI (i + 1)) i_View_sparedOf_42 rfl rfl rfl (nI_1 i) rfl ?_
        refine mw_go i_View_sparedOf_45 ?_
        refine ih (_, _) ?_
        show _ = gw_fm _ (i + 1)
        simp only [gw_fm]
        first
        | (rw [if_pos (by rw [gw_sp]; simp_all [gw_bit])]; rfl)
        | (rw [if_neg (by rw [gw_sp]; simp_all [gw_bit])])
      · refine mw_ld 38 i_View_sparedOf_37 rfl rfl rfl ?_
        refine mw_ld 40 i_View_sparedOf_38 rfl rfl rfl ?_
        refine mw_b 41 i_View_sparedOf_40 rfl ?_
        refine mw_st (ls' := [_, _, _, _, _]) 42 i_View_sparedOf_41 rfl rfl rfl rfl ?_
        refine mw_inc (ls' := [_, _, _, _, _]) 45 (nI (i + 1)) i_View_sparedOf_42 rfl rfl rfl (nI_1 i) rfl ?_
        refine mw_go i_View_sparedOf_45 ?_
        refine ih (_, _) ?_
        show _ = gw_fm _ (i + 1)
        simp only [gw_fm]
        first
        | (rw [if_pos (by rw [gw_sp]; simp_all [gw_bit])]; rfl)
        | (rw [if_neg (by rw [gw_sp]; simp_all [gw_bit])])
