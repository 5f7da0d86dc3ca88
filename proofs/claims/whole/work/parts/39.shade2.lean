/-! Shade: steps, the next cell -/
/-- the fewest steps of a way from a, if there is one -/
noncomputable def gw_di (w h : Nat) (U : Nat → Bool) (a c : Nat) : Option Nat := @dite _ (∃ k, gw_R w h U a k c) (Classical.propDecidable _) (fun hx => some (Classical.choose (pk_least (fun k => gw_R w h U a k c) hx))) (fun _ => none)
theorem gw_di_eq {w h : Nat} {U : Nat → Bool} {a : Nat} {D : Nat → Option Nat} (hS : gw_Sp w h U a (fun _ => none) D) (c : Nat) : D c = gw_di w h U a c := by
  by_cases hx : ∃ k, gw_R w h U a k c
  · obtain ⟨k, h1, h2, h3⟩ := hS.1 c hx
    have hc := Classical.choose_spec (pk_least (fun k => gw_R w h U a k c) hx)
    rw [gw_di, dif_pos hx, h1]
    congr 1
    have e1 := h3 _ hc.1
    apply Classical.byContradiction
    intro q
    exact hc.2 k (by omega) h2
  · rw [gw_di, dif_neg hx]
    exact hS.2 c hx
/-- the unseen cells of the room -/
abbrev gw_UU (w h n : Nat) (s : Nat → Int32) : Nat → Bool := gw_U w h n s (fun _ => none)
def gw_ols (a b : Option Nat) : Bool := match a, b with
  | some x, some y => decide (x < y)
  | _, _ => false
def gw_nr (w h : Nat) (D : Nat → Option Nat) (x i : Nat) : Bool := match gw_no w h x i with
  | some y => gw_ols (D y) (D x)
  | none => false
/-- the least cell beside that is nearer -/
def gw_ln (w h : Nat) (D : Nat → Option Nat) (x : Nat) : Nat := match gw_ff (gw_nr w h D x) 4 with
  | some i => (gw_no w h x i).getD x
  | none => x
def gw_it (w h : Nat) (D : Nat → Option Nat) (a : Nat) : Nat → Nat
  | 0 => a
  | k + 1 => gw_ln w h D (gw_it w h D a k)
theorem gw_dI_lt {a b : Option Nat} (ha : ∀ k, a = some k → k < 100) (hb : ∀ k, b = some k → k < 100) (hn : ¬ gw_dI a = -1) : (gw_dI b ≤ gw_dI a) ↔ gw_ols a b = false := by
  cases a with
  | none => exact absurd rfl hn
  | some x =>
    have hx := ha x rfl
    cases b with
    | none =>
      simp only [gw_ols, iff_true]
      show (-1 : Int32) ≤ nI x
      rw [mj_le, mj_nI x (by omega)]
      have : (-1 : Int32).toInt = -1 := by decide
      omega
    | some y =>
      have hy := hb y rfl
      show nI y ≤ nI x ↔ _
      rw [nI_leI (by omega) (by omega)]
      simp [gw_ols]
theorem sp_Shade_leastNearer {X : mj_X} {d : Nat} {σ : mj_H} {Q : Value → mj_H → Prop} {w h n : Nat} {s : Nat → Int32} {st qu : Nat → Int32} (hS : gw_sh σ.1 st qu) {D : Nat → Option Nat} {x : Nat} (hD : gw_sD st D) (hx : x < w * h) (hd : gw_dim w h) (hR : gw_rm σ.1 1 w h n s) (hV : ∃ u, σ.1 4 = mj_O 6 [.ref 1, .ref 5, .int u]) (k : Q (.int (nI (gw_ln w h D x))) σ) : mj_M X (d + 2) y_Shade_leastNearer [.ref 46, .int (nI x)] σ (mj_V Q) := by
  obtain ⟨z1, z2, z3⟩ := id hS
  obtain ⟨u4, v1⟩ := hV
  obtain ⟨wl, ps, c1, -⟩ := id hR
  have hwh := gw_dim_le hd
  refine mw_in (l0 := [some (.ref 46), some (.int (nI x)), none, none]) rfl ?_
  refine mw_k 1 i_Shade_leastNearer_0 rfl ?_
  refine mw_st (ls' := [_, _, _, _]) 2 i_Shade_leastNearer_1 rfl rfl rfl rfl ?_
  refine mj_for (S := Option Value) (fun i u => mj_Wp X (d + 2) y_Shade_leastNearer 2 [some (.ref 46), some (.int (nI x)), some (.int (nI i)), u] [] σ (mj_V Q)) (fun i u => ∀ j, j < i → gw_nr w h D x j = false) 4 ?_ ?_ 0 none (Nat.zero_le _) (fun j hj => absurd hj (Nat.not_lt_zero j))
  · intro u hI
    refine mw_ld 3 i_Shade_leastNearer_2 rfl rfl rfl ?_
    refine mw_k 4 i_Shade_leastNearer_3 rfl ?_
    refine mw_ic1 i_Shade_leastNearer_4 (by decide) ?_
    refine mw_ld 51 i_Shade_leastNearer_50 rfl rfl rfl ?_
    refine mw_ri i_Shade_leastNearer_51 rfl rfl ?_
    rw [gw_ln, gw_ff_none.mpr (fun c hc => hI c hc)] at k
    exact k
  · intro i u hi hI ih
    cases hno : gw_no w h x i with
    | none =>
      skip
      refine mw_ld 3 i_Shade_leastNearer_2 rfl rfl rfl ?_
      refine mw_k 4 i_Shade_leastNearer_3 rfl ?_
      refine mw_ic0 7 i_Shade_leastNearer_4 rfl (nI_ge (b := 4) hi (by decide)) ?_
      refine mw_ld 8 i_Shade_leastNearer_7 rfl rfl rfl ?_
      refine mw_get 11 i_Shade_leastNearer_8 rfl (by repeat (first | exact mj_hs2 | exact mj_hs | assumption | refine mj_hn2 (by omega) ?_ | refine mj_hn (by omega) ?_)) (by rfl) ?_
      refine mw_get 14 i_Shade_leastNearer_11 rfl (by repeat (first | exact mj_hs2 | exact mj_hs | assumption | refine mj_hn2 (by omega) ?_ | refine mj_hn (by omega) ?_)) (by rfl) ?_
      refine mw_ld 15 i_Shade_leastNearer_14 rfl rfl rfl ?_
      refine mw_ld 16 i_Shade_leastNearer_15 rfl rfl rfl ?_
      refine mw_cv1 19 i_Shade_leastNearer_16 rfl (by repeat (first | exact mj_hs2 | exact mj_hs | assumption | refine mj_hn2 (by omega) ?_ | refine mj_hn (by omega) ?_)) (sp_Room_beside hx hi hd hR ?_) rfl rfl (Nat.le_of_ble_eq_true rfl) (Nat.le_of_ble_eq_true rfl)
      rw [gw_be_no, hno]
      refine mw_st (ls' := [_, _, _, _]) 20 i_Shade_leastNearer_19 rfl rfl rfl rfl ?_
      refine mw_ld 21 i_Shade_leastNearer_20 rfl rfl rfl ?_
      refine mw_ld 22 i_Shade_leastNearer_21 rfl rfl rfl ?_
      refine mw_cv1 25 i_Shade_leastNearer_22 rfl (by repeat (first | exact mj_hs2 | exact mj_hs | assumption | refine mj_hn2 (by omega) ?_ | refine mj_hn (by omega) ?_)) (sp_Shade_stepsOf_m ?_) rfl rfl (Nat.le_of_ble_eq_true rfl) (Nat.le_of_ble_eq_true rfl)
      refine mw_k 26 i_Shade_leastNearer_25 rfl ?_
      refine mw_ic1 i_Shade_leastNearer_26 rfl ?_
      refine mw_inc (ls' := [_, _, _, _]) 47 (nI (i + 1)) i_Shade_leastNearer_44 rfl rfl rfl (nI_1 i) rfl ?_
      refine mw_go i_Shade_leastNearer_47 ?_
      refine ih _ (fun j hj => ?_)
      rcases Nat.lt_succ_iff_lt_or_eq.mp hj with q | q
      · exact hI j q
      · subst q
        rw [gw_nr, hno]
    | some y =>
      have hyw := gw_no_lt hd hx hno
      have hsy : st y = gw_dI (D y) := hD.1 y (by omega)
      have hsx : st x = gw_dI (D x) := hD.1 x (by omega)
      by_cases hy : st y = -1
      · have hDy := (gw_sD_none hD (by omega)).mp hy
        refine mw_ld 3 i_Shade_leastNearer_2 rfl rfl rfl ?_
        refine mw_k 4 i_Shade_leastNearer_3 rfl ?_
        refine mw_ic0 7 i_Shade_leastNearer_4 rfl (nI_ge (b := 4) hi (by decide)) ?_
        refine mw_ld 8 i_Shade_leastNearer_7 rfl rfl rfl ?_
        refine mw_get 11 i_Shade_leastNearer_8 rfl (by repeat (first | exact mj_hs2 | exact mj_hs | assumption | refine mj_hn2 (by omega) ?_ | refine mj_hn (by omega) ?_)) (by rfl) ?_
        refine mw_get 14 i_Shade_leastNearer_11 rfl (by repeat (first | exact mj_hs2 | exact mj_hs | assumption | refine mj_hn2 (by omega) ?_ | refine mj_hn (by omega) ?_)) (by rfl) ?_
        refine mw_ld 15 i_Shade_leastNearer_14 rfl rfl rfl ?_
        refine mw_ld 16 i_Shade_leastNearer_15 rfl rfl rfl ?_
        refine mw_cv1 19 i_Shade_leastNearer_16 rfl (by repeat (first | exact mj_hs2 | exact mj_hs | assumption | refine mj_hn2 (by omega) ?_ | refine mj_hn (by omega) ?_)) (sp_Room_beside hx hi hd hR ?_) rfl rfl (Nat.le_of_ble_eq_true rfl) (Nat.le_of_ble_eq_true rfl)
        rw [gw_be_no, hno]
        refine mw_st (ls' := [_, _, _, _]) 20 i_Shade_leastNearer_19 rfl rfl rfl rfl ?_
        refine mw_ld 21 i_Shade_leastNearer_20 rfl rfl rfl ?_
        refine mw_ld 22 i_Shade_leastNearer_21 rfl rfl rfl ?_
        refine mw_cv1 25 i_Shade_leastNearer_22 rfl (by repeat (first | exact mj_hs2 | exact mj_hs | assumption | refine mj_hn2 (by omega) ?_ | refine mj_hn (by omega) ?_)) (sp_Shade_stepsOf hS (by omega) ?_) rfl rfl (Nat.le_of_ble_eq_true rfl) (Nat.le_of_ble_eq_true rfl)
        refine mw_k 26 i_Shade_leastNearer_25 rfl ?_
        refine mw_ic1 i_Shade_leastNearer_26 hy ?_
        refine mw_inc (ls' := [_, _, _, _]) 47 (nI (i + 1)) i_Shade_leastNearer_44 rfl rfl rfl (nI_1 i) rfl ?_
        refine mw_go i_Shade_leastNearer_47 ?_
        refine ih _ (fun j hj => ?_)
        rcases Nat.lt_succ_iff_lt_or_eq.mp hj with q | q
        · exact hI j q
        · subst q
          simp only [gw_nr, hno, hDy, gw_ols]
      · have hlt := gw_dI_lt (hD.2 y) (hD.2 x) (by rw [← hsy]; exact hy)
        rw [← hsy, ← hsx] at hlt
        by_cases hls : gw_ols (D y) (D x) = true
        · have hle : ¬ st x ≤ st y := fun q => by rw [hlt.mp q] at hls; cases hls
          refine mw_ld 3 i_Shade_leastNearer_2 rfl rfl rfl ?_
          refine mw_k 4 i_Shade_leastNearer_3 rfl ?_
          refine mw_ic0 7 i_Shade_leastNearer_4 rfl (nI_ge (b := 4) hi (by decide)) ?_
          refine mw_ld 8 i_Shade_leastNearer_7 rfl rfl rfl ?_
          refine mw_get 11 i_Shade_leastNearer_8 rfl (by repeat (first | exact mj_hs2 | exact mj_hs | assumption | refine mj_hn2 (by omega) ?_ | refine mj_hn (by omega) ?_)) (by rfl) ?_
          refine mw_get 14 i_Shade_leastNearer_11 rfl (by repeat (first | exact mj_hs2 | exact mj_hs | assumption | refine mj_hn2 (by omega) ?_ | refine mj_hn (by omega) ?_)) (by rfl) ?_
          refine mw_ld 15 i_Shade_leastNearer_14 rfl rfl rfl ?_
          refine mw_ld 16 i_Shade_leastNearer_15 rfl rfl rfl ?_
          refine mw_cv1 19 i_Shade_leastNearer_16 rfl (by repeat (first | exact mj_hs2 | exact mj_hs | assumption | refine mj_hn2 (by omega) ?_ | refine mj_hn (by omega) ?_)) (sp_Room_beside hx hi hd hR ?_) rfl rfl (Nat.le_of_ble_eq_true rfl) (Nat.le_of_ble_eq_true rfl)
          rw [gw_be_no, hno]
          refine mw_st (ls' := [_, _, _, _]) 20 i_Shade_leastNearer_19 rfl rfl rfl rfl ?_
          refine mw_ld 21 i_Shade_leastNearer_20 rfl rfl rfl ?_
          refine mw_ld 22 i_Shade_leastNearer_21 rfl rfl rfl ?_
          refine mw_cv1 25 i_Shade_leastNearer_22 rfl (by repeat (first | exact mj_hs2 | exact mj_hs | assumption | refine mj_hn2 (by omega) ?_ | refine mj_hn (by omega) ?_)) (sp_Shade_stepsOf hS (by omega) ?_) rfl rfl (Nat.le_of_ble_eq_true rfl) (Nat.le_of_ble_eq_true rfl)
          refine mw_k 26 i_Shade_leastNearer_25 rfl ?_
          refine mw_ic0 29 i_Shade_leastNearer_26 rfl hy ?_
          refine mw_ld 30 i_Shade_leastNearer_29 rfl rfl rfl ?_
          refine mw_ld 31 i_Shade_leastNearer_30 rfl rfl rfl ?_
          refine mw_cv1 34 i_Shade_leastNearer_31 rfl (by repeat (first | exact mj_hs2 | exact mj_hs | assumption | refine mj_hn2 (by omega) ?_ | refine mj_hn (by omega) ?_)) (sp_Shade_stepsOf hS (by omega) ?_) rfl rfl (Nat.le_of_ble_eq_true rfl) (Nat.le_of_ble_eq_true rfl)
          refine mw_ld 35 i_Shade_leastNearer_34 rfl rfl rfl ?_
          refine mw_ld 36 i_Shade_leastNearer_35 rfl rfl rfl ?_
          refine mw_cv1 39 i_Shade_leastNearer_36 rfl (by repeat (first | exact mj_hs2 | exact mj_hs | assumption | refine mj_hn2 (by omega) ?_ | refine mj_hn (by omega) ?_)) (sp_Shade_stepsOf hS (by omega) ?_) rfl rfl (Nat.le_of_ble_eq_true rfl) (Nat.le_of_ble_eq_true rfl)
          refine mw_ic0 42 i_Shade_leastNearer_39 rfl hle ?_
          refine mw_ld 43 i_Shade_leastNearer_42 rfl rfl rfl ?_
          refine mw_ri i_Shade_leastNearer_43 rfl rfl ?_
          rw [gw_ln, gw_ff_some hi (by simp only [gw_nr, hno]; exact hls) hI] at k
          simp only [hno, Option.getD_some] at k
          exact k
        · have hle : st x ≤ st y := hlt.mpr (by simpa using hls)
          refine mw_ld 3 i_Shade_leastNearer_2 rfl rfl rfl ?_
          refine mw_k 4 i_Shade_leastNearer_3 rfl ?_
          refine mw_ic0 7 i_Shade_leastNearer_4 rfl (nI_ge (b := 4) hi (by decide)) ?_
          refine mw_ld 8 i_Shade_leastNearer_7 rfl rfl rfl ?_
          refine mw_get 11 i_Shade_leastNearer_8 rfl (by repeat (first | exact mj_hs2 | exact mj_hs | assumption | refine mj_hn2 (by omega) ?_ | refine mj_hn (by omega) ?_)) (by rfl) ?_
          refine mw_get 14 i_Shade_leastNearer_11 rfl (by repeat (first | exact mj_hs2 | exact mj_hs | assumption | refine mj_hn2 (by omega) ?_ | refine mj_hn (by omega) ?_)) (by rfl) ?_
          refine mw_ld 15 i_Shade_leastNearer_14 rfl rfl rfl ?_
          refine mw_ld 16 i_Shade_leastNearer_15 rfl rfl rfl ?_
          refine mw_cv1 19 i_Shade_leastNearer_16 rfl (by repeat (first | exact mj_hs2 | exact mj_hs | assumption | refine mj_hn2 (by omega) ?_ | refine mj_hn (by omega) ?_)) (sp_Room_beside hx hi hd hR ?_) rfl rfl (Nat.le_of_ble_eq_true rfl) (Nat.le_of_ble_eq_true rfl)
          rw [gw_be_no, hno]
          refine mw_st (ls' := [_, _, _, _]) 20 i_Shade_leastNearer_19 rfl rfl rfl rfl ?_
          refine mw_ld 21 i_Shade_leastNearer_20 rfl rfl rfl ?_
          refine mw_ld 22 i_Shade_leastNearer_21 rfl rfl rfl ?_
          refine mw_cv1 25 i_Shade_leastNearer_22 rfl (by repeat (first | exact mj_hs2 | exact mj_hs | assumption | refine mj_hn2 (by omega) ?_ | refine mj_hn (by omega) ?_)) (sp_Shade_stepsOf hS (by omega) ?_) rfl rfl (Nat.le_of_ble_eq_true rfl) (Nat.le_of_ble_eq_true rfl)
          refine mw_k 26 i_Shade_leastNearer_25 rfl ?_
          refine mw_ic0 29 i_Shade_leastNearer_26 rfl hy ?_
          refine mw_ld 30 i_Shade_leastNearer_29 rfl rfl rfl ?_
          refine mw_ld 31 i_Shade_leastNearer_30 rfl rfl rfl ?_
          refine mw_cv1 34 i_Shade_leastNearer_31 rfl (by repeat (first | exact mj_hs2 | exact mj_hs | assumption | refine mj_hn2 (by omega) ?_ | refine mj_hn (by omega) ?_)) (sp_Shade_stepsOf hS (by omega) ?_) rfl rfl (Nat.le_of_ble_eq_true rfl) (Nat.le_of_ble_eq_true rfl)
          refine mw_ld 35 i_Shade_leastNearer_34 rfl rfl rfl ?_
          refine mw_ld 36 i_Shade_leastNearer_35 rfl rfl rfl ?_
          refine mw_cv1 39 i_Shade_leastNearer_36 rfl (by repeat (first | exact mj_hs2 | exact mj_hs | assumption | refine mj_hn2 (by omega) ?_ | refine mj_hn (by omega) ?_)) (sp_Shade_stepsOf hS (by omega) ?_) rfl rfl (Nat.le_of_ble_eq_true rfl) (Nat.le_of_ble_eq_true rfl)
          refine mw_ic1 i_Shade_leastNearer_39 hle ?_
          refine mw_inc (ls' := [_, _, _, _]) 47 (nI (i + 1)) i_Shade_leastNearer_44 rfl rfl rfl (nI_1 i) rfl ?_
          refine mw_go i_Shade_leastNearer_47 ?_
          refine ih _ (fun j hj => ?_)
          rcases Nat.lt_succ_iff_lt_or_eq.mp hj with q | q
          · exact hI j q
          · subst q
            simp only [gw_nr, hno]; simpa using hls
theorem sp_Shade_stepsBetween {X : mj_X} {d : Nat} {σ : mj_H} {Q : Value → mj_H → Prop} {w h n : Nat} {s : Nat → Int32} {st qu : Nat → Int32} (hS : gw_sh σ.1 st qu) {a b : Nat} (ha : a < w * h) (hb : b < w * h) (hd : gw_dim w h) (hR : gw_rm σ.1 1 w h n s) (hU : gw_vup σ.1 w h n s) (k : ∀ f st2, gw_fr [47, 48] σ.1 f → (∃ qu2, gw_sh f st2 qu2) → gw_sD st2 (gw_di w h (gw_UU w h n s) b) → Q (.int (gw_oI (gw_di w h (gw_UU w h n s) b a))) (f, σ.2)) : mj_M X (d + 5) y_Shade_stepsBetween [.ref 46, .int (nI a), .int (nI b)] σ (mj_V Q) := by
  obtain ⟨z1, z2, z3⟩ := id hS
  have hwh := gw_dim_le hd
  refine mw_in (l0 := [some (.ref 46), some (.int (nI a)), some (.int (nI b)), none]) rfl ?_
  refine mw_ld 1 i_Shade_stepsBetween_0 rfl rfl rfl ?_
  refine mw_get 4 i_Shade_stepsBetween_1 rfl (by repeat (first | exact mj_hs2 | exact mj_hs | assumption | refine mj_hn2 (by omega) ?_ | refine mj_hn (by omega) ?_)) (by rfl) ?_
  refine mw_k 5 i_Shade_stepsBetween_4 rfl ?_
  refine mw_cs0 8 i_Shade_stepsBetween_5 rfl (sp_Arrays_fill (by repeat (first | exact mj_hs2 | exact mj_hs | assumption | refine mj_hn2 (by omega) ?_ | refine mj_hn (by omega) ?_)) (by decide) (fun g hg => ?_)) rfl rfl (Nat.le_of_ble_eq_true rfl) (Nat.le_of_ble_eq_true rfl)
  have hf1 : gw_fr [47, 48] σ.1 (va_up σ.1 47 (mj_AI 100 g)) := gw_fr_up (gw_fr_rf _ _) (by simp)
  have hS1 : gw_sh (va_up σ.1 47 (mj_AI 100 g)) g qu := ⟨mj_hn (by decide) z1, mj_hs, mj_hn (by decide) z3⟩
  have hD1 : gw_sD g (fun _ => none) := ⟨fun c hc => hg c hc, fun c k hk => by cases hk⟩
  have hR1 := gw_rm_fr hf1 (by decide) (by decide) (by decide) (by decide) hR
  have hU1 := gw_vup_fr hf1 (by decide) (by decide) hU
  refine mw_ld 9 i_Shade_stepsBetween_8 rfl rfl rfl ?_
  refine mw_ld 10 i_Shade_stepsBetween_9 rfl rfl rfl ?_
  refine mw_cv0 13 i_Shade_stepsBetween_10 rfl (by repeat (first | exact mj_hs2 | exact mj_hs | assumption | refine mj_hn2 (by omega) ?_ | refine mj_hn (by omega) ?_)) (sp_Shade_spread (σ := (va_up σ.1 47 (mj_AI 100 g), σ.2)) (D0 := fun _ => none) hS1 hD1 (by omega) hd hR1 hU1 (fun f st2 D g1 g2 g3 g4 => ?_)) rfl rfl (Nat.le_of_ble_eq_true rfl) (Nat.le_of_ble_eq_true rfl)
  obtain ⟨qu2, g2⟩ := g2
  obtain ⟨x1, x2, x3⟩ := id g2
  have hDe : D = gw_di w h (gw_UU w h n s) b := funext (fun c => gw_di_eq g4 c)
  subst hDe
  refine mw_ld 14 i_Shade_stepsBetween_13 rfl rfl rfl ?_
  refine mw_ld 15 i_Shade_stepsBetween_14 rfl rfl rfl ?_
  refine mw_cv1 18 i_Shade_stepsBetween_15 rfl (by repeat (first | exact mj_hs2 | exact mj_hs | assumption | refine mj_hn2 (by omega) ?_ | refine mj_hn (by omega) ?_)) (sp_Shade_stepsOf (σ := (f, σ.2)) g2 (by omega) ?_) rfl rfl (Nat.le_of_ble_eq_true rfl) (Nat.le_of_ble_eq_true rfl)
  refine mw_st (ls' := [_, _, _, _]) 19 i_Shade_stepsBetween_18 rfl rfl rfl rfl ?_
  refine mw_ld 20 i_Shade_stepsBetween_19 rfl rfl rfl ?_
  refine mw_k 21 i_Shade_stepsBetween_20 rfl ?_
  refine mw_ic 24 i_Shade_stepsBetween_21 rfl (fun h21 => ?_) (fun h21 => ?_)
  · refine mw_ld 30 i_Shade_stepsBetween_29 rfl rfl rfl ?_
    refine mw_ri i_Shade_stepsBetween_30 rfl rfl ?_
    have e1 := g3.1 a (by omega)
    cases hq : gw_di w h (gw_UU w h n s) b a with
    | none =>
      rw [hq] at e1 k
      first
      | exact k f st2 (gw_fr_tr hf1 g1) ⟨qu2, g2⟩ g3
      | exact absurd e1 h21
    | some z =>
      have hz := g3.2 a z hq
      rw [hq] at e1 k
      first
      | (rw [e1]; exact k f st2 (gw_fr_tr hf1 g1) ⟨qu2, g2⟩ g3)
      | (exfalso; apply h21; intro q
         have := (gw_sD_none g3 (by omega)).mp q
         rw [hq] at this; cases this)
  · refine mw_k 26 i_Shade_stepsBetween_24 rfl ?_
    refine mw_go i_Shade_stepsBetween_26 ?_
    refine mw_ri i_Shade_stepsBetween_30 rfl rfl ?_
    have e1 := g3.1 a (by omega)
    cases hq : gw_di w h (gw_UU w h n s) b a with
    | none =>
      rw [hq] at e1 k
      first
      | exact k f st2 (gw_fr_tr hf1 g1) ⟨qu2, g2⟩ g3
      | exact absurd e1 h21
    | some z =>
      have hz := g3.2 a z hq
      rw [hq] at e1 k
      first
      | (rw [e1]; exact k f st2 (gw_fr_tr hf1 g1) ⟨qu2, g2⟩ g3)
      | (exfalso; apply h21; intro q
         have := (gw_sD_none g3 (by omega)).mp q
         rw [hq] at this; cases this)
