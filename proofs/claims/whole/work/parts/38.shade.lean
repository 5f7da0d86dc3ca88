/-! Shade -/
/-- the Shade's cells: 46, 47, 48 -/
def gw_sh (f : Nat → mj_C) (st qu : Nat → Int32) : Prop := f 46 = mj_O 5 [.ref 4, .ref 47, .ref 48] ∧ f 47 = mj_AI 100 st ∧ f 48 = mj_AI 100 qu
def gw_sD (st : Nat → Int32) (D : Nat → Option Nat) : Prop := (∀ c, c < 100 → st c = gw_dI (D c)) ∧ ∀ c k, D c = some k → k < 100
theorem gw_sD_none {st : Nat → Int32} {D : Nat → Option Nat} (h : gw_sD st D) {c : Nat} (hc : c < 100) : st c = -1 ↔ D c = none := by
  rw [h.1 c hc]
  exact gw_dI_none (fun k hk => by have := h.2 c k hk; omega)
theorem gw_un_m1 {w h n : Nat} {s : Nat → Int32} : gw_un w h n s (-1) = false := by
  have : gw_ce w h (-1) = false := by
    rw [gw_ce_not]
    intro q
    have e : (-1 : Int32).toInt = -1 := by decide
    omega
  simp [gw_un, gw_op, this]
def gw_U (w h n : Nat) (s : Nat → Int32) (D0 : Nat → Option Nat) (c : Nat) : Bool := decide (c < w * h) && gw_us w h n s c && (D0 c).isNone
theorem sp_Shade_stepsOf {X : mj_X} {d : Nat} {σ : mj_H} {Q : Value → mj_H → Prop} {c : Nat} {st qu : Nat → Int32} (hS : gw_sh σ.1 st qu) (hc : c < 100) (k : Q (.int (st c)) σ) : mj_M X d y_Shade_stepsOf [.ref 46, .int (nI c)] σ (mj_V Q) := by
  obtain ⟨z1, z2, z3⟩ := id hS
  refine mw_in (l0 := [some (.ref 46), some (.int (nI c))]) rfl ?_
  refine mw_ld 1 i_Shade_stepsOf_0 rfl rfl rfl ?_
  refine mw_if0 4 i_Shade_stepsOf_1 rfl (nI_pos (by omega)) ?_
  refine mw_ld 5 i_Shade_stepsOf_4 rfl rfl rfl ?_
  refine mw_k 7 i_Shade_stepsOf_5 rfl ?_
  refine mw_ic0 10 i_Shade_stepsOf_7 rfl (nI_ge (b := 100) hc (by decide)) ?_
  refine mw_ld 11 i_Shade_stepsOf_10 rfl rfl rfl ?_
  refine mw_get 14 i_Shade_stepsOf_11 rfl (by assumption) (by rfl) ?_
  refine mw_ld 15 i_Shade_stepsOf_14 rfl rfl rfl ?_
  refine mw_iald 16 c i_Shade_stepsOf_15 rfl (by assumption) rfl hc (by decide) ?_
  refine mw_go i_Shade_stepsOf_16 ?_
  refine mw_ri i_Shade_stepsOf_20 rfl rfl ?_
  exact k
theorem sp_Shade_stepsOf_m {X : mj_X} {d : Nat} {σ : mj_H} {Q : Value → mj_H → Prop} (k : Q (.int (-1)) σ) : mj_M X d y_Shade_stepsOf [.ref 46, .int (-1)] σ (mj_V Q) := by
  refine mw_in (l0 := [some (.ref 46), some (.int (-1))]) rfl ?_
  refine mw_ld 1 i_Shade_stepsOf_0 rfl rfl rfl ?_
  refine mw_if1 i_Shade_stepsOf_1 (by decide) ?_
  refine mw_k 20 i_Shade_stepsOf_19 rfl ?_
  refine mw_ri i_Shade_stepsOf_20 rfl rfl ?_
  exact k
theorem sp_Shade_enter_no {X : mj_X} {d : Nat} {σ : mj_H} {Q : Value → mj_H → Prop} {w h n : Nat} {s : Nat → Int32} {st qu : Nat → Int32} (hS : gw_sh σ.1 st qu) (hd : gw_dim w h) (hR : gw_rm σ.1 1 w h n s) (hU : gw_vup σ.1 w h n s) {c t : Int32} {wt : Nat} (hno : gw_un w h n s c = false ∨ ∃ x, x < 100 ∧ c = nI x ∧ ¬ st x = -1) (k : Q (.int (nI wt)) σ) : mj_M X (d + 3) y_Shade_enter [.ref 46, .int c, .int t, .int (nI wt)] σ (mj_V Q) := by
  obtain ⟨z1, z2, z3⟩ := id hS
  obtain ⟨wt0, ⟨v1, v2⟩, -⟩ := id hU
  refine mw_in (l0 := [some (.ref 46), some (.int c), some (.int t), some (.int (nI wt))]) rfl ?_
  rcases hno with hno | ⟨x, hx, rfl, hst⟩
  · skip
    refine mw_ld 1 i_Shade_enter_0 rfl rfl rfl ?_
    refine mw_get 4 i_Shade_enter_1 rfl (by assumption) (by rfl) ?_
    refine mw_ld 5 i_Shade_enter_4 rfl rfl rfl ?_
    refine mw_cv1 8 i_Shade_enter_5 rfl (by assumption) (sp_View_isUnseen hd hR hU ?_) rfl rfl (Nat.le_of_ble_eq_true rfl) (Nat.le_of_ble_eq_true rfl)
    refine mw_if1 i_Shade_enter_8 (mj_bI0.mpr hno) ?_
    refine mw_ld 27 i_Shade_enter_26 rfl rfl rfl ?_
    refine mw_ri i_Shade_enter_27 rfl rfl ?_
    exact k
  · by_cases hun : gw_un w h n s (nI x) = true
    · skip
      refine mw_ld 1 i_Shade_enter_0 rfl rfl rfl ?_
      refine mw_get 4 i_Shade_enter_1 rfl (by assumption) (by rfl) ?_
      refine mw_ld 5 i_Shade_enter_4 rfl rfl rfl ?_
      refine mw_cv1 8 i_Shade_enter_5 rfl (by assumption) (sp_View_isUnseen hd hR hU ?_) rfl rfl (Nat.le_of_ble_eq_true rfl) (Nat.le_of_ble_eq_true rfl)
      refine mw_if0 11 i_Shade_enter_8 rfl (mj_bI1.mpr hun) ?_
      refine mw_ld 12 i_Shade_enter_11 rfl rfl rfl ?_
      refine mw_ld 13 i_Shade_enter_12 rfl rfl rfl ?_
      refine mw_cv1 16 i_Shade_enter_13 rfl (by assumption) (sp_Shade_stepsOf hS hx ?_) rfl rfl (Nat.le_of_ble_eq_true rfl) (Nat.le_of_ble_eq_true rfl)
      refine mw_k 17 i_Shade_enter_16 rfl ?_
      refine mw_ic1 i_Shade_enter_17 hst ?_
      refine mw_ld 27 i_Shade_enter_26 rfl rfl rfl ?_
      refine mw_ri i_Shade_enter_27 rfl rfl ?_
      exact k
    · skip
      refine mw_ld 1 i_Shade_enter_0 rfl rfl rfl ?_
      refine mw_get 4 i_Shade_enter_1 rfl (by assumption) (by rfl) ?_
      refine mw_ld 5 i_Shade_enter_4 rfl rfl rfl ?_
      refine mw_cv1 8 i_Shade_enter_5 rfl (by assumption) (sp_View_isUnseen hd hR hU ?_) rfl rfl (Nat.le_of_ble_eq_true rfl) (Nat.le_of_ble_eq_true rfl)
      refine mw_if1 i_Shade_enter_8 (mj_bI0.mpr (by simpa using hun)) ?_
      refine mw_ld 27 i_Shade_enter_26 rfl rfl rfl ?_
      refine mw_ri i_Shade_enter_27 rfl rfl ?_
      exact k
theorem sp_Shade_enter_yes {X : mj_X} {d : Nat} {σ : mj_H} {Q : Value → mj_H → Prop} {w h n : Nat} {s : Nat → Int32} {st qu : Nat → Int32} (hS : gw_sh σ.1 st qu) (hd : gw_dim w h) (hR : gw_rm σ.1 1 w h n s) (hU : gw_vup σ.1 w h n s) {t : Int32} {wt x : Nat} (hx : x < w * h) (hun : gw_un w h n s (nI x) = true) (hst : st x = -1) (hwt : wt < 100) (k : Q (.int (nI (wt + 1))) (va_up (va_up σ.1 47 (mj_AI 100 (upd st x t))) 48 (mj_AI 100 (upd qu wt (nI x))), σ.2)) : mj_M X (d + 3) y_Shade_enter [.ref 46, .int (nI x), .int t, .int (nI wt)] σ (mj_V Q) := by
  obtain ⟨z1, z2, z3⟩ := id hS
  obtain ⟨wt0, ⟨v1, v2⟩, -⟩ := id hU
  have hwh := gw_dim_le hd
  refine mw_in (l0 := [some (.ref 46), some (.int (nI x)), some (.int t), some (.int (nI wt))]) rfl ?_
  refine mw_ld 1 i_Shade_enter_0 rfl rfl rfl ?_
  refine mw_get 4 i_Shade_enter_1 rfl (by repeat (first | exact mj_hs2 | exact mj_hs | assumption | refine mj_hn2 (by omega) ?_ | refine mj_hn (by omega) ?_)) (by rfl) ?_
  refine mw_ld 5 i_Shade_enter_4 rfl rfl rfl ?_
  refine mw_cv1 8 i_Shade_enter_5 rfl (by repeat (first | exact mj_hs2 | exact mj_hs | assumption | refine mj_hn2 (by omega) ?_ | refine mj_hn (by omega) ?_)) (sp_View_isUnseen hd hR hU ?_) rfl rfl (Nat.le_of_ble_eq_true rfl) (Nat.le_of_ble_eq_true rfl)
  refine mw_if0 11 i_Shade_enter_8 rfl (mj_bI1.mpr hun) ?_
  refine mw_ld 12 i_Shade_enter_11 rfl rfl rfl ?_
  refine mw_ld 13 i_Shade_enter_12 rfl rfl rfl ?_
  refine mw_cv1 16 i_Shade_enter_13 rfl (by repeat (first | exact mj_hs2 | exact mj_hs | assumption | refine mj_hn2 (by omega) ?_ | refine mj_hn (by omega) ?_)) (sp_Shade_stepsOf hS (by omega) ?_) rfl rfl (Nat.le_of_ble_eq_true rfl) (Nat.le_of_ble_eq_true rfl)
  refine mw_k 17 i_Shade_enter_16 rfl ?_
  refine mw_ic0 20 i_Shade_enter_17 rfl (fun q => q hst) ?_
  refine mw_ld 21 i_Shade_enter_20 rfl rfl rfl ?_
  refine mw_k 23 i_Shade_enter_21 rfl ?_
  refine mw_ic1 i_Shade_enter_23 (nI_lt (b := 100) hwt (by decide)) ?_
  refine mw_ld 29 i_Shade_enter_28 rfl rfl rfl ?_
  refine mw_get 32 i_Shade_enter_29 rfl (by repeat (first | exact mj_hs2 | exact mj_hs | assumption | refine mj_hn2 (by omega) ?_ | refine mj_hn (by omega) ?_)) (by rfl) ?_
  refine mw_ld 33 i_Shade_enter_32 rfl rfl rfl ?_
  refine mw_ld 34 i_Shade_enter_33 rfl rfl rfl ?_
  refine mw_iast 35 x i_Shade_enter_34 rfl (by repeat (first | exact mj_hs2 | exact mj_hs | assumption | refine mj_hn2 (by omega) ?_ | refine mj_hn (by omega) ?_)) rfl (by omega) (by decide) ?_
  refine mw_ld 36 i_Shade_enter_35 rfl rfl rfl ?_
  refine mw_get 39 i_Shade_enter_36 rfl (by repeat (first | exact mj_hs2 | exact mj_hs | assumption | refine mj_hn2 (by omega) ?_ | refine mj_hn (by omega) ?_)) (by rfl) ?_
  refine mw_ld 40 i_Shade_enter_39 rfl rfl rfl ?_
  refine mw_ld 41 i_Shade_enter_40 rfl rfl rfl ?_
  refine mw_iast 42 wt i_Shade_enter_41 rfl (by repeat (first | exact mj_hs2 | exact mj_hs | assumption | refine mj_hn2 (by omega) ?_ | refine mj_hn (by omega) ?_)) rfl hwt (by decide) ?_
  refine mw_ld 43 i_Shade_enter_42 rfl rfl rfl ?_
  refine mw_k 44 i_Shade_enter_43 rfl ?_
  refine mw_b 45 i_Shade_enter_44 rfl ?_
  rw [nI_1]
  refine mw_ri i_Shade_enter_45 rfl rfl ?_
  exact k
theorem sp_Shade_spread {X : mj_X} {d : Nat} {σ : mj_H} {Q : mj_H → Prop} {w h n : Nat} {s : Nat → Int32} {st qu : Nat → Int32} {D0 : Nat → Option Nat} {a : Nat} (hS : gw_sh σ.1 st qu) (hD : gw_sD st D0) (ha : a < 100) (hd : gw_dim w h) (hR : gw_rm σ.1 1 w h n s) (hU : gw_vup σ.1 w h n s) (k : ∀ f st2 D, gw_fr [47, 48] σ.1 f → (∃ qu2, gw_sh f st2 qu2) → gw_sD st2 D → gw_Sp w h (gw_U w h n s D0) a D0 D → Q (f, σ.2)) : mj_M X (d + 4) y_Shade_spread [.ref 46, .int (nI a)] σ (mj_U Q) := by
  obtain ⟨z1, z2, z3⟩ := id hS
  have hwh := gw_dim_le hd
  have hUD : ∀ c, gw_U w h n s D0 c = true → D0 c = none := fun c hc => by simp only [gw_U, Bool.and_eq_true, Option.isNone_iff_eq_none] at hc; exact hc.2
  refine mw_in (l0 := [some (.ref 46), some (.int (nI a)), none, none, none, none]) rfl ?_
  by_cases hua : gw_U w h n s D0 a = true
  · have haw : a < w * h := by simp only [gw_U, Bool.and_eq_true, decide_eq_true_eq] at hua; exact hua.1.1
    have hau : gw_un w h n s (nI a) = true := by
      rw [gw_un_nI (by omega)]
      simp only [gw_U, Bool.and_eq_true] at hua
      simp [hua.1.2, haw]
    have hsa : st a = -1 := (gw_sD_none hD ha).mpr (hUD a hua)
    refine mw_ld 1 i_Shade_spread_0 rfl rfl rfl ?_
    refine mw_ld 2 i_Shade_spread_1 rfl rfl rfl ?_
    refine mw_k 3 i_Shade_spread_2 rfl ?_
    refine mw_k 4 i_Shade_spread_3 rfl ?_
    refine mw_cv1 7 i_Shade_spread_4 rfl (by repeat (first | exact mj_hs2 | exact mj_hs | assumption | refine mj_hn2 (by omega) ?_ | refine mj_hn (by omega) ?_)) (sp_Shade_enter_yes (wt := 0) (t := 0) hS hd hR hU haw hau hsa (by decide) ?_) rfl rfl (Nat.le_of_ble_eq_true rfl) (Nat.le_of_ble_eq_true rfl)
    refine mw_st (ls' := [_, _, _, _, _, _]) 8 i_Shade_spread_7 rfl rfl rfl rfl ?_
    refine mw_k 9 i_Shade_spread_8 rfl ?_
    refine mw_st (ls' := [_, _, _, _, _, _]) 10 i_Shade_spread_9 rfl rfl rfl rfl ?_
    have hg0 : gw_sh (va_up (va_up σ.1 47 (mj_AI 100 (upd st a 0))) 48 (mj_AI 100 (upd qu 0 (nI a)))) (upd st a 0) (upd qu 0 (nI a)) := ⟨mj_hn (by decide) (mj_hn (by decide) z1), mj_hn (by decide) mj_hs, mj_hs⟩
    have hf0 : gw_fr [47, 48] σ.1 (va_up (va_up σ.1 47 (mj_AI 100 (upd st a 0))) 48 (mj_AI 100 (upd qu 0 (nI a)))) := gw_fr_up (gw_fr_up (gw_fr_rf _ _) (by simp)) (by simp)
    have hD1 : gw_sD (upd st a 0) (va_up D0 a (some 0)) := by
      refine ⟨fun c hc => ?_, fun c k hk => ?_⟩
      · by_cases q : c = a
        · subst q; rw [pk_us, va_up_self]; rfl
        · rw [pk_un q, va_up_ne _ _ q]; exact hD.1 c hc
      · by_cases q : c = a
        · subst q; rw [va_up_self] at hk; cases hk; decide
        · rw [va_up_ne _ _ q] at hk; exact hD.2 c k hk
    have hq0 : ∀ i, i < 1 → upd qu 0 (nI a) i = nI a ∧ 0 ≤ i := by
      intro j hj
      have e : j = 0 := by omega
      subst e
      exact ⟨pk_us, Nat.le_refl _⟩
    refine mj_for (S := (Nat → mj_C) × Nat × Option Value × Option Value) (fun i u => mj_Wp X (d + 4) y_Shade_spread 10 [some (.ref 46), some (.int (nI a)), some (.int (nI u.2.1)), some (.int (nI i)), u.2.2.1, u.2.2.2] [] (u.1, σ.2) (mj_U Q)) (fun i u => ∃ st qu D qs dq, gw_fr [47, 48] σ.1 u.1 ∧ gw_sh u.1 st qu ∧ gw_sD st D ∧ (∀ i, i < u.2.1 → qu i = nI (qs i) ∧ dq i ≤ i) ∧ gw_bf w h (gw_U w h n s D0) a D0 D qs dq u.2.1 i 0) 100 ?_ ?_ 0 (va_up (va_up σ.1 47 (mj_AI 100 (upd st a 0))) 48 (mj_AI 100 (upd qu 0 (nI a))), 1, none, none) (Nat.zero_le _) ⟨upd st a 0, upd qu 0 (nI a), va_up D0 a (some 0), fun _ => a, fun _ => 0, hf0, hg0, hD1, hq0, gw_bf_1 hua haw⟩
    · rintro ⟨f, wt, l4, l5⟩ ⟨st, qu, D, qs, dq, g1, g2, g3, g4, g5⟩
      dsimp only at g1 g2 g3 g4 g5 ⊢
      refine mw_ld 11 i_Shade_spread_10 rfl rfl rfl ?_
      refine mw_ld 12 i_Shade_spread_11 rfl rfl rfl ?_
      refine mw_ic1 i_Shade_spread_12 (nI_le (b := 100) (by have := gw_bf_wt g5; omega) (by decide)) ?_
      refine mw_rv i_Shade_spread_78 rfl ?_
      have e : wt = 100 := by have h1 := g5.2.2.2.2.2.1; have h2 := gw_bf_wt g5; omega
      subst e
      exact k f st D g1 ⟨qu, g2⟩ g3 (gw_bf_end g5)
    · rintro i ⟨f, wt, l4, l5⟩ hi ⟨st, qu, D, qs, dq, g1, g2, g3, g4, g5⟩ ih
      dsimp only at g1 g2 g3 g4 g5 ⊢
      obtain ⟨z1, z2, z3⟩ := id g2
      rcases Nat.lt_or_ge i wt with hiw | hiw
      · skip
        refine mw_ld 11 i_Shade_spread_10 rfl rfl rfl ?_
        refine mw_ld 12 i_Shade_spread_11 rfl rfl rfl ?_
        refine mw_ic0 15 i_Shade_spread_12 rfl (nI_ge hiw (by have := gw_bf_wt g5; omega)) ?_
        refine mw_ld 16 i_Shade_spread_15 rfl rfl rfl ?_
        refine mw_k 18 i_Shade_spread_16 rfl ?_
        refine mw_ic0 21 i_Shade_spread_18 rfl (nI_ge (b := 100) hi (by decide)) ?_
        refine mw_ld 22 i_Shade_spread_21 rfl rfl rfl ?_
        refine mw_get 25 i_Shade_spread_22 rfl (by repeat (first | exact mj_hs2 | exact mj_hs | assumption | refine mj_hn2 (by omega) ?_ | refine mj_hn (by omega) ?_)) (by rfl) ?_
        refine mw_ld 26 i_Shade_spread_25 rfl rfl rfl ?_
        refine mw_iald 27 i i_Shade_spread_26 rfl z3 rfl hi (by decide) ?_
        rw [(g4 i hiw).1]
        obtain ⟨x, ex⟩ : ∃ x, x = qs i := ⟨_, rfl⟩
        rw [← ex]
        refine mw_st (ls' := [_, _, _, _, _, _]) 29 i_Shade_spread_27 rfl rfl rfl rfl ?_
        refine mw_k 30 i_Shade_spread_29 rfl ?_
        refine mw_st (ls' := [_, _, _, _, _, _]) 32 i_Shade_spread_30 rfl rfl rfl rfl ?_
        refine mj_for (S := (Nat → mj_C) × Nat) (fun e v => mj_Wp X (d + 4) y_Shade_spread 32 [some (.ref 46), some (.int (nI a)), some (.int (nI v.2)), some (.int (nI i)), some (.int (nI x)), some (.int (nI e))] [] (v.1, σ.2) (mj_U Q)) (fun e v => i < v.2 ∧ ∃ st qu D qs dq, qs i = x ∧ gw_fr [47, 48] σ.1 v.1 ∧ gw_sh v.1 st qu ∧ gw_sD st D ∧ (∀ i, i < v.2 → qu i = nI (qs i) ∧ dq i ≤ i) ∧ gw_bf w h (gw_U w h n s D0) a D0 D qs dq v.2 i e) 4 ?_ ?_ 0 (f, wt) (Nat.zero_le _) ⟨hiw, st, qu, D, qs, dq, ex.symm, g1, g2, g3, g4, g5⟩
        · rintro ⟨f, wt⟩ ⟨hiw, st, qu, D, qs, dq, ex, g1, g2, g3, g4, g5⟩
          dsimp only at hiw g1 g2 g3 g4 g5 ⊢
          refine mw_ld 34 i_Shade_spread_32 rfl rfl rfl ?_
          refine mw_k 35 i_Shade_spread_34 rfl ?_
          refine mw_ic1 i_Shade_spread_35 (by decide) ?_
          refine mw_inc (ls' := [_, _, _, _, _, _]) 75 (nI (i + 1)) i_Shade_spread_72 rfl rfl rfl (nI_1 i) rfl ?_
          refine mw_go i_Shade_spread_75 ?_
          exact ih (f, wt, _, _) ⟨st, qu, D, qs, dq, g1, g2, g3, g4, gw_bf_next g5 hiw⟩
        · rintro e ⟨f, wt⟩ he ⟨hiw, st, qu, D, qs, dq, ex, g1, g2, g3, g4, g5⟩ ih2
          dsimp only at hiw g1 g2 g3 g4 g5 ⊢
          subst ex
          obtain ⟨z1, z2, z3⟩ := id g2
          have hRf : gw_rm f 1 w h n s := gw_rm_fr g1 (by decide) (by decide) (by decide) (by decide) hR
          have hUf : gw_vup f w h n s := gw_vup_fr g1 (by decide) (by decide) hU
          obtain ⟨wt0, ⟨v1, v2⟩, -⟩ := id hUf
          obtain ⟨wl, ps, c1, -⟩ := id hRf
          have hx : qs i < w * h := (g5.1 i hiw).1
          have hsx : st (qs i) = nI (dq i) := by rw [g3.1 _ (by omega), (g5.1 i hiw).2.2.1]; rfl
          cases hno : gw_no w h (qs i) e with
          | none =>
            have hx0 : True := trivial
            refine mw_ld 34 i_Shade_spread_32 rfl rfl rfl ?_
            refine mw_k 35 i_Shade_spread_34 rfl ?_
            refine mw_ic0 38 i_Shade_spread_35 rfl (nI_ge (b := 4) he (by decide)) ?_
            refine mw_ld 39 i_Shade_spread_38 rfl rfl rfl ?_
            refine mw_ld 40 i_Shade_spread_39 rfl rfl rfl ?_
            refine mw_get 43 i_Shade_spread_40 rfl (by repeat (first | exact mj_hs2 | exact mj_hs | assumption | refine mj_hn2 (by omega) ?_ | refine mj_hn (by omega) ?_)) (by rfl) ?_
            refine mw_get 46 i_Shade_spread_43 rfl (by repeat (first | exact mj_hs2 | exact mj_hs | assumption | refine mj_hn2 (by omega) ?_ | refine mj_hn (by omega) ?_)) (by rfl) ?_
            refine mw_ld 48 i_Shade_spread_46 rfl rfl rfl ?_
            refine mw_ld 50 i_Shade_spread_48 rfl rfl rfl ?_
            refine mw_cv1 53 i_Shade_spread_50 rfl (by repeat (first | exact mj_hs2 | exact mj_hs | assumption | refine mj_hn2 (by omega) ?_ | refine mj_hn (by omega) ?_)) (sp_Room_beside (σ := (f, σ.2)) hx he hd hRf ?_) rfl rfl (Nat.le_of_ble_eq_true rfl) (Nat.le_of_ble_eq_true rfl)
            rw [gw_be_no, hno]
            refine mw_ld 54 i_Shade_spread_53 rfl rfl rfl ?_
            refine mw_ld 56 i_Shade_spread_54 rfl rfl rfl ?_
            refine mw_cv1 59 i_Shade_spread_56 rfl (by repeat (first | exact mj_hs2 | exact mj_hs | assumption | refine mj_hn2 (by omega) ?_ | refine mj_hn (by omega) ?_)) (sp_Shade_stepsOf (σ := (f, σ.2)) g2 (by omega) ?_) rfl rfl (Nat.le_of_ble_eq_true rfl) (Nat.le_of_ble_eq_true rfl)
            refine mw_k 60 i_Shade_spread_59 rfl ?_
            refine mw_b 61 i_Shade_spread_60 rfl ?_
            rw [hsx, nI_1]
            refine mw_ld 62 i_Shade_spread_61 rfl rfl rfl ?_
            refine mw_cv1 65 i_Shade_spread_62 rfl (by repeat (first | exact mj_hs2 | exact mj_hs | assumption | refine mj_hn2 (by omega) ?_ | refine mj_hn (by omega) ?_)) (sp_Shade_enter_no (σ := (f, σ.2)) g2 hd hRf hUf (.inl gw_un_m1) ?_) rfl rfl (Nat.le_of_ble_eq_true rfl) (Nat.le_of_ble_eq_true rfl)
            refine mw_st (ls' := [_, _, _, _, _, _]) 66 i_Shade_spread_65 rfl rfl rfl rfl ?_
            refine mw_inc (ls' := [_, _, _, _, _, _]) 69 (nI (e + 1)) i_Shade_spread_66 rfl rfl rfl (nI_1 e) rfl ?_
            refine mw_go i_Shade_spread_69 ?_
            exact ih2 (f, wt) ⟨hiw, st, qu, D, qs, dq, rfl, g1, g2, g3, g4, gw_bf_skip g5 hiw hUD (fun y hy hu => by rw [hno] at hy; cases hy)⟩
          | some y =>
            have hyw := gw_no_lt hd hx hno
            by_cases hy : gw_U w h n s D0 y = true ∧ D y = none
            · have hyu : gw_un w h n s (nI y) = true := by
                rw [gw_un_nI (by omega)]
                have := hy.1
                simp only [gw_U, Bool.and_eq_true] at this
                simp [this.1.1, this.1.2, hyw]
              have hsty : st y = -1 := (gw_sD_none g3 (by omega)).mpr hy.2
              have g6 := gw_bf_new g5 hiw he hno hy.1 hyw hy.2
              have hw2 := gw_bf_wt g6
              refine mw_ld 34 i_Shade_spread_32 rfl rfl rfl ?_
              refine mw_k 35 i_Shade_spread_34 rfl ?_
              refine mw_ic0 38 i_Shade_spread_35 rfl (nI_ge (b := 4) he (by decide)) ?_
              refine mw_ld 39 i_Shade_spread_38 rfl rfl rfl ?_
              refine mw_ld 40 i_Shade_spread_39 rfl rfl rfl ?_
              refine mw_get 43 i_Shade_spread_40 rfl (by repeat (first | exact mj_hs2 | exact mj_hs | assumption | refine mj_hn2 (by omega) ?_ | refine mj_hn (by omega) ?_)) (by rfl) ?_
              refine mw_get 46 i_Shade_spread_43 rfl (by repeat (first | exact mj_hs2 | exact mj_hs | assumption | refine mj_hn2 (by omega) ?_ | refine mj_hn (by omega) ?_)) (by rfl) ?_
              refine mw_ld 48 i_Shade_spread_46 rfl rfl rfl ?_
              refine mw_ld 50 i_Shade_spread_48 rfl rfl rfl ?_
              refine mw_cv1 53 i_Shade_spread_50 rfl (by repeat (first | exact mj_hs2 | exact mj_hs | assumption | refine mj_hn2 (by omega) ?_ | refine mj_hn (by omega) ?_)) (sp_Room_beside (σ := (f, σ.2)) hx he hd hRf ?_) rfl rfl (Nat.le_of_ble_eq_true rfl) (Nat.le_of_ble_eq_true rfl)
              rw [gw_be_no, hno]
              refine mw_ld 54 i_Shade_spread_53 rfl rfl rfl ?_
              refine mw_ld 56 i_Shade_spread_54 rfl rfl rfl ?_
              refine mw_cv1 59 i_Shade_spread_56 rfl (by repeat (first | exact mj_hs2 | exact mj_hs | assumption | refine mj_hn2 (by omega) ?_ | refine mj_hn (by omega) ?_)) (sp_Shade_stepsOf (σ := (f, σ.2)) g2 (by omega) ?_) rfl rfl (Nat.le_of_ble_eq_true rfl) (Nat.le_of_ble_eq_true rfl)
              refine mw_k 60 i_Shade_spread_59 rfl ?_
              refine mw_b 61 i_Shade_spread_60 rfl ?_
              rw [hsx, nI_1]
              refine mw_ld 62 i_Shade_spread_61 rfl rfl rfl ?_
              refine mw_cv1 65 i_Shade_spread_62 rfl (by repeat (first | exact mj_hs2 | exact mj_hs | assumption | refine mj_hn2 (by omega) ?_ | refine mj_hn (by omega) ?_)) (sp_Shade_enter_yes (σ := (f, σ.2)) g2 hd hRf hUf hyw hyu hsty (by omega) ?_) rfl rfl (Nat.le_of_ble_eq_true rfl) (Nat.le_of_ble_eq_true rfl)
              refine mw_st (ls' := [_, _, _, _, _, _]) 66 i_Shade_spread_65 rfl rfl rfl rfl ?_
              refine mw_inc (ls' := [_, _, _, _, _, _]) 69 (nI (e + 1)) i_Shade_spread_66 rfl rfl rfl (nI_1 e) rfl ?_
              refine mw_go i_Shade_spread_69 ?_
              have hg2 : gw_sh (va_up (va_up f 47 (mj_AI 100 (upd st y (nI (dq i + 1))))) 48 (mj_AI 100 (upd qu wt (nI y)))) (upd st y (nI (dq i + 1))) (upd qu wt (nI y)) := ⟨mj_hn (by decide) (mj_hn (by decide) z1), mj_hn (by decide) mj_hs, mj_hs⟩
              refine ih2 (va_up (va_up f 47 (mj_AI 100 (upd st y (nI (dq i + 1))))) 48 (mj_AI 100 (upd qu wt (nI y))), wt + 1) ⟨by show i < wt + 1; omega, _, _, _, _, _, va_up_ne _ _ (by omega), gw_fr_up (gw_fr_up g1 (by simp)) (by simp), hg2, ⟨fun c hc => ?_, fun c k hk => ?_⟩, fun j hj => ?_, g6⟩
              · by_cases q : c = y
                · subst q; rw [pk_us, va_up_self]; rfl
                · rw [pk_un q, va_up_ne _ _ q]; exact g3.1 c hc
              · by_cases q : c = y
                · subst q
                  rw [va_up_self] at hk
                  cases hk
                  have := (g4 i hiw).2
                  omega
                · rw [va_up_ne _ _ q] at hk; exact g3.2 c k hk
              · have hj : j < wt + 1 := hj
                by_cases q : j = wt
                · subst q
                  rw [pk_us, va_up_self, va_up_self]
                  have := (g4 i hiw).2
                  exact ⟨rfl, by omega⟩
                · rw [pk_un q, va_up_ne _ _ q, va_up_ne _ _ q]; exact g4 j (by omega)
            · have hne : gw_un w h n s (nI y) = false ∨ ∃ x, x < 100 ∧ (nI y : Int32) = nI x ∧ ¬ st x = -1 := by
                by_cases hyu : gw_un w h n s (nI y) = true
                · right
                  refine ⟨y, by omega, rfl, fun q => ?_⟩
                  have hDy := (gw_sD_none g3 (by omega)).mp q
                  have hD0 : D0 y = none := by
                    apply Classical.byContradiction
                    intro q2
                    have hnq : ∀ j, j < wt → qs j ≠ y := fun j hj e => by
                      have := (g5.1 j hj).2.2.1
                      rw [e, hDy] at this; cases this
                    rw [g5.2.2.1 y hnq] at hDy
                    exact q2 hDy
                  apply hy
                  refine ⟨?_, hDy⟩
                  rw [gw_un_nI (by omega)] at hyu
                  simp only [Bool.and_eq_true] at hyu
                  simp [gw_U, hyu.2, hyw, hD0]
                · left; simpa using hyu
              refine mw_ld 34 i_Shade_spread_32 rfl rfl rfl ?_
              refine mw_k 35 i_Shade_spread_34 rfl ?_
              refine mw_ic0 38 i_Shade_spread_35 rfl (nI_ge (b := 4) he (by decide)) ?_
              refine mw_ld 39 i_Shade_spread_38 rfl rfl rfl ?_
              refine mw_ld 40 i_Shade_spread_39 rfl rfl rfl ?_
              refine mw_get 43 i_Shade_spread_40 rfl (by repeat (first | exact mj_hs2 | exact mj_hs | assumption | refine mj_hn2 (by omega) ?_ | refine mj_hn (by omega) ?_)) (by rfl) ?_
              refine mw_get 46 i_Shade_spread_43 rfl (by repeat (first | exact mj_hs2 | exact mj_hs | assumption | refine mj_hn2 (by omega) ?_ | refine mj_hn (by omega) ?_)) (by rfl) ?_
              refine mw_ld 48 i_Shade_spread_46 rfl rfl rfl ?_
              refine mw_ld 50 i_Shade_spread_48 rfl rfl rfl ?_
              refine mw_cv1 53 i_Shade_spread_50 rfl (by repeat (first | exact mj_hs2 | exact mj_hs | assumption | refine mj_hn2 (by omega) ?_ | refine mj_hn (by omega) ?_)) (sp_Room_beside (σ := (f, σ.2)) hx he hd hRf ?_) rfl rfl (Nat.le_of_ble_eq_true rfl) (Nat.le_of_ble_eq_true rfl)
              rw [gw_be_no, hno]
              refine mw_ld 54 i_Shade_spread_53 rfl rfl rfl ?_
              refine mw_ld 56 i_Shade_spread_54 rfl rfl rfl ?_
              refine mw_cv1 59 i_Shade_spread_56 rfl (by repeat (first | exact mj_hs2 | exact mj_hs | assumption | refine mj_hn2 (by omega) ?_ | refine mj_hn (by omega) ?_)) (sp_Shade_stepsOf (σ := (f, σ.2)) g2 (by omega) ?_) rfl rfl (Nat.le_of_ble_eq_true rfl) (Nat.le_of_ble_eq_true rfl)
              refine mw_k 60 i_Shade_spread_59 rfl ?_
              refine mw_b 61 i_Shade_spread_60 rfl ?_
              rw [hsx, nI_1]
              refine mw_ld 62 i_Shade_spread_61 rfl rfl rfl ?_
              refine mw_cv1 65 i_Shade_spread_62 rfl (by repeat (first | exact mj_hs2 | exact mj_hs | assumption | refine mj_hn2 (by omega) ?_ | refine mj_hn (by omega) ?_)) (sp_Shade_enter_no (σ := (f, σ.2)) g2 hd hRf hUf hne ?_) rfl rfl (Nat.le_of_ble_eq_true rfl) (Nat.le_of_ble_eq_true rfl)
              refine mw_st (ls' := [_, _, _, _, _, _]) 66 i_Shade_spread_65 rfl rfl rfl rfl ?_
              refine mw_inc (ls' := [_, _, _, _, _, _]) 69 (nI (e + 1)) i_Shade_spread_66 rfl rfl rfl (nI_1 e) rfl ?_
              refine mw_go i_Shade_spread_69 ?_
              exact ih2 (f, wt) ⟨hiw, st, qu, D, qs, dq, rfl, g1, g2, g3, g4, gw_bf_skip g5 hiw hUD (fun y2 hy2 hu => fun q => by rw [hno] at hy2; cases hy2; exact hy ⟨hu, q⟩)⟩
      · skip
        refine mw_ld 11 i_Shade_spread_10 rfl rfl rfl ?_
        refine mw_ld 12 i_Shade_spread_11 rfl rfl rfl ?_
        refine mw_ic1 i_Shade_spread_12 (nI_le (by omega) (by have := gw_bf_wt g5; omega)) ?_
        refine mw_rv i_Shade_spread_78 rfl ?_
        have e : wt = i := by have := g5.2.2.2.2.2.1; omega
        subst e
        exact k f st D g1 ⟨qu, g2⟩ g3 (gw_bf_end g5)
  · have hne : gw_un w h n s (nI a) = false ∨ ∃ x, x < 100 ∧ (nI a : Int32) = nI x ∧ ¬ st x = -1 := by
      by_cases hau : gw_un w h n s (nI a) = true
      · right
        refine ⟨a, ha, rfl, fun q => hua ?_⟩
        rw [gw_un_nI (by omega)] at hau
        simp only [Bool.and_eq_true] at hau
        simp [gw_U, hau, (gw_sD_none hD ha).mp q]
      · left; simpa using hau
    refine mw_ld 1 i_Shade_spread_0 rfl rfl rfl ?_
    refine mw_ld 2 i_Shade_spread_1 rfl rfl rfl ?_
    refine mw_k 3 i_Shade_spread_2 rfl ?_
    refine mw_k 4 i_Shade_spread_3 rfl ?_
    refine mw_cv1 7 i_Shade_spread_4 rfl (by repeat (first | exact mj_hs2 | exact mj_hs | assumption | refine mj_hn2 (by omega) ?_ | refine mj_hn (by omega) ?_)) (sp_Shade_enter_no (wt := 0) (t := 0) hS hd hR hU hne ?_) rfl rfl (Nat.le_of_ble_eq_true rfl) (Nat.le_of_ble_eq_true rfl)
    refine mw_st (ls' := [_, _, _, _, _, _]) 8 i_Shade_spread_7 rfl rfl rfl rfl ?_
    refine mw_k 9 i_Shade_spread_8 rfl ?_
    refine mw_st (ls' := [_, _, _, _, _, _]) 10 i_Shade_spread_9 rfl rfl rfl rfl ?_
    refine mj_for (S := (Nat → mj_C) × Nat × Option Value × Option Value) (fun i u => mj_Wp X (d + 4) y_Shade_spread 10 [some (.ref 46), some (.int (nI a)), some (.int (nI u.2.1)), some (.int (nI i)), u.2.2.1, u.2.2.2] [] (u.1, σ.2) (mj_U Q)) (fun i u => ∃ st qu D qs dq, gw_fr [47, 48] σ.1 u.1 ∧ gw_sh u.1 st qu ∧ gw_sD st D ∧ (∀ i, i < u.2.1 → qu i = nI (qs i) ∧ dq i ≤ i) ∧ gw_bf w h (gw_U w h n s D0) a D0 D qs dq u.2.1 i 0) 100 ?_ ?_ 0 (σ.1, 0, none, none) (Nat.zero_le _) ⟨st, qu, D0, fun _ => 0, fun _ => 0, gw_fr_rf _ _, hS, hD, fun j hj => absurd hj (Nat.not_lt_zero j), gw_bf_0 (by simpa using hua)⟩
    · rintro ⟨f, wt, l4, l5⟩ ⟨st, qu, D, qs, dq, g1, g2, g3, g4, g5⟩
      dsimp only at g1 g2 g3 g4 g5 ⊢
      refine mw_ld 11 i_Shade_spread_10 rfl rfl rfl ?_
      refine mw_ld 12 i_Shade_spread_11 rfl rfl rfl ?_
      refine mw_ic1 i_Shade_spread_12 (nI_le (b := 100) (by have := gw_bf_wt g5; omega) (by decide)) ?_
      refine mw_rv i_Shade_spread_78 rfl ?_
      have e : wt = 100 := by have h1 := g5.2.2.2.2.2.1; have h2 := gw_bf_wt g5; omega
      subst e
      exact k f st D g1 ⟨qu, g2⟩ g3 (gw_bf_end g5)
    · rintro i ⟨f, wt, l4, l5⟩ hi ⟨st, qu, D, qs, dq, g1, g2, g3, g4, g5⟩ ih
      dsimp only at g1 g2 g3 g4 g5 ⊢
      obtain ⟨z1, z2, z3⟩ := id g2
      rcases Nat.lt_or_ge i wt with hiw | hiw
      · skip
        refine mw_ld 11 i_Shade_spread_10 rfl rfl rfl ?_
        refine mw_ld 12 i_Shade_spread_11 rfl rfl rfl ?_
        refine mw_ic0 15 i_Shade_spread_12 rfl (nI_ge hiw (by have := gw_bf_wt g5; omega)) ?_
        refine mw_ld 16 i_Shade_spread_15 rfl rfl rfl ?_
        refine mw_k 18 i_Shade_spread_16 rfl ?_
        refine mw_ic0 21 i_Shade_spread_18 rfl (nI_ge (b := 100) hi (by decide)) ?_
        refine mw_ld 22 i_Shade_spread_21 rfl rfl rfl ?_
        refine mw_get 25 i_Shade_spread_22 rfl (by repeat (first | exact mj_hs2 | exact mj_hs | assumption | refine mj_hn2 (by omega) ?_ | refine mj_hn (by omega) ?_)) (by rfl) ?_
        refine mw_ld 26 i_Shade_spread_25 rfl rfl rfl ?_
        refine mw_iald 27 i i_Shade_spread_26 rfl z3 rfl hi (by decide) ?_
        rw [(g4 i hiw).1]
        obtain ⟨x, ex⟩ : ∃ x, x = qs i := ⟨_, rfl⟩
        rw [← ex]
        refine mw_st (ls' := [_, _, _, _, _, _]) 29 i_Shade_spread_27 rfl rfl rfl rfl ?_
        refine mw_k 30 i_Shade_spread_29 rfl ?_
        refine mw_st (ls' := [_, _, _, _, _, _]) 32 i_Shade_spread_30 rfl rfl rfl rfl ?_
        refine mj_for (S := (Nat → mj_C) × Nat) (fun e v => mj_Wp X (d + 4) y_Shade_spread 32 [some (.ref 46), some (.int (nI a)), some (.int (nI v.2)), some (.int (nI i)), some (.int (nI x)), some (.int (nI e))] [] (v.1, σ.2) (mj_U Q)) (fun e v => i < v.2 ∧ ∃ st qu D qs dq, qs i = x ∧ gw_fr [47, 48] σ.1 v.1 ∧ gw_sh v.1 st qu ∧ gw_sD st D ∧ (∀ i, i < v.2 → qu i = nI (qs i) ∧ dq i ≤ i) ∧ gw_bf w h (gw_U w h n s D0) a D0 D qs dq v.2 i e) 4 ?_ ?_ 0 (f, wt) (Nat.zero_le _) ⟨hiw, st, qu, D, qs, dq, ex.symm, g1, g2, g3, g4, g5⟩
        · rintro ⟨f, wt⟩ ⟨hiw, st, qu, D, qs, dq, ex, g1, g2, g3, g4, g5⟩
          dsimp only at hiw g1 g2 g3 g4 g5 ⊢
          refine mw_ld 34 i_Shade_spread_32 rfl rfl rfl ?_
          refine mw_k 35 i_Shade_spread_34 rfl ?_
          refine mw_ic1 i_Shade_spread_35 (by decide) ?_
          refine mw_inc (ls' := [_, _, _, _, _, _]) 75 (nI (i + 1)) i_Shade_spread_72 rfl rfl rfl (nI_1 i) rfl ?_
          refine mw_go i_Shade_spread_75 ?_
          exact ih (f, wt, _, _) ⟨st, qu, D, qs, dq, g1, g2, g3, g4, gw_bf_next g5 hiw⟩
        · rintro e ⟨f, wt⟩ he ⟨hiw, st, qu, D, qs, dq, ex, g1, g2, g3, g4, g5⟩ ih2
          dsimp only at hiw g1 g2 g3 g4 g5 ⊢
          subst ex
          obtain ⟨z1, z2, z3⟩ := id g2
          have hRf : gw_rm f 1 w h n s := gw_rm_fr g1 (by decide) (by decide) (by decide) (by decide) hR
          have hUf : gw_vup f w h n s := gw_vup_fr g1 (by decide) (by decide) hU
          obtain ⟨wt0, ⟨v1, v2⟩, -⟩ := id hUf
          obtain ⟨wl, ps, c1, -⟩ := id hRf
          have hx : qs i < w * h := (g5.1 i hiw).1
          have hsx : st (qs i) = nI (dq i) := by rw [g3.1 _ (by omega), (g5.1 i hiw).2.2.1]; rfl
          cases hno : gw_no w h (qs i) e with
          | none =>
            have hx0 : True := trivial
            refine mw_ld 34 i_Shade_spread_32 rfl rfl rfl ?_
            refine mw_k 35 i_Shade_spread_34 rfl ?_
            refine mw_ic0 38 i_Shade_spread_35 rfl (nI_ge (b := 4) he (by decide)) ?_
            refine mw_ld 39 i_Shade_spread_38 rfl rfl rfl ?_
            refine mw_ld 40 i_Shade_spread_39 rfl rfl rfl ?_
            refine mw_get 43 i_Shade_spread_40 rfl (by repeat (first | exact mj_hs2 | exact mj_hs | assumption | refine mj_hn2 (by omega) ?_ | refine mj_hn (by omega) ?_)) (by rfl) ?_
            refine mw_get 46 i_Shade_spread_43 rfl (by repeat (first | exact mj_hs2 | exact mj_hs | assumption | refine mj_hn2 (by omega) ?_ | refine mj_hn (by omega) ?_)) (by rfl) ?_
            refine mw_ld 48 i_Shade_spread_46 rfl rfl rfl ?_
            refine mw_ld 50 i_Shade_spread_48 rfl rfl rfl ?_
            refine mw_cv1 53 i_Shade_spread_50 rfl (by repeat (first | exact mj_hs2 | exact mj_hs | assumption | refine mj_hn2 (by omega) ?_ | refine mj_hn (by omega) ?_)) (sp_Room_beside (σ := (f, σ.2)) hx he hd hRf ?_) rfl rfl (Nat.le_of_ble_eq_true rfl) (Nat.le_of_ble_eq_true rfl)
            rw [gw_be_no, hno]
            refine mw_ld 54 i_Shade_spread_53 rfl rfl rfl ?_
            refine mw_ld 56 i_Shade_spread_54 rfl rfl rfl ?_
            refine mw_cv1 59 i_Shade_spread_56 rfl (by repeat (first | exact mj_hs2 | exact mj_hs | assumption | refine mj_hn2 (by omega) ?_ | refine mj_hn (by omega) ?_)) (sp_Shade_stepsOf (σ := (f, σ.2)) g2 (by omega) ?_) rfl rfl (Nat.le_of_ble_eq_true rfl) (Nat.le_of_ble_eq_true rfl)
            refine mw_k 60 i_Shade_spread_59 rfl ?_
            refine mw_b 61 i_Shade_spread_60 rfl ?_
            rw [hsx, nI_1]
            refine mw_ld 62 i_Shade_spread_61 rfl rfl rfl ?_
            refine mw_cv1 65 i_Shade_spread_62 rfl (by repeat (first | exact mj_hs2 | exact mj_hs | assumption | refine mj_hn2 (by omega) ?_ | refine mj_hn (by omega) ?_)) (sp_Shade_enter_no (σ := (f, σ.2)) g2 hd hRf hUf (.inl gw_un_m1) ?_) rfl rfl (Nat.le_of_ble_eq_true rfl) (Nat.le_of_ble_eq_true rfl)
            refine mw_st (ls' := [_, _, _, _, _, _]) 66 i_Shade_spread_65 rfl rfl rfl rfl ?_
            refine mw_inc (ls' := [_, _, _, _, _, _]) 69 (nI (e + 1)) i_Shade_spread_66 rfl rfl rfl (nI_1 e) rfl ?_
            refine mw_go i_Shade_spread_69 ?_
            exact ih2 (f, wt) ⟨hiw, st, qu, D, qs, dq, rfl, g1, g2, g3, g4, gw_bf_skip g5 hiw hUD (fun y hy hu => by rw [hno] at hy; cases hy)⟩
          | some y =>
            have hyw := gw_no_lt hd hx hno
            by_cases hy : gw_U w h n s D0 y = true ∧ D y = none
            · have hyu : gw_un w h n s (nI y) = true := by
                rw [gw_un_nI (by omega)]
                have := hy.1
                simp only [gw_U, Bool.and_eq_true] at this
                simp [this.1.1, this.1.2, hyw]
              have hsty : st y = -1 := (gw_sD_none g3 (by omega)).mpr hy.2
              have g6 := gw_bf_new g5 hiw he hno hy.1 hyw hy.2
              have hw2 := gw_bf_wt g6
              refine mw_ld 34 i_Shade_spread_32 rfl rfl rfl ?_
              refine mw_k 35 i_Shade_spread_34 rfl ?_
              refine mw_ic0 38 i_Shade_spread_35 rfl (nI_ge (b := 4) he (by decide)) ?_
              refine mw_ld 39 i_Shade_spread_38 rfl rfl rfl ?_
              refine mw_ld 40 i_Shade_spread_39 rfl rfl rfl ?_
              refine mw_get 43 i_Shade_spread_40 rfl (by repeat (first | exact mj_hs2 | exact mj_hs | assumption | refine mj_hn2 (by omega) ?_ | refine mj_hn (by omega) ?_)) (by rfl) ?_
              refine mw_get 46 i_Shade_spread_43 rfl (by repeat (first | exact mj_hs2 | exact mj_hs | assumption | refine mj_hn2 (by omega) ?_ | refine mj_hn (by omega) ?_)) (by rfl) ?_
              refine mw_ld 48 i_Shade_spread_46 rfl rfl rfl ?_
              refine mw_ld 50 i_Shade_spread_48 rfl rfl rfl ?_
              refine mw_cv1 53 i_Shade_spread_50 rfl (by repeat (first | exact mj_hs2 | exact mj_hs | assumption | refine mj_hn2 (by omega) ?_ | refine mj_hn (by omega) ?_)) (sp_Room_beside (σ := (f, σ.2)) hx he hd hRf ?_) rfl rfl (Nat.le_of_ble_eq_true rfl) (Nat.le_of_ble_eq_true rfl)
              rw [gw_be_no, hno]
              refine mw_ld 54 i_Shade_spread_53 rfl rfl rfl ?_
              refine mw_ld 56 i_Shade_spread_54 rfl rfl rfl ?_
              refine mw_cv1 59 i_Shade_spread_56 rfl (by repeat (first | exact mj_hs2 | exact mj_hs | assumption | refine mj_hn2 (by omega) ?_ | refine mj_hn (by omega) ?_)) (sp_Shade_stepsOf (σ := (f, σ.2)) g2 (by omega) ?_) rfl rfl (Nat.le_of_ble_eq_true rfl) (Nat.le_of_ble_eq_true rfl)
              refine mw_k 60 i_Shade_spread_59 rfl ?_
              refine mw_b 61 i_Shade_spread_60 rfl ?_
              rw [hsx, nI_1]
              refine mw_ld 62 i_Shade_spread_61 rfl rfl rfl ?_
              refine mw_cv1 65 i_Shade_spread_62 rfl (by repeat (first | exact mj_hs2 | exact mj_hs | assumption | refine mj_hn2 (by omega) ?_ | refine mj_hn (by omega) ?_)) (sp_Shade_enter_yes (σ := (f, σ.2)) g2 hd hRf hUf hyw hyu hsty (by omega) ?_) rfl rfl (Nat.le_of_ble_eq_true rfl) (Nat.le_of_ble_eq_true rfl)
              refine mw_st (ls' := [_, _, _, _, _, _]) 66 i_Shade_spread_65 rfl rfl rfl rfl ?_
              refine mw_inc (ls' := [_, _, _, _, _, _]) 69 (nI (e + 1)) i_Shade_spread_66 rfl rfl rfl (nI_1 e) rfl ?_
              refine mw_go i_Shade_spread_69 ?_
              have hg2 : gw_sh (va_up (va_up f 47 (mj_AI 100 (upd st y (nI (dq i + 1))))) 48 (mj_AI 100 (upd qu wt (nI y)))) (upd st y (nI (dq i + 1))) (upd qu wt (nI y)) := ⟨mj_hn (by decide) (mj_hn (by decide) z1), mj_hn (by decide) mj_hs, mj_hs⟩
              refine ih2 (va_up (va_up f 47 (mj_AI 100 (upd st y (nI (dq i + 1))))) 48 (mj_AI 100 (upd qu wt (nI y))), wt + 1) ⟨by show i < wt + 1; omega, _, _, _, _, _, va_up_ne _ _ (by omega), gw_fr_up (gw_fr_up g1 (by simp)) (by simp), hg2, ⟨fun c hc => ?_, fun c k hk => ?_⟩, fun j hj => ?_, g6⟩
              · by_cases q : c = y
                · subst q; rw [pk_us, va_up_self]; rfl
                · rw [pk_un q, va_up_ne _ _ q]; exact g3.1 c hc
              · by_cases q : c = y
                · subst q
                  rw [va_up_self] at hk
                  cases hk
                  have := (g4 i hiw).2
                  omega
                · rw [va_up_ne _ _ q] at hk; exact g3.2 c k hk
              · have hj : j < wt + 1 := hj
                by_cases q : j = wt
                · subst q
                  rw [pk_us, va_up_self, va_up_self]
                  have := (g4 i hiw).2
                  exact ⟨rfl, by omega⟩
                · rw [pk_un q, va_up_ne _ _ q, va_up_ne _ _ q]; exact g4 j (by omega)
            · have hne : gw_un w h n s (nI y) = false ∨ ∃ x, x < 100 ∧ (nI y : Int32) = nI x ∧ ¬ st x = -1 := by
                by_cases hyu : gw_un w h n s (nI y) = true
                · right
                  refine ⟨y, by omega, rfl, fun q => ?_⟩
                  have hDy := (gw_sD_none g3 (by omega)).mp q
                  have hD0 : D0 y = none := by
                    apply Classical.byContradiction
                    intro q2
                    have hnq : ∀ j, j < wt → qs j ≠ y := fun j hj e => by
                      have := (g5.1 j hj).2.2.1
                      rw [e, hDy] at this; cases this
                    rw [g5.2.2.1 y hnq] at hDy
                    exact q2 hDy
                  apply hy
                  refine ⟨?_, hDy⟩
                  rw [gw_un_nI (by omega)] at hyu
                  simp only [Bool.and_eq_true] at hyu
                  simp [gw_U, hyu.2, hyw, hD0]
                · left; simpa using hyu
              refine mw_ld 34 i_Shade_spread_32 rfl rfl rfl ?_
              refine mw_k 35 i_Shade_spread_34 rfl ?_
              refine mw_ic0 38 i_Shade_spread_35 rfl (nI_ge (b := 4) he (by decide)) ?_
              refine mw_ld 39 i_Shade_spread_38 rfl rfl rfl ?_
              refine mw_ld 40 i_Shade_spread_39 rfl rfl rfl ?_
              refine mw_get 43 i_Shade_spread_40 rfl (by repeat (first | exact mj_hs2 | exact mj_hs | assumption | refine mj_hn2 (by omega) ?_ | refine mj_hn (by omega) ?_)) (by rfl) ?_
              refine mw_get 46 i_Shade_spread_43 rfl (by repeat (first | exact mj_hs2 | exact mj_hs | assumption | refine mj_hn2 (by omega) ?_ | refine mj_hn (by omega) ?_)) (by rfl) ?_
              refine mw_ld 48 i_Shade_spread_46 rfl rfl rfl ?_
              refine mw_ld 50 i_Shade_spread_48 rfl rfl rfl ?_
              refine mw_cv1 53 i_Shade_spread_50 rfl (by repeat (first | exact mj_hs2 | exact mj_hs | assumption | refine mj_hn2 (by omega) ?_ | refine mj_hn (by omega) ?_)) (sp_Room_beside (σ := (f, σ.2)) hx he hd hRf ?_) rfl rfl (Nat.le_of_ble_eq_true rfl) (Nat.le_of_ble_eq_true rfl)
              rw [gw_be_no, hno]
              refine mw_ld 54 i_Shade_spread_53 rfl rfl rfl ?_
              refine mw_ld 56 i_Shade_spread_54 rfl rfl rfl ?_
              refine mw_cv1 59 i_Shade_spread_56 rfl (by repeat (first | exact mj_hs2 | exact mj_hs | assumption | refine mj_hn2 (by omega) ?_ | refine mj_hn (by omega) ?_)) (sp_Shade_stepsOf (σ := (f, σ.2)) g2 (by omega) ?_) rfl rfl (Nat.le_of_ble_eq_true rfl) (Nat.le_of_ble_eq_true rfl)
              refine mw_k 60 i_Shade_spread_59 rfl ?_
              refine mw_b 61 i_Shade_spread_60 rfl ?_
              rw [hsx, nI_1]
              refine mw_ld 62 i_Shade_spread_61 rfl rfl rfl ?_
              refine mw_cv1 65 i_Shade_spread_62 rfl (by repeat (first | exact mj_hs2 | exact mj_hs | assumption | refine mj_hn2 (by omega) ?_ | refine mj_hn (by omega) ?_)) (sp_Shade_enter_no (σ := (f, σ.2)) g2 hd hRf hUf hne ?_) rfl rfl (Nat.le_of_ble_eq_true rfl) (Nat.le_of_ble_eq_true rfl)
              refine mw_st (ls' := [_, _, _, _, _, _]) 66 i_Shade_spread_65 rfl rfl rfl rfl ?_
              refine mw_inc (ls' := [_, _, _, _, _, _]) 69 (nI (e + 1)) i_Shade_spread_66 rfl rfl rfl (nI_1 e) rfl ?_
              refine mw_go i_Shade_spread_69 ?_
              exact ih2 (f, wt) ⟨hiw, st, qu, D, qs, dq, rfl, g1, g2, g3, g4, gw_bf_skip g5 hiw hUD (fun y2 hy2 hu => fun q => by rw [hno] at hy2; cases hy2; exact hy ⟨hu, q⟩)⟩
      · skip
        refine mw_ld 11 i_Shade_spread_10 rfl rfl rfl ?_
        refine mw_ld 12 i_Shade_spread_11 rfl rfl rfl ?_
        refine mw_ic1 i_Shade_spread_12 (nI_le (by omega) (by have := gw_bf_wt g5; omega)) ?_
        refine mw_rv i_Shade_spread_78 rfl ?_
        have e : wt = i := by have := g5.2.2.2.2.2.1; omega
        subst e
        exact k f st D g1 ⟨qu, g2⟩ g3 (gw_bf_end g5)
