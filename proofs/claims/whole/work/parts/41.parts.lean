/-! Shade: parts -/
/-- the first cell of those that hang together -/
noncomputable def gw_rt (w h : Nat) (U : Nat → Bool) (c : Nat) : Bool := @decide (U c = true ∧ ¬ ∃ c0, c0 < c ∧ gw_cc w h U c0 c) (Classical.propDecidable _)
theorem gw_rt_t {w h : Nat} {U : Nat → Bool} {c : Nat} : gw_rt w h U c = true ↔ (U c = true ∧ ¬ ∃ c0, c0 < c ∧ gw_cc w h U c0 c) := by rw [gw_rt]; exact @decide_eq_true_iff _ (Classical.propDecidable _)
theorem gw_rt_f {w h : Nat} {U : Nat → Bool} {c : Nat} : gw_rt w h U c = false ↔ ¬ (U c = true ∧ ¬ ∃ c0, c0 < c ∧ gw_cc w h U c0 c) := by rw [gw_rt]; exact @decide_eq_false_iff_not _ (Classical.propDecidable _)
theorem gw_UU_lt {w h n : Nat} {s : Nat → Int32} {D0 : Nat → Option Nat} {c : Nat} (hc : gw_U w h n s D0 c = true) : c < w * h := by
  simp only [gw_U, Bool.and_eq_true, decide_eq_true_eq] at hc
  exact hc.1.1
/-- what hangs together with a cell that isn't reached isn't reached -/
theorem gw_cc_new {w h n : Nat} {s : Nat → Int32} {D : Nat → Option Nat} {i : Nat} (hd : gw_dim w h) (hD : ∀ c, D c ≠ none ↔ ∃ c0, c0 < i ∧ gw_cc w h (gw_UU w h n s) c0 c) (hi : D i = none) : ∀ {k c : Nat}, gw_R w h (gw_UU w h n s) i k c → gw_R w h (gw_U w h n s D) i k c := by
  have hN : ∀ k c, gw_R w h (gw_UU w h n s) i k c → gw_U w h n s D c = true := by
    intro k c hr
    have hc := gw_R_U hr
    have hDc : D c = none := by
      apply Classical.byContradiction
      intro q
      obtain ⟨c0, h0, k0, hk0⟩ := (hD c).mp q
      have h1 := gw_R_tr hk0 (gw_R_sym hd (fun c hc => gw_UU_lt hc) hr)
      exact (hD i).mpr ⟨c0, h0, _, h1⟩ hi
    simp only [gw_U, Bool.and_eq_true] at hc ⊢
    exact ⟨hc.1, by rw [hDc]; rfl⟩
  intro k
  induction k with
  | zero =>
    intro c hr
    exact ⟨hr.1, hN 0 c hr⟩
  | succ k ih =>
    intro c hr
    have hu := hN (k + 1) c hr
    obtain ⟨hc, x, e, he, hx, hn⟩ := hr
    exact ⟨hu, x, e, he, ih hx, hn⟩
theorem gw_cc_step {w h n : Nat} {s : Nat → Int32} {D D' : Nat → Option Nat} {i : Nat} (hd : gw_dim w h) (hD : ∀ c, D c ≠ none ↔ ∃ c0, c0 < i ∧ gw_cc w h (gw_UU w h n s) c0 c) (hi : D i = none) (hS : gw_Sp w h (gw_U w h n s D) i D D') : ∀ c, D' c ≠ none ↔ ∃ c0, c0 < i + 1 ∧ gw_cc w h (gw_UU w h n s) c0 c := by
  intro c
  have hm : ∀ k, gw_R w h (gw_U w h n s D) i k c → gw_R w h (gw_UU w h n s) i k c := fun k hk => gw_R_mono (fun c hc => by
    simp only [gw_U, Bool.and_eq_true] at hc ⊢
    exact ⟨hc.1, rfl⟩) hk
  by_cases hx : ∃ k, gw_R w h (gw_U w h n s D) i k c
  · obtain ⟨k, h1, h2, -⟩ := hS.1 c hx
    rw [h1]
    exact ⟨fun _ => ⟨i, by omega, k, hm k h2⟩, fun _ => by simp⟩
  · rw [hS.2 c hx, hD c]
    constructor
    · rintro ⟨c0, h0, h1⟩
      exact ⟨c0, by omega, h1⟩
    · rintro ⟨c0, h0, k, hk⟩
      rcases Nat.lt_succ_iff_lt_or_eq.mp h0 with q | q
      · exact ⟨c0, q, k, hk⟩
      · subst q
        exact absurd ⟨k, gw_cc_new hd hD hi hk⟩ hx
theorem gw_cc_same {w h n : Nat} {s : Nat → Int32} {D : Nat → Option Nat} {i : Nat} (hD : ∀ c, D c ≠ none ↔ ∃ c0, c0 < i ∧ gw_cc w h (gw_UU w h n s) c0 c) (hi : gw_UU w h n s i = false ∨ D i ≠ none) : ∀ c, D c ≠ none ↔ ∃ c0, c0 < i + 1 ∧ gw_cc w h (gw_UU w h n s) c0 c := by
  intro c
  rw [hD c]
  constructor
  · rintro ⟨c0, h0, h1⟩
    exact ⟨c0, by omega, h1⟩
  · rintro ⟨c0, h0, k, hk⟩
    rcases Nat.lt_succ_iff_lt_or_eq.mp h0 with q | q
    · exact ⟨c0, q, k, hk⟩
    · subst q
      rcases hi with hi | hi
      · rw [gw_R_start hk] at hi; cases hi
      · obtain ⟨c1, h2, k2, hk2⟩ := (hD c0).mp hi
        exact ⟨c1, h2, _, gw_R_tr hk2 hk⟩
theorem sp_Shade_parts {X : mj_X} {d : Nat} {σ : mj_H} {Q : Value → mj_H → Prop} {w h n : Nat} {s : Nat → Int32} {st qu : Nat → Int32} (hS : gw_sh σ.1 st qu) (hd : gw_dim w h) (hR : gw_rm σ.1 1 w h n s) (hU : gw_vup σ.1 w h n s) (k : ∀ f st2, gw_fr [47, 48] σ.1 f → (∃ qu2, gw_sh f st2 qu2) → Q (.int (nI (gw_cn (gw_rt w h (gw_UU w h n s)) (w * h)))) (f, σ.2)) : mj_M X (d + 5) y_Shade_parts [.ref 46] σ (mj_V Q) := by
  obtain ⟨z1, z2, z3⟩ := id hS
  have hwh := gw_dim_le hd
  refine mw_in (l0 := [some (.ref 46), none, none]) rfl ?_
  refine mw_ld 1 i_Shade_parts_0 rfl rfl rfl ?_
  refine mw_get 4 i_Shade_parts_1 rfl (by repeat (first | exact mj_hs2 | exact mj_hs | assumption | refine mj_hn2 (by omega) ?_ | refine mj_hn (by omega) ?_)) (by rfl) ?_
  refine mw_k 5 i_Shade_parts_4 rfl ?_
  refine mw_cs0 8 i_Shade_parts_5 rfl (sp_Arrays_fill (by repeat (first | exact mj_hs2 | exact mj_hs | assumption | refine mj_hn2 (by omega) ?_ | refine mj_hn (by omega) ?_)) (by decide) (fun g hg => ?_)) rfl rfl (Nat.le_of_ble_eq_true rfl) (Nat.le_of_ble_eq_true rfl)
  have hf1 : gw_fr [47, 48] σ.1 (va_up σ.1 47 (mj_AI 100 g)) := gw_fr_up (gw_fr_rf _ _) (by simp)
  have hS1 : gw_sh (va_up σ.1 47 (mj_AI 100 g)) g qu := ⟨mj_hn (by decide) z1, mj_hs, mj_hn (by decide) z3⟩
  have hD1 : gw_sD g (fun _ => none) := ⟨fun c hc => hg c hc, fun c k hk => by cases hk⟩
  have hE1 : ∀ c, (fun _ => none : Nat → Option Nat) c ≠ none ↔ ∃ c0, c0 < 0 ∧ gw_cc w h (gw_UU w h n s) c0 c := fun c => ⟨fun q => absurd rfl q, fun ⟨c0, h0, _⟩ => absurd h0 (Nat.not_lt_zero _)⟩
  refine mw_k 9 i_Shade_parts_8 rfl ?_
  refine mw_st (ls' := [_, _, _]) 10 i_Shade_parts_9 rfl rfl rfl rfl ?_
  refine mw_k 11 i_Shade_parts_10 rfl ?_
  refine mw_st (ls' := [_, _, _]) 12 i_Shade_parts_11 rfl rfl rfl rfl ?_
  refine mj_for (S := (Nat → mj_C) × Nat) (fun i u => mj_Wp X (d + 5) y_Shade_parts 12 [some (.ref 46), some (.int (nI u.2)), some (.int (nI i))] [] (u.1, σ.2) (mj_V Q)) (fun i u => gw_fr [47, 48] σ.1 u.1 ∧ (∃ st qu D, gw_sh u.1 st qu ∧ gw_sD st D ∧ ∀ c, D c ≠ none ↔ ∃ c0, c0 < i ∧ gw_cc w h (gw_UU w h n s) c0 c) ∧ u.2 = gw_cn (gw_rt w h (gw_UU w h n s)) i) 100 ?_ ?_ 0 (va_up σ.1 47 (mj_AI 100 g), 0) (Nat.zero_le _) ⟨hf1, ⟨g, qu, fun _ => none, hS1, hD1, hE1⟩, rfl⟩
  · rintro ⟨f, p⟩ ⟨g1, ⟨st, qu, D, g2, g3, g4⟩, hp⟩
    dsimp only at g1 g2 hp ⊢
    subst hp
    refine mw_ld 13 i_Shade_parts_12 rfl rfl rfl ?_
    refine mw_k 15 i_Shade_parts_13 rfl ?_
    refine mw_ic1 i_Shade_parts_15 (by decide) ?_
    refine mw_ld 54 i_Shade_parts_53 rfl rfl rfl ?_
    refine mw_ri i_Shade_parts_54 rfl rfl ?_
    rw [gw_cn_gap (a := w * h) (b := 100) hwh (fun c h1 h2 => gw_rt_f.mpr (fun q => by have := gw_UU_lt q.1; omega))]
    exact k f st g1 ⟨qu, g2⟩
  · rintro i ⟨f, p⟩ hi ⟨g1, ⟨st, qu, D, g2, g3, g4⟩, hp⟩ ih
    dsimp only at g1 g2 hp ⊢
    subst hp
    obtain ⟨x1, x2, x3⟩ := id g2
    have hRf : gw_rm f 1 w h n s := gw_rm_fr g1 (by decide) (by decide) (by decide) (by decide) hR
    have hUf : gw_vup f w h n s := gw_vup_fr g1 (by decide) (by decide) hU
    obtain ⟨wt0, ⟨v1, v2⟩, -⟩ := id hUf
    have eun : gw_un w h n s (nI i) = gw_UU w h n s i := by rw [gw_un_nI (by omega)]; simp [gw_U]
    by_cases hu : gw_UU w h n s i = true
    · by_cases hDi : D i = none
      · have hrt : gw_rt w h (gw_UU w h n s) i = true := gw_rt_t.mpr ⟨hu, fun q => (g4 i).mpr q hDi⟩
        have hsi : st i = -1 := (gw_sD_none g3 hi).mpr hDi
        refine mw_ld 13 i_Shade_parts_12 rfl rfl rfl ?_
        refine mw_k 15 i_Shade_parts_13 rfl ?_
        refine mw_ic0 18 i_Shade_parts_15 rfl (nI_ge (b := 100) hi (by decide)) ?_
        refine mw_ld 19 i_Shade_parts_18 rfl rfl rfl ?_
        refine mw_get 22 i_Shade_parts_19 rfl (by repeat (first | exact mj_hs2 | exact mj_hs | assumption | refine mj_hn2 (by omega) ?_ | refine mj_hn (by omega) ?_)) (by rfl) ?_
        refine mw_ld 23 i_Shade_parts_22 rfl rfl rfl ?_
        refine mw_cv1 26 i_Shade_parts_23 rfl (by repeat (first | exact mj_hs2 | exact mj_hs | assumption | refine mj_hn2 (by omega) ?_ | refine mj_hn (by omega) ?_)) (sp_View_isUnseen (σ := (f, σ.2)) hd hRf hUf ?_) rfl rfl (Nat.le_of_ble_eq_true rfl) (Nat.le_of_ble_eq_true rfl)
        rw [eun]
        refine mw_if0 29 i_Shade_parts_26 rfl (mj_bI1.mpr hu) ?_
        refine mw_ld 30 i_Shade_parts_29 rfl rfl rfl ?_
        refine mw_get 33 i_Shade_parts_30 rfl (by repeat (first | exact mj_hs2 | exact mj_hs | assumption | refine mj_hn2 (by omega) ?_ | refine mj_hn (by omega) ?_)) (by rfl) ?_
        refine mw_ld 34 i_Shade_parts_33 rfl rfl rfl ?_
        refine mw_iald 35 i i_Shade_parts_34 rfl (by repeat (first | exact mj_hs2 | exact mj_hs | assumption | refine mj_hn2 (by omega) ?_ | refine mj_hn (by omega) ?_)) rfl hi (by decide) ?_
        refine mw_k 36 i_Shade_parts_35 rfl ?_
        refine mw_ic0 39 i_Shade_parts_36 rfl (fun q => q hsi) ?_
        refine mw_ld 40 i_Shade_parts_39 rfl rfl rfl ?_
        refine mw_ld 41 i_Shade_parts_40 rfl rfl rfl ?_
        refine mw_cv0 44 i_Shade_parts_41 rfl (by repeat (first | exact mj_hs2 | exact mj_hs | assumption | refine mj_hn2 (by omega) ?_ | refine mj_hn (by omega) ?_)) (sp_Shade_spread (σ := (f, σ.2)) g2 g3 hi hd hRf hUf (fun f3 st3 D3 e1 e2 e3 e4 => ?_)) rfl rfl (Nat.le_of_ble_eq_true rfl) (Nat.le_of_ble_eq_true rfl)
        refine mw_inc (ls' := [_, _, _]) 47 (nI (gw_cn (gw_rt w h (gw_UU w h n s)) i + 1)) i_Shade_parts_44 rfl rfl rfl (nI_1 _) rfl ?_
        refine mw_inc (ls' := [_, _, _]) 50 (nI (i + 1)) i_Shade_parts_47 rfl rfl rfl (nI_1 i) rfl ?_
        refine mw_go i_Shade_parts_50 ?_
        obtain ⟨qu3, e2⟩ := e2
        exact ih (f3, _) ⟨gw_fr_tr g1 e1, ⟨st3, qu3, D3, e2, e3, gw_cc_step hd g4 hDi e4⟩, by simp [gw_cn, hrt]⟩
      · have hrt : gw_rt w h (gw_UU w h n s) i = false := gw_rt_f.mpr (fun q => q.2 ((g4 i).mp hDi))
        have hsi : ¬ st i = -1 := fun q => hDi ((gw_sD_none g3 hi).mp q)
        refine mw_ld 13 i_Shade_parts_12 rfl rfl rfl ?_
        refine mw_k 15 i_Shade_parts_13 rfl ?_
        refine mw_ic0 18 i_Shade_parts_15 rfl (nI_ge (b := 100) hi (by decide)) ?_
        refine mw_ld 19 i_Shade_parts_18 rfl rfl rfl ?_
        refine mw_get 22 i_Shade_parts_19 rfl (by repeat (first | exact mj_hs2 | exact mj_hs | assumption | refine mj_hn2 (by omega) ?_ | refine mj_hn (by omega) ?_)) (by rfl) ?_
        refine mw_ld 23 i_Shade_parts_22 rfl rfl rfl ?_
        refine mw_cv1 26 i_Shade_parts_23 rfl (by repeat (first | exact mj_hs2 | exact mj_hs | assumption | refine mj_hn2 (by omega) ?_ | refine mj_hn (by omega) ?_)) (sp_View_isUnseen (σ := (f, σ.2)) hd hRf hUf ?_) rfl rfl (Nat.le_of_ble_eq_true rfl) (Nat.le_of_ble_eq_true rfl)
        rw [eun]
        refine mw_if0 29 i_Shade_parts_26 rfl (mj_bI1.mpr hu) ?_
        refine mw_ld 30 i_Shade_parts_29 rfl rfl rfl ?_
        refine mw_get 33 i_Shade_parts_30 rfl (by repeat (first | exact mj_hs2 | exact mj_hs | assumption | refine mj_hn2 (by omega) ?_ | refine mj_hn (by omega) ?_)) (by rfl) ?_
        refine mw_ld 34 i_Shade_parts_33 rfl rfl rfl ?_
        refine mw_iald 35 i i_Shade_parts_34 rfl (by repeat (first | exact mj_hs2 | exact mj_hs | assumption | refine mj_hn2 (by omega) ?_ | refine mj_hn (by omega) ?_)) rfl hi (by decide) ?_
        refine mw_k 36 i_Shade_parts_35 rfl ?_
        refine mw_ic1 i_Shade_parts_36 hsi ?_
        refine mw_inc (ls' := [_, _, _]) 50 (nI (i + 1)) i_Shade_parts_47 rfl rfl rfl (nI_1 i) rfl ?_
        refine mw_go i_Shade_parts_50 ?_
        exact ih (f, _) ⟨g1, ⟨st, qu, D, g2, g3, gw_cc_same g4 (.inr hDi)⟩, by simp [gw_cn, hrt]⟩
    · have hrt : gw_rt w h (gw_UU w h n s) i = false := gw_rt_f.mpr (fun q => hu q.1)
      have hu2 : gw_UU w h n s i = false := by simpa using hu
      refine mw_ld 13 i_Shade_parts_12 rfl rfl rfl ?_
      refine mw_k 15 i_Shade_parts_13 rfl ?_
      refine mw_ic0 18 i_Shade_parts_15 rfl (nI_ge (b := 100) hi (by decide)) ?_
      refine mw_ld 19 i_Shade_parts_18 rfl rfl rfl ?_
      refine mw_get 22 i_Shade_parts_19 rfl (by repeat (first | exact mj_hs2 | exact mj_hs | assumption | refine mj_hn2 (by omega) ?_ | refine mj_hn (by omega) ?_)) (by rfl) ?_
      refine mw_ld 23 i_Shade_parts_22 rfl rfl rfl ?_
      refine mw_cv1 26 i_Shade_parts_23 rfl (by repeat (first | exact mj_hs2 | exact mj_hs | assumption | refine mj_hn2 (by omega) ?_ | refine mj_hn (by omega) ?_)) (sp_View_isUnseen (σ := (f, σ.2)) hd hRf hUf ?_) rfl rfl (Nat.le_of_ble_eq_true rfl) (Nat.le_of_ble_eq_true rfl)
      rw [eun]
      refine mw_if1 i_Shade_parts_26 (mj_bI0.mpr hu2) ?_
      refine mw_inc (ls' := [_, _, _]) 50 (nI (i + 1)) i_Shade_parts_47 rfl rfl rfl (nI_1 i) rfl ?_
      refine mw_go i_Shade_parts_50 ?_
      exact ih (f, _) ⟨g1, ⟨st, qu, D, g2, g3, gw_cc_same g4 (.inl hu2)⟩, by simp [gw_cn, hrt]⟩
