/-! Shade: ways; hanging together -/
theorem gw_ln_lt {w h : Nat} {D : Nat → Option Nat} {x : Nat} (hd : gw_dim w h) (hx : x < w * h) : gw_ln w h D x < w * h := by
  rw [gw_ln]
  split
  · rename_i i _
    cases hno : gw_no w h x i with
    | none => exact hx
    | some y => exact gw_no_lt hd hx hno
  · exact hx
theorem gw_it_lt {w h : Nat} {D : Nat → Option Nat} {a : Nat} (hd : gw_dim w h) (ha : a < w * h) : ∀ k, gw_it w h D a k < w * h
  | 0 => ha
  | k + 1 => gw_ln_lt hd (gw_it_lt hd ha k)
noncomputable def gw_way (w h n : Nat) (s : Nat → Int32) (a b i : Nat) : Int32 := match gw_di w h (gw_UU w h n s) b a with
  | some L => if i ≤ L then nI (gw_it w h (gw_di w h (gw_UU w h n s) b) a i) else gw_NONE
  | none => gw_NONE
theorem gw_NONE_ne {k : Nat} (hk : k < 2147483648) : ¬ nI k = gw_NONE := by
  intro q
  have q2 := congrArg Int32.toInt q
  rw [mj_nI k hk] at q2
  have : (gw_NONE).toInt = -2000000005 := by decide
  omega
theorem sp_Shade_cellOnWay {X : mj_X} {d : Nat} {σ : mj_H} {Q : Value → mj_H → Prop} {w h n : Nat} {s : Nat → Int32} {st qu : Nat → Int32} (hS : gw_sh σ.1 st qu) {a b I : Nat} (hI : I < 2147483648) (ha : a < w * h) (hb : b < w * h) (hd : gw_dim w h) (hR : gw_rm σ.1 1 w h n s) (hU : gw_vup σ.1 w h n s) (k : ∀ f st2, gw_fr [47, 48] σ.1 f → (∃ qu2, gw_sh f st2 qu2) → Q (.int (gw_way w h n s a b I)) (f, σ.2)) : mj_M X (d + 6) y_Shade_cellOnWay [.ref 46, .int (nI a), .int (nI b), .int (nI I)] σ (mj_V Q) := by
  obtain ⟨z1, z2, z3⟩ := id hS
  have hwh := gw_dim_le hd
  refine mw_in (l0 := [some (.ref 46), some (.int (nI a)), some (.int (nI b)), some (.int (nI I)), none, none, none]) rfl ?_
  cases hq : gw_di w h (gw_UU w h n s) b a with
  | none =>
    have ew : gw_way w h n s a b I = gw_NONE := by rw [gw_way, hq]
    refine mw_ld 1 i_Shade_cellOnWay_0 rfl rfl rfl ?_
    refine mw_ld 2 i_Shade_cellOnWay_1 rfl rfl rfl ?_
    refine mw_ld 3 i_Shade_cellOnWay_2 rfl rfl rfl ?_
    refine mw_cv1 6 i_Shade_cellOnWay_3 rfl (by assumption) (sp_Shade_stepsBetween hS ha hb hd hR hU (fun f st2 g1 g2 g3 => ?_)) rfl rfl (Nat.le_of_ble_eq_true rfl) (Nat.le_of_ble_eq_true rfl)
    refine mw_st (ls' := [_, _, _, _, _, _, _]) 8 i_Shade_cellOnWay_6 rfl rfl rfl rfl ?_
    refine mw_ld 10 i_Shade_cellOnWay_8 rfl rfl rfl ?_
    refine mw_k 12 i_Shade_cellOnWay_10 rfl ?_
    refine mw_ic1 i_Shade_cellOnWay_12 (by rw [hq]; rfl) ?_
    refine mw_k 23 i_Shade_cellOnWay_21 rfl ?_
    refine mw_ri i_Shade_cellOnWay_23 rfl rfl ?_
    rw [ew] at k
    exact k f st2 g1 g2
  | some L =>
    refine mw_ld 1 i_Shade_cellOnWay_0 rfl rfl rfl ?_
    refine mw_ld 2 i_Shade_cellOnWay_1 rfl rfl rfl ?_
    refine mw_ld 3 i_Shade_cellOnWay_2 rfl rfl rfl ?_
    refine mw_cv1 6 i_Shade_cellOnWay_3 rfl (by assumption) (sp_Shade_stepsBetween hS ha hb hd hR hU (fun f st2 g1 g2 g3 => ?_)) rfl rfl (Nat.le_of_ble_eq_true rfl) (Nat.le_of_ble_eq_true rfl)
    refine mw_st (ls' := [_, _, _, _, _, _, _]) 8 i_Shade_cellOnWay_6 rfl rfl rfl rfl ?_
    refine mw_ld 10 i_Shade_cellOnWay_8 rfl rfl rfl ?_
    refine mw_k 12 i_Shade_cellOnWay_10 rfl ?_
    refine mw_ic0 15 i_Shade_cellOnWay_12 rfl (by rw [hq]; exact gw_NONE_ne (by have := g3.2 a L hq; omega)) ?_
    have hL := g3.2 a L hq
    rw [hq]
    dsimp only [gw_oI]
    refine mw_ld 16 i_Shade_cellOnWay_15 rfl rfl rfl ?_
    refine mw_ld 18 i_Shade_cellOnWay_16 rfl rfl rfl ?_
    refine mw_ic 21 i_Shade_cellOnWay_18 rfl (fun h18 => ?_) (fun h18 => ?_)
    · refine mw_ld 25 i_Shade_cellOnWay_24 rfl rfl rfl ?_
      refine mw_st (ls' := [_, _, _, _, _, _, _]) 27 i_Shade_cellOnWay_25 rfl rfl rfl rfl ?_
      have hIL : I ≤ L := (nI_leI (by omega) (by omega)).mp h18
      have ew : gw_way w h n s a b I = nI (gw_it w h (gw_di w h (gw_UU w h n s) b) a I) := by rw [gw_way, hq]; exact if_pos hIL
      refine mw_k 28 i_Shade_cellOnWay_27 rfl ?_
      refine mw_st (ls' := [_, _, _, _, _, _, _]) 30 i_Shade_cellOnWay_28 rfl rfl rfl rfl ?_
      obtain ⟨qu2, g2⟩ := g2
      have hRf := gw_rm_fr g1 (by decide) (by decide) (by decide) (by decide) hR
      have hUf := gw_vup_fr g1 (by decide) (by decide) hU
      obtain ⟨x1, x2, x3⟩ := id g2
      obtain ⟨wt2, ⟨v1, v2⟩, -⟩ := hUf
      refine mj_for (S := Unit) (fun i _ => mj_Wp X (d + 6) y_Shade_cellOnWay 30 [some (.ref 46), some (.int (nI a)), some (.int (nI b)), some (.int (nI I)), some (.int (nI L)), some (.int (nI (gw_it w h (gw_di w h (gw_UU w h n s) b) a i))), some (.int (nI i))] [] (f, σ.2) (mj_V Q)) (fun i _ => True) I ?_ ?_ 0 () (Nat.zero_le _) trivial
      · intro _ _
        refine mw_ld 32 i_Shade_cellOnWay_30 rfl rfl rfl ?_
        refine mw_ld 33 i_Shade_cellOnWay_32 rfl rfl rfl ?_
        refine mw_ic1 i_Shade_cellOnWay_33 (nI_le (Nat.le_refl _) hI) ?_
        refine mw_ld 59 i_Shade_cellOnWay_57 rfl rfl rfl ?_
        refine mw_ri i_Shade_cellOnWay_59 rfl rfl ?_
        rw [← ew]
        exact k f st2 g1 ⟨qu2, g2⟩
      · intro i _ hi _ ih
        refine mw_ld 32 i_Shade_cellOnWay_30 rfl rfl rfl ?_
        refine mw_ld 33 i_Shade_cellOnWay_32 rfl rfl rfl ?_
        refine mw_ic0 36 i_Shade_cellOnWay_33 rfl (nI_ge hi hI) ?_
        refine mw_ld 38 i_Shade_cellOnWay_36 rfl rfl rfl ?_
        refine mw_k 40 i_Shade_cellOnWay_38 rfl ?_
        refine mw_ic0 43 i_Shade_cellOnWay_40 rfl (nI_ge (a := i) (b := 100) (by omega) (by decide)) ?_
        refine mw_ld 44 i_Shade_cellOnWay_43 rfl rfl rfl ?_
        refine mw_ld 46 i_Shade_cellOnWay_44 rfl rfl rfl ?_
        refine mw_cv1 49 i_Shade_cellOnWay_46 rfl (by repeat (first | exact mj_hs2 | exact mj_hs | assumption | refine mj_hn2 (by omega) ?_ | refine mj_hn (by omega) ?_)) (sp_Shade_leastNearer (σ := (f, σ.2)) g2 g3 (gw_it_lt hd ha i) hd hRf ⟨_, v1⟩ ?_) rfl rfl (Nat.le_of_ble_eq_true rfl) (Nat.le_of_ble_eq_true rfl)
        refine mw_st (ls' := [_, _, _, _, _, _, _]) 51 i_Shade_cellOnWay_49 rfl rfl rfl rfl ?_
        refine mw_inc (ls' := [_, _, _, _, _, _, _]) 54 (nI (i + 1)) i_Shade_cellOnWay_51 rfl rfl rfl (nI_1 i) rfl ?_
        refine mw_go i_Shade_cellOnWay_54 ?_
        exact ih () trivial
    · refine mw_k 23 i_Shade_cellOnWay_21 rfl ?_
      refine mw_ri i_Shade_cellOnWay_23 rfl rfl ?_
      have hIL : ¬ I ≤ L := fun q => h18 ((nI_leI (by omega) (by omega)).mpr q)
      have ew : gw_way w h n s a b I = gw_NONE := by rw [gw_way, hq]; exact if_neg hIL
      rw [ew] at k
      exact k f st2 g1 g2
/-! hanging together -/
def gw_cc (w h : Nat) (U : Nat → Bool) (a c : Nat) : Prop := ∃ k, gw_R w h U a k c
theorem gw_no_sym {w h x i y : Nat} (hd : gw_dim w h) (hx : x < w * h) (hn : gw_no w h x i = some y) : ∃ j, j < 4 ∧ gw_no w h y j = some x := by
  have hw1 := hd.1
  have hh1 := hd.2.2.1
  have hdm := Nat.div_add_mod x w
  have hm : x % w < w := Nat.mod_lt _ (by omega)
  have hq : x / w < h := Nat.div_lt_of_lt_mul hx
  have row : ∀ r c, c < w → (w * r + c) / w = r ∧ (w * r + c) % w = c := fun r c hc => ⟨by rw [Nat.mul_add_div (by omega), Nat.div_eq_of_lt hc]; rfl, by rw [Nat.mul_add_mod]; exact Nat.mod_eq_of_lt hc⟩
  obtain ⟨r, er⟩ : ∃ r, r = x / w := ⟨_, rfl⟩
  obtain ⟨c, ec⟩ : ∃ c, c = x % w := ⟨_, rfl⟩
  rw [← er, ← ec] at hdm
  rw [← ec] at hm
  rw [← er] at hq
  match i with
  | 0 =>
    simp only [gw_no] at hn
    rw [← er] at hn
    split at hn
    · rename_i q
      simp only [Option.some.injEq] at hn
      obtain ⟨r2, e2⟩ : ∃ r2, r = r2 + 1 := ⟨r - 1, by omega⟩
      have ey : y = w * r2 + c := by rw [← hn, ← hdm, e2, Nat.mul_succ]; omega
      refine ⟨3, by decide, ?_⟩
      simp only [gw_no]
      rw [ey, (row r2 c hm).1, if_pos (by omega)]
      congr 1
      rw [← hdm, e2, Nat.mul_succ]; omega
    · cases hn
  | 1 =>
    simp only [gw_no] at hn
    rw [← ec] at hn
    split at hn
    · rename_i q
      simp only [Option.some.injEq] at hn
      have ey : y = w * r + (c - 1) := by omega
      refine ⟨2, by decide, ?_⟩
      simp only [gw_no]
      rw [ey, (row r (c - 1) (by omega)).2, if_pos (by omega)]
      congr 1
      omega
    · cases hn
  | 2 =>
    simp only [gw_no] at hn
    rw [← ec] at hn
    split at hn
    · rename_i q
      simp only [Option.some.injEq] at hn
      have ey : y = w * r + (c + 1) := by omega
      refine ⟨1, by decide, ?_⟩
      simp only [gw_no]
      rw [ey, (row r (c + 1) (by omega)).2, if_pos (by omega)]
      congr 1
    · cases hn
  | i + 3 =>
    simp only [gw_no] at hn
    rw [← er] at hn
    split at hn
    · rename_i q
      simp only [Option.some.injEq] at hn
      have ey : y = w * (r + 1) + c := by rw [← hn, ← hdm, Nat.mul_succ]; omega
      refine ⟨0, by decide, ?_⟩
      simp only [gw_no]
      rw [ey, (row (r + 1) c hm).1, if_pos (by omega)]
      congr 1
      rw [← hdm, Nat.mul_succ]; omega
    · cases hn
theorem gw_R_U {w h : Nat} {U : Nat → Bool} {a : Nat} : ∀ {k c : Nat}, gw_R w h U a k c → U c = true
  | 0, c, hr => hr.2
  | k + 1, c, hr => hr.1
theorem gw_R_start {w h : Nat} {U : Nat → Bool} {a : Nat} : ∀ {k c : Nat}, gw_R w h U a k c → U a = true
  | 0, c, hr => by rw [← hr.1]; exact hr.2
  | k + 1, c, hr => by obtain ⟨_, x, i, _, hx, _⟩ := hr; exact gw_R_start hx
/-- one step put ahead -/
theorem gw_R_pre {w h : Nat} {U : Nat → Bool} {a b i : Nat} (hi : i < 4) (ha : U a = true) (hn : gw_no w h a i = some b) : ∀ {k c : Nat}, gw_R w h U b k c → gw_R w h U a (k + 1) c
  | 0, c, hr => by obtain ⟨rfl, hc⟩ := hr; exact ⟨hc, a, i, hi, ⟨rfl, ha⟩, hn⟩
  | k + 1, c, hr => by
    obtain ⟨hc, x, j, hj, hx, hxn⟩ := hr
    exact ⟨hc, x, j, hj, gw_R_pre hi ha hn hx, hxn⟩
theorem gw_R_sym {w h : Nat} {U : Nat → Bool} (hd : gw_dim w h) (hU : ∀ c, U c = true → c < w * h) {a : Nat} : ∀ {k c : Nat}, gw_R w h U a k c → gw_R w h U c k a
  | 0, c, hr => by obtain ⟨rfl, hc⟩ := hr; exact ⟨rfl, hc⟩
  | k + 1, c, hr => by
    obtain ⟨hc, x, i, hi, hx, hn⟩ := hr
    obtain ⟨j, hj, hn2⟩ := gw_no_sym hd (hU x (gw_R_U hx)) hn
    exact gw_R_pre hj hc hn2 (gw_R_sym hd hU hx)
theorem gw_R_tr {w h : Nat} {U : Nat → Bool} {a b k : Nat} (h1 : gw_R w h U a k b) : ∀ {j c : Nat}, gw_R w h U b j c → gw_R w h U a (k + j) c
  | 0, c, hr => by obtain ⟨rfl, hc⟩ := hr; exact h1
  | j + 1, c, hr => by
    obtain ⟨hc, x, i, hi, hx, hn⟩ := hr
    exact ⟨hc, x, i, hi, gw_R_tr h1 hx, hn⟩
theorem gw_R_mono {w h : Nat} {U V : Nat → Bool} (hUV : ∀ c, U c = true → V c = true) {a : Nat} : ∀ {k c : Nat}, gw_R w h U a k c → gw_R w h V a k c
  | 0, c, hr => ⟨hr.1, hUV c hr.2⟩
  | k + 1, c, hr => by
    obtain ⟨hc, x, i, hi, hx, hn⟩ := hr
    exact ⟨hUV c hc, x, i, hi, gw_R_mono hUV hx, hn⟩
theorem gw_di_sym {w h : Nat} {U : Nat → Bool} (hd : gw_dim w h) (hU : ∀ c, U c = true → c < w * h) (a b : Nat) : gw_di w h U a b = gw_di w h U b a := by
  have e : ∀ k, gw_R w h U a k b ↔ gw_R w h U b k a := fun k => ⟨gw_R_sym hd hU, gw_R_sym hd hU⟩
  have e2 : (fun k => gw_R w h U a k b) = (fun k => gw_R w h U b k a) := funext (fun k => propext (e k))
  by_cases hx : ∃ k, gw_R w h U a k b
  · have hy : ∃ k, gw_R w h U b k a := by obtain ⟨k, hk⟩ := hx; exact ⟨k, (e k).mp hk⟩
    rw [gw_di, dif_pos hx, gw_di, dif_pos hy]
    congr 1
    have h1 := Classical.choose_spec (pk_least (fun k => gw_R w h U a k b) hx)
    have h2 := Classical.choose_spec (pk_least (fun k => gw_R w h U b k a) hy)
    apply Classical.byContradiction
    intro q
    rcases Nat.lt_or_gt_of_ne q with q2 | q2
    · exact h2.2 _ q2 ((e _).mp h1.1)
    · exact h1.2 _ q2 ((e _).mpr h2.1)
  · have hy : ¬ ∃ k, gw_R w h U b k a := fun ⟨k, hk⟩ => hx ⟨k, (e k).mpr hk⟩
    rw [gw_di, dif_neg hx, gw_di, dif_neg hy]
