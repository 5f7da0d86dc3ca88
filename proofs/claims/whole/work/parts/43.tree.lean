/-! Proof: the tree -/
/-- a loop of a number -/
def gw_lp {α : Type} (F : Nat → α → α) (a : α) : Nat → α
  | 0 => a
  | k + 1 => F k (gw_lp F a k)
theorem gw_lp_stay {α : Type} {F : Nat → α → α} {a : α} {i : Nat} (hh : ∀ j, F j (gw_lp F a i) = gw_lp F a i) : ∀ j, gw_lp F a (i + j) = gw_lp F a i
  | 0 => rfl
  | j + 1 => by
    show F (i + j) (gw_lp F a (i + j)) = _
    rw [gw_lp_stay hh j]; exact hh _
/-- who sees the least cell that a set doesn't -/
def gw_cs (w h n : Nat) (s : Nat → Int32) (z : Int32) : Int32 := gw_wo w h n s (gw_lu w h n s z)
def gw_tl (w h n : Nat) (s : Nat → Int32) : Nat → Int32 → Nat
  | 0, _ => 1
  | m + 1, z => gw_lp (fun k t => if bt (gw_cs w h n s z) k then t + gw_tl w h n s m (z ||| gw_bit k) else t) 1 14
def gw_rn (w h n : Nat) (s : Nat → Int32) : Nat → Int32 → Nat
  | 0, _ => 1
  | m + 1, z => gw_lp (fun k t => if t ≤ 600 ∧ bt (gw_cs w h n s z) k = true then t + gw_rn w h n s m (z ||| gw_bit k) else t) 1 14
theorem gw_rn_s {w h n : Nat} {s : Nat → Int32} {m : Nat} {z : Int32} : gw_rn w h n s (m + 1) z = gw_lp (fun k t => if t ≤ 600 ∧ bt (gw_cs w h n s z) k = true then t + gw_rn w h n s m (z ||| gw_bit k) else t) 1 14 := by rw [gw_rn]
theorem gw_tl_s {w h n : Nat} {s : Nat → Int32} {m : Nat} {z : Int32} : gw_tl w h n s (m + 1) z = gw_lp (fun k t => if bt (gw_cs w h n s z) k then t + gw_tl w h n s m (z ||| gw_bit k) else t) 1 14 := by rw [gw_tl]
theorem gw_rn_tl {w h n : Nat} {s : Nat → Int32} : ∀ (m : Nat) (z : Int32), (gw_rn w h n s m z ≤ 600 → gw_rn w h n s m z = gw_tl w h n s m z) ∧ (600 < gw_rn w h n s m z → 600 < gw_tl w h n s m z) ∧ gw_rn w h n s m z ≤ 600 * m + 1
  | 0, z => ⟨fun _ => rfl, fun q => absurd q (by simp [gw_rn]), by simp [gw_rn]⟩
  | m + 1, z => by
    have ih := gw_rn_tl (w := w) (h := h) (n := n) (s := s) m
    have key : ∀ k, (gw_lp (fun k t => if t ≤ 600 ∧ bt (gw_cs w h n s z) k = true then t + gw_rn w h n s m (z ||| gw_bit k) else t) 1 k ≤ 600 → gw_lp (fun k t => if t ≤ 600 ∧ bt (gw_cs w h n s z) k = true then t + gw_rn w h n s m (z ||| gw_bit k) else t) 1 k = gw_lp (fun k t => if bt (gw_cs w h n s z) k then t + gw_tl w h n s m (z ||| gw_bit k) else t) 1 k) ∧
        (600 < gw_lp (fun k t => if t ≤ 600 ∧ bt (gw_cs w h n s z) k = true then t + gw_rn w h n s m (z ||| gw_bit k) else t) 1 k → 600 < gw_lp (fun k t => if bt (gw_cs w h n s z) k then t + gw_tl w h n s m (z ||| gw_bit k) else t) 1 k) ∧ gw_lp (fun k t => if t ≤ 600 ∧ bt (gw_cs w h n s z) k = true then t + gw_rn w h n s m (z ||| gw_bit k) else t) 1 k ≤ 600 * (m + 1) + 1 := by
      intro k
      induction k with
      | zero => exact ⟨fun _ => rfl, fun q => q, by simp [gw_lp]⟩
      | succ k IH =>
        obtain ⟨h1, h2, h3⟩ := ih (z ||| gw_bit k)
        obtain ⟨g1, g2, g3⟩ := IH
        simp only [gw_lp]
        generalize gw_lp (fun k t => if t ≤ 600 ∧ bt (gw_cs w h n s z) k = true then t + gw_rn w h n s m (z ||| gw_bit k) else t) 1 k = t at *
        generalize gw_lp (fun k t => if bt (gw_cs w h n s z) k then t + gw_tl w h n s m (z ||| gw_bit k) else t) 1 k = u at *
        generalize gw_rn w h n s m (z ||| gw_bit k) = r at *
        generalize gw_tl w h n s m (z ||| gw_bit k) = l at *
        by_cases hb : bt (gw_cs w h n s z) k = true
        · by_cases ht : t ≤ 600
          · rw [if_pos ⟨ht, hb⟩, if_pos hb]
            have := g1 ht
            exact ⟨fun q => by have := h1 (by omega); omega, fun q => (by
              rcases Nat.lt_or_ge 600 r with y | y
              · have := h2 y; omega
              · have := h1 y; omega), by omega⟩
          · rw [if_neg (fun q => ht q.1), if_pos hb]
            exact ⟨fun q => by omega, fun q => by have := g2 (by omega); omega, by omega⟩
        · rw [if_neg (fun q => hb q.2), if_neg hb]
          exact ⟨g1, g2, g3⟩
    rw [gw_rn_s, gw_tl_s]
    exact key 14
abbrev gw_Row : Type := Int32 × Int32 × Int32 × Int32 × Int32
/-- the tree's rows: cell, row above, comer, way, comers below -/
def gw_g (w h n : Nat) (s : Nat → Int32) : Nat → List gw_Row → Int32 → Int32 → Int32 → List gw_Row
  | 0, P, a, c, z => P ++ [(gw_lu w h n s z, a, c, z, 0)]
  | m + 1, P, a, c, z => gw_lp (fun k P' => if bt (gw_cs w h n s z) k then gw_g w h n s m P' (nI P.length) (nI k) (z ||| gw_bit k) else P') (P ++ [(gw_lu w h n s z, a, c, z, gw_cs w h n s z)]) 14
theorem gw_g_s {w h n : Nat} {s : Nat → Int32} {m : Nat} {P : List gw_Row} {a c z : Int32} : gw_g w h n s (m + 1) P a c z = gw_lp (fun k P' => if bt (gw_cs w h n s z) k then gw_g w h n s m P' (nI P.length) (nI k) (z ||| gw_bit k) else P') (P ++ [(gw_lu w h n s z, a, c, z, gw_cs w h n s z)]) 14 := by rw [gw_g]
theorem gw_g_len {w h n : Nat} {s : Nat → Int32} : ∀ (m : Nat) (P : List gw_Row) (a c z : Int32), (gw_g w h n s m P a c z).length = P.length + gw_tl w h n s m z
  | 0, P, a, c, z => by simp [gw_g, gw_tl]
  | m + 1, P, a, c, z => by
    have ih := gw_g_len (w := w) (h := h) (n := n) (s := s) m
    have key : ∀ k, (gw_lp (fun k P' => if bt (gw_cs w h n s z) k then gw_g w h n s m P' (nI P.length) (nI k) (z ||| gw_bit k) else P') (P ++ [(gw_lu w h n s z, a, c, z, gw_cs w h n s z)]) k).length = P.length + gw_lp (fun k t => if bt (gw_cs w h n s z) k then t + gw_tl w h n s m (z ||| gw_bit k) else t) 1 k := by
      intro k
      induction k with
      | zero => simp [gw_lp]
      | succ k IH =>
        simp only [gw_lp]
        split
        · rw [ih, IH]; omega
        · exact IH
    rw [gw_g_s, gw_tl_s]
    exact key 14
theorem gw_lp_mono {F : Nat → Nat → Nat} {a : Nat} (hF : ∀ k t, t ≤ F k t) : ∀ {i j : Nat}, i ≤ j → gw_lp F a i ≤ gw_lp F a j
  | i, 0, h => by have : i = 0 := by omega
                  subst this; exact Nat.le_refl _
  | i, j + 1, h => by
    rcases Nat.lt_or_ge i (j + 1) with q | q
    · exact Nat.le_trans (gw_lp_mono hF (by omega : i ≤ j)) (hF _ _)
    · have : i = j + 1 := by omega
      subst this; exact Nat.le_refl _
theorem gw_lp_pre {F : Nat → List gw_Row → List gw_Row} {a : List gw_Row} (hF : ∀ k t, t <+: F k t) : ∀ {i j : Nat}, i ≤ j → gw_lp F a i <+: gw_lp F a j
  | i, 0, h => by have : i = 0 := by omega
                  subst this; exact List.prefix_rfl
  | i, j + 1, h => by
    rcases Nat.lt_or_ge i (j + 1) with q | q
    · exact (gw_lp_pre hF (by omega : i ≤ j)).trans (hF _ _)
    · have : i = j + 1 := by omega
      subst this; exact List.prefix_rfl
theorem gw_g_pre {w h n : Nat} {s : Nat → Int32} : ∀ (m : Nat) (P : List gw_Row) (a c z : Int32), P <+: gw_g w h n s m P a c z
  | 0, P, a, c, z => List.prefix_append _ _
  | m + 1, P, a, c, z => by
    have ih := gw_g_pre (w := w) (h := h) (n := n) (s := s) m
    rw [gw_g_s]
    refine (List.prefix_append P [(gw_lu w h n s z, a, c, z, gw_cs w h n s z)]).trans ?_
    exact gw_lp_pre (i := 0) (fun k t => by (try dsimp only); split; exact ih _ _ _ _; exact List.prefix_rfl) (Nat.zero_le 14)
def gw_hl (P : List gw_Row) (ce ab co wy bl : Nat → Int32) : Prop := ∀ j, j < P.length → P[j]? = some (ce j, ab j, co j, wy j, bl j)
theorem gw_hl_snoc {P : List gw_Row} {ce ab co wy bl : Nat → Int32} {r : gw_Row} (hh : gw_hl P ce ab co wy bl) : gw_hl (P ++ [r]) (upd ce P.length r.1) (upd ab P.length r.2.1) (upd co P.length r.2.2.1) (upd wy P.length r.2.2.2.1) (upd bl P.length r.2.2.2.2) := by
  intro j hj
  rw [List.length_append, List.length_singleton] at hj
  rcases Nat.lt_succ_iff_lt_or_eq.mp hj with q | q
  · rw [List.getElem?_append_left q, hh j q, pk_un (by omega), pk_un (by omega), pk_un (by omega), pk_un (by omega), pk_un (by omega)]
  · subst q
    rw [List.getElem?_append_right (Nat.le_refl _), Nat.sub_self, pk_us, pk_us, pk_us, pk_us, pk_us]
    rfl
theorem sp_Proof_rowsNeeded_all {X : mj_X} {w h n : Nat} {s : Nat → Int32} {σ : mj_H} {rows : Nat} {sz : Int32} {ce ab co wy bl : Nat → Int32} (hF : gw_pf σ.1 rows sz ce ab co wy bl) (hd : gw_dim w h) (hR : gw_rm σ.1 1 w h n s) (hU : gw_vup σ.1 w h n s) : ∀ (m : Nat), m ≤ 6 → ∀ {d : Nat} {z : Int32} {Q : Value → mj_H → Prop}, Q (.int (nI (gw_rn w h n s m z))) σ → mj_M X (d + m + 2) y_Proof_rowsNeeded [.ref 49, .int z, .int (nI m)] σ (mj_V Q) := by
  obtain ⟨t1, t2, t3, t4, t5, t6, t7⟩ := id hF
  obtain ⟨wt0, ⟨v1, v2⟩, -⟩ := id hU
  intro m
  induction m with
  | zero =>
    intro _ d z Q k
    refine mw_in (l0 := [some (.ref 49), some (.int z), some (.int (nI 0)), none, none, none]) rfl ?_
    refine mw_ld 1 i_Proof_rowsNeeded_0 rfl rfl rfl ?_
    refine mw_if0 4 i_Proof_rowsNeeded_1 rfl (by decide) ?_
    refine mw_k 5 i_Proof_rowsNeeded_4 rfl ?_
    refine mw_ri i_Proof_rowsNeeded_5 rfl rfl ?_
    exact k
  | succ m ih =>
    intro hm6 d z Q k
    have ih := @ih (by omega)
    refine mw_in (l0 := [some (.ref 49), some (.int z), some (.int (nI (m + 1))), none, none, none]) rfl ?_
    refine mw_ld 1 i_Proof_rowsNeeded_0 rfl rfl rfl ?_
    refine mw_if1 i_Proof_rowsNeeded_1 (by show (0 : Int32) < nI (m + 1); exact nI_lt (a := 0) (by omega) (by omega)) ?_
    refine mw_ld 7 i_Proof_rowsNeeded_6 rfl rfl rfl ?_
    refine mw_get 10 i_Proof_rowsNeeded_7 rfl (by assumption) (by rfl) ?_
    refine mw_ld 11 i_Proof_rowsNeeded_10 rfl rfl rfl ?_
    refine mw_get 14 i_Proof_rowsNeeded_11 rfl (by assumption) (by rfl) ?_
    refine mw_ld 15 i_Proof_rowsNeeded_14 rfl rfl rfl ?_
    refine mw_cv1 18 i_Proof_rowsNeeded_15 rfl (by assumption) (sp_View_leastUnwatched (d := d + m) hd hR hU ?_) rfl rfl (Nat.le_of_ble_eq_true rfl) (Nat.le_of_ble_eq_true rfl)
    refine mw_cv1 21 i_Proof_rowsNeeded_18 rfl (by assumption) (sp_View_watchersOf (d := d + m + 1) hd hR hU ?_) rfl rfl (Nat.le_of_ble_eq_true rfl) (Nat.le_of_ble_eq_true rfl)
    refine mw_st (ls' := [_, _, _, _, _, _]) 22 i_Proof_rowsNeeded_21 rfl rfl rfl rfl ?_
    refine mw_k 23 i_Proof_rowsNeeded_22 rfl ?_
    refine mw_st (ls' := [_, _, _, _, _, _]) 25 i_Proof_rowsNeeded_23 rfl rfl rfl rfl ?_
    refine mw_k 26 i_Proof_rowsNeeded_25 rfl ?_
    refine mw_st (ls' := [_, _, _, _, _, _]) 28 i_Proof_rowsNeeded_26 rfl rfl rfl rfl ?_
    refine mj_for (S := Nat) (fun i t => mj_Wp X (d + (m + 1) + 2) y_Proof_rowsNeeded 28 [some (.ref 49), some (.int z), some (.int (nI (m + 1))), some (.int (gw_cs w h n s z)), some (.int (nI t)), some (.int (nI i))] [] σ (mj_V Q)) (fun i t => t = gw_lp (fun k t => if t ≤ 600 ∧ bt (gw_cs w h n s z) k = true then t + gw_rn w h n s m (z ||| gw_bit k) else t) 1 i) 14 ?_ ?_ 0 1 (Nat.zero_le _) rfl
    · intro t ht
      rw [← gw_rn_s] at ht
      refine mw_ld 30 i_Proof_rowsNeeded_28 rfl rfl rfl ?_
      refine mw_k 32 i_Proof_rowsNeeded_30 rfl ?_
      refine mw_ic1 i_Proof_rowsNeeded_32 (nI_le (a := 14) (b := 14) (by decide) (by decide)) ?_
      refine mw_ld 79 i_Proof_rowsNeeded_77 rfl rfl rfl ?_
      refine mw_ri i_Proof_rowsNeeded_79 rfl rfl ?_
      rw [ht]
      exact k
    · intro i t hi ht ih2
      have hb := (gw_rn_tl (w := w) (h := h) (n := n) (s := s) (m + 1) z).2.2
      rcases Nat.lt_or_ge 600 t with h6 | h6
      · have hst : t = gw_rn w h n s (m + 1) z := by
          have e := gw_lp_stay (F := (fun k t => if t ≤ 600 ∧ bt (gw_cs w h n s z) k = true then t + gw_rn w h n s m (z ||| gw_bit k) else t)) (a := 1) (i := i) (fun j => by rw [← ht]; exact if_neg (fun q => by omega)) (14 - i)
          rw [show i + (14 - i) = 14 by omega] at e
          rw [ht, ← e, ← gw_rn_s]
        refine mw_ld 30 i_Proof_rowsNeeded_28 rfl rfl rfl ?_
        refine mw_k 32 i_Proof_rowsNeeded_30 rfl ?_
        refine mw_ic0 35 i_Proof_rowsNeeded_32 rfl (nI_ge (a := i) (b := 14) (by omega) (by decide)) ?_
        refine mw_ld 37 i_Proof_rowsNeeded_35 rfl rfl rfl ?_
        refine mw_k 40 i_Proof_rowsNeeded_37 rfl ?_
        refine mw_ic1 i_Proof_rowsNeeded_40 (nI_lt (a := 600) h6 (by omega)) ?_
        refine mw_ld 79 i_Proof_rowsNeeded_77 rfl rfl rfl ?_
        refine mw_ri i_Proof_rowsNeeded_79 rfl rfl ?_
        rw [hst]
        exact k
      · skip
        refine mw_ld 30 i_Proof_rowsNeeded_28 rfl rfl rfl ?_
        refine mw_k 32 i_Proof_rowsNeeded_30 rfl ?_
        refine mw_ic0 35 i_Proof_rowsNeeded_32 rfl (nI_ge (a := i) (b := 14) (by omega) (by decide)) ?_
        refine mw_ld 37 i_Proof_rowsNeeded_35 rfl rfl rfl ?_
        refine mw_k 40 i_Proof_rowsNeeded_37 rfl ?_
        refine mw_ic0 43 i_Proof_rowsNeeded_40 rfl (nI_nlt (b := t) (a := 600) h6 (by decide)) ?_
        refine mw_ld 44 i_Proof_rowsNeeded_43 rfl rfl rfl ?_
        refine mw_ld 46 i_Proof_rowsNeeded_44 rfl rfl rfl ?_
        refine mw_b 47 i_Proof_rowsNeeded_46 rfl ?_
        refine mw_k 48 i_Proof_rowsNeeded_47 rfl ?_
        refine mw_b 49 i_Proof_rowsNeeded_48 rfl ?_
        refine mw_k 50 i_Proof_rowsNeeded_49 rfl ?_
        refine mw_ic 53 i_Proof_rowsNeeded_50 rfl (fun h50 => ?_) (fun h50 => ?_)
        · refine mw_inc (ls' := [_, _, _, _, _, _]) 74 (nI (i + 1)) i_Proof_rowsNeeded_71 rfl rfl rfl (nI_1 i) rfl ?_
          refine mw_go i_Proof_rowsNeeded_74 ?_
          first
          | exact ih2 _ (by rw [gw_lp, ← ht, if_neg (fun q => h50 ((gw_tb _ (by omega)).mpr q.2))])
          | exact ih2 _ (by rw [gw_lp, ← ht, if_pos ⟨h6, (gw_tb _ (by omega)).mp (Classical.not_not.mp h50)⟩])
        · refine mw_ld 55 i_Proof_rowsNeeded_53 rfl rfl rfl ?_
          refine mw_ld 56 i_Proof_rowsNeeded_55 rfl rfl rfl ?_
          refine mw_ld 57 i_Proof_rowsNeeded_56 rfl rfl rfl ?_
          refine mw_k 58 i_Proof_rowsNeeded_57 rfl ?_
          refine mw_ld 60 i_Proof_rowsNeeded_58 rfl rfl rfl ?_
          refine mw_b 61 i_Proof_rowsNeeded_60 rfl ?_
          refine mw_b 62 i_Proof_rowsNeeded_61 rfl ?_
          refine mw_ld 63 i_Proof_rowsNeeded_62 rfl rfl rfl ?_
          refine mw_k 64 i_Proof_rowsNeeded_63 rfl ?_
          refine mw_b 65 i_Proof_rowsNeeded_64 rfl ?_
          rw [nI_pred]
          refine mw_cv1 68 i_Proof_rowsNeeded_65 rfl (by assumption) (ih (d := d) (z := z ||| gw_bit i) ?_) rfl rfl (Nat.le_of_ble_eq_true rfl) (Nat.le_of_ble_eq_true rfl)
          refine mw_b 69 i_Proof_rowsNeeded_68 rfl ?_
          rw [nI_add]
          refine mw_st (ls' := [_, _, _, _, _, _]) 71 i_Proof_rowsNeeded_69 rfl rfl rfl rfl ?_
          refine mw_inc (ls' := [_, _, _, _, _, _]) 74 (nI (i + 1)) i_Proof_rowsNeeded_71 rfl rfl rfl (nI_1 i) rfl ?_
          refine mw_go i_Proof_rowsNeeded_74 ?_
          first
          | exact ih2 _ (by rw [gw_lp, ← ht, if_neg (fun q => h50 ((gw_tb _ (by omega)).mpr q.2))])
          | exact ih2 _ (by rw [gw_lp, ← ht, if_pos ⟨h6, (gw_tb _ (by omega)).mp (Classical.not_not.mp h50)⟩])
theorem gw_tl_pos {w h n : Nat} {s : Nat → Int32} {z : Int32} : ∀ m, 1 ≤ gw_tl w h n s m z
  | 0 => Nat.le_refl _
  | m + 1 => by
    rw [gw_tl_s]
    exact gw_lp_mono (i := 0) (j := 14) (fun k t => by (try dsimp only); split <;> omega) (Nat.zero_le _)
theorem sp_Proof_grow_all {X : mj_X} {w h n : Nat} {s : Nat → Int32} {sz : Int32} (hd : gw_dim w h) : ∀ (m : Nat), m ≤ 6 → ∀ {d : Nat} {P : List gw_Row} {a c z : Int32} {ce ab co wy bl : Nat → Int32} {σ : mj_H} {Q : mj_H → Prop}, gw_rm σ.1 1 w h n s → gw_vup σ.1 w h n s → gw_pf σ.1 P.length sz ce ab co wy bl → gw_hl P ce ab co wy bl → P.length + gw_tl w h n s m z ≤ 600 → (∀ f ce ab co wy bl, gw_fr [50, 51, 52, 53, 54, 49] σ.1 f → gw_pf f (gw_g w h n s m P a c z).length sz ce ab co wy bl → gw_hl (gw_g w h n s m P a c z) ce ab co wy bl → Q (f, σ.2)) → mj_M X (d + m + 3) y_Proof_grow [.ref 49, .int a, .int c, .int z, .int (nI m)] σ (mj_U Q) := by
  intro m
  induction m with
  | zero =>
    intro _ d P a c z ce ab co wy bl σ Q hR hU hF hH hb k
    have hp1 := gw_tl_pos (w := w) (h := h) (n := n) (s := s) (z := z) 0
    obtain ⟨t1, t2, t3, t4, t5, t6, t7⟩ := id hF
    obtain ⟨wt0, ⟨v1, v2⟩, -⟩ := id hU
    refine mw_in (l0 := [some (.ref 49), some (.int a), some (.int c), some (.int z), some (.int (nI 0)), none, none, none, none]) rfl ?_
    refine mw_ld 1 i_Proof_grow_0 rfl rfl rfl ?_
    refine mw_get 4 i_Proof_grow_1 rfl (by repeat (first | exact mj_hs2 | exact mj_hs | assumption | refine mj_hn2 (by omega) ?_ | refine mj_hn (by omega) ?_)) (by rfl) ?_
    refine mw_k 7 i_Proof_grow_4 rfl ?_
    refine mw_ic0 10 i_Proof_grow_7 rfl (nI_ge (b := 600) (by omega) (by decide)) ?_
    refine mw_ld 12 i_Proof_grow_10 rfl rfl rfl ?_
    refine mw_if1 i_Proof_grow_12 (nI_pos' (by omega)) ?_
    refine mw_ld 17 i_Proof_grow_16 rfl rfl rfl ?_
    refine mw_get 20 i_Proof_grow_17 rfl (by repeat (first | exact mj_hs2 | exact mj_hs | assumption | refine mj_hn2 (by omega) ?_ | refine mj_hn (by omega) ?_)) (by rfl) ?_
    refine mw_st (ls' := [_, _, _, _, _, _, _, _, _]) 22 i_Proof_grow_20 rfl rfl rfl rfl ?_
    refine mw_ld 23 i_Proof_grow_22 rfl rfl rfl ?_
    refine mw_dup 24 i_Proof_grow_23 rfl rfl ?_
    refine mw_get 27 i_Proof_grow_24 rfl (by repeat (first | exact mj_hs2 | exact mj_hs | assumption | refine mj_hn2 (by omega) ?_ | refine mj_hn (by omega) ?_)) (by rfl) ?_
    refine mw_k 28 i_Proof_grow_27 rfl ?_
    refine mw_b 29 i_Proof_grow_28 rfl ?_
    rw [nI_1]
    refine mw_put (fs' := [_, _, _, _, _, _, _, _]) 32 i_Proof_grow_29 rfl (by repeat (first | exact mj_hs2 | exact mj_hs | assumption | refine mj_hn2 (by omega) ?_ | refine mj_hn (by omega) ?_)) (Nat.le_of_ble_eq_true rfl) rfl rfl (fun _ h => by cases h) (by rfl) ?_
    have hR1 := gw_rm_fr (gw_fr_up (a := 49) (c := mj_O 3 [.ref 4, .ref 50, .ref 51, .ref 52, .ref 53, .ref 54, .int (nI (P.length + 1)), .int sz]) (gw_fr_rf [49] σ.1) (by simp)) (by decide) (by decide) (by decide) (by decide) hR
    have hU1 := gw_vup_fr (gw_fr_up (a := 49) (c := mj_O 3 [.ref 4, .ref 50, .ref 51, .ref 52, .ref 53, .ref 54, .int (nI (P.length + 1)), .int sz]) (gw_fr_rf [49] σ.1) (by simp)) (by decide) (by decide) hU
    refine mw_ld 33 i_Proof_grow_32 rfl rfl rfl ?_
    refine mw_get 36 i_Proof_grow_33 rfl (by repeat (first | exact mj_hs2 | exact mj_hs | assumption | refine mj_hn2 (by omega) ?_ | refine mj_hn (by omega) ?_)) (by rfl) ?_
    refine mw_ld 37 i_Proof_grow_36 rfl rfl rfl ?_
    refine mw_cv1 40 i_Proof_grow_37 rfl (by repeat (first | exact mj_hs2 | exact mj_hs | assumption | refine mj_hn2 (by omega) ?_ | refine mj_hn (by omega) ?_)) (sp_View_leastUnwatched (d := d + 0) (σ := (_, σ.2)) hd hR1 hU1 ?_) rfl rfl (Nat.le_of_ble_eq_true rfl) (Nat.le_of_ble_eq_true rfl)
    refine mw_st (ls' := [_, _, _, _, _, _, _, _, _]) 42 i_Proof_grow_40 rfl rfl rfl rfl ?_
    refine mw_ld 44 i_Proof_grow_42 rfl rfl rfl ?_
    refine mw_if1 i_Proof_grow_44 (by decide) ?_
    refine mw_k 60 i_Proof_grow_59 rfl ?_
    refine mw_st (ls' := [_, _, _, _, _, _, _, _, _]) 62 i_Proof_grow_60 rfl rfl rfl rfl ?_
    refine mw_ld 63 i_Proof_grow_62 rfl rfl rfl ?_
    refine mw_get 66 i_Proof_grow_63 rfl (by repeat (first | exact mj_hs2 | exact mj_hs | assumption | refine mj_hn2 (by omega) ?_ | refine mj_hn (by omega) ?_)) (by rfl) ?_
    refine mw_ld 68 i_Proof_grow_66 rfl rfl rfl ?_
    refine mw_ld 70 i_Proof_grow_68 rfl rfl rfl ?_
    refine mw_iast 71 P.length i_Proof_grow_70 rfl (by repeat (first | exact mj_hs2 | exact mj_hs | assumption | refine mj_hn2 (by omega) ?_ | refine mj_hn (by omega) ?_)) rfl (by omega) (by decide) ?_
    refine mw_ld 72 i_Proof_grow_71 rfl rfl rfl ?_
    refine mw_get 75 i_Proof_grow_72 rfl (by repeat (first | exact mj_hs2 | exact mj_hs | assumption | refine mj_hn2 (by omega) ?_ | refine mj_hn (by omega) ?_)) (by rfl) ?_
    refine mw_ld 77 i_Proof_grow_75 rfl rfl rfl ?_
    refine mw_ld 78 i_Proof_grow_77 rfl rfl rfl ?_
    refine mw_iast 79 P.length i_Proof_grow_78 rfl (by repeat (first | exact mj_hs2 | exact mj_hs | assumption | refine mj_hn2 (by omega) ?_ | refine mj_hn (by omega) ?_)) rfl (by omega) (by decide) ?_
    refine mw_ld 80 i_Proof_grow_79 rfl rfl rfl ?_
    refine mw_get 83 i_Proof_grow_80 rfl (by repeat (first | exact mj_hs2 | exact mj_hs | assumption | refine mj_hn2 (by omega) ?_ | refine mj_hn (by omega) ?_)) (by rfl) ?_
    refine mw_ld 85 i_Proof_grow_83 rfl rfl rfl ?_
    refine mw_ld 86 i_Proof_grow_85 rfl rfl rfl ?_
    refine mw_iast 87 P.length i_Proof_grow_86 rfl (by repeat (first | exact mj_hs2 | exact mj_hs | assumption | refine mj_hn2 (by omega) ?_ | refine mj_hn (by omega) ?_)) rfl (by omega) (by decide) ?_
    refine mw_ld 88 i_Proof_grow_87 rfl rfl rfl ?_
    refine mw_get 91 i_Proof_grow_88 rfl (by repeat (first | exact mj_hs2 | exact mj_hs | assumption | refine mj_hn2 (by omega) ?_ | refine mj_hn (by omega) ?_)) (by rfl) ?_
    refine mw_ld 93 i_Proof_grow_91 rfl rfl rfl ?_
    refine mw_ld 94 i_Proof_grow_93 rfl rfl rfl ?_
    refine mw_iast 95 P.length i_Proof_grow_94 rfl (by repeat (first | exact mj_hs2 | exact mj_hs | assumption | refine mj_hn2 (by omega) ?_ | refine mj_hn (by omega) ?_)) rfl (by omega) (by decide) ?_
    refine mw_ld 96 i_Proof_grow_95 rfl rfl rfl ?_
    refine mw_get 99 i_Proof_grow_96 rfl (by repeat (first | exact mj_hs2 | exact mj_hs | assumption | refine mj_hn2 (by omega) ?_ | refine mj_hn (by omega) ?_)) (by rfl) ?_
    refine mw_ld 101 i_Proof_grow_99 rfl rfl rfl ?_
    refine mw_ld 103 i_Proof_grow_101 rfl rfl rfl ?_
    refine mw_iast 104 P.length i_Proof_grow_103 rfl (by repeat (first | exact mj_hs2 | exact mj_hs | assumption | refine mj_hn2 (by omega) ?_ | refine mj_hn (by omega) ?_)) rfl (by omega) (by decide) ?_
    refine mw_k 105 i_Proof_grow_104 rfl ?_
    refine mw_st (ls' := [_, _, _, _, _, _, _, _, _]) 107 i_Proof_grow_105 rfl rfl rfl rfl ?_
    refine mj_for (S := Unit) (fun i _ => mj_Wp X (d + 0 + 3) y_Proof_grow 107 [some (.ref 49), some (.int a), some (.int c), some (.int z), some (.int (nI 0)), some (.int (nI P.length)), some (.int (gw_lu w h n s z)), some (.int (0)), some (.int (nI i))] [] (_, σ.2) (mj_U Q)) (fun _ _ => True) 14 ?_ ?_ 0 () (Nat.zero_le _) trivial
    · intro _ _
      refine mw_ld 109 i_Proof_grow_107 rfl rfl rfl ?_
      refine mw_k 111 i_Proof_grow_109 rfl ?_
      refine mw_ic1 i_Proof_grow_111 (nI_le (a := 14) (b := 14) (by decide) (by decide)) ?_
      refine mw_rv i_Proof_grow_149 rfl ?_
      exact k _ _ _ _ _ _ (gw_fr_up (gw_fr_up (gw_fr_up (gw_fr_up (gw_fr_up (gw_fr_up (gw_fr_rf _ _) (by simp)) (by simp)) (by simp)) (by simp)) (by simp)) (by simp)) ⟨(by show va_up _ _ _ 49 = mj_O 3 [_, _, _, _, _, _, .int (nI (P ++ [_]).length), _]; rw [List.length_append, List.length_singleton]; repeat (first | exact mj_hs2 | exact mj_hs | assumption | refine mj_hn2 (by omega) ?_ | refine mj_hn (by omega) ?_)), (by repeat (first | exact mj_hs2 | exact mj_hs | assumption | refine mj_hn2 (by omega) ?_ | refine mj_hn (by omega) ?_)), (by repeat (first | exact mj_hs2 | exact mj_hs | assumption | refine mj_hn2 (by omega) ?_ | refine mj_hn (by omega) ?_)), (by repeat (first | exact mj_hs2 | exact mj_hs | assumption | refine mj_hn2 (by omega) ?_ | refine mj_hn (by omega) ?_)), (by repeat (first | exact mj_hs2 | exact mj_hs | assumption | refine mj_hn2 (by omega) ?_ | refine mj_hn (by omega) ?_)), (by repeat (first | exact mj_hs2 | exact mj_hs | assumption | refine mj_hn2 (by omega) ?_ | refine mj_hn (by omega) ?_)), by show (P ++ [_]).length ≤ 600; rw [List.length_append, List.length_singleton]; omega⟩ (gw_hl_snoc (r := (_, _, _, _, _)) hH)
    · intro i _ hi _ ih
      refine mw_ld 109 i_Proof_grow_107 rfl rfl rfl ?_
      refine mw_k 111 i_Proof_grow_109 rfl ?_
      refine mw_ic0 114 i_Proof_grow_111 rfl (nI_ge (a := i) (b := 14) (by omega) (by decide)) ?_
      refine mw_ld 116 i_Proof_grow_114 rfl rfl rfl ?_
      refine mw_ld 118 i_Proof_grow_116 rfl rfl rfl ?_
      refine mw_b 119 i_Proof_grow_118 rfl ?_
      refine mw_k 120 i_Proof_grow_119 rfl ?_
      refine mw_b 121 i_Proof_grow_120 rfl ?_
      refine mw_k 122 i_Proof_grow_121 rfl ?_
      refine mw_ic1 i_Proof_grow_122 (fun q => by have q2 := (gw_tb _ (show i < 32 by omega)).mp q; rw [b_0] at q2; cases q2) ?_
      refine mw_inc (ls' := [_, _, _, _, _, _, _, _, _]) 146 (nI (i + 1)) i_Proof_grow_143 rfl rfl rfl (nI_1 i) rfl ?_
      refine mw_go i_Proof_grow_146 ?_
      exact ih () trivial
  | succ m ih =>
    intro hm6 d P a c z ce ab co wy bl σ Q hR hU hF hH hb k
    have ih := @ih (by omega)
    have hp1 := gw_tl_pos (w := w) (h := h) (n := n) (s := s) (z := z) (m + 1)
    obtain ⟨t1, t2, t3, t4, t5, t6, t7⟩ := id hF
    obtain ⟨wt0, ⟨v1, v2⟩, -⟩ := id hU
    refine mw_in (l0 := [some (.ref 49), some (.int a), some (.int c), some (.int z), some (.int (nI (m + 1))), none, none, none, none]) rfl ?_
    refine mw_ld 1 i_Proof_grow_0 rfl rfl rfl ?_
    refine mw_get 4 i_Proof_grow_1 rfl (by repeat (first | exact mj_hs2 | exact mj_hs | assumption | refine mj_hn2 (by omega) ?_ | refine mj_hn (by omega) ?_)) (by rfl) ?_
    refine mw_k 7 i_Proof_grow_4 rfl ?_
    refine mw_ic0 10 i_Proof_grow_7 rfl (nI_ge (b := 600) (by omega) (by decide)) ?_
    refine mw_ld 12 i_Proof_grow_10 rfl rfl rfl ?_
    refine mw_if1 i_Proof_grow_12 (nI_pos' (by omega)) ?_
    refine mw_ld 17 i_Proof_grow_16 rfl rfl rfl ?_
    refine mw_get 20 i_Proof_grow_17 rfl (by repeat (first | exact mj_hs2 | exact mj_hs | assumption | refine mj_hn2 (by omega) ?_ | refine mj_hn (by omega) ?_)) (by rfl) ?_
    refine mw_st (ls' := [_, _, _, _, _, _, _, _, _]) 22 i_Proof_grow_20 rfl rfl rfl rfl ?_
    refine mw_ld 23 i_Proof_grow_22 rfl rfl rfl ?_
    refine mw_dup 24 i_Proof_grow_23 rfl rfl ?_
    refine mw_get 27 i_Proof_grow_24 rfl (by repeat (first | exact mj_hs2 | exact mj_hs | assumption | refine mj_hn2 (by omega) ?_ | refine mj_hn (by omega) ?_)) (by rfl) ?_
    refine mw_k 28 i_Proof_grow_27 rfl ?_
    refine mw_b 29 i_Proof_grow_28 rfl ?_
    rw [nI_1]
    refine mw_put (fs' := [_, _, _, _, _, _, _, _]) 32 i_Proof_grow_29 rfl (by repeat (first | exact mj_hs2 | exact mj_hs | assumption | refine mj_hn2 (by omega) ?_ | refine mj_hn (by omega) ?_)) (Nat.le_of_ble_eq_true rfl) rfl rfl (fun _ h => by cases h) (by rfl) ?_
    have hR1 := gw_rm_fr (gw_fr_up (a := 49) (c := mj_O 3 [.ref 4, .ref 50, .ref 51, .ref 52, .ref 53, .ref 54, .int (nI (P.length + 1)), .int sz]) (gw_fr_rf [49] σ.1) (by simp)) (by decide) (by decide) (by decide) (by decide) hR
    have hU1 := gw_vup_fr (gw_fr_up (a := 49) (c := mj_O 3 [.ref 4, .ref 50, .ref 51, .ref 52, .ref 53, .ref 54, .int (nI (P.length + 1)), .int sz]) (gw_fr_rf [49] σ.1) (by simp)) (by decide) (by decide) hU
    refine mw_ld 33 i_Proof_grow_32 rfl rfl rfl ?_
    refine mw_get 36 i_Proof_grow_33 rfl (by repeat (first | exact mj_hs2 | exact mj_hs | assumption | refine mj_hn2 (by omega) ?_ | refine mj_hn (by omega) ?_)) (by rfl) ?_
    refine mw_ld 37 i_Proof_grow_36 rfl rfl rfl ?_
    refine mw_cv1 40 i_Proof_grow_37 rfl (by repeat (first | exact mj_hs2 | exact mj_hs | assumption | refine mj_hn2 (by omega) ?_ | refine mj_hn (by omega) ?_)) (sp_View_leastUnwatched (d := d + m + 1) (σ := (_, σ.2)) hd hR1 hU1 ?_) rfl rfl (Nat.le_of_ble_eq_true rfl) (Nat.le_of_ble_eq_true rfl)
    refine mw_st (ls' := [_, _, _, _, _, _, _, _, _]) 42 i_Proof_grow_40 rfl rfl rfl rfl ?_
    refine mw_ld 44 i_Proof_grow_42 rfl rfl rfl ?_
    refine mw_if0 47 i_Proof_grow_44 rfl (nI_nle (by omega) (by omega)) ?_
    refine mw_ld 48 i_Proof_grow_47 rfl rfl rfl ?_
    refine mw_get 51 i_Proof_grow_48 rfl (by repeat (first | exact mj_hs2 | exact mj_hs | assumption | refine mj_hn2 (by omega) ?_ | refine mj_hn (by omega) ?_)) (by rfl) ?_
    refine mw_ld 53 i_Proof_grow_51 rfl rfl rfl ?_
    refine mw_cv1 56 i_Proof_grow_53 rfl (by repeat (first | exact mj_hs2 | exact mj_hs | assumption | refine mj_hn2 (by omega) ?_ | refine mj_hn (by omega) ?_)) (sp_View_watchersOf (d := d + m + 1 + 1) (σ := (_, σ.2)) hd hR1 hU1 ?_) rfl rfl (Nat.le_of_ble_eq_true rfl) (Nat.le_of_ble_eq_true rfl)
    refine mw_go i_Proof_grow_56 ?_
    refine mw_st (ls' := [_, _, _, _, _, _, _, _, _]) 62 i_Proof_grow_60 rfl rfl rfl rfl ?_
    refine mw_ld 63 i_Proof_grow_62 rfl rfl rfl ?_
    refine mw_get 66 i_Proof_grow_63 rfl (by repeat (first | exact mj_hs2 | exact mj_hs | assumption | refine mj_hn2 (by omega) ?_ | refine mj_hn (by omega) ?_)) (by rfl) ?_
    refine mw_ld 68 i_Proof_grow_66 rfl rfl rfl ?_
    refine mw_ld 70 i_Proof_grow_68 rfl rfl rfl ?_
    refine mw_iast 71 P.length i_Proof_grow_70 rfl (by repeat (first | exact mj_hs2 | exact mj_hs | assumption | refine mj_hn2 (by omega) ?_ | refine mj_hn (by omega) ?_)) rfl (by omega) (by decide) ?_
    refine mw_ld 72 i_Proof_grow_71 rfl rfl rfl ?_
    refine mw_get 75 i_Proof_grow_72 rfl (by repeat (first | exact mj_hs2 | exact mj_hs | assumption | refine mj_hn2 (by omega) ?_ | refine mj_hn (by omega) ?_)) (by rfl) ?_
    refine mw_ld 77 i_Proof_grow_75 rfl rfl rfl ?_
    refine mw_ld 78 i_Proof_grow_77 rfl rfl rfl ?_
    refine mw_iast 79 P.length i_Proof_grow_78 rfl (by repeat (first | exact mj_hs2 | exact mj_hs | assumption | refine mj_hn2 (by omega) ?_ | refine mj_hn (by omega) ?_)) rfl (by omega) (by decide) ?_
    refine mw_ld 80 i_Proof_grow_79 rfl rfl rfl ?_
    refine mw_get 83 i_Proof_grow_80 rfl (by repeat (first | exact mj_hs2 | exact mj_hs | assumption | refine mj_hn2 (by omega) ?_ | refine mj_hn (by omega) ?_)) (by rfl) ?_
    refine mw_ld 85 i_Proof_grow_83 rfl rfl rfl ?_
    refine mw_ld 86 i_Proof_grow_85 rfl rfl rfl ?_
    refine mw_iast 87 P.length i_Proof_grow_86 rfl (by repeat (first | exact mj_hs2 | exact mj_hs | assumption | refine mj_hn2 (by omega) ?_ | refine mj_hn (by omega) ?_)) rfl (by omega) (by decide) ?_
    refine mw_ld 88 i_Proof_grow_87 rfl rfl rfl ?_
    refine mw_get 91 i_Proof_grow_88 rfl (by repeat (first | exact mj_hs2 | exact mj_hs | assumption | refine mj_hn2 (by omega) ?_ | refine mj_hn (by omega) ?_)) (by rfl) ?_
    refine mw_ld 93 i_Proof_grow_91 rfl rfl rfl ?_
    refine mw_ld 94 i_Proof_grow_93 rfl rfl rfl ?_
    refine mw_iast 95 P.length i_Proof_grow_94 rfl (by repeat (first | exact mj_hs2 | exact mj_hs | assumption | refine mj_hn2 (by omega) ?_ | refine mj_hn (by omega) ?_)) rfl (by omega) (by decide) ?_
    refine mw_ld 96 i_Proof_grow_95 rfl rfl rfl ?_
    refine mw_get 99 i_Proof_grow_96 rfl (by repeat (first | exact mj_hs2 | exact mj_hs | assumption | refine mj_hn2 (by omega) ?_ | refine mj_hn (by omega) ?_)) (by rfl) ?_
    refine mw_ld 101 i_Proof_grow_99 rfl rfl rfl ?_
    refine mw_ld 103 i_Proof_grow_101 rfl rfl rfl ?_
    refine mw_iast 104 P.length i_Proof_grow_103 rfl (by repeat (first | exact mj_hs2 | exact mj_hs | assumption | refine mj_hn2 (by omega) ?_ | refine mj_hn (by omega) ?_)) rfl (by omega) (by decide) ?_
    refine mw_k 105 i_Proof_grow_104 rfl ?_
    refine mw_st (ls' := [_, _, _, _, _, _, _, _, _]) 107 i_Proof_grow_105 rfl rfl rfl rfl ?_
    refine mj_for (S := (Nat → mj_C) × (Nat → Int32) × (Nat → Int32) × (Nat → Int32) × (Nat → Int32) × (Nat → Int32)) (fun i (⟨f, _⟩ : _) => mj_Wp X (d + (m + 1) + 3) y_Proof_grow 107 [some (.ref 49), some (.int a), some (.int c), some (.int z), some (.int (nI (m + 1))), some (.int (nI P.length)), some (.int (gw_lu w h n s z)), some (.int (gw_cs w h n s z)), some (.int (nI i))] [] (f, σ.2) (mj_U Q)) (fun i (⟨f, ce, ab, co, wy, bl⟩ : _) => gw_fr [50, 51, 52, 53, 54, 49] σ.1 f ∧ gw_pf f (gw_lp (fun k P' => if bt (gw_cs w h n s z) k then gw_g w h n s m P' (nI P.length) (nI k) (z ||| gw_bit k) else P') (P ++ [(gw_lu w h n s z, a, c, z, gw_cs w h n s z)]) i).length sz ce ab co wy bl ∧ gw_hl (gw_lp (fun k P' => if bt (gw_cs w h n s z) k then gw_g w h n s m P' (nI P.length) (nI k) (z ||| gw_bit k) else P') (P ++ [(gw_lu w h n s z, a, c, z, gw_cs w h n s z)]) i) ce ab co wy bl) 14 ?_ ?_ 0 (_, _, _, _, _, _) (Nat.zero_le _) ⟨gw_fr_up (gw_fr_up (gw_fr_up (gw_fr_up (gw_fr_up (gw_fr_up (gw_fr_rf _ _) (by simp)) (by simp)) (by simp)) (by simp)) (by simp)) (by simp), ⟨(by show va_up _ _ _ 49 = mj_O 3 [_, _, _, _, _, _, .int (nI (P ++ [_]).length), _]; rw [List.length_append, List.length_singleton]; repeat (first | exact mj_hs2 | exact mj_hs | assumption | refine mj_hn2 (by omega) ?_ | refine mj_hn (by omega) ?_)), (by repeat (first | exact mj_hs2 | exact mj_hs | assumption | refine mj_hn2 (by omega) ?_ | refine mj_hn (by omega) ?_)), (by repeat (first | exact mj_hs2 | exact mj_hs | assumption | refine mj_hn2 (by omega) ?_ | refine mj_hn (by omega) ?_)), (by repeat (first | exact mj_hs2 | exact mj_hs | assumption | refine mj_hn2 (by omega) ?_ | refine mj_hn (by omega) ?_)), (by repeat (first | exact mj_hs2 | exact mj_hs | assumption | refine mj_hn2 (by omega) ?_ | refine mj_hn (by omega) ?_)), (by repeat (first | exact mj_hs2 | exact mj_hs | assumption | refine mj_hn2 (by omega) ?_ | refine mj_hn (by omega) ?_)), by show (P ++ [_]).length ≤ 600; rw [List.length_append, List.length_singleton]; omega⟩, gw_hl_snoc (r := (_, _, _, _, _)) hH⟩
    · rintro ⟨f, ce, ab, co, wy, bl⟩ ⟨g1, g2, g3⟩
      dsimp only
      refine mw_ld 109 i_Proof_grow_107 rfl rfl rfl ?_
      refine mw_k 111 i_Proof_grow_109 rfl ?_
      refine mw_ic1 i_Proof_grow_111 (nI_le (a := 14) (b := 14) (by decide) (by decide)) ?_
      refine mw_rv i_Proof_grow_149 rfl ?_
      rw [gw_g_s] at k
      exact k f ce ab co wy bl g1 g2 g3
    · rintro i ⟨f, ce, ab, co, wy, bl⟩ hi ⟨g1, g2, g3⟩ ih2
      dsimp only
      have hRf := gw_rm_fr g1 (by decide) (by decide) (by decide) (by decide) hR
      have hUf := gw_vup_fr g1 (by decide) (by decide) hU
      obtain ⟨x1, x2, x3, x4, x5, x6, x7⟩ := id g2
      have htot : (gw_lp (fun k P' => if bt (gw_cs w h n s z) k then gw_g w h n s m P' (nI P.length) (nI k) (z ||| gw_bit k) else P') (P ++ [(gw_lu w h n s z, a, c, z, gw_cs w h n s z)]) (i + 1)).length ≤ 600 := by
        have e := gw_g_len (w := w) (h := h) (n := n) (s := s) (m + 1) P a c z
        have e2 : gw_lp (fun k P' => if bt (gw_cs w h n s z) k then gw_g w h n s m P' (nI P.length) (nI k) (z ||| gw_bit k) else P') (P ++ [(gw_lu w h n s z, a, c, z, gw_cs w h n s z)]) (i + 1) <+: gw_g w h n s (m + 1) P a c z := by rw [gw_g_s]; exact gw_lp_pre (fun k t => by (try dsimp only); split; exact gw_g_pre _ _ _ _ _; exact List.prefix_rfl) (by omega)
        have e3 := e2.length_le
        omega
      refine mw_ld 109 i_Proof_grow_107 rfl rfl rfl ?_
      refine mw_k 111 i_Proof_grow_109 rfl ?_
      refine mw_ic0 114 i_Proof_grow_111 rfl (nI_ge (a := i) (b := 14) (by omega) (by decide)) ?_
      refine mw_ld 116 i_Proof_grow_114 rfl rfl rfl ?_
      refine mw_ld 118 i_Proof_grow_116 rfl rfl rfl ?_
      refine mw_b 119 i_Proof_grow_118 rfl ?_
      refine mw_k 120 i_Proof_grow_119 rfl ?_
      refine mw_b 121 i_Proof_grow_120 rfl ?_
      refine mw_k 122 i_Proof_grow_121 rfl ?_
      refine mw_ic 125 i_Proof_grow_122 rfl (fun h122 => ?_) (fun h122 => ?_)
      · refine mw_inc (ls' := [_, _, _, _, _, _, _, _, _]) 146 (nI (i + 1)) i_Proof_grow_143 rfl rfl rfl (nI_1 i) rfl ?_
        refine mw_go i_Proof_grow_146 ?_
        first
        | (refine ih2 (f, ce, ab, co, wy, bl) ⟨g1, ?_, ?_⟩
           · rw [gw_lp]; (try dsimp only); rw [if_neg (fun q => h122 ((gw_tb _ (by omega)).mpr q))]; exact g2
           · rw [gw_lp]; (try dsimp only); rw [if_neg (fun q => h122 ((gw_tb _ (by omega)).mpr q))]; exact g3)
        | (refine ih2 (f3, ce3, ab3, co3, wy3, bl3) ⟨gw_fr_tr g1 y1, ?_, ?_⟩
           · rw [estep]; exact y2
           · rw [estep]; exact y3)
      · have hbit := (gw_tb _ (show i < 32 by omega)).mp (Classical.not_not.mp h122)
        have estep : gw_lp (fun k P' => if bt (gw_cs w h n s z) k then gw_g w h n s m P' (nI P.length) (nI k) (z ||| gw_bit k) else P') (P ++ [(gw_lu w h n s z, a, c, z, gw_cs w h n s z)]) (i + 1) = gw_g w h n s m (gw_lp (fun k P' => if bt (gw_cs w h n s z) k then gw_g w h n s m P' (nI P.length) (nI k) (z ||| gw_bit k) else P') (P ++ [(gw_lu w h n s z, a, c, z, gw_cs w h n s z)]) i) (nI P.length) (nI i) (z ||| gw_bit i) := by rw [gw_lp]; (try dsimp only); rw [if_pos hbit]
        rw [estep, gw_g_len] at htot
        refine mw_ld 126 i_Proof_grow_125 rfl rfl rfl ?_
        refine mw_ld 128 i_Proof_grow_126 rfl rfl rfl ?_
        refine mw_ld 130 i_Proof_grow_128 rfl rfl rfl ?_
        refine mw_ld 131 i_Proof_grow_130 rfl rfl rfl ?_
        refine mw_k 132 i_Proof_grow_131 rfl ?_
        refine mw_ld 134 i_Proof_grow_132 rfl rfl rfl ?_
        refine mw_b 135 i_Proof_grow_134 rfl ?_
        refine mw_b 136 i_Proof_grow_135 rfl ?_
        refine mw_ld 138 i_Proof_grow_136 rfl rfl rfl ?_
        refine mw_k 139 i_Proof_grow_138 rfl ?_
        refine mw_b 140 i_Proof_grow_139 rfl ?_
        rw [nI_pred]
        refine mw_cv0 143 i_Proof_grow_140 rfl (by assumption) (ih (d := d) (σ := (f, σ.2)) (a := nI P.length) (c := nI i) (z := z ||| gw_bit i) hRf hUf g2 g3 htot (fun f3 ce3 ab3 co3 wy3 bl3 y1 y2 y3 => ?_)) rfl rfl (Nat.le_of_ble_eq_true rfl) (Nat.le_of_ble_eq_true rfl)
        refine mw_inc (ls' := [_, _, _, _, _, _, _, _, _]) 146 (nI (i + 1)) i_Proof_grow_143 rfl rfl rfl (nI_1 i) rfl ?_
        refine mw_go i_Proof_grow_146 ?_
        first
        | (refine ih2 (f, ce, ab, co, wy, bl) ⟨g1, ?_, ?_⟩
           · rw [gw_lp]; (try dsimp only); rw [if_neg (fun q => h122 ((gw_tb _ (by omega)).mpr q))]; exact g2
           · rw [gw_lp]; (try dsimp only); rw [if_neg (fun q => h122 ((gw_tb _ (by omega)).mpr q))]; exact g3)
        | (refine ih2 (f3, ce3, ab3, co3, wy3, bl3) ⟨gw_fr_tr g1 y1, ?_, ?_⟩
           · rw [estep]; exact y2
           · rw [estep]; exact y3)
