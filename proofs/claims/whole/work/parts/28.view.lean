/-! View -/
/-! what a post sees, who watches -/
def gw_see (w h : Nat) (s : Nat → Int32) (k c : Nat) : Bool := gw_let s k (nI (c % w) - nI ((s (101 + k)).toNatClampNeg % w)) (nI (c / w) - nI ((s (101 + k)).toNatClampNeg / w)) && gw_si w h s (s (101 + k)).toNatClampNeg c
def gw_bit (k : Nat) : Int32 := (1 : Int32) <<< (nI k &&& 31)
def gw_fm (p : Nat → Bool) : Nat → Int32
  | 0 => 0
  | k + 1 => if p k then gw_fm p k ||| gw_bit k else gw_fm p k
theorem gw_fm_cg {p q : Nat → Bool} : ∀ {n : Nat}, (∀ k, k < n → p k = q k) → gw_fm p n = gw_fm q n
  | 0, _ => rfl
  | n + 1, h => by simp only [gw_fm]; rw [gw_fm_cg (fun k hk => h k (by omega)), h n (by omega)]
theorem gw_fm_cut {p q : Nat → Bool} {m : Nat} (h1 : ∀ k, k < m → p k = q k) (h2 : ∀ k, m ≤ k → p k = false) : ∀ N, m ≤ N → gw_fm p N = gw_fm q m
  | 0, h => by
    have : m = 0 := by omega
    subst this; rfl
  | N + 1, h => by
    rcases Nat.lt_or_ge m (N + 1) with q1 | q1
    · simp only [gw_fm]
      rw [gw_fm_cut h1 h2 N (by omega), h2 N (by omega)]
      simp
    · have : m = N + 1 := by omega
      subst this
      exact gw_fm_cg h1
def gw_wt (w h n : Nat) (s : Nat → Int32) (c : Nat) : Int32 := gw_fm (fun k => gw_see w h s k c) n
theorem gw_fm_0 {p : Nat → Bool} : ∀ {n : Nat}, (∀ k, k < n → p k = false) → gw_fm p n = 0
  | 0, _ => rfl
  | n + 1, h => by simp only [gw_fm]; rw [gw_fm_0 (fun k hk => h k (by omega)), h n (by omega)]; rfl
theorem gw_wt_wall {w h n : Nat} {s : Nat → Int32} {c : Nat} (hc : ¬ s c = 0) : gw_wt w h n s c = 0 := by
  refine gw_fm_0 (fun k _ => ?_)
  simp [gw_see, gw_si, hc]
/-- the View's cells: 4, 5; it looks at the Room at 1 -/
def gw_vw (f : Nat → mj_C) (u : Int32) (wt : Nat → Int32) : Prop := f 4 = mj_O 6 [.ref 1, .ref 5, .int u] ∧ f 5 = mj_AI 100 wt
def gw_vup (f : Nat → mj_C) (w h n : Nat) (s : Nat → Int32) : Prop := ∃ wt, gw_vw f 1 wt ∧ ∀ c, c < w * h → wt c = gw_wt w h n s c
def gw_vok (f : Nat → mj_C) (w h n : Nat) (s : Nat → Int32) : Prop := gw_vup f w h n s ∨ ∃ wt, gw_vw f 0 wt
/-- nothing but the cells of a list has changed -/
def gw_fr (L : List Nat) (f f' : Nat → mj_C) : Prop := ∀ a, a ∉ L → f' a = f a
theorem gw_fr_rf (L : List Nat) (f : Nat → mj_C) : gw_fr L f f := fun _ _ => rfl
theorem gw_fr_up {L : List Nat} {f f' : Nat → mj_C} {a : Nat} {c : mj_C} (h : gw_fr L f f') (ha : a ∈ L) : gw_fr L f (va_up f' a c) := fun q hq => by
  have hne : q ≠ a := fun e => hq (e ▸ ha)
  rw [va_up_ne _ _ hne]; exact h q hq
theorem gw_fr_tr {L : List Nat} {f f' f'' : Nat → mj_C} (h : gw_fr L f f') (h2 : gw_fr L f' f'') : gw_fr L f f'' := fun q hq => (h2 q hq).trans (h q hq)
theorem gw_fr_sub {L L' : List Nat} {f f' : Nat → mj_C} (h : gw_fr L f f') (hs : ∀ a ∈ L, a ∈ L') : gw_fr L' f f' := fun q hq => h q (fun z => hq (hs q z))
theorem gw_ps_fr {L : List Nat} {f f' : Nat → mj_C} {s : Nat → Int32} {n : Nat} {ps : Nat → Option Nat} (h : gw_fr L f f') (hL : ∀ a ∈ L, a < 71) (hp : gw_ps f s n ps) : gw_ps f' s n ps := by
  intro k hk
  refine ⟨fun hkn => ?_, (hp k hk).2⟩
  obtain ⟨p, h0, h1, h2⟩ := (hp k hk).1 hkn
  exact ⟨p, h0, h1, by rw [h p (fun q => by have := hL p q; omega)]; exact h2⟩
theorem gw_rm_fr {L : List Nat} {f f' : Nat → mj_C} {r w h n : Nat} {s : Nat → Int32} (hf : gw_fr L f f') (hL : ∀ a ∈ L, a < 71) (h1 : r ∉ L) (h2 : r + 1 ∉ L) (h3 : r + 2 ∉ L) (hR : gw_rm f r w h n s) : gw_rm f' r w h n s := by
  obtain ⟨wl, ps, c1, c2, c3, c4, c5⟩ := hR
  exact ⟨wl, ps, by rw [hf _ h1]; exact c1, by rw [hf _ h2]; exact c2, by rw [hf _ h3]; exact c3, c4, gw_ps_fr hf hL c5⟩
theorem sp_View_isSeenFrom {X : mj_X} {d : Nat} {σ : mj_H} {Q : Value → mj_H → Prop} {w h n : Nat} {s : Nat → Int32} {u : Int32} {wt : Nat → Int32} {p i c : Nat} (hc : c < w * h) (hv : gw_vp w h n s) (hi : i < n) (hd : gw_dim w h) (hR : gw_rm σ.1 1 w h n s) (hV : gw_vw σ.1 u wt) (hp : σ.1 p = mj_O 2 (gw_po s i)) (k : Q (.int (mj_bI (gw_see w h s i c))) σ) : mj_M X (d + 3) y_View_isSeenFrom [.ref 4, .ref p, .int (nI c)] σ (mj_V Q) := by
  obtain ⟨wl, ps, c1, c2, c3, c4, c5⟩ := id hR
  obtain ⟨v1, v2⟩ := hV
  have hwh := gw_dim_le hd
  obtain ⟨⟨b, hb, eb⟩, -⟩ := hv i hi
  have ebc : (s (101 + i)).toNatClampNeg = b := by rw [eb]; exact nI_clamp (by omega)
  rw [gw_see, ebc] at k
  refine mw_in (l0 := [some (.ref 4), some (.ref p), some (.int (nI c)), none, none]) rfl ?_
  refine mw_ld 1 i_View_isSeenFrom_0 rfl rfl rfl ?_
  refine mw_get 4 i_View_isSeenFrom_1 rfl (by assumption) (by rfl) ?_
  refine mw_ld 5 i_View_isSeenFrom_4 rfl rfl rfl ?_
  refine mw_cv1 8 i_View_isSeenFrom_5 rfl (by assumption) (sp_Room_columnOf (by omega) hd hR ?_) rfl rfl (Nat.le_of_ble_eq_true rfl) (Nat.le_of_ble_eq_true rfl)
  refine mw_ld 9 i_View_isSeenFrom_8 rfl rfl rfl ?_
  refine mw_get 12 i_View_isSeenFrom_9 rfl (by assumption) (by rfl) ?_
  refine mw_ld 13 i_View_isSeenFrom_12 rfl rfl rfl ?_
  refine mw_get 16 i_View_isSeenFrom_13 rfl hp (by rfl) ?_
  rw [eb]
  refine mw_cv1 19 i_View_isSeenFrom_16 rfl (by assumption) (sp_Room_columnOf (by omega) hd hR ?_) rfl rfl (Nat.le_of_ble_eq_true rfl) (Nat.le_of_ble_eq_true rfl)
  refine mw_b 20 i_View_isSeenFrom_19 rfl ?_
  refine mw_st (ls' := [_, _, _, _, _]) 21 i_View_isSeenFrom_20 rfl rfl rfl rfl ?_
  refine mw_ld 22 i_View_isSeenFrom_21 rfl rfl rfl ?_
  refine mw_get 25 i_View_isSeenFrom_22 rfl (by assumption) (by rfl) ?_
  refine mw_ld 26 i_View_isSeenFrom_25 rfl rfl rfl ?_
  refine mw_cv1 29 i_View_isSeenFrom_26 rfl (by assumption) (sp_Room_rowOf (by omega) hd hR ?_) rfl rfl (Nat.le_of_ble_eq_true rfl) (Nat.le_of_ble_eq_true rfl)
  refine mw_ld 30 i_View_isSeenFrom_29 rfl rfl rfl ?_
  refine mw_get 33 i_View_isSeenFrom_30 rfl (by assumption) (by rfl) ?_
  refine mw_ld 34 i_View_isSeenFrom_33 rfl rfl rfl ?_
  refine mw_get 37 i_View_isSeenFrom_34 rfl hp (by rfl) ?_
  rw [eb]
  refine mw_cv1 40 i_View_isSeenFrom_37 rfl (by assumption) (sp_Room_rowOf (by omega) hd hR ?_) rfl rfl (Nat.le_of_ble_eq_true rfl) (Nat.le_of_ble_eq_true rfl)
  refine mw_b 41 i_View_isSeenFrom_40 rfl ?_
  refine mw_st (ls' := [_, _, _, _, _]) 43 i_View_isSeenFrom_41 rfl rfl rfl rfl ?_
  refine mw_ld 44 i_View_isSeenFrom_43 rfl rfl rfl ?_
  refine mw_ld 45 i_View_isSeenFrom_44 rfl rfl rfl ?_
  refine mw_ld 47 i_View_isSeenFrom_45 rfl rfl rfl ?_
  refine mw_cv1 50 i_View_isSeenFrom_47 rfl (by assumption) (sp_Post_lets hp hv hi ?_) rfl rfl (Nat.le_of_ble_eq_true rfl) (Nat.le_of_ble_eq_true rfl)
  refine mw_if 53 i_View_isSeenFrom_50 rfl (fun h50 => ?_) (fun h50 => ?_)
  · refine mw_k 73 i_View_isSeenFrom_72 rfl ?_
    refine mw_ri i_View_isSeenFrom_73 rfl rfl ?_
    try simp only [Classical.not_not, mj_bI0, mj_bI1] at *
    first
    | exact mj_q0 (by simp [*]) k
    | exact mj_q1 (by simp [*]) k
  · refine mw_ld 54 i_View_isSeenFrom_53 rfl rfl rfl ?_
    refine mw_get 57 i_View_isSeenFrom_54 rfl (by assumption) (by rfl) ?_
    refine mw_ld 58 i_View_isSeenFrom_57 rfl rfl rfl ?_
    refine mw_get 61 i_View_isSeenFrom_58 rfl hp (by rfl) ?_
    rw [eb]
    refine mw_ld 62 i_View_isSeenFrom_61 rfl rfl rfl ?_
    refine mw_cv1 65 i_View_isSeenFrom_62 rfl (by assumption) (sp_Room_inSight (by assumption) (by assumption) hd hR ?_) rfl rfl (Nat.le_of_ble_eq_true rfl) (Nat.le_of_ble_eq_true rfl)
    refine mw_if 68 i_View_isSeenFrom_65 rfl (fun h65 => ?_) (fun h65 => ?_)
    · refine mw_k 73 i_View_isSeenFrom_72 rfl ?_
      refine mw_ri i_View_isSeenFrom_73 rfl rfl ?_
      try simp only [Classical.not_not, mj_bI0, mj_bI1] at *
      first
      | exact mj_q0 (by simp [*]) k
      | exact mj_q1 (by simp [*]) k
    · refine mw_k 69 i_View_isSeenFrom_68 rfl ?_
      refine mw_go i_View_isSeenFrom_69 ?_
      refine mw_ri i_View_isSeenFrom_73 rfl rfl ?_
      try simp only [Classical.not_not, mj_bI0, mj_bI1] at *
      first
      | exact mj_q0 (by simp [*]) k
      | exact mj_q1 (by simp [*]) k
theorem sp_View_lookedUp {X : mj_X} {d : Nat} {σ : mj_H} {Q : Value → mj_H → Prop} {w h n : Nat} {s : Nat → Int32} {u : Int32} {wt : Nat → Int32} {c : Nat} (hn : n ≤ 14) (hc : c < w * h) (hv : gw_vp w h n s) (hd : gw_dim w h) (hR : gw_rm σ.1 1 w h n s) (hV : gw_vw σ.1 u wt) (k : Q (.int (gw_wt w h n s c)) σ) : mj_M X (d + 4) y_View_lookedUp [.ref 4, .int (nI c)] σ (mj_V Q) := by
  obtain ⟨wl, ps, c1, c2, c3, c4, c5⟩ := id hR
  obtain ⟨v1, v2⟩ := id hV
  refine mw_in (l0 := [some (.ref 4), some (.int (nI c)), none, none, none]) rfl ?_
  refine mw_k 1 i_View_lookedUp_0 rfl ?_
  refine mw_st (ls' := [_, _, _, _, _]) 2 i_View_lookedUp_1 rfl rfl rfl rfl ?_
  refine mw_k 3 i_View_lookedUp_2 rfl ?_
  refine mw_st (ls' := [_, _, _, _, _]) 4 i_View_lookedUp_3 rfl rfl rfl rfl ?_
  refine mj_for (S := Int32 × Option Value) (fun i z => mj_Wp X (d + 4) y_View_lookedUp 4 [some (.ref 4), some (.int (nI c)), some (.int z.1), some (.int (nI i)), z.2] [] σ (mj_V Q)) (fun i z => z.1 = gw_fm (fun k => decide (k < n) && gw_see w h s k c) i) 14 ?_ ?_ 0 (0, none) (Nat.zero_le _) rfl
  · rintro ⟨z, z2⟩ hz
    have hz : z = gw_fm (fun k => decide (k < n) && gw_see w h s k c) 14 := hz
    subst hz
    refine mw_ld 5 i_View_lookedUp_4 rfl rfl rfl ?_
    refine mw_k 7 i_View_lookedUp_5 rfl ?_
    refine mw_ic1 i_View_lookedUp_7 (by decide) ?_
    refine mw_ld 48 i_View_lookedUp_47 rfl rfl rfl ?_
    refine mw_ri i_View_lookedUp_48 rfl rfl ?_
    rw [gw_wt, ← gw_fm_cut (p := fun k => decide (k < n) && gw_see w h s k c) (N := 14) (fun q hq => by simp [hq]) (fun q hq => by simp; omega) hn] at k
    exact k
  · rintro i ⟨z, z2⟩ hi hz ih
    have hz : z = gw_fm (fun k => decide (k < n) && gw_see w h s k c) i := hz
    subst hz
    dsimp only
    rcases Nat.lt_or_ge i n with hin | hin
    · refine mw_ld 5 i_View_lookedUp_4 rfl rfl rfl ?_
      refine mw_k 7 i_View_lookedUp_5 rfl ?_
      refine mw_ic0 10 i_View_lookedUp_7 rfl (nI_ge (b := 14) hi (by decide)) ?_
      refine mw_ld 11 i_View_lookedUp_10 rfl rfl rfl ?_
      refine mw_get 14 i_View_lookedUp_11 rfl (by assumption) (by rfl) ?_
      refine mw_ld 15 i_View_lookedUp_14 rfl rfl rfl ?_
      refine mw_cv1 18 i_View_lookedUp_15 rfl (by assumption) (sp_Room_postAt_in hn hR hin (fun p hp0 hp => ?_)) rfl rfl (Nat.le_of_ble_eq_true rfl) (Nat.le_of_ble_eq_true rfl)
      refine mw_st (ls' := [_, _, _, _, _]) 20 i_View_lookedUp_18 rfl rfl rfl rfl ?_
      refine mw_ld 22 i_View_lookedUp_20 rfl rfl rfl ?_
      refine mw_nuF 25 i_View_lookedUp_22 rfl ?_
      refine mw_ld 26 i_View_lookedUp_25 rfl rfl rfl ?_
      refine mw_ld 28 i_View_lookedUp_26 rfl rfl rfl ?_
      refine mw_ld 29 i_View_lookedUp_28 rfl rfl rfl ?_
      refine mw_cv1 32 i_View_lookedUp_29 rfl (by assumption) (sp_View_isSeenFrom (by assumption) hv hin hd hR hV hp ?_) rfl rfl (Nat.le_of_ble_eq_true rfl) (Nat.le_of_ble_eq_true rfl)
      refine mw_if 35 i_View_lookedUp_32 rfl (fun h32 => ?_) (fun h32 => ?_)
      · refine mw_inc (ls' := [_, _, _, _, _]) 44 (nI (i + 1)) i_View_lookedUp_41 rfl rfl rfl (nI_1 i) rfl ?_
        refine mw_go i_View_lookedUp_44 ?_
        refine ih (_, _) ?_
        show _ = gw_fm _ (i + 1)
        simp only [gw_fm]
        first
        | (rw [if_pos (by simp [hin, mj_bI1.mp h32])]; rfl)
        | (rw [if_neg (by simp [mj_bI0.mp h32])])
      · refine mw_ld 36 i_View_lookedUp_35 rfl rfl rfl ?_
        refine mw_k 37 i_View_lookedUp_36 rfl ?_
        refine mw_ld 38 i_View_lookedUp_37 rfl rfl rfl ?_
        refine mw_b 39 i_View_lookedUp_38 rfl ?_
        refine mw_b 40 i_View_lookedUp_39 rfl ?_
        refine mw_st (ls' := [_, _, _, _, _]) 41 i_View_lookedUp_40 rfl rfl rfl rfl ?_
        refine mw_inc (ls' := [_, _, _, _, _]) 44 (nI (i + 1)) i_View_lookedUp_41 rfl rfl rfl (nI_1 i) rfl ?_
        refine mw_go i_View_lookedUp_44 ?_
        refine ih (_, _) ?_
        show _ = gw_fm _ (i + 1)
        simp only [gw_fm]
        first
        | (rw [if_pos (by simp [hin, mj_bI1.mp h32])]; rfl)
        | (rw [if_neg (by simp [mj_bI0.mp h32])])
    · refine mw_ld 5 i_View_lookedUp_4 rfl rfl rfl ?_
      refine mw_k 7 i_View_lookedUp_5 rfl ?_
      refine mw_ic0 10 i_View_lookedUp_7 rfl (nI_ge (b := 14) hi (by decide)) ?_
      refine mw_ld 11 i_View_lookedUp_10 rfl rfl rfl ?_
      refine mw_get 14 i_View_lookedUp_11 rfl (by assumption) (by rfl) ?_
      refine mw_ld 15 i_View_lookedUp_14 rfl rfl rfl ?_
      refine mw_cv1 18 i_View_lookedUp_15 rfl (by assumption) (sp_Room_postAt_out hn hR (gw_isP_out hin (by omega)) ?_) rfl rfl (Nat.le_of_ble_eq_true rfl) (Nat.le_of_ble_eq_true rfl)
      refine mw_st (ls' := [_, _, _, _, _]) 20 i_View_lookedUp_18 rfl rfl rfl rfl ?_
      refine mw_ld 22 i_View_lookedUp_20 rfl rfl rfl ?_
      refine mw_nuT i_View_lookedUp_22 ?_
      refine mw_inc (ls' := [_, _, _, _, _]) 44 (nI (i + 1)) i_View_lookedUp_41 rfl rfl rfl (nI_1 i) rfl ?_
      refine mw_go i_View_lookedUp_44 ?_
      refine ih (_, _) ?_
      show _ = gw_fm _ (i + 1)
      simp only [gw_fm]
      rw [if_neg (by simp; omega)]
theorem sp_View_refresh {X : mj_X} {d : Nat} {σ : mj_H} {Q : mj_H → Prop} {w h n : Nat} {s : Nat → Int32} (hn : n ≤ 14) (hv : gw_vp w h n s) (hd : gw_dim w h) (hR : gw_rm σ.1 1 w h n s) (hV : gw_vok σ.1 w h n s) (k : ∀ f, gw_fr [4, 5] σ.1 f → gw_vup f w h n s → Q (f, σ.2)) : mj_M X (d + 5) y_View_refresh [.ref 4] σ (mj_U Q) := by
  have hwh := gw_dim_le hd
  refine mw_in (l0 := [some (.ref 4), none]) rfl ?_
  rcases hV with hV | ⟨wt, hV⟩
  · obtain ⟨wt, hV, hw⟩ := hV
    obtain ⟨v1, v2⟩ := id hV
    refine mw_ld 1 i_View_refresh_0 rfl rfl rfl ?_
    refine mw_get 4 i_View_refresh_1 rfl (by assumption) (by rfl) ?_
    refine mw_if0 7 i_View_refresh_4 rfl (by decide) ?_
    refine mw_rv i_View_refresh_7 rfl ?_
    exact k σ.1 (gw_fr_rf _ _) ⟨wt, hV, hw⟩
  · obtain ⟨v1, v2⟩ := id hV
    refine mw_ld 1 i_View_refresh_0 rfl rfl rfl ?_
    refine mw_get 4 i_View_refresh_1 rfl (by assumption) (by rfl) ?_
    refine mw_if1 i_View_refresh_4 rfl ?_
    refine mw_k 9 i_View_refresh_8 rfl ?_
    refine mw_st (ls' := [_, _]) 10 i_View_refresh_9 rfl rfl rfl rfl ?_
    refine mj_for (S := Nat → mj_C) (fun i f => mj_Wp X (d + 5) y_View_refresh 10 [some (.ref 4), some (.int (nI i))] [] (f, σ.2) (mj_U Q)) (fun i f => gw_fr [5] σ.1 f ∧ ∃ wt, gw_vw f 0 wt ∧ ∀ c, c < i → c < w * h → wt c = gw_wt w h n s c) 100 ?_ ?_ 0 σ.1 (Nat.zero_le _) ⟨gw_fr_rf _ _, wt, hV, fun c hc => absurd hc (Nat.not_lt_zero c)⟩
    · rintro f ⟨hf, wt, hV, hw⟩
      obtain ⟨v1, v2⟩ := id hV
      refine mw_ld 11 i_View_refresh_10 rfl rfl rfl ?_
      refine mw_k 13 i_View_refresh_11 rfl ?_
      refine mw_ic1 i_View_refresh_13 (by decide) ?_
      refine mw_ld 49 i_View_refresh_48 rfl rfl rfl ?_
      refine mw_k 50 i_View_refresh_49 rfl ?_
      refine mw_put 53 i_View_refresh_50 rfl (by assumption) (Nat.le_of_ble_eq_true rfl) rfl rfl (fun _ h => by cases h) (by rfl) ?_
      refine mw_rv i_View_refresh_53 rfl ?_
      refine k _ (gw_fr_up (gw_fr_sub hf (by decide)) (by decide)) ⟨wt, ⟨va_up_self _ _ _, ?_⟩, fun c hc => hw c (by omega) hc⟩
      rw [va_up_ne _ _ (by decide)]
      exact v2
    · rintro i f hi ⟨hf, wt, hV, hw⟩ ih
      obtain ⟨v1, v2⟩ := id hV
      have hR : gw_rm f 1 w h n s := gw_rm_fr hf (by decide) (by decide) (by decide) (by decide) hR
      obtain ⟨wl, ps, c1, c2, c3, c4, c5⟩ := id hR
      refine mw_ld 11 i_View_refresh_10 rfl rfl rfl ?_
      refine mw_k 13 i_View_refresh_11 rfl ?_
      refine mw_ic0 16 i_View_refresh_13 rfl (nI_ge (b := 100) hi (by decide)) ?_
      refine mw_ld 17 i_View_refresh_16 rfl rfl rfl ?_
      refine mw_get 20 i_View_refresh_17 rfl (by assumption) (by rfl) ?_
      refine mw_ld 21 i_View_refresh_20 rfl rfl rfl ?_
      refine mw_ld 22 i_View_refresh_21 rfl rfl rfl ?_
      refine mw_get 25 i_View_refresh_22 rfl (by assumption) (by rfl) ?_
      refine mw_ld 26 i_View_refresh_25 rfl rfl rfl ?_
      refine mw_cv1 29 i_View_refresh_26 rfl (by assumption) (sp_Room_isOpen (σ := (f, σ.2)) hd hR ?_) rfl rfl (Nat.le_of_ble_eq_true rfl) (Nat.le_of_ble_eq_true rfl)
      refine mw_if 32 i_View_refresh_29 rfl (fun h29 => ?_) (fun h29 => ?_)
      · refine mw_k 41 i_View_refresh_40 rfl ?_
        refine mw_iast 42 i i_View_refresh_41 rfl v2 rfl (by omega) (by decide) ?_
        refine mw_inc (ls' := [_, _]) 45 (nI (i + 1)) i_View_refresh_42 rfl rfl rfl (nI_1 i) rfl ?_
        refine mw_go i_View_refresh_45 ?_
        refine ih _ ⟨gw_fr_up hf (by decide), _, ⟨by rw [va_up_ne _ _ (by decide)]; exact v1, va_up_self _ _ _⟩, fun c hc hcw => ?_⟩
        rcases Nat.lt_succ_iff_lt_or_eq.mp hc with q | q
        · rw [pk_un (by omega)]
          exact hw c q hcw
        · subst q
          rw [pk_us]
          try (symm
               refine gw_wt_wall (fun e => ?_)
               have hop := mj_bI0.mp h29
               rw [gw_op_nI (by omega)] at hop
               simp [hcw, e] at hop)
      · have hiw : i < w * h := by
          have hop := mj_bI1.mp h29
          rw [gw_op_nI (by omega)] at hop
          simp only [Bool.and_eq_true, decide_eq_true_eq] at hop
          exact hop.1
        refine mw_ld 33 i_View_refresh_32 rfl rfl rfl ?_
        refine mw_ld 34 i_View_refresh_33 rfl rfl rfl ?_
        refine mw_cv1 37 i_View_refresh_34 rfl (by assumption) (sp_View_lookedUp (σ := (f, σ.2)) hn hiw hv hd hR hV ?_) rfl rfl (Nat.le_of_ble_eq_true rfl) (Nat.le_of_ble_eq_true rfl)
        refine mw_go i_View_refresh_37 ?_
        refine mw_iast 42 i i_View_refresh_41 rfl v2 rfl (by omega) (by decide) ?_
        refine mw_inc (ls' := [_, _]) 45 (nI (i + 1)) i_View_refresh_42 rfl rfl rfl (nI_1 i) rfl ?_
        refine mw_go i_View_refresh_45 ?_
        refine ih _ ⟨gw_fr_up hf (by decide), _, ⟨by rw [va_up_ne _ _ (by decide)]; exact v1, va_up_self _ _ _⟩, fun c hc hcw => ?_⟩
        rcases Nat.lt_succ_iff_lt_or_eq.mp hc with q | q
        · rw [pk_un (by omega)]
          exact hw c q hcw
        · subst q
          rw [pk_us]
          try (symm
               refine gw_wt_wall (fun e => ?_)
               have hop := mj_bI0.mp h29
               rw [gw_op_nI (by omega)] at hop
               simp [hcw, e] at hop)
theorem sp_View_outdate {X : mj_X} {d : Nat} {σ : mj_H} {Q : mj_H → Prop} {u : Int32} {wt : Nat → Int32} (hV : gw_vw σ.1 u wt) (k : Q (va_up σ.1 4 (mj_O 6 [.ref 1, .ref 5, .int 0]), σ.2)) : mj_M X d y_View_outdate [.ref 4] σ (mj_U Q) := by
  obtain ⟨v1, v2⟩ := id hV
  refine mw_in (l0 := [some (.ref 4)]) rfl ?_
  refine mw_ld 1 i_View_outdate_0 rfl rfl rfl ?_
  refine mw_k 2 i_View_outdate_1 rfl ?_
  refine mw_put 5 i_View_outdate_2 rfl (by assumption) (Nat.le_of_ble_eq_true rfl) rfl rfl (fun _ h => by cases h) (by rfl) ?_
  refine mw_rv i_View_outdate_5 rfl ?_
  exact k
