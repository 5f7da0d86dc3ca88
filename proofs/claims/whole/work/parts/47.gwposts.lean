/-! the class: posts change -/
def gw_keep1 (N : Nat) (f f' : Nat → mj_C) : Prop := ∀ a, 55 ≤ a → a ≠ N → f' a = f a
theorem gw_code_of (t : Int32) : gw_code (gw_acr t) (gw_dwn t) = t := by
  simp only [gw_code, gw_acr, gw_dwn]
  obtain ⟨Q, hQ⟩ : ∃ Q, t / 20 = iI Q := ⟨_, iI_of _⟩
  obtain ⟨R, hR⟩ : ∃ R, t = iI R := ⟨_, iI_of _⟩
  rw [hQ, hR]
  simp only [show (20 : Int32) = iI 20 from rfl, show (10 : Int32) = iI 10 from rfl, iI_add, iI_sub, iI_mul]
  congr 1; omega
def gw_sPost (s : Nat → Int32) (n : Nat) (c k : Int32) : Nat → Int32 := upd (upd (upd (upd (upd (upd (upd (upd (upd s 100 (nI (n + 1))) (101 + n) c) (115 + n) k) (129 + n) 1) (143 + n) 0) (157 + n) 0) (171 + n) 1) (185 + n) 9) (199 + n) 1
def gw_sAim (s : Nat → Int32) (z : Nat) (f t : Int32) : Nat → Int32 := upd (upd (upd (upd s (129 + z) (gw_acr f)) (143 + z) (gw_dwn f)) (157 + z) (gw_acr t)) (171 + z) (gw_dwn t)
def gw_sReach (s : Nat → Int32) (z : Nat) (v : Int32) : Nat → Int32 := upd s (185 + z) v
def gw_sMove (s : Nat → Int32) (z : Nat) (v : Int32) : Nat → Int32 := upd s (101 + z) v
def gw_sLamp (s : Nat → Int32) (z : Nat) (v : Int32) : Nat → Int32 := upd s (199 + z) v
theorem gw_BL71 : ∀ a ∈ (4 :: 41 :: 49 :: gw_PL), a < 55 := by decide
theorem gw_BLn {a : Nat} (h : 55 ≤ a) : a ∉ (4 :: 41 :: 49 :: gw_PL) := fun q => by have := gw_BL71 a q; omega
theorem gw_fin {L : List Nat} {f f2 f3 : Nat → mj_C} {w h n : Nat} {s2 : Nat → Int32} {kp : Nat} {hn : Nat → Nat} {hs : Nat → Nat → Int32} {sz : Int32} {w' h' n' : Nat} {s' : Nat → Int32} (hX : gw_CX f w h kp hn hs sz) (he : gw_ext f f2) (hf : gw_fr L f2 f3) (hL : ∀ a ∈ L, a ∈ [1, 2, 3]) (h1 : gw_rm f3 1 w h n s2) (h6 : gw_rm f 6 w' h' n' s') : gw_CI f3 w h n s2 kp hn hs [] sz := by
  have hno : ∀ a, a ∉ [1, 2, 3] → a ∉ L := fun a q1 q2 => q1 (hL a q2)
  exact gw_CX_CI (gw_CX_fr hf (fun a ha => by have := hL a ha; simp at this ⊢; omega) (gw_CX_ext he hX)) h1 (gw_rm_fr hf (fun a ha => by have := hL a ha; simp at this; omega) (hno _ (by decide)) (hno _ (by decide)) (hno _ (by decide)) (gw_rm_ext he h6))
theorem gw_ext_new {f f2 : Nat → mj_C} {N : Nat} (hN : f N = none) (h : ∀ a, a ≠ N → f2 a = f a) : gw_ext f f2 := fun a ha => h a (fun q => ha (by rw [q]; exact hN))
theorem sp_Post_init {X : mj_X} {d : Nat} {σ : mj_H} {Q : mj_H → Prop} {p : Nat} {c kd a b r l : Int32} (hp : σ.1 p = mj_O 2 [.int 0, .int 0, .int 0, .int 0, .int 0, .int 0]) (k : ∀ f, gw_fr [p] σ.1 f → f p = mj_O 2 [.int c, .int kd, .int a, .int b, .int r, .int l] → Q (f, σ.2)) : mj_M X d y_Post_init [.ref p, .int c, .int kd, .int a, .int b, .int r, .int l] σ (mj_U Q) := by
  refine mw_in (l0 := [some (.ref p), some (.int c), some (.int kd), some (.int a), some (.int b), some (.int r), some (.int l)]) rfl ?_
  refine mw_ld 1 i_Post_init_0 rfl rfl rfl ?_
  refine mw_oi 4 i_Post_init_1 rfl (Nat.le_of_ble_eq_true rfl) ?_
  refine mw_ld 5 i_Post_init_4 rfl rfl rfl ?_
  refine mw_ld 6 i_Post_init_5 rfl rfl rfl ?_
  refine mw_put (fs' := [_, _, _, _, _, _]) 9 i_Post_init_6 rfl (by repeat (first | exact mj_hs2 | exact mj_hs | assumption | refine mj_hn2 (by omega) ?_ | refine mj_hn (by omega) ?_)) (Nat.le_of_ble_eq_true rfl) rfl rfl (fun _ h => by cases h) (by rfl) ?_
  refine mw_ld 10 i_Post_init_9 rfl rfl rfl ?_
  refine mw_ld 11 i_Post_init_10 rfl rfl rfl ?_
  refine mw_put (fs' := [_, _, _, _, _, _]) 14 i_Post_init_11 rfl (by repeat (first | exact mj_hs2 | exact mj_hs | assumption | refine mj_hn2 (by omega) ?_ | refine mj_hn (by omega) ?_)) (Nat.le_of_ble_eq_true rfl) rfl rfl (fun _ h => by cases h) (by rfl) ?_
  refine mw_ld 15 i_Post_init_14 rfl rfl rfl ?_
  refine mw_ld 16 i_Post_init_15 rfl rfl rfl ?_
  refine mw_put (fs' := [_, _, _, _, _, _]) 19 i_Post_init_16 rfl (by repeat (first | exact mj_hs2 | exact mj_hs | assumption | refine mj_hn2 (by omega) ?_ | refine mj_hn (by omega) ?_)) (Nat.le_of_ble_eq_true rfl) rfl rfl (fun _ h => by cases h) (by rfl) ?_
  refine mw_ld 20 i_Post_init_19 rfl rfl rfl ?_
  refine mw_ld 22 i_Post_init_20 rfl rfl rfl ?_
  refine mw_put (fs' := [_, _, _, _, _, _]) 25 i_Post_init_22 rfl (by repeat (first | exact mj_hs2 | exact mj_hs | assumption | refine mj_hn2 (by omega) ?_ | refine mj_hn (by omega) ?_)) (Nat.le_of_ble_eq_true rfl) rfl rfl (fun _ h => by cases h) (by rfl) ?_
  refine mw_ld 26 i_Post_init_25 rfl rfl rfl ?_
  refine mw_ld 28 i_Post_init_26 rfl rfl rfl ?_
  refine mw_put (fs' := [_, _, _, _, _, _]) 31 i_Post_init_28 rfl (by repeat (first | exact mj_hs2 | exact mj_hs | assumption | refine mj_hn2 (by omega) ?_ | refine mj_hn (by omega) ?_)) (Nat.le_of_ble_eq_true rfl) rfl rfl (fun _ h => by cases h) (by rfl) ?_
  refine mw_ld 32 i_Post_init_31 rfl rfl rfl ?_
  refine mw_ld 34 i_Post_init_32 rfl rfl rfl ?_
  refine mw_put (fs' := [_, _, _, _, _, _]) 37 i_Post_init_34 rfl (by repeat (first | exact mj_hs2 | exact mj_hs | assumption | refine mj_hn2 (by omega) ?_ | refine mj_hn (by omega) ?_)) (Nat.le_of_ble_eq_true rfl) rfl rfl (fun _ h => by cases h) (by rfl) ?_
  refine mw_rv i_Post_init_37 rfl ?_
  exact k _ (gw_fr_up (gw_fr_up (gw_fr_up (gw_fr_up (gw_fr_up (gw_fr_up (gw_fr_rf _ _) (by simp)) (by simp)) (by simp)) (by simp)) (by simp)) (by simp)) mj_hs
theorem sp_GW_newPost {X : mj_X} {d : Nat} {σ : mj_H} {Q : Value → mj_H → Prop} {c kd : Int32} (hk : gw_kind kd = true) (k : ∀ f, (∀ a, a ≠ σ.2.1 → f a = σ.1 a) → f σ.2.1 = mj_O 2 [.int c, .int kd, .int (if gw_wedge kd then gw_code 1 0 else gw_NONE), .int (if gw_wedge kd then gw_code 0 1 else gw_NONE), .int (if kd = 4 then 9 else gw_NONE), .int (if kd = 3 then 1 else gw_NONE)] → Q (.ref σ.2.1) (f, σ.2.1 + 1, σ.2.2 + 6)) : mj_M X (d + 2) y_GW_newPost [.int c, .int kd] σ (mj_V Q) := by
  refine mw_in (l0 := [some (.int c), some (.int kd), none, none, none]) rfl ?_
  by_cases hwd : gw_isOf kd 1 = true
  · have hw2 : gw_wedge kd = true := by rw [← gw_isOf_1k hk]; exact hwd
    by_cases h4 : kd = 4
    · skip
      by_cases h3 : kd = 3
      · skip
        refine mw_ld 1 i_GW_newPost_0 rfl rfl rfl ?_
        refine mw_k 2 i_GW_newPost_1 rfl ?_
        refine mw_cs1 5 i_GW_newPost_2 rfl (sp_GW_isKindOf ?_) rfl rfl (Nat.le_of_ble_eq_true rfl) (Nat.le_of_ble_eq_true rfl)
        refine mw_st (ls' := [_, _, _, _, _]) 6 i_GW_newPost_5 rfl rfl rfl rfl ?_
        refine mw_ld 7 i_GW_newPost_6 rfl rfl rfl ?_
        refine mw_if0 10 i_GW_newPost_7 rfl (mj_bI1.mpr hwd) ?_
        refine mw_k 11 i_GW_newPost_10 rfl ?_
        refine mw_k 12 i_GW_newPost_11 rfl ?_
        refine mw_cs1 15 i_GW_newPost_12 rfl (sp_GW_told ?_) rfl rfl (Nat.le_of_ble_eq_true rfl) (Nat.le_of_ble_eq_true rfl)
        refine mw_go i_GW_newPost_15 ?_
        refine mw_st (ls' := [_, _, _, _, _]) 21 i_GW_newPost_20 rfl rfl rfl rfl ?_
        refine mw_ld 22 i_GW_newPost_21 rfl rfl rfl ?_
        refine mw_if0 25 i_GW_newPost_22 rfl (mj_bI1.mpr hwd) ?_
        refine mw_k 26 i_GW_newPost_25 rfl ?_
        refine mw_k 27 i_GW_newPost_26 rfl ?_
        refine mw_cs1 30 i_GW_newPost_27 rfl (sp_GW_told ?_) rfl rfl (Nat.le_of_ble_eq_true rfl) (Nat.le_of_ble_eq_true rfl)
        refine mw_go i_GW_newPost_30 ?_
        refine mw_st (ls' := [_, _, _, _, _]) 37 i_GW_newPost_35 rfl rfl rfl rfl ?_
        refine mw_new 40 i_GW_newPost_37 rfl ?_
        refine mw_dup 41 i_GW_newPost_40 rfl rfl ?_
        refine mw_ld 42 i_GW_newPost_41 rfl rfl rfl ?_
        refine mw_ld 43 i_GW_newPost_42 rfl rfl rfl ?_
        refine mw_ld 44 i_GW_newPost_43 rfl rfl rfl ?_
        refine mw_ld 46 i_GW_newPost_44 rfl rfl rfl ?_
        refine mw_ld 47 i_GW_newPost_46 rfl rfl rfl ?_
        refine mw_k 48 i_GW_newPost_47 rfl ?_
        refine mw_ic0 51 i_GW_newPost_48 rfl (fun q => q h4) ?_
        refine mw_k 53 i_GW_newPost_51 rfl ?_
        refine mw_go i_GW_newPost_53 ?_
        refine mw_ld 59 i_GW_newPost_58 rfl rfl rfl ?_
        refine mw_k 60 i_GW_newPost_59 rfl ?_
        refine mw_ic0 63 i_GW_newPost_60 rfl (fun q => q h3) ?_
        refine mw_k 64 i_GW_newPost_63 rfl ?_
        refine mw_go i_GW_newPost_64 ?_
        refine mw_ci 72 i_GW_newPost_69 rfl (sp_Post_init mj_hs2 (fun f g1 g2 => ?_)) rfl rfl (Nat.le_of_ble_eq_true rfl) (Nat.le_of_ble_eq_true rfl)
        refine mw_ra (some σ.2.1) i_GW_newPost_72 rfl rfl ?_
        refine k f (fun a ha => (g1 a (by simpa using ha)).trans (va_up_ne _ _ ha)) ?_
        rw [g2, if_pos hw2, if_pos hw2, if_pos h4, if_pos h3]
      · skip
        refine mw_ld 1 i_GW_newPost_0 rfl rfl rfl ?_
        refine mw_k 2 i_GW_newPost_1 rfl ?_
        refine mw_cs1 5 i_GW_newPost_2 rfl (sp_GW_isKindOf ?_) rfl rfl (Nat.le_of_ble_eq_true rfl) (Nat.le_of_ble_eq_true rfl)
        refine mw_st (ls' := [_, _, _, _, _]) 6 i_GW_newPost_5 rfl rfl rfl rfl ?_
        refine mw_ld 7 i_GW_newPost_6 rfl rfl rfl ?_
        refine mw_if0 10 i_GW_newPost_7 rfl (mj_bI1.mpr hwd) ?_
        refine mw_k 11 i_GW_newPost_10 rfl ?_
        refine mw_k 12 i_GW_newPost_11 rfl ?_
        refine mw_cs1 15 i_GW_newPost_12 rfl (sp_GW_told ?_) rfl rfl (Nat.le_of_ble_eq_true rfl) (Nat.le_of_ble_eq_true rfl)
        refine mw_go i_GW_newPost_15 ?_
        refine mw_st (ls' := [_, _, _, _, _]) 21 i_GW_newPost_20 rfl rfl rfl rfl ?_
        refine mw_ld 22 i_GW_newPost_21 rfl rfl rfl ?_
        refine mw_if0 25 i_GW_newPost_22 rfl (mj_bI1.mpr hwd) ?_
        refine mw_k 26 i_GW_newPost_25 rfl ?_
        refine mw_k 27 i_GW_newPost_26 rfl ?_
        refine mw_cs1 30 i_GW_newPost_27 rfl (sp_GW_told ?_) rfl rfl (Nat.le_of_ble_eq_true rfl) (Nat.le_of_ble_eq_true rfl)
        refine mw_go i_GW_newPost_30 ?_
        refine mw_st (ls' := [_, _, _, _, _]) 37 i_GW_newPost_35 rfl rfl rfl rfl ?_
        refine mw_new 40 i_GW_newPost_37 rfl ?_
        refine mw_dup 41 i_GW_newPost_40 rfl rfl ?_
        refine mw_ld 42 i_GW_newPost_41 rfl rfl rfl ?_
        refine mw_ld 43 i_GW_newPost_42 rfl rfl rfl ?_
        refine mw_ld 44 i_GW_newPost_43 rfl rfl rfl ?_
        refine mw_ld 46 i_GW_newPost_44 rfl rfl rfl ?_
        refine mw_ld 47 i_GW_newPost_46 rfl rfl rfl ?_
        refine mw_k 48 i_GW_newPost_47 rfl ?_
        refine mw_ic0 51 i_GW_newPost_48 rfl (fun q => q h4) ?_
        refine mw_k 53 i_GW_newPost_51 rfl ?_
        refine mw_go i_GW_newPost_53 ?_
        refine mw_ld 59 i_GW_newPost_58 rfl rfl rfl ?_
        refine mw_k 60 i_GW_newPost_59 rfl ?_
        refine mw_ic1 i_GW_newPost_60 h3 ?_
        refine mw_k 69 i_GW_newPost_67 rfl ?_
        refine mw_ci 72 i_GW_newPost_69 rfl (sp_Post_init mj_hs2 (fun f g1 g2 => ?_)) rfl rfl (Nat.le_of_ble_eq_true rfl) (Nat.le_of_ble_eq_true rfl)
        refine mw_ra (some σ.2.1) i_GW_newPost_72 rfl rfl ?_
        refine k f (fun a ha => (g1 a (by simpa using ha)).trans (va_up_ne _ _ ha)) ?_
        rw [g2, if_pos hw2, if_pos hw2, if_pos h4, if_neg h3]
    · skip
      by_cases h3 : kd = 3
      · skip
        refine mw_ld 1 i_GW_newPost_0 rfl rfl rfl ?_
        refine mw_k 2 i_GW_newPost_1 rfl ?_
        refine mw_cs1 5 i_GW_newPost_2 rfl (sp_GW_isKindOf ?_) rfl rfl (Nat.le_of_ble_eq_true rfl) (Nat.le_of_ble_eq_true rfl)
        refine mw_st (ls' := [_, _, _, _, _]) 6 i_GW_newPost_5 rfl rfl rfl rfl ?_
        refine mw_ld 7 i_GW_newPost_6 rfl rfl rfl ?_
        refine mw_if0 10 i_GW_newPost_7 rfl (mj_bI1.mpr hwd) ?_
        refine mw_k 11 i_GW_newPost_10 rfl ?_
        refine mw_k 12 i_GW_newPost_11 rfl ?_
        refine mw_cs1 15 i_GW_newPost_12 rfl (sp_GW_told ?_) rfl rfl (Nat.le_of_ble_eq_true rfl) (Nat.le_of_ble_eq_true rfl)
        refine mw_go i_GW_newPost_15 ?_
        refine mw_st (ls' := [_, _, _, _, _]) 21 i_GW_newPost_20 rfl rfl rfl rfl ?_
        refine mw_ld 22 i_GW_newPost_21 rfl rfl rfl ?_
        refine mw_if0 25 i_GW_newPost_22 rfl (mj_bI1.mpr hwd) ?_
        refine mw_k 26 i_GW_newPost_25 rfl ?_
        refine mw_k 27 i_GW_newPost_26 rfl ?_
        refine mw_cs1 30 i_GW_newPost_27 rfl (sp_GW_told ?_) rfl rfl (Nat.le_of_ble_eq_true rfl) (Nat.le_of_ble_eq_true rfl)
        refine mw_go i_GW_newPost_30 ?_
        refine mw_st (ls' := [_, _, _, _, _]) 37 i_GW_newPost_35 rfl rfl rfl rfl ?_
        refine mw_new 40 i_GW_newPost_37 rfl ?_
        refine mw_dup 41 i_GW_newPost_40 rfl rfl ?_
        refine mw_ld 42 i_GW_newPost_41 rfl rfl rfl ?_
        refine mw_ld 43 i_GW_newPost_42 rfl rfl rfl ?_
        refine mw_ld 44 i_GW_newPost_43 rfl rfl rfl ?_
        refine mw_ld 46 i_GW_newPost_44 rfl rfl rfl ?_
        refine mw_ld 47 i_GW_newPost_46 rfl rfl rfl ?_
        refine mw_k 48 i_GW_newPost_47 rfl ?_
        refine mw_ic1 i_GW_newPost_48 h4 ?_
        refine mw_k 58 i_GW_newPost_56 rfl ?_
        refine mw_ld 59 i_GW_newPost_58 rfl rfl rfl ?_
        refine mw_k 60 i_GW_newPost_59 rfl ?_
        refine mw_ic0 63 i_GW_newPost_60 rfl (fun q => q h3) ?_
        refine mw_k 64 i_GW_newPost_63 rfl ?_
        refine mw_go i_GW_newPost_64 ?_
        refine mw_ci 72 i_GW_newPost_69 rfl (sp_Post_init mj_hs2 (fun f g1 g2 => ?_)) rfl rfl (Nat.le_of_ble_eq_true rfl) (Nat.le_of_ble_eq_true rfl)
        refine mw_ra (some σ.2.1) i_GW_newPost_72 rfl rfl ?_
        refine k f (fun a ha => (g1 a (by simpa using ha)).trans (va_up_ne _ _ ha)) ?_
        rw [g2, if_pos hw2, if_pos hw2, if_neg h4, if_pos h3]
      · skip
        refine mw_ld 1 i_GW_newPost_0 rfl rfl rfl ?_
        refine mw_k 2 i_GW_newPost_1 rfl ?_
        refine mw_cs1 5 i_GW_newPost_2 rfl (sp_GW_isKindOf ?_) rfl rfl (Nat.le_of_ble_eq_true rfl) (Nat.le_of_ble_eq_true rfl)
        refine mw_st (ls' := [_, _, _, _, _]) 6 i_GW_newPost_5 rfl rfl rfl rfl ?_
        refine mw_ld 7 i_GW_newPost_6 rfl rfl rfl ?_
        refine mw_if0 10 i_GW_newPost_7 rfl (mj_bI1.mpr hwd) ?_
        refine mw_k 11 i_GW_newPost_10 rfl ?_
        refine mw_k 12 i_GW_newPost_11 rfl ?_
        refine mw_cs1 15 i_GW_newPost_12 rfl (sp_GW_told ?_) rfl rfl (Nat.le_of_ble_eq_true rfl) (Nat.le_of_ble_eq_true rfl)
        refine mw_go i_GW_newPost_15 ?_
        refine mw_st (ls' := [_, _, _, _, _]) 21 i_GW_newPost_20 rfl rfl rfl rfl ?_
        refine mw_ld 22 i_GW_newPost_21 rfl rfl rfl ?_
        refine mw_if0 25 i_GW_newPost_22 rfl (mj_bI1.mpr hwd) ?_
        refine mw_k 26 i_GW_newPost_25 rfl ?_
        refine mw_k 27 i_GW_newPost_26 rfl ?_
        refine mw_cs1 30 i_GW_newPost_27 rfl (sp_GW_told ?_) rfl rfl (Nat.le_of_ble_eq_true rfl) (Nat.le_of_ble_eq_true rfl)
        refine mw_go i_GW_newPost_30 ?_
        refine mw_st (ls' := [_, _, _, _, _]) 37 i_GW_newPost_35 rfl rfl rfl rfl ?_
        refine mw_new 40 i_GW_newPost_37 rfl ?_
        refine mw_dup 41 i_GW_newPost_40 rfl rfl ?_
        refine mw_ld 42 i_GW_newPost_41 rfl rfl rfl ?_
        refine mw_ld 43 i_GW_newPost_42 rfl rfl rfl ?_
        refine mw_ld 44 i_GW_newPost_43 rfl rfl rfl ?_
        refine mw_ld 46 i_GW_newPost_44 rfl rfl rfl ?_
        refine mw_ld 47 i_GW_newPost_46 rfl rfl rfl ?_
        refine mw_k 48 i_GW_newPost_47 rfl ?_
        refine mw_ic1 i_GW_newPost_48 h4 ?_
        refine mw_k 58 i_GW_newPost_56 rfl ?_
        refine mw_ld 59 i_GW_newPost_58 rfl rfl rfl ?_
        refine mw_k 60 i_GW_newPost_59 rfl ?_
        refine mw_ic1 i_GW_newPost_60 h3 ?_
        refine mw_k 69 i_GW_newPost_67 rfl ?_
        refine mw_ci 72 i_GW_newPost_69 rfl (sp_Post_init mj_hs2 (fun f g1 g2 => ?_)) rfl rfl (Nat.le_of_ble_eq_true rfl) (Nat.le_of_ble_eq_true rfl)
        refine mw_ra (some σ.2.1) i_GW_newPost_72 rfl rfl ?_
        refine k f (fun a ha => (g1 a (by simpa using ha)).trans (va_up_ne _ _ ha)) ?_
        rw [g2, if_pos hw2, if_pos hw2, if_neg h4, if_neg h3]
  · have hw2 : ¬ gw_wedge kd = true := by rw [← gw_isOf_1k hk]; exact hwd
    by_cases h4 : kd = 4
    · skip
      by_cases h3 : kd = 3
      · skip
        refine mw_ld 1 i_GW_newPost_0 rfl rfl rfl ?_
        refine mw_k 2 i_GW_newPost_1 rfl ?_
        refine mw_cs1 5 i_GW_newPost_2 rfl (sp_GW_isKindOf ?_) rfl rfl (Nat.le_of_ble_eq_true rfl) (Nat.le_of_ble_eq_true rfl)
        refine mw_st (ls' := [_, _, _, _, _]) 6 i_GW_newPost_5 rfl rfl rfl rfl ?_
        refine mw_ld 7 i_GW_newPost_6 rfl rfl rfl ?_
        refine mw_if1 i_GW_newPost_7 (mj_bI0.mpr (gw_nt hwd)) ?_
        refine mw_k 20 i_GW_newPost_18 rfl ?_
        refine mw_st (ls' := [_, _, _, _, _]) 21 i_GW_newPost_20 rfl rfl rfl rfl ?_
        refine mw_ld 22 i_GW_newPost_21 rfl rfl rfl ?_
        refine mw_if1 i_GW_newPost_22 (mj_bI0.mpr (gw_nt hwd)) ?_
        refine mw_k 35 i_GW_newPost_33 rfl ?_
        refine mw_st (ls' := [_, _, _, _, _]) 37 i_GW_newPost_35 rfl rfl rfl rfl ?_
        refine mw_new 40 i_GW_newPost_37 rfl ?_
        refine mw_dup 41 i_GW_newPost_40 rfl rfl ?_
        refine mw_ld 42 i_GW_newPost_41 rfl rfl rfl ?_
        refine mw_ld 43 i_GW_newPost_42 rfl rfl rfl ?_
        refine mw_ld 44 i_GW_newPost_43 rfl rfl rfl ?_
        refine mw_ld 46 i_GW_newPost_44 rfl rfl rfl ?_
        refine mw_ld 47 i_GW_newPost_46 rfl rfl rfl ?_
        refine mw_k 48 i_GW_newPost_47 rfl ?_
        refine mw_ic0 51 i_GW_newPost_48 rfl (fun q => q h4) ?_
        refine mw_k 53 i_GW_newPost_51 rfl ?_
        refine mw_go i_GW_newPost_53 ?_
        refine mw_ld 59 i_GW_newPost_58 rfl rfl rfl ?_
        refine mw_k 60 i_GW_newPost_59 rfl ?_
        refine mw_ic0 63 i_GW_newPost_60 rfl (fun q => q h3) ?_
        refine mw_k 64 i_GW_newPost_63 rfl ?_
        refine mw_go i_GW_newPost_64 ?_
        refine mw_ci 72 i_GW_newPost_69 rfl (sp_Post_init mj_hs2 (fun f g1 g2 => ?_)) rfl rfl (Nat.le_of_ble_eq_true rfl) (Nat.le_of_ble_eq_true rfl)
        refine mw_ra (some σ.2.1) i_GW_newPost_72 rfl rfl ?_
        refine k f (fun a ha => (g1 a (by simpa using ha)).trans (va_up_ne _ _ ha)) ?_
        rw [g2, if_neg hw2, if_neg hw2, if_pos h4, if_pos h3]
      · skip
        refine mw_ld 1 i_GW_newPost_0 rfl rfl rfl ?_
        refine mw_k 2 i_GW_newPost_1 rfl ?_
        refine mw_cs1 5 i_GW_newPost_2 rfl (sp_GW_isKindOf ?_) rfl rfl (Nat.le_of_ble_eq_true rfl) (Nat.le_of_ble_eq_true rfl)
        refine mw_st (ls' := [_, _, _, _, _]) 6 i_GW_newPost_5 rfl rfl rfl rfl ?_
        refine mw_ld 7 i_GW_newPost_6 rfl rfl rfl ?_
        refine mw_if1 i_GW_newPost_7 (mj_bI0.mpr (gw_nt hwd)) ?_
        refine mw_k 20 i_GW_newPost_18 rfl ?_
        refine mw_st (ls' := [_, _, _, _, _]) 21 i_GW_newPost_20 rfl rfl rfl rfl ?_
        refine mw_ld 22 i_GW_newPost_21 rfl rfl rfl ?_
        refine mw_if1 i_GW_newPost_22 (mj_bI0.mpr (gw_nt hwd)) ?_
        refine mw_k 35 i_GW_newPost_33 rfl ?_
        refine mw_st (ls' := [_, _, _, _, _]) 37 i_GW_newPost_35 rfl rfl rfl rfl ?_
        refine mw_new 40 i_GW_newPost_37 rfl ?_
        refine mw_dup 41 i_GW_newPost_40 rfl rfl ?_
        refine mw_ld 42 i_GW_newPost_41 rfl rfl rfl ?_
        refine mw_ld 43 i_GW_newPost_42 rfl rfl rfl ?_
        refine mw_ld 44 i_GW_newPost_43 rfl rfl rfl ?_
        refine mw_ld 46 i_GW_newPost_44 rfl rfl rfl ?_
        refine mw_ld 47 i_GW_newPost_46 rfl rfl rfl ?_
        refine mw_k 48 i_GW_newPost_47 rfl ?_
        refine mw_ic0 51 i_GW_newPost_48 rfl (fun q => q h4) ?_
        refine mw_k 53 i_GW_newPost_51 rfl ?_
        refine mw_go i_GW_newPost_53 ?_
        refine mw_ld 59 i_GW_newPost_58 rfl rfl rfl ?_
        refine mw_k 60 i_GW_newPost_59 rfl ?_
        refine mw_ic1 i_GW_newPost_60 h3 ?_
        refine mw_k 69 i_GW_newPost_67 rfl ?_
        refine mw_ci 72 i_GW_newPost_69 rfl (sp_Post_init mj_hs2 (fun f g1 g2 => ?_)) rfl rfl (Nat.le_of_ble_eq_true rfl) (Nat.le_of_ble_eq_true rfl)
        refine mw_ra (some σ.2.1) i_GW_newPost_72 rfl rfl ?_
        refine k f (fun a ha => (g1 a (by simpa using ha)).trans (va_up_ne _ _ ha)) ?_
        rw [g2, if_neg hw2, if_neg hw2, if_pos h4, if_neg h3]
    · skip
      by_cases h3 : kd = 3
      · skip
        refine mw_ld 1 i_GW_newPost_0 rfl rfl rfl ?_
        refine mw_k 2 i_GW_newPost_1 rfl ?_
        refine mw_cs1 5 i_GW_newPost_2 rfl (sp_GW_isKindOf ?_) rfl rfl (Nat.le_of_ble_eq_true rfl) (Nat.le_of_ble_eq_true rfl)
        refine mw_st (ls' := [_, _, _, _, _]) 6 i_GW_newPost_5 rfl rfl rfl rfl ?_
        refine mw_ld 7 i_GW_newPost_6 rfl rfl rfl ?_
        refine mw_if1 i_GW_newPost_7 (mj_bI0.mpr (gw_nt hwd)) ?_
        refine mw_k 20 i_GW_newPost_18 rfl ?_
        refine mw_st (ls' := [_, _, _, _, _]) 21 i_GW_newPost_20 rfl rfl rfl rfl ?_
        refine mw_ld 22 i_GW_newPost_21 rfl rfl rfl ?_
        refine mw_if1 i_GW_newPost_22 (mj_bI0.mpr (gw_nt hwd)) ?_
        refine mw_k 35 i_GW_newPost_33 rfl ?_
        refine mw_st (ls' := [_, _, _, _, _]) 37 i_GW_newPost_35 rfl rfl rfl rfl ?_
        refine mw_new 40 i_GW_newPost_37 rfl ?_
        refine mw_dup 41 i_GW_newPost_40 rfl rfl ?_
        refine mw_ld 42 i_GW_newPost_41 rfl rfl rfl ?_
        refine mw_ld 43 i_GW_newPost_42 rfl rfl rfl ?_
        refine mw_ld 44 i_GW_newPost_43 rfl rfl rfl ?_
        refine mw_ld 46 i_GW_newPost_44 rfl rfl rfl ?_
        refine mw_ld 47 i_GW_newPost_46 rfl rfl rfl ?_
        refine mw_k 48 i_GW_newPost_47 rfl ?_
        refine mw_ic1 i_GW_newPost_48 h4 ?_
        refine mw_k 58 i_GW_newPost_56 rfl ?_
        refine mw_ld 59 i_GW_newPost_58 rfl rfl rfl ?_
        refine mw_k 60 i_GW_newPost_59 rfl ?_
        refine mw_ic0 63 i_GW_newPost_60 rfl (fun q => q h3) ?_
        refine mw_k 64 i_GW_newPost_63 rfl ?_
        refine mw_go i_GW_newPost_64 ?_
        refine mw_ci 72 i_GW_newPost_69 rfl (sp_Post_init mj_hs2 (fun f g1 g2 => ?_)) rfl rfl (Nat.le_of_ble_eq_true rfl) (Nat.le_of_ble_eq_true rfl)
        refine mw_ra (some σ.2.1) i_GW_newPost_72 rfl rfl ?_
        refine k f (fun a ha => (g1 a (by simpa using ha)).trans (va_up_ne _ _ ha)) ?_
        rw [g2, if_neg hw2, if_neg hw2, if_neg h4, if_pos h3]
      · skip
        refine mw_ld 1 i_GW_newPost_0 rfl rfl rfl ?_
        refine mw_k 2 i_GW_newPost_1 rfl ?_
        refine mw_cs1 5 i_GW_newPost_2 rfl (sp_GW_isKindOf ?_) rfl rfl (Nat.le_of_ble_eq_true rfl) (Nat.le_of_ble_eq_true rfl)
        refine mw_st (ls' := [_, _, _, _, _]) 6 i_GW_newPost_5 rfl rfl rfl rfl ?_
        refine mw_ld 7 i_GW_newPost_6 rfl rfl rfl ?_
        refine mw_if1 i_GW_newPost_7 (mj_bI0.mpr (gw_nt hwd)) ?_
        refine mw_k 20 i_GW_newPost_18 rfl ?_
        refine mw_st (ls' := [_, _, _, _, _]) 21 i_GW_newPost_20 rfl rfl rfl rfl ?_
        refine mw_ld 22 i_GW_newPost_21 rfl rfl rfl ?_
        refine mw_if1 i_GW_newPost_22 (mj_bI0.mpr (gw_nt hwd)) ?_
        refine mw_k 35 i_GW_newPost_33 rfl ?_
        refine mw_st (ls' := [_, _, _, _, _]) 37 i_GW_newPost_35 rfl rfl rfl rfl ?_
        refine mw_new 40 i_GW_newPost_37 rfl ?_
        refine mw_dup 41 i_GW_newPost_40 rfl rfl ?_
        refine mw_ld 42 i_GW_newPost_41 rfl rfl rfl ?_
        refine mw_ld 43 i_GW_newPost_42 rfl rfl rfl ?_
        refine mw_ld 44 i_GW_newPost_43 rfl rfl rfl ?_
        refine mw_ld 46 i_GW_newPost_44 rfl rfl rfl ?_
        refine mw_ld 47 i_GW_newPost_46 rfl rfl rfl ?_
        refine mw_k 48 i_GW_newPost_47 rfl ?_
        refine mw_ic1 i_GW_newPost_48 h4 ?_
        refine mw_k 58 i_GW_newPost_56 rfl ?_
        refine mw_ld 59 i_GW_newPost_58 rfl rfl rfl ?_
        refine mw_k 60 i_GW_newPost_59 rfl ?_
        refine mw_ic1 i_GW_newPost_60 h3 ?_
        refine mw_k 69 i_GW_newPost_67 rfl ?_
        refine mw_ci 72 i_GW_newPost_69 rfl (sp_Post_init mj_hs2 (fun f g1 g2 => ?_)) rfl rfl (Nat.le_of_ble_eq_true rfl) (Nat.le_of_ble_eq_true rfl)
        refine mw_ra (some σ.2.1) i_GW_newPost_72 rfl rfl ?_
        refine k f (fun a ha => (g1 a (by simpa using ha)).trans (va_up_ne _ _ ha)) ?_
        rw [g2, if_neg hw2, if_neg hw2, if_neg h4, if_neg h3]
def gw_okPost (w h n : Nat) (s : Nat → Int32) (c k : Int32) : Bool := gw_ce w h c && gw_kind k && gw_st w h s c.toInt.toNat k && decide (n < 14)
def a_post (w h : Nat) (s : Nat → Int32) (c k : Int32) : Int32 := if gw_ce w h c then if gw_kind k then if gw_st w h s c.toInt.toNat k then gw_FULL else gw_NO else gw_BAD else gw_BAD
theorem gw_sPost_po {s : Nat → Int32} {n : Nat} {c k : Int32} : gw_po (gw_sPost s n c k) n = [.int c, .int k, .int (if gw_wedge k then gw_code 1 0 else gw_NONE), .int (if gw_wedge k then gw_code 0 1 else gw_NONE), .int (if k = 4 then 9 else gw_NONE), .int (if k = 3 then 1 else gw_NONE)] := by
  simp (disch := omega) only [gw_po, gw_sPost, pk_us, pk_un]
theorem gw_sPost_po2 {s : Nat → Int32} {n : Nat} {c k : Int32} (hn : n < 14) {j : Nat} (hj : j < n) : gw_po (gw_sPost s n c k) j = gw_po s j := by
  simp (disch := omega) only [gw_po, gw_sPost, pk_un]
theorem gw_sPost_wl {s : Nat → Int32} {n : Nat} {c k : Int32} {j : Nat} (hj : j < 100) : gw_sPost s n c k j = s j := by
  simp (disch := omega) only [gw_sPost, pk_un]
theorem nI_ge2 {a b : Nat} (h : b ≤ a) (ha : a < 2 ^ 31) : ¬ nI a < nI b := nI_nlt h ha
theorem sp_GW_post {X : mj_X} {d : Nat} {σ : mj_H} {Q : Value → mj_H → Prop} {w h n : Nat} {s : Nat → Int32} {kp : Nat} {hn : Nat → Nat} {hs : Nat → Nat → Int32} {P : List gw_Row} {sz : Int32} (hI : gw_CI σ.1 w h n s kp hn hs P sz) (hd : gw_dim w h) (hn14 : n ≤ 14) (hv : gw_vp w h n s) {c t : Int32} (hN : 71 ≤ σ.2.1) (hnone : σ.1 σ.2.1 = none) (k1 : gw_okPost w h n s c t = false → Q (.int (a_post w h s c t)) σ) (k2 : gw_okPost w h n s c t = true → ∀ f, gw_keep1 σ.2.1 σ.1 f → gw_CI f w h (n + 1) (gw_sPost s n c t) (min (kp + 1) 10) (gw_push kp hn n) (gw_push kp hs s) [] sz → Q (.int (nI n)) (f, σ.2.1 + 1, σ.2.2 + 6)) : mj_M X (d + 20) y_GW_post [.ref 0, .int c, .int t] σ (mj_V Q) := by
  obtain ⟨x1, x2, ⟨w6, h6, n6, s6, x3⟩, ⟨nx, x4⟩, x5, x6, ⟨st, qu, x7⟩, ce, ab, co, wy, bl, x8, x9⟩ := id hI
  obtain ⟨wl1, ps1, r1, -⟩ := id x2
  have hwh := gw_dim_le hd
  refine mw_in (l0 := [some (.ref 0), some (.int c), some (.int t), none]) rfl ?_
  by_cases hc : gw_ce w h c = true
  · skip
    by_cases ht : gw_kind t = true
    · skip
      obtain ⟨c, hc2, rfl⟩ := gw_ce_of hd hc
      obtain ⟨t, ht2, rfl⟩ := gw_kind_of ht
      rw [a_post, if_pos hc, if_pos ht, gw_tn (by omega)] at k1
      rw [gw_okPost, gw_tn (by omega)] at k1 k2
      by_cases hs1 : gw_st w h s c (nI t) = true
      · skip
        by_cases hn1 : n < 14
        · skip
          refine mw_ld 1 i_GW_post_0 rfl rfl rfl ?_
          refine mw_get 4 i_GW_post_1 rfl (by repeat (first | exact mj_hs2 | exact mj_hs | assumption | refine mj_hn2 (by omega) ?_ | refine mj_hn (by omega) ?_)) (by rfl) ?_
          refine mw_ld 5 i_GW_post_4 rfl rfl rfl ?_
          refine mw_cv1 8 i_GW_post_5 rfl (by repeat (first | exact mj_hs2 | exact mj_hs | assumption | refine mj_hn2 (by omega) ?_ | refine mj_hn (by omega) ?_)) (sp_Room_hasCell hd x2 ?_) rfl rfl (Nat.le_of_ble_eq_true rfl) (Nat.le_of_ble_eq_true rfl)
          refine mw_if0 11 i_GW_post_8 rfl (mj_bI1.mpr hc) ?_
          refine mw_ld 12 i_GW_post_11 rfl rfl rfl ?_
          refine mw_cs1 15 i_GW_post_12 rfl (sp_GW_isKind ?_) rfl rfl (Nat.le_of_ble_eq_true rfl) (Nat.le_of_ble_eq_true rfl)
          refine mw_if1 i_GW_post_15 (mj_bI1.mpr ht) ?_
          refine mw_ld 22 i_GW_post_21 rfl rfl rfl ?_
          refine mw_get 25 i_GW_post_22 rfl (by repeat (first | exact mj_hs2 | exact mj_hs | assumption | refine mj_hn2 (by omega) ?_ | refine mj_hn (by omega) ?_)) (by rfl) ?_
          refine mw_ld 26 i_GW_post_25 rfl rfl rfl ?_
          refine mw_ld 27 i_GW_post_26 rfl rfl rfl ?_
          refine mw_cv1 30 i_GW_post_27 rfl (by repeat (first | exact mj_hs2 | exact mj_hs | assumption | refine mj_hn2 (by omega) ?_ | refine mj_hn (by omega) ?_)) (sp_Room_canStand hc2 ht2 hd x2 ?_) rfl rfl (Nat.le_of_ble_eq_true rfl) (Nat.le_of_ble_eq_true rfl)
          refine mw_if1 i_GW_post_30 (mj_bI1.mpr hs1) ?_
          refine mw_ld 37 i_GW_post_36 rfl rfl rfl ?_
          refine mw_get 40 i_GW_post_37 rfl (by repeat (first | exact mj_hs2 | exact mj_hs | assumption | refine mj_hn2 (by omega) ?_ | refine mj_hn (by omega) ?_)) (by rfl) ?_
          refine mw_cv1 43 i_GW_post_40 rfl (by repeat (first | exact mj_hs2 | exact mj_hs | assumption | refine mj_hn2 (by omega) ?_ | refine mj_hn (by omega) ?_)) (sp_Room_posts x2 ?_) rfl rfl (Nat.le_of_ble_eq_true rfl) (Nat.le_of_ble_eq_true rfl)
          refine mw_st (ls' := [_, _, _, _]) 44 i_GW_post_43 rfl rfl rfl rfl ?_
          refine mw_ld 45 i_GW_post_44 rfl rfl rfl ?_
          refine mw_k 47 i_GW_post_45 rfl ?_
          refine mw_ic1 i_GW_post_47 (nI_lt (b := 14) hn1 (by decide)) ?_
          refine mw_ld 54 i_GW_post_53 rfl rfl rfl ?_
          refine mw_cv0 57 i_GW_post_54 rfl (by repeat (first | exact mj_hs2 | exact mj_hs | assumption | refine mj_hn2 (by omega) ?_ | refine mj_hn (by omega) ?_)) (sp_GW_beginChange hI hn14 (fun f g1 hX => ?_)) rfl rfl (Nat.le_of_ble_eq_true rfl) (Nat.le_of_ble_eq_true rfl)
          have hRf := gw_rm_fr g1 (by decide) (by decide) (by decide) (by decide) x2
          have hRf6 := gw_rm_fr g1 (by decide) (by decide) (by decide) (by decide) x3
          have h0f : f 0 = gw_c0 := hX.1
          have hNf : f σ.2.1 = none := (g1 _ (gw_BLn (by omega))).trans hnone
          obtain ⟨wlf, psf, rf1, -⟩ := id hRf
          refine mw_ld 58 i_GW_post_57 rfl rfl rfl ?_
          refine mw_get 61 i_GW_post_58 rfl (by repeat (first | exact mj_hs2 | exact mj_hs | assumption | refine mj_hn2 (by omega) ?_ | refine mj_hn (by omega) ?_)) (by rfl) ?_
          refine mw_ld 62 i_GW_post_61 rfl rfl rfl ?_
          refine mw_ld 63 i_GW_post_62 rfl rfl rfl ?_
          refine mw_cs1 66 i_GW_post_63 rfl (sp_GW_newPost (σ := (f, σ.2)) ht (fun f2 g2 g3 => ?_)) rfl rfl (Nat.le_of_ble_eq_true rfl) (Nat.le_of_ble_eq_true rfl)
          have he : gw_ext f f2 := gw_ext_new hNf g2
          have hrf2 : f2 1 = _ := (g2 1 (by intro q; simp only at q; omega)).trans rf1
          refine mw_cv0 69 i_GW_post_66 rfl (by repeat (first | exact mj_hs2 | exact mj_hs | assumption | refine mj_hn2 (by omega) ?_ | refine mj_hn (by omega) ?_)) (sp_Room_addPost (r := 1) (σ := (f2, _, _)) (s2 := gw_sPost s n (nI c) (nI t)) (by decide) hn1 hN (gw_rm_ext he hRf) (by rw [gw_sPost_po]; exact g3) (fun c hc => gw_sPost_wl hc) (fun j hj => gw_sPost_po2 hn1 hj) (fun f3 g4 g5 => ?_)) rfl rfl (Nat.le_of_ble_eq_true rfl) (Nat.le_of_ble_eq_true rfl)
          refine mw_ld 70 i_GW_post_69 rfl rfl rfl ?_
          refine mw_ri i_GW_post_70 rfl rfl ?_
          refine k2 (by simp [hc, ht, hs1, hn1]) f3 (fun a ha hne => ?_) (gw_fin hX he g4 (by decide) g5 hRf6)
          exact (g4 a (by simp; omega)).trans ((g2 a hne).trans (g1 a (gw_BLn ha)))
        · skip
          refine mw_ld 1 i_GW_post_0 rfl rfl rfl ?_
          refine mw_get 4 i_GW_post_1 rfl (by assumption) (by rfl) ?_
          refine mw_ld 5 i_GW_post_4 rfl rfl rfl ?_
          refine mw_cv1 8 i_GW_post_5 rfl (by assumption) (sp_Room_hasCell hd x2 ?_) rfl rfl (Nat.le_of_ble_eq_true rfl) (Nat.le_of_ble_eq_true rfl)
          refine mw_if0 11 i_GW_post_8 rfl (mj_bI1.mpr hc) ?_
          refine mw_ld 12 i_GW_post_11 rfl rfl rfl ?_
          refine mw_cs1 15 i_GW_post_12 rfl (sp_GW_isKind ?_) rfl rfl (Nat.le_of_ble_eq_true rfl) (Nat.le_of_ble_eq_true rfl)
          refine mw_if1 i_GW_post_15 (mj_bI1.mpr ht) ?_
          refine mw_ld 22 i_GW_post_21 rfl rfl rfl ?_
          refine mw_get 25 i_GW_post_22 rfl (by assumption) (by rfl) ?_
          refine mw_ld 26 i_GW_post_25 rfl rfl rfl ?_
          refine mw_ld 27 i_GW_post_26 rfl rfl rfl ?_
          refine mw_cv1 30 i_GW_post_27 rfl (by assumption) (sp_Room_canStand hc2 ht2 hd x2 ?_) rfl rfl (Nat.le_of_ble_eq_true rfl) (Nat.le_of_ble_eq_true rfl)
          refine mw_if1 i_GW_post_30 (mj_bI1.mpr hs1) ?_
          refine mw_ld 37 i_GW_post_36 rfl rfl rfl ?_
          refine mw_get 40 i_GW_post_37 rfl (by assumption) (by rfl) ?_
          refine mw_cv1 43 i_GW_post_40 rfl (by assumption) (sp_Room_posts x2 ?_) rfl rfl (Nat.le_of_ble_eq_true rfl) (Nat.le_of_ble_eq_true rfl)
          refine mw_st (ls' := [_, _, _, _]) 44 i_GW_post_43 rfl rfl rfl rfl ?_
          refine mw_ld 45 i_GW_post_44 rfl rfl rfl ?_
          refine mw_k 47 i_GW_post_45 rfl ?_
          refine mw_ic0 50 i_GW_post_47 rfl (nI_ge2 (b := 14) (by omega) (by omega)) ?_
          refine mw_k 52 i_GW_post_50 rfl ?_
          refine mw_ri i_GW_post_52 rfl rfl ?_
          rw [if_pos hs1] at k1
          exact k1 (by simp [hn1])
      · skip
        refine mw_ld 1 i_GW_post_0 rfl rfl rfl ?_
        refine mw_get 4 i_GW_post_1 rfl (by assumption) (by rfl) ?_
        refine mw_ld 5 i_GW_post_4 rfl rfl rfl ?_
        refine mw_cv1 8 i_GW_post_5 rfl (by assumption) (sp_Room_hasCell hd x2 ?_) rfl rfl (Nat.le_of_ble_eq_true rfl) (Nat.le_of_ble_eq_true rfl)
        refine mw_if0 11 i_GW_post_8 rfl (mj_bI1.mpr hc) ?_
        refine mw_ld 12 i_GW_post_11 rfl rfl rfl ?_
        refine mw_cs1 15 i_GW_post_12 rfl (sp_GW_isKind ?_) rfl rfl (Nat.le_of_ble_eq_true rfl) (Nat.le_of_ble_eq_true rfl)
        refine mw_if1 i_GW_post_15 (mj_bI1.mpr ht) ?_
        refine mw_ld 22 i_GW_post_21 rfl rfl rfl ?_
        refine mw_get 25 i_GW_post_22 rfl (by assumption) (by rfl) ?_
        refine mw_ld 26 i_GW_post_25 rfl rfl rfl ?_
        refine mw_ld 27 i_GW_post_26 rfl rfl rfl ?_
        refine mw_cv1 30 i_GW_post_27 rfl (by assumption) (sp_Room_canStand hc2 ht2 hd x2 ?_) rfl rfl (Nat.le_of_ble_eq_true rfl) (Nat.le_of_ble_eq_true rfl)
        refine mw_if0 33 i_GW_post_30 rfl (fun q => q (mj_bI0.mpr (gw_nt hs1))) ?_
        refine mw_k 35 i_GW_post_33 rfl ?_
        refine mw_ri i_GW_post_35 rfl rfl ?_
        rw [if_neg hs1] at k1
        exact k1 (by simp [hs1])
    · skip
      refine mw_ld 1 i_GW_post_0 rfl rfl rfl ?_
      refine mw_get 4 i_GW_post_1 rfl (by assumption) (by rfl) ?_
      refine mw_ld 5 i_GW_post_4 rfl rfl rfl ?_
      refine mw_cv1 8 i_GW_post_5 rfl (by assumption) (sp_Room_hasCell hd x2 ?_) rfl rfl (Nat.le_of_ble_eq_true rfl) (Nat.le_of_ble_eq_true rfl)
      refine mw_if0 11 i_GW_post_8 rfl (mj_bI1.mpr hc) ?_
      refine mw_ld 12 i_GW_post_11 rfl rfl rfl ?_
      refine mw_cs1 15 i_GW_post_12 rfl (sp_GW_isKind ?_) rfl rfl (Nat.le_of_ble_eq_true rfl) (Nat.le_of_ble_eq_true rfl)
      refine mw_if0 18 i_GW_post_15 rfl (fun q => q (mj_bI0.mpr (gw_nt ht))) ?_
      refine mw_k 20 i_GW_post_18 rfl ?_
      refine mw_ri i_GW_post_20 rfl rfl ?_
      rw [a_post, if_pos hc, if_neg ht] at k1
      exact k1 (by simp [gw_okPost, ht])
  · skip
    refine mw_ld 1 i_GW_post_0 rfl rfl rfl ?_
    refine mw_get 4 i_GW_post_1 rfl (by assumption) (by rfl) ?_
    refine mw_ld 5 i_GW_post_4 rfl rfl rfl ?_
    refine mw_cv1 8 i_GW_post_5 rfl (by assumption) (sp_Room_hasCell hd x2 ?_) rfl rfl (Nat.le_of_ble_eq_true rfl) (Nat.le_of_ble_eq_true rfl)
    refine mw_if1 i_GW_post_8 (mj_bI0.mpr (gw_nt hc)) ?_
    refine mw_k 20 i_GW_post_18 rfl ?_
    refine mw_ri i_GW_post_20 rfl rfl ?_
    rw [a_post, if_neg hc] at k1
    exact k1 (by simp [gw_okPost, hc])
theorem gw_sAim_po2 {s : Nat → Int32} {z : Nat} {f t : Int32} {j : Nat} (hz : z < 14) (hj : j < 14) (hne : j ≠ z) : gw_po (gw_sAim s z f t) j = gw_po s j := by
  simp (disch := omega) only [gw_po, gw_sAim, pk_un]
theorem gw_sAim_wl {s : Nat → Int32} {z : Nat} {f t : Int32} {j : Nat} (hj : j < 100) : gw_sAim s z f t j = s j := by
  simp (disch := omega) only [gw_sAim, pk_un]
theorem gw_sReach_po2 {s : Nat → Int32} {z : Nat} {v : Int32} {j : Nat} (hz : z < 14) (hj : j < 14) (hne : j ≠ z) : gw_po (gw_sReach s z v) j = gw_po s j := by
  simp (disch := omega) only [gw_po, gw_sReach, pk_un]
theorem gw_sReach_wl {s : Nat → Int32} {z : Nat} {v : Int32} {j : Nat} (hj : j < 100) : gw_sReach s z v j = s j := by
  simp (disch := omega) only [gw_sReach, pk_un]
theorem gw_sMove_po2 {s : Nat → Int32} {z : Nat} {v : Int32} {j : Nat} (hz : z < 14) (hj : j < 14) (hne : j ≠ z) : gw_po (gw_sMove s z v) j = gw_po s j := by
  simp (disch := omega) only [gw_po, gw_sMove, pk_un]
theorem gw_sMove_wl {s : Nat → Int32} {z : Nat} {v : Int32} {j : Nat} (hj : j < 100) : gw_sMove s z v j = s j := by
  simp (disch := omega) only [gw_sMove, pk_un]
theorem gw_sLamp_po2 {s : Nat → Int32} {z : Nat} {v : Int32} {j : Nat} (hz : z < 14) (hj : j < 14) (hne : j ≠ z) : gw_po (gw_sLamp s z v) j = gw_po s j := by
  simp (disch := omega) only [gw_po, gw_sLamp, pk_un]
theorem gw_sLamp_wl {s : Nat → Int32} {z : Nat} {v : Int32} {j : Nat} (hj : j < 100) : gw_sLamp s z v j = s j := by
  simp (disch := omega) only [gw_sLamp, pk_un]
theorem gw_sAim_po {s : Nat → Int32} {z : Nat} {f t : Int32} (hw : gw_wedge (s (115 + z)) = true) : gw_po (gw_sAim s z f t) z = [.int (s (101 + z)), .int (s (115 + z)), .int f, .int t, .int (if s (115 + z) = 4 then s (185 + z) else gw_NONE), .int (if s (115 + z) = 3 then s (199 + z) else gw_NONE)] := by
  simp (disch := omega) only [gw_po, gw_sAim, pk_us, pk_un]
  rw [if_pos hw, if_pos hw, gw_code_of, gw_code_of]
theorem gw_sReach_po {s : Nat → Int32} {z : Nat} {v : Int32} (hk : s (115 + z) = 4) : gw_po (gw_sReach s z v) z = [.int (s (101 + z)), .int (s (115 + z)), .int (if gw_wedge (s (115 + z)) then gw_code (s (129 + z)) (s (143 + z)) else gw_NONE), .int (if gw_wedge (s (115 + z)) then gw_code (s (157 + z)) (s (171 + z)) else gw_NONE), .int v, .int (if s (115 + z) = 3 then s (199 + z) else gw_NONE)] := by
  simp (disch := omega) only [gw_po, gw_sReach, pk_us, pk_un]
  rw [if_pos hk]
theorem gw_sMove_po {s : Nat → Int32} {z : Nat} {v : Int32} : gw_po (gw_sMove s z v) z = [.int v, .int (s (115 + z)), .int (if gw_wedge (s (115 + z)) then gw_code (s (129 + z)) (s (143 + z)) else gw_NONE), .int (if gw_wedge (s (115 + z)) then gw_code (s (157 + z)) (s (171 + z)) else gw_NONE), .int (if s (115 + z) = 4 then s (185 + z) else gw_NONE), .int (if s (115 + z) = 3 then s (199 + z) else gw_NONE)] := by
  simp (disch := omega) only [gw_po, gw_sMove, pk_us, pk_un]
theorem gw_sLamp_po {s : Nat → Int32} {z : Nat} {v : Int32} (hk : s (115 + z) = 3) : gw_po (gw_sLamp s z v) z = [.int (s (101 + z)), .int (s (115 + z)), .int (if gw_wedge (s (115 + z)) then gw_code (s (129 + z)) (s (143 + z)) else gw_NONE), .int (if gw_wedge (s (115 + z)) then gw_code (s (157 + z)) (s (171 + z)) else gw_NONE), .int (if s (115 + z) = 4 then s (185 + z) else gw_NONE), .int v] := by
  simp (disch := omega) only [gw_po, gw_sLamp, pk_us, pk_un]
  rw [if_pos hk]
def gw_okAim (n : Nat) (s : Nat → Int32) (p f t : Int32) : Bool := gw_isP n p && gw_dirs f t && gw_wedge (s (115 + p.toInt.toNat))
def a_aim (n : Nat) (p f t : Int32) : Int32 := if gw_isP n p then if gw_dirs f t then gw_NO else gw_BAD else gw_BAD
def gw_okReach (n : Nat) (s : Nat → Int32) (p v : Int32) : Bool := gw_isP n p && gw_in v 1 9 && (s (115 + p.toInt.toNat) == 4)
def a_reach (n : Nat) (p v : Int32) : Int32 := if gw_isP n p then if gw_in v 1 9 then gw_NO else gw_BAD else gw_BAD
def gw_okMove (w h n : Nat) (s : Nat → Int32) (p v : Int32) : Bool := gw_isP n p && gw_ce w h v && gw_st w h s v.toInt.toNat (s (115 + p.toInt.toNat))
def a_move (w h n : Nat) (p v : Int32) : Int32 := if gw_isP n p then if gw_ce w h v then gw_NO else gw_BAD else gw_BAD
def gw_okLamp (n : Nat) (s : Nat → Int32) (p v : Int32) : Bool := gw_isP n p && gw_in v 0 1 && (s (115 + p.toInt.toNat) == 3)
def a_lamp (n : Nat) (p v : Int32) : Int32 := if gw_isP n p then if gw_in v 0 1 then gw_NO else gw_BAD else gw_BAD
theorem sp_GW_aim {X : mj_X} {d : Nat} {σ : mj_H} {Q : Value → mj_H → Prop} {w h n : Nat} {s : Nat → Int32} {kp : Nat} {hn : Nat → Nat} {hs : Nat → Nat → Int32} {P : List gw_Row} {sz : Int32} (hI : gw_CI σ.1 w h n s kp hn hs P sz) (hd : gw_dim w h) (hn14 : n ≤ 14) (hv : gw_vp w h n s) {z a b : Int32} (hN : 71 ≤ σ.2.1) (hnone : σ.1 σ.2.1 = none) (k1 : gw_okAim n s z a b = false → Q (.int (a_aim n z a b)) σ) (k2 : gw_okAim n s z a b = true → ∀ f, gw_keep1 σ.2.1 σ.1 f → gw_CI f w h n (gw_sAim s z.toInt.toNat a b) (min (kp + 1) 10) (gw_push kp hn n) (gw_push kp hs s) [] sz → Q (.int 0) (f, σ.2.1 + 1, σ.2.2 + 6)) : mj_M X (d + 20) y_GW_aim [.ref 0, .int z, .int a, .int b] σ (mj_V Q) := by
  obtain ⟨x1, x2, ⟨w6, h6, n6, s6, x3⟩, ⟨nx, x4⟩, x5, x6, ⟨st, qu, x7⟩, ce, ab, co, wy, bl, x8, x9⟩ := id hI
  obtain ⟨wl1, ps1, r1, -⟩ := id x2
  have hwh := gw_dim_le hd
  refine mw_in (l0 := [some (.ref 0), some (.int z), some (.int a), some (.int b), none]) rfl ?_
  by_cases hz : gw_isP n z = true
  · skip
    obtain ⟨i, hi, rfl⟩ := gw_isP_of hz
    rw [a_aim, if_pos hz] at k1
    rw [gw_okAim, gw_tn (by omega)] at k1 k2
    have hkd := (hv i hi).2.1
    by_cases hb : gw_dirs a b = true
    · skip
      by_cases hw : gw_wedge (s (115 + i)) = true
      · skip
        refine mw_ld 1 i_GW_aim_0 rfl rfl rfl ?_
        refine mw_get 4 i_GW_aim_1 rfl (by repeat (first | exact mj_hs2 | exact mj_hs | assumption | refine mj_hn2 (by omega) ?_ | refine mj_hn (by omega) ?_)) (by rfl) ?_
        refine mw_ld 5 i_GW_aim_4 rfl rfl rfl ?_
        refine mw_cv1 8 i_GW_aim_5 rfl (by repeat (first | exact mj_hs2 | exact mj_hs | assumption | refine mj_hn2 (by omega) ?_ | refine mj_hn (by omega) ?_)) (sp_Room_postAt_in hn14 x2 hi (fun p0 hp0 hp1 => ?_)) rfl rfl (Nat.le_of_ble_eq_true rfl) (Nat.le_of_ble_eq_true rfl)
        refine mw_st (ls' := [_, _, _, _, _]) 10 i_GW_aim_8 rfl rfl rfl rfl ?_
        refine mw_ld 12 i_GW_aim_10 rfl rfl rfl ?_
        refine mw_nuF 15 i_GW_aim_12 rfl ?_
        refine mw_ld 16 i_GW_aim_15 rfl rfl rfl ?_
        refine mw_ld 17 i_GW_aim_16 rfl rfl rfl ?_
        refine mw_cs1 20 i_GW_aim_17 rfl (sp_GW_areDirections ?_) rfl rfl (Nat.le_of_ble_eq_true rfl) (Nat.le_of_ble_eq_true rfl)
        refine mw_if1 i_GW_aim_20 (mj_bI1.mpr hb) ?_
        refine mw_ld 28 i_GW_aim_26 rfl rfl rfl ?_
        refine mw_get 31 i_GW_aim_28 rfl (by repeat (first | exact mj_hs2 | exact mj_hs | assumption | refine mj_hn2 (by omega) ?_ | refine mj_hn (by omega) ?_)) (by rfl) ?_
        refine mw_k 32 i_GW_aim_31 rfl ?_
        refine mw_cs1 35 i_GW_aim_32 rfl (sp_GW_isKindOf ?_) rfl rfl (Nat.le_of_ble_eq_true rfl) (Nat.le_of_ble_eq_true rfl)
        refine mw_if1 i_GW_aim_35 (mj_bI1.mpr (by rw [gw_isOf_1k hkd]; exact hw)) ?_
        refine mw_ld 42 i_GW_aim_41 rfl rfl rfl ?_
        refine mw_cv0 45 i_GW_aim_42 rfl (by repeat (first | exact mj_hs2 | exact mj_hs | assumption | refine mj_hn2 (by omega) ?_ | refine mj_hn (by omega) ?_)) (sp_GW_beginChange hI hn14 (fun f g1 hX => ?_)) rfl rfl (Nat.le_of_ble_eq_true rfl) (Nat.le_of_ble_eq_true rfl)
        have hRf := gw_rm_fr g1 (by decide) (by decide) (by decide) (by decide) x2
        have hRf6 := gw_rm_fr g1 (by decide) (by decide) (by decide) (by decide) x3
        have h0f : f 0 = gw_c0 := hX.1
        have hNf : f σ.2.1 = none := (g1 _ (gw_BLn (by omega))).trans hnone
        obtain ⟨wlf, psf, rf1, -⟩ := id hRf
        have hp2 : f p0 = mj_O 2 (gw_po s i) := (g1 p0 (gw_BLn (by omega))).trans hp1
        have hne : p0 ≠ σ.2.1 := fun q => by rw [q, hnone] at hp1; cases hp1
        refine mw_ld 46 i_GW_aim_45 rfl rfl rfl ?_
        refine mw_get 49 i_GW_aim_46 rfl (by repeat (first | exact mj_hs2 | exact mj_hs | assumption | refine mj_hn2 (by omega) ?_ | refine mj_hn (by omega) ?_)) (by rfl) ?_
        refine mw_ld 50 i_GW_aim_49 rfl rfl rfl ?_
        refine mw_new 53 i_GW_aim_50 rfl ?_
        refine mw_dup 54 i_GW_aim_53 rfl rfl ?_
        refine mw_ld 56 i_GW_aim_54 rfl rfl rfl ?_
        refine mw_get 59 i_GW_aim_56 rfl (by repeat (first | exact mj_hs2 | exact mj_hs | assumption | refine mj_hn2 (by omega) ?_ | refine mj_hn (by omega) ?_)) (by rfl) ?_
        refine mw_ld 61 i_GW_aim_59 rfl rfl rfl ?_
        refine mw_get 64 i_GW_aim_61 rfl (by repeat (first | exact mj_hs2 | exact mj_hs | assumption | refine mj_hn2 (by omega) ?_ | refine mj_hn (by omega) ?_)) (by rfl) ?_
        refine mw_ld 65 i_GW_aim_64 rfl rfl rfl ?_
        refine mw_ld 66 i_GW_aim_65 rfl rfl rfl ?_
        refine mw_ld 68 i_GW_aim_66 rfl rfl rfl ?_
        refine mw_get 71 i_GW_aim_68 rfl (by repeat (first | exact mj_hs2 | exact mj_hs | assumption | refine mj_hn2 (by omega) ?_ | refine mj_hn (by omega) ?_)) (by rfl) ?_
        refine mw_ld 73 i_GW_aim_71 rfl rfl rfl ?_
        refine mw_get 76 i_GW_aim_73 rfl (by repeat (first | exact mj_hs2 | exact mj_hs | assumption | refine mj_hn2 (by omega) ?_ | refine mj_hn (by omega) ?_)) (by rfl) ?_
        refine mw_ci 79 i_GW_aim_76 rfl (sp_Post_init (by first | exact mj_hs2 | exact mj_hs) (fun f2 g2 g3 => ?_)) rfl rfl (Nat.le_of_ble_eq_true rfl) (Nat.le_of_ble_eq_true rfl)
        have he : gw_ext f f2 := gw_ext_new hNf (fun a ha => (g2 a (by simpa using ha)).trans (va_up_ne _ _ ha))
        have n1 : (1 : Nat) ≠ σ.2.1 := by omega
        have hrf2 : f2 1 = _ := (g2 1 (fun q => n1 (List.mem_singleton.mp q))).trans ((va_up_ne _ _ n1).trans rf1)
        have hp3 : f2 p0 = mj_O 2 (gw_po s i) := (g2 p0 (by simpa using hne)).trans ((va_up_ne _ _ hne).trans hp2)
        refine mw_cv0 82 i_GW_aim_79 rfl (by repeat (first | exact mj_hs2 | exact mj_hs | assumption | refine mj_hn2 (by omega) ?_ | refine mj_hn (by omega) ?_)) (sp_Room_setPost (r := 1) (σ := (f2, _, _)) (s2 := gw_sAim s i a b) (by decide) hn14 hi hN (gw_rm_ext he hRf) (by rw [gw_sAim_po hw]; exact g3) (fun c hc => gw_sAim_wl hc) (fun j hj hne => gw_sAim_po2 (by omega) (by omega) hne) (fun f3 g4 g5 => ?_)) rfl rfl (Nat.le_of_ble_eq_true rfl) (Nat.le_of_ble_eq_true rfl)
        refine mw_k 83 i_GW_aim_82 rfl ?_
        refine mw_ri i_GW_aim_83 rfl rfl ?_
        refine k2 (by simp [hz, hb, hw]) f3 (fun a ha hne => ?_) (gw_fin hX he g4 (by decide) g5 hRf6)
        exact (g4 a (by simp; omega)).trans ((g2 a (by simpa using hne)).trans ((va_up_ne _ _ hne).trans (g1 a (gw_BLn ha))))
      · skip
        refine mw_ld 1 i_GW_aim_0 rfl rfl rfl ?_
        refine mw_get 4 i_GW_aim_1 rfl (by assumption) (by rfl) ?_
        refine mw_ld 5 i_GW_aim_4 rfl rfl rfl ?_
        refine mw_cv1 8 i_GW_aim_5 rfl (by assumption) (sp_Room_postAt_in hn14 x2 hi (fun p0 hp0 hp1 => ?_)) rfl rfl (Nat.le_of_ble_eq_true rfl) (Nat.le_of_ble_eq_true rfl)
        refine mw_st (ls' := [_, _, _, _, _]) 10 i_GW_aim_8 rfl rfl rfl rfl ?_
        refine mw_ld 12 i_GW_aim_10 rfl rfl rfl ?_
        refine mw_nuF 15 i_GW_aim_12 rfl ?_
        refine mw_ld 16 i_GW_aim_15 rfl rfl rfl ?_
        refine mw_ld 17 i_GW_aim_16 rfl rfl rfl ?_
        refine mw_cs1 20 i_GW_aim_17 rfl (sp_GW_areDirections ?_) rfl rfl (Nat.le_of_ble_eq_true rfl) (Nat.le_of_ble_eq_true rfl)
        refine mw_if1 i_GW_aim_20 (mj_bI1.mpr hb) ?_
        refine mw_ld 28 i_GW_aim_26 rfl rfl rfl ?_
        refine mw_get 31 i_GW_aim_28 rfl (by assumption) (by rfl) ?_
        refine mw_k 32 i_GW_aim_31 rfl ?_
        refine mw_cs1 35 i_GW_aim_32 rfl (sp_GW_isKindOf ?_) rfl rfl (Nat.le_of_ble_eq_true rfl) (Nat.le_of_ble_eq_true rfl)
        refine mw_if0 38 i_GW_aim_35 rfl (fun q => q (mj_bI0.mpr (by rw [gw_isOf_1k hkd]; exact gw_nt hw))) ?_
        refine mw_k 40 i_GW_aim_38 rfl ?_
        refine mw_ri i_GW_aim_40 rfl rfl ?_
        rw [if_pos hb] at k1
        exact k1 (by simp [hw])
    · skip
      refine mw_ld 1 i_GW_aim_0 rfl rfl rfl ?_
      refine mw_get 4 i_GW_aim_1 rfl (by assumption) (by rfl) ?_
      refine mw_ld 5 i_GW_aim_4 rfl rfl rfl ?_
      refine mw_cv1 8 i_GW_aim_5 rfl (by assumption) (sp_Room_postAt_in hn14 x2 hi (fun p0 hp0 hp1 => ?_)) rfl rfl (Nat.le_of_ble_eq_true rfl) (Nat.le_of_ble_eq_true rfl)
      refine mw_st (ls' := [_, _, _, _, _]) 10 i_GW_aim_8 rfl rfl rfl rfl ?_
      refine mw_ld 12 i_GW_aim_10 rfl rfl rfl ?_
      refine mw_nuF 15 i_GW_aim_12 rfl ?_
      refine mw_ld 16 i_GW_aim_15 rfl rfl rfl ?_
      refine mw_ld 17 i_GW_aim_16 rfl rfl rfl ?_
      refine mw_cs1 20 i_GW_aim_17 rfl (sp_GW_areDirections ?_) rfl rfl (Nat.le_of_ble_eq_true rfl) (Nat.le_of_ble_eq_true rfl)
      refine mw_if0 23 i_GW_aim_20 rfl (fun q => q (mj_bI0.mpr (gw_nt hb))) ?_
      refine mw_k 25 i_GW_aim_23 rfl ?_
      refine mw_ri i_GW_aim_25 rfl rfl ?_
      rw [if_neg hb] at k1
      exact k1 (by simp [hb])
  · skip
    refine mw_ld 1 i_GW_aim_0 rfl rfl rfl ?_
    refine mw_get 4 i_GW_aim_1 rfl (by assumption) (by rfl) ?_
    refine mw_ld 5 i_GW_aim_4 rfl rfl rfl ?_
    refine mw_cv1 8 i_GW_aim_5 rfl (by assumption) (sp_Room_postAt_out hn14 x2 (gw_nt hz) ?_) rfl rfl (Nat.le_of_ble_eq_true rfl) (Nat.le_of_ble_eq_true rfl)
    refine mw_st (ls' := [_, _, _, _, _]) 10 i_GW_aim_8 rfl rfl rfl rfl ?_
    refine mw_ld 12 i_GW_aim_10 rfl rfl rfl ?_
    refine mw_nuT i_GW_aim_12 ?_
    refine mw_k 25 i_GW_aim_23 rfl ?_
    refine mw_ri i_GW_aim_25 rfl rfl ?_
    rw [a_aim, if_neg hz] at k1
    exact k1 (by simp [gw_okAim, hz])
theorem sp_GW_reach {X : mj_X} {d : Nat} {σ : mj_H} {Q : Value → mj_H → Prop} {w h n : Nat} {s : Nat → Int32} {kp : Nat} {hn : Nat → Nat} {hs : Nat → Nat → Int32} {P : List gw_Row} {sz : Int32} (hI : gw_CI σ.1 w h n s kp hn hs P sz) (hd : gw_dim w h) (hn14 : n ≤ 14) (hv : gw_vp w h n s) {z v : Int32} (hN : 71 ≤ σ.2.1) (hnone : σ.1 σ.2.1 = none) (k1 : gw_okReach n s z v = false → Q (.int (a_reach n z v)) σ) (k2 : gw_okReach n s z v = true → ∀ f, gw_keep1 σ.2.1 σ.1 f → gw_CI f w h n (gw_sReach s z.toInt.toNat v) (min (kp + 1) 10) (gw_push kp hn n) (gw_push kp hs s) [] sz → Q (.int (s (185 + z.toInt.toNat))) (f, σ.2.1 + 1, σ.2.2 + 6)) : mj_M X (d + 20) y_GW_reach [.ref 0, .int z, .int v] σ (mj_V Q) := by
  obtain ⟨x1, x2, ⟨w6, h6, n6, s6, x3⟩, ⟨nx, x4⟩, x5, x6, ⟨st, qu, x7⟩, ce, ab, co, wy, bl, x8, x9⟩ := id hI
  obtain ⟨wl1, ps1, r1, -⟩ := id x2
  have hwh := gw_dim_le hd
  refine mw_in (l0 := [some (.ref 0), some (.int z), some (.int v), none]) rfl ?_
  by_cases hz : gw_isP n z = true
  · skip
    obtain ⟨i, hi, rfl⟩ := gw_isP_of hz
    rw [a_reach, if_pos hz] at k1
    rw [gw_okReach, gw_tn (by omega)] at k1 k2
    by_cases hb : gw_in v 1 9 = true
    · skip
      by_cases hw : s (115 + i) = 4
      · skip
        refine mw_ld 1 i_GW_reach_0 rfl rfl rfl ?_
        refine mw_get 4 i_GW_reach_1 rfl (by repeat (first | exact mj_hs2 | exact mj_hs | assumption | refine mj_hn2 (by omega) ?_ | refine mj_hn (by omega) ?_)) (by rfl) ?_
        refine mw_ld 5 i_GW_reach_4 rfl rfl rfl ?_
        refine mw_cv1 8 i_GW_reach_5 rfl (by repeat (first | exact mj_hs2 | exact mj_hs | assumption | refine mj_hn2 (by omega) ?_ | refine mj_hn (by omega) ?_)) (sp_Room_postAt_in hn14 x2 hi (fun p0 hp0 hp1 => ?_)) rfl rfl (Nat.le_of_ble_eq_true rfl) (Nat.le_of_ble_eq_true rfl)
        refine mw_st (ls' := [_, _, _, _]) 9 i_GW_reach_8 rfl rfl rfl rfl ?_
        refine mw_ld 10 i_GW_reach_9 rfl rfl rfl ?_
        refine mw_nuF 13 i_GW_reach_10 rfl ?_
        refine mw_ld 14 i_GW_reach_13 rfl rfl rfl ?_
        refine mw_k 15 i_GW_reach_14 rfl ?_
        refine mw_k 17 i_GW_reach_15 rfl ?_
        refine mw_cs1 20 i_GW_reach_17 rfl (sp_GW_isWithin ?_) rfl rfl (Nat.le_of_ble_eq_true rfl) (Nat.le_of_ble_eq_true rfl)
        refine mw_if1 i_GW_reach_20 (mj_bI1.mpr hb) ?_
        refine mw_ld 27 i_GW_reach_26 rfl rfl rfl ?_
        refine mw_get 30 i_GW_reach_27 rfl (by repeat (first | exact mj_hs2 | exact mj_hs | assumption | refine mj_hn2 (by omega) ?_ | refine mj_hn (by omega) ?_)) (by rfl) ?_
        refine mw_k 31 i_GW_reach_30 rfl ?_
        refine mw_ic1 i_GW_reach_31 hw ?_
        refine mw_ld 38 i_GW_reach_37 rfl rfl rfl ?_
        refine mw_cv0 41 i_GW_reach_38 rfl (by repeat (first | exact mj_hs2 | exact mj_hs | assumption | refine mj_hn2 (by omega) ?_ | refine mj_hn (by omega) ?_)) (sp_GW_beginChange hI hn14 (fun f g1 hX => ?_)) rfl rfl (Nat.le_of_ble_eq_true rfl) (Nat.le_of_ble_eq_true rfl)
        have hRf := gw_rm_fr g1 (by decide) (by decide) (by decide) (by decide) x2
        have hRf6 := gw_rm_fr g1 (by decide) (by decide) (by decide) (by decide) x3
        have h0f : f 0 = gw_c0 := hX.1
        have hNf : f σ.2.1 = none := (g1 _ (gw_BLn (by omega))).trans hnone
        obtain ⟨wlf, psf, rf1, -⟩ := id hRf
        have hp2 : f p0 = mj_O 2 (gw_po s i) := (g1 p0 (gw_BLn (by omega))).trans hp1
        have hne : p0 ≠ σ.2.1 := fun q => by rw [q, hnone] at hp1; cases hp1
        refine mw_ld 42 i_GW_reach_41 rfl rfl rfl ?_
        refine mw_get 45 i_GW_reach_42 rfl (by repeat (first | exact mj_hs2 | exact mj_hs | assumption | refine mj_hn2 (by omega) ?_ | refine mj_hn (by omega) ?_)) (by rfl) ?_
        refine mw_ld 46 i_GW_reach_45 rfl rfl rfl ?_
        refine mw_new 49 i_GW_reach_46 rfl ?_
        refine mw_dup 50 i_GW_reach_49 rfl rfl ?_
        refine mw_ld 51 i_GW_reach_50 rfl rfl rfl ?_
        refine mw_get 54 i_GW_reach_51 rfl (by repeat (first | exact mj_hs2 | exact mj_hs | assumption | refine mj_hn2 (by omega) ?_ | refine mj_hn (by omega) ?_)) (by rfl) ?_
        refine mw_ld 55 i_GW_reach_54 rfl rfl rfl ?_
        refine mw_get 58 i_GW_reach_55 rfl (by repeat (first | exact mj_hs2 | exact mj_hs | assumption | refine mj_hn2 (by omega) ?_ | refine mj_hn (by omega) ?_)) (by rfl) ?_
        refine mw_ld 59 i_GW_reach_58 rfl rfl rfl ?_
        refine mw_get 62 i_GW_reach_59 rfl (by repeat (first | exact mj_hs2 | exact mj_hs | assumption | refine mj_hn2 (by omega) ?_ | refine mj_hn (by omega) ?_)) (by rfl) ?_
        refine mw_ld 63 i_GW_reach_62 rfl rfl rfl ?_
        refine mw_get 66 i_GW_reach_63 rfl (by repeat (first | exact mj_hs2 | exact mj_hs | assumption | refine mj_hn2 (by omega) ?_ | refine mj_hn (by omega) ?_)) (by rfl) ?_
        refine mw_ld 67 i_GW_reach_66 rfl rfl rfl ?_
        refine mw_ld 68 i_GW_reach_67 rfl rfl rfl ?_
        refine mw_get 71 i_GW_reach_68 rfl (by repeat (first | exact mj_hs2 | exact mj_hs | assumption | refine mj_hn2 (by omega) ?_ | refine mj_hn (by omega) ?_)) (by rfl) ?_
        refine mw_ci 74 i_GW_reach_71 rfl (sp_Post_init (by first | exact mj_hs2 | exact mj_hs) (fun f2 g2 g3 => ?_)) rfl rfl (Nat.le_of_ble_eq_true rfl) (Nat.le_of_ble_eq_true rfl)
        have he : gw_ext f f2 := gw_ext_new hNf (fun a ha => (g2 a (by simpa using ha)).trans (va_up_ne _ _ ha))
        have n1 : (1 : Nat) ≠ σ.2.1 := by omega
        have hrf2 : f2 1 = _ := (g2 1 (fun q => n1 (List.mem_singleton.mp q))).trans ((va_up_ne _ _ n1).trans rf1)
        have hp3 : f2 p0 = mj_O 2 (gw_po s i) := (g2 p0 (by simpa using hne)).trans ((va_up_ne _ _ hne).trans hp2)
        refine mw_cv0 77 i_GW_reach_74 rfl (by repeat (first | exact mj_hs2 | exact mj_hs | assumption | refine mj_hn2 (by omega) ?_ | refine mj_hn (by omega) ?_)) (sp_Room_setPost (r := 1) (σ := (f2, _, _)) (s2 := gw_sReach s i v) (by decide) hn14 hi hN (gw_rm_ext he hRf) (by rw [gw_sReach_po hw]; exact g3) (fun c hc => gw_sReach_wl hc) (fun j hj hne => gw_sReach_po2 (by omega) (by omega) hne) (fun f3 g4 g5 => ?_)) rfl rfl (Nat.le_of_ble_eq_true rfl) (Nat.le_of_ble_eq_true rfl)
        have hp4 : f3 p0 = mj_O 2 (gw_po s i) := (g4 p0 (by simp; omega)).trans hp3
        refine mw_ld 78 i_GW_reach_77 rfl rfl rfl ?_
        refine mw_get 81 i_GW_reach_78 rfl (by repeat (first | exact mj_hs2 | exact mj_hs | assumption | refine mj_hn2 (by omega) ?_ | refine mj_hn (by omega) ?_)) (by rfl) ?_
        refine mw_ri i_GW_reach_81 rfl rfl ?_
        rw [if_pos hw]
        refine k2 (by simp [hz, hb, hw]) f3 (fun a ha hne => ?_) (gw_fin hX he g4 (by decide) g5 hRf6)
        exact (g4 a (by simp; omega)).trans ((g2 a (by simpa using hne)).trans ((va_up_ne _ _ hne).trans (g1 a (gw_BLn ha))))
      · skip
        refine mw_ld 1 i_GW_reach_0 rfl rfl rfl ?_
        refine mw_get 4 i_GW_reach_1 rfl (by assumption) (by rfl) ?_
        refine mw_ld 5 i_GW_reach_4 rfl rfl rfl ?_
        refine mw_cv1 8 i_GW_reach_5 rfl (by assumption) (sp_Room_postAt_in hn14 x2 hi (fun p0 hp0 hp1 => ?_)) rfl rfl (Nat.le_of_ble_eq_true rfl) (Nat.le_of_ble_eq_true rfl)
        refine mw_st (ls' := [_, _, _, _]) 9 i_GW_reach_8 rfl rfl rfl rfl ?_
        refine mw_ld 10 i_GW_reach_9 rfl rfl rfl ?_
        refine mw_nuF 13 i_GW_reach_10 rfl ?_
        refine mw_ld 14 i_GW_reach_13 rfl rfl rfl ?_
        refine mw_k 15 i_GW_reach_14 rfl ?_
        refine mw_k 17 i_GW_reach_15 rfl ?_
        refine mw_cs1 20 i_GW_reach_17 rfl (sp_GW_isWithin ?_) rfl rfl (Nat.le_of_ble_eq_true rfl) (Nat.le_of_ble_eq_true rfl)
        refine mw_if1 i_GW_reach_20 (mj_bI1.mpr hb) ?_
        refine mw_ld 27 i_GW_reach_26 rfl rfl rfl ?_
        refine mw_get 30 i_GW_reach_27 rfl (by assumption) (by rfl) ?_
        refine mw_k 31 i_GW_reach_30 rfl ?_
        refine mw_ic0 34 i_GW_reach_31 rfl hw ?_
        refine mw_k 36 i_GW_reach_34 rfl ?_
        refine mw_ri i_GW_reach_36 rfl rfl ?_
        rw [if_pos hb] at k1
        exact k1 (by simp [hw])
    · skip
      refine mw_ld 1 i_GW_reach_0 rfl rfl rfl ?_
      refine mw_get 4 i_GW_reach_1 rfl (by assumption) (by rfl) ?_
      refine mw_ld 5 i_GW_reach_4 rfl rfl rfl ?_
      refine mw_cv1 8 i_GW_reach_5 rfl (by assumption) (sp_Room_postAt_in hn14 x2 hi (fun p0 hp0 hp1 => ?_)) rfl rfl (Nat.le_of_ble_eq_true rfl) (Nat.le_of_ble_eq_true rfl)
      refine mw_st (ls' := [_, _, _, _]) 9 i_GW_reach_8 rfl rfl rfl rfl ?_
      refine mw_ld 10 i_GW_reach_9 rfl rfl rfl ?_
      refine mw_nuF 13 i_GW_reach_10 rfl ?_
      refine mw_ld 14 i_GW_reach_13 rfl rfl rfl ?_
      refine mw_k 15 i_GW_reach_14 rfl ?_
      refine mw_k 17 i_GW_reach_15 rfl ?_
      refine mw_cs1 20 i_GW_reach_17 rfl (sp_GW_isWithin ?_) rfl rfl (Nat.le_of_ble_eq_true rfl) (Nat.le_of_ble_eq_true rfl)
      refine mw_if0 23 i_GW_reach_20 rfl (fun q => q (mj_bI0.mpr (gw_nt hb))) ?_
      refine mw_k 25 i_GW_reach_23 rfl ?_
      refine mw_ri i_GW_reach_25 rfl rfl ?_
      rw [if_neg hb] at k1
      exact k1 (by simp [hb])
  · skip
    refine mw_ld 1 i_GW_reach_0 rfl rfl rfl ?_
    refine mw_get 4 i_GW_reach_1 rfl (by assumption) (by rfl) ?_
    refine mw_ld 5 i_GW_reach_4 rfl rfl rfl ?_
    refine mw_cv1 8 i_GW_reach_5 rfl (by assumption) (sp_Room_postAt_out hn14 x2 (gw_nt hz) ?_) rfl rfl (Nat.le_of_ble_eq_true rfl) (Nat.le_of_ble_eq_true rfl)
    refine mw_st (ls' := [_, _, _, _]) 9 i_GW_reach_8 rfl rfl rfl rfl ?_
    refine mw_ld 10 i_GW_reach_9 rfl rfl rfl ?_
    refine mw_nuT i_GW_reach_10 ?_
    refine mw_k 25 i_GW_reach_23 rfl ?_
    refine mw_ri i_GW_reach_25 rfl rfl ?_
    rw [a_reach, if_neg hz] at k1
    exact k1 (by simp [gw_okReach, hz])
theorem sp_GW_lamp {X : mj_X} {d : Nat} {σ : mj_H} {Q : Value → mj_H → Prop} {w h n : Nat} {s : Nat → Int32} {kp : Nat} {hn : Nat → Nat} {hs : Nat → Nat → Int32} {P : List gw_Row} {sz : Int32} (hI : gw_CI σ.1 w h n s kp hn hs P sz) (hd : gw_dim w h) (hn14 : n ≤ 14) (hv : gw_vp w h n s) {z v : Int32} (hN : 71 ≤ σ.2.1) (hnone : σ.1 σ.2.1 = none) (k1 : gw_okLamp n s z v = false → Q (.int (a_lamp n z v)) σ) (k2 : gw_okLamp n s z v = true → ∀ f, gw_keep1 σ.2.1 σ.1 f → gw_CI f w h n (gw_sLamp s z.toInt.toNat v) (min (kp + 1) 10) (gw_push kp hn n) (gw_push kp hs s) [] sz → Q (.int (s (199 + z.toInt.toNat))) (f, σ.2.1 + 1, σ.2.2 + 6)) : mj_M X (d + 20) y_GW_lamp [.ref 0, .int z, .int v] σ (mj_V Q) := by
  obtain ⟨x1, x2, ⟨w6, h6, n6, s6, x3⟩, ⟨nx, x4⟩, x5, x6, ⟨st, qu, x7⟩, ce, ab, co, wy, bl, x8, x9⟩ := id hI
  obtain ⟨wl1, ps1, r1, -⟩ := id x2
  have hwh := gw_dim_le hd
  refine mw_in (l0 := [some (.ref 0), some (.int z), some (.int v), none]) rfl ?_
  by_cases hz : gw_isP n z = true
  · skip
    obtain ⟨i, hi, rfl⟩ := gw_isP_of hz
    rw [a_lamp, if_pos hz] at k1
    rw [gw_okLamp, gw_tn (by omega)] at k1 k2
    by_cases hb : gw_in v 0 1 = true
    · skip
      by_cases hw : s (115 + i) = 3
      · skip
        refine mw_ld 1 i_GW_lamp_0 rfl rfl rfl ?_
        refine mw_get 4 i_GW_lamp_1 rfl (by repeat (first | exact mj_hs2 | exact mj_hs | assumption | refine mj_hn2 (by omega) ?_ | refine mj_hn (by omega) ?_)) (by rfl) ?_
        refine mw_ld 5 i_GW_lamp_4 rfl rfl rfl ?_
        refine mw_cv1 8 i_GW_lamp_5 rfl (by repeat (first | exact mj_hs2 | exact mj_hs | assumption | refine mj_hn2 (by omega) ?_ | refine mj_hn (by omega) ?_)) (sp_Room_postAt_in hn14 x2 hi (fun p0 hp0 hp1 => ?_)) rfl rfl (Nat.le_of_ble_eq_true rfl) (Nat.le_of_ble_eq_true rfl)
        refine mw_st (ls' := [_, _, _, _]) 9 i_GW_lamp_8 rfl rfl rfl rfl ?_
        refine mw_ld 10 i_GW_lamp_9 rfl rfl rfl ?_
        refine mw_nuF 13 i_GW_lamp_10 rfl ?_
        refine mw_ld 14 i_GW_lamp_13 rfl rfl rfl ?_
        refine mw_k 15 i_GW_lamp_14 rfl ?_
        refine mw_k 16 i_GW_lamp_15 rfl ?_
        refine mw_cs1 19 i_GW_lamp_16 rfl (sp_GW_isWithin ?_) rfl rfl (Nat.le_of_ble_eq_true rfl) (Nat.le_of_ble_eq_true rfl)
        refine mw_if1 i_GW_lamp_19 (mj_bI1.mpr hb) ?_
        refine mw_ld 26 i_GW_lamp_25 rfl rfl rfl ?_
        refine mw_get 29 i_GW_lamp_26 rfl (by repeat (first | exact mj_hs2 | exact mj_hs | assumption | refine mj_hn2 (by omega) ?_ | refine mj_hn (by omega) ?_)) (by rfl) ?_
        refine mw_k 30 i_GW_lamp_29 rfl ?_
        refine mw_ic1 i_GW_lamp_30 hw ?_
        refine mw_ld 37 i_GW_lamp_36 rfl rfl rfl ?_
        refine mw_cv0 40 i_GW_lamp_37 rfl (by repeat (first | exact mj_hs2 | exact mj_hs | assumption | refine mj_hn2 (by omega) ?_ | refine mj_hn (by omega) ?_)) (sp_GW_beginChange hI hn14 (fun f g1 hX => ?_)) rfl rfl (Nat.le_of_ble_eq_true rfl) (Nat.le_of_ble_eq_true rfl)
        have hRf := gw_rm_fr g1 (by decide) (by decide) (by decide) (by decide) x2
        have hRf6 := gw_rm_fr g1 (by decide) (by decide) (by decide) (by decide) x3
        have h0f : f 0 = gw_c0 := hX.1
        have hNf : f σ.2.1 = none := (g1 _ (gw_BLn (by omega))).trans hnone
        obtain ⟨wlf, psf, rf1, -⟩ := id hRf
        have hp2 : f p0 = mj_O 2 (gw_po s i) := (g1 p0 (gw_BLn (by omega))).trans hp1
        have hne : p0 ≠ σ.2.1 := fun q => by rw [q, hnone] at hp1; cases hp1
        refine mw_ld 41 i_GW_lamp_40 rfl rfl rfl ?_
        refine mw_get 44 i_GW_lamp_41 rfl (by repeat (first | exact mj_hs2 | exact mj_hs | assumption | refine mj_hn2 (by omega) ?_ | refine mj_hn (by omega) ?_)) (by rfl) ?_
        refine mw_ld 45 i_GW_lamp_44 rfl rfl rfl ?_
        refine mw_new 48 i_GW_lamp_45 rfl ?_
        refine mw_dup 49 i_GW_lamp_48 rfl rfl ?_
        refine mw_ld 50 i_GW_lamp_49 rfl rfl rfl ?_
        refine mw_get 53 i_GW_lamp_50 rfl (by repeat (first | exact mj_hs2 | exact mj_hs | assumption | refine mj_hn2 (by omega) ?_ | refine mj_hn (by omega) ?_)) (by rfl) ?_
        refine mw_ld 54 i_GW_lamp_53 rfl rfl rfl ?_
        refine mw_get 57 i_GW_lamp_54 rfl (by repeat (first | exact mj_hs2 | exact mj_hs | assumption | refine mj_hn2 (by omega) ?_ | refine mj_hn (by omega) ?_)) (by rfl) ?_
        refine mw_ld 58 i_GW_lamp_57 rfl rfl rfl ?_
        refine mw_get 61 i_GW_lamp_58 rfl (by repeat (first | exact mj_hs2 | exact mj_hs | assumption | refine mj_hn2 (by omega) ?_ | refine mj_hn (by omega) ?_)) (by rfl) ?_
        refine mw_ld 62 i_GW_lamp_61 rfl rfl rfl ?_
        refine mw_get 65 i_GW_lamp_62 rfl (by repeat (first | exact mj_hs2 | exact mj_hs | assumption | refine mj_hn2 (by omega) ?_ | refine mj_hn (by omega) ?_)) (by rfl) ?_
        refine mw_ld 66 i_GW_lamp_65 rfl rfl rfl ?_
        refine mw_get 69 i_GW_lamp_66 rfl (by repeat (first | exact mj_hs2 | exact mj_hs | assumption | refine mj_hn2 (by omega) ?_ | refine mj_hn (by omega) ?_)) (by rfl) ?_
        refine mw_ld 70 i_GW_lamp_69 rfl rfl rfl ?_
        refine mw_ci 73 i_GW_lamp_70 rfl (sp_Post_init (by first | exact mj_hs2 | exact mj_hs) (fun f2 g2 g3 => ?_)) rfl rfl (Nat.le_of_ble_eq_true rfl) (Nat.le_of_ble_eq_true rfl)
        have he : gw_ext f f2 := gw_ext_new hNf (fun a ha => (g2 a (by simpa using ha)).trans (va_up_ne _ _ ha))
        have n1 : (1 : Nat) ≠ σ.2.1 := by omega
        have hrf2 : f2 1 = _ := (g2 1 (fun q => n1 (List.mem_singleton.mp q))).trans ((va_up_ne _ _ n1).trans rf1)
        have hp3 : f2 p0 = mj_O 2 (gw_po s i) := (g2 p0 (by simpa using hne)).trans ((va_up_ne _ _ hne).trans hp2)
        refine mw_cv0 76 i_GW_lamp_73 rfl (by repeat (first | exact mj_hs2 | exact mj_hs | assumption | refine mj_hn2 (by omega) ?_ | refine mj_hn (by omega) ?_)) (sp_Room_setPost (r := 1) (σ := (f2, _, _)) (s2 := gw_sLamp s i v) (by decide) hn14 hi hN (gw_rm_ext he hRf) (by rw [gw_sLamp_po hw]; exact g3) (fun c hc => gw_sLamp_wl hc) (fun j hj hne => gw_sLamp_po2 (by omega) (by omega) hne) (fun f3 g4 g5 => ?_)) rfl rfl (Nat.le_of_ble_eq_true rfl) (Nat.le_of_ble_eq_true rfl)
        have hp4 : f3 p0 = mj_O 2 (gw_po s i) := (g4 p0 (by simp; omega)).trans hp3
        refine mw_ld 77 i_GW_lamp_76 rfl rfl rfl ?_
        refine mw_get 80 i_GW_lamp_77 rfl (by repeat (first | exact mj_hs2 | exact mj_hs | assumption | refine mj_hn2 (by omega) ?_ | refine mj_hn (by omega) ?_)) (by rfl) ?_
        refine mw_ri i_GW_lamp_80 rfl rfl ?_
        rw [if_pos hw]
        refine k2 (by simp [hz, hb, hw]) f3 (fun a ha hne => ?_) (gw_fin hX he g4 (by decide) g5 hRf6)
        exact (g4 a (by simp; omega)).trans ((g2 a (by simpa using hne)).trans ((va_up_ne _ _ hne).trans (g1 a (gw_BLn ha))))
      · skip
        refine mw_ld 1 i_GW_lamp_0 rfl rfl rfl ?_
        refine mw_get 4 i_GW_lamp_1 rfl (by assumption) (by rfl) ?_
        refine mw_ld 5 i_GW_lamp_4 rfl rfl rfl ?_
        refine mw_cv1 8 i_GW_lamp_5 rfl (by assumption) (sp_Room_postAt_in hn14 x2 hi (fun p0 hp0 hp1 => ?_)) rfl rfl (Nat.le_of_ble_eq_true rfl) (Nat.le_of_ble_eq_true rfl)
        refine mw_st (ls' := [_, _, _, _]) 9 i_GW_lamp_8 rfl rfl rfl rfl ?_
        refine mw_ld 10 i_GW_lamp_9 rfl rfl rfl ?_
        refine mw_nuF 13 i_GW_lamp_10 rfl ?_
        refine mw_ld 14 i_GW_lamp_13 rfl rfl rfl ?_
        refine mw_k 15 i_GW_lamp_14 rfl ?_
        refine mw_k 16 i_GW_lamp_15 rfl ?_
        refine mw_cs1 19 i_GW_lamp_16 rfl (sp_GW_isWithin ?_) rfl rfl (Nat.le_of_ble_eq_true rfl) (Nat.le_of_ble_eq_true rfl)
        refine mw_if1 i_GW_lamp_19 (mj_bI1.mpr hb) ?_
        refine mw_ld 26 i_GW_lamp_25 rfl rfl rfl ?_
        refine mw_get 29 i_GW_lamp_26 rfl (by assumption) (by rfl) ?_
        refine mw_k 30 i_GW_lamp_29 rfl ?_
        refine mw_ic0 33 i_GW_lamp_30 rfl hw ?_
        refine mw_k 35 i_GW_lamp_33 rfl ?_
        refine mw_ri i_GW_lamp_35 rfl rfl ?_
        rw [if_pos hb] at k1
        exact k1 (by simp [hw])
    · skip
      refine mw_ld 1 i_GW_lamp_0 rfl rfl rfl ?_
      refine mw_get 4 i_GW_lamp_1 rfl (by assumption) (by rfl) ?_
      refine mw_ld 5 i_GW_lamp_4 rfl rfl rfl ?_
      refine mw_cv1 8 i_GW_lamp_5 rfl (by assumption) (sp_Room_postAt_in hn14 x2 hi (fun p0 hp0 hp1 => ?_)) rfl rfl (Nat.le_of_ble_eq_true rfl) (Nat.le_of_ble_eq_true rfl)
      refine mw_st (ls' := [_, _, _, _]) 9 i_GW_lamp_8 rfl rfl rfl rfl ?_
      refine mw_ld 10 i_GW_lamp_9 rfl rfl rfl ?_
      refine mw_nuF 13 i_GW_lamp_10 rfl ?_
      refine mw_ld 14 i_GW_lamp_13 rfl rfl rfl ?_
      refine mw_k 15 i_GW_lamp_14 rfl ?_
      refine mw_k 16 i_GW_lamp_15 rfl ?_
      refine mw_cs1 19 i_GW_lamp_16 rfl (sp_GW_isWithin ?_) rfl rfl (Nat.le_of_ble_eq_true rfl) (Nat.le_of_ble_eq_true rfl)
      refine mw_if0 22 i_GW_lamp_19 rfl (fun q => q (mj_bI0.mpr (gw_nt hb))) ?_
      refine mw_k 24 i_GW_lamp_22 rfl ?_
      refine mw_ri i_GW_lamp_24 rfl rfl ?_
      rw [if_neg hb] at k1
      exact k1 (by simp [hb])
  · skip
    refine mw_ld 1 i_GW_lamp_0 rfl rfl rfl ?_
    refine mw_get 4 i_GW_lamp_1 rfl (by assumption) (by rfl) ?_
    refine mw_ld 5 i_GW_lamp_4 rfl rfl rfl ?_
    refine mw_cv1 8 i_GW_lamp_5 rfl (by assumption) (sp_Room_postAt_out hn14 x2 (gw_nt hz) ?_) rfl rfl (Nat.le_of_ble_eq_true rfl) (Nat.le_of_ble_eq_true rfl)
    refine mw_st (ls' := [_, _, _, _]) 9 i_GW_lamp_8 rfl rfl rfl rfl ?_
    refine mw_ld 10 i_GW_lamp_9 rfl rfl rfl ?_
    refine mw_nuT i_GW_lamp_10 ?_
    refine mw_k 24 i_GW_lamp_22 rfl ?_
    refine mw_ri i_GW_lamp_24 rfl rfl ?_
    rw [a_lamp, if_neg hz] at k1
    exact k1 (by simp [gw_okLamp, hz])
theorem sp_GW_move {X : mj_X} {d : Nat} {σ : mj_H} {Q : Value → mj_H → Prop} {w h n : Nat} {s : Nat → Int32} {kp : Nat} {hn : Nat → Nat} {hs : Nat → Nat → Int32} {P : List gw_Row} {sz : Int32} (hI : gw_CI σ.1 w h n s kp hn hs P sz) (hd : gw_dim w h) (hn14 : n ≤ 14) (hv : gw_vp w h n s) {z v : Int32} (hN : 71 ≤ σ.2.1) (hnone : σ.1 σ.2.1 = none) (k1 : gw_okMove w h n s z v = false → Q (.int (a_move w h n z v)) σ) (k2 : gw_okMove w h n s z v = true → ∀ f, gw_keep1 σ.2.1 σ.1 f → gw_CI f w h n (gw_sMove s z.toInt.toNat v) (min (kp + 1) 10) (gw_push kp hn n) (gw_push kp hs s) [] sz → Q (.int (s (101 + z.toInt.toNat))) (f, σ.2.1 + 1, σ.2.2 + 6)) : mj_M X (d + 20) y_GW_move [.ref 0, .int z, .int v] σ (mj_V Q) := by
  obtain ⟨x1, x2, ⟨w6, h6, n6, s6, x3⟩, ⟨nx, x4⟩, x5, x6, ⟨st, qu, x7⟩, ce, ab, co, wy, bl, x8, x9⟩ := id hI
  obtain ⟨wl1, ps1, r1, -⟩ := id x2
  have hwh := gw_dim_le hd
  refine mw_in (l0 := [some (.ref 0), some (.int z), some (.int v), none]) rfl ?_
  by_cases hz : gw_isP n z = true
  · skip
    obtain ⟨i, hi, rfl⟩ := gw_isP_of hz
    rw [a_move, if_pos hz] at k1
    rw [gw_okMove, gw_tn (show i < 2147483648 by omega)] at k1 k2
    have hkd := (hv i hi).2.1
    obtain ⟨t, ht2, et⟩ := gw_kind_of hkd
    by_cases hb : gw_ce w h v = true
    · skip
      obtain ⟨v, hv2, rfl⟩ := gw_ce_of hd hb
      rw [gw_tn (show v < 2147483648 by omega)] at k1 k2
      by_cases hw : gw_st w h s v (s (115 + i)) = true
      · skip
        refine mw_ld 1 i_GW_move_0 rfl rfl rfl ?_
        refine mw_get 4 i_GW_move_1 rfl (by repeat (first | exact mj_hs2 | exact mj_hs | assumption | refine mj_hn2 (by omega) ?_ | refine mj_hn (by omega) ?_)) (by rfl) ?_
        refine mw_ld 5 i_GW_move_4 rfl rfl rfl ?_
        refine mw_cv1 8 i_GW_move_5 rfl (by repeat (first | exact mj_hs2 | exact mj_hs | assumption | refine mj_hn2 (by omega) ?_ | refine mj_hn (by omega) ?_)) (sp_Room_postAt_in hn14 x2 hi (fun p0 hp0 hp1 => ?_)) rfl rfl (Nat.le_of_ble_eq_true rfl) (Nat.le_of_ble_eq_true rfl)
        refine mw_st (ls' := [_, _, _, _]) 9 i_GW_move_8 rfl rfl rfl rfl ?_
        refine mw_ld 10 i_GW_move_9 rfl rfl rfl ?_
        refine mw_nuF 13 i_GW_move_10 rfl ?_
        refine mw_ld 14 i_GW_move_13 rfl rfl rfl ?_
        refine mw_get 17 i_GW_move_14 rfl (by repeat (first | exact mj_hs2 | exact mj_hs | assumption | refine mj_hn2 (by omega) ?_ | refine mj_hn (by omega) ?_)) (by rfl) ?_
        refine mw_ld 18 i_GW_move_17 rfl rfl rfl ?_
        refine mw_cv1 21 i_GW_move_18 rfl (by repeat (first | exact mj_hs2 | exact mj_hs | assumption | refine mj_hn2 (by omega) ?_ | refine mj_hn (by omega) ?_)) (sp_Room_hasCell hd x2 ?_) rfl rfl (Nat.le_of_ble_eq_true rfl) (Nat.le_of_ble_eq_true rfl)
        refine mw_if1 i_GW_move_21 (mj_bI1.mpr hb) ?_
        refine mw_ld 28 i_GW_move_27 rfl rfl rfl ?_
        refine mw_get 31 i_GW_move_28 rfl (by repeat (first | exact mj_hs2 | exact mj_hs | assumption | refine mj_hn2 (by omega) ?_ | refine mj_hn (by omega) ?_)) (by rfl) ?_
        refine mw_ld 32 i_GW_move_31 rfl rfl rfl ?_
        refine mw_ld 33 i_GW_move_32 rfl rfl rfl ?_
        refine mw_get 36 i_GW_move_33 rfl hp1 (by rfl) ?_
        rw [et]
        refine mw_cv1 39 i_GW_move_36 rfl (by repeat (first | exact mj_hs2 | exact mj_hs | assumption | refine mj_hn2 (by omega) ?_ | refine mj_hn (by omega) ?_)) (sp_Room_canStand hv2 ht2 hd x2 ?_) rfl rfl (Nat.le_of_ble_eq_true rfl) (Nat.le_of_ble_eq_true rfl)
        refine mw_if1 i_GW_move_39 (mj_bI1.mpr (by rw [← et]; exact hw)) ?_
        refine mw_ld 46 i_GW_move_45 rfl rfl rfl ?_
        refine mw_cv0 49 i_GW_move_46 rfl (by repeat (first | exact mj_hs2 | exact mj_hs | assumption | refine mj_hn2 (by omega) ?_ | refine mj_hn (by omega) ?_)) (sp_GW_beginChange hI hn14 (fun f g1 hX => ?_)) rfl rfl (Nat.le_of_ble_eq_true rfl) (Nat.le_of_ble_eq_true rfl)
        have hRf := gw_rm_fr g1 (by decide) (by decide) (by decide) (by decide) x2
        have hRf6 := gw_rm_fr g1 (by decide) (by decide) (by decide) (by decide) x3
        have h0f : f 0 = gw_c0 := hX.1
        have hNf : f σ.2.1 = none := (g1 _ (gw_BLn (by omega))).trans hnone
        obtain ⟨wlf, psf, rf1, -⟩ := id hRf
        have hp2 : f p0 = mj_O 2 (gw_po s i) := (g1 p0 (gw_BLn (by omega))).trans hp1
        have hne : p0 ≠ σ.2.1 := fun q => by rw [q, hnone] at hp1; cases hp1
        refine mw_ld 50 i_GW_move_49 rfl rfl rfl ?_
        refine mw_get 53 i_GW_move_50 rfl (by repeat (first | exact mj_hs2 | exact mj_hs | assumption | refine mj_hn2 (by omega) ?_ | refine mj_hn (by omega) ?_)) (by rfl) ?_
        refine mw_ld 54 i_GW_move_53 rfl rfl rfl ?_
        refine mw_new 57 i_GW_move_54 rfl ?_
        refine mw_dup 58 i_GW_move_57 rfl rfl ?_
        refine mw_ld 59 i_GW_move_58 rfl rfl rfl ?_
        refine mw_ld 60 i_GW_move_59 rfl rfl rfl ?_
        refine mw_get 63 i_GW_move_60 rfl (by repeat (first | exact mj_hs2 | exact mj_hs | assumption | refine mj_hn2 (by omega) ?_ | refine mj_hn (by omega) ?_)) (by rfl) ?_
        refine mw_ld 64 i_GW_move_63 rfl rfl rfl ?_
        refine mw_get 67 i_GW_move_64 rfl (by repeat (first | exact mj_hs2 | exact mj_hs | assumption | refine mj_hn2 (by omega) ?_ | refine mj_hn (by omega) ?_)) (by rfl) ?_
        refine mw_ld 68 i_GW_move_67 rfl rfl rfl ?_
        refine mw_get 71 i_GW_move_68 rfl (by repeat (first | exact mj_hs2 | exact mj_hs | assumption | refine mj_hn2 (by omega) ?_ | refine mj_hn (by omega) ?_)) (by rfl) ?_
        refine mw_ld 72 i_GW_move_71 rfl rfl rfl ?_
        refine mw_get 75 i_GW_move_72 rfl (by repeat (first | exact mj_hs2 | exact mj_hs | assumption | refine mj_hn2 (by omega) ?_ | refine mj_hn (by omega) ?_)) (by rfl) ?_
        refine mw_ld 76 i_GW_move_75 rfl rfl rfl ?_
        refine mw_get 79 i_GW_move_76 rfl (by repeat (first | exact mj_hs2 | exact mj_hs | assumption | refine mj_hn2 (by omega) ?_ | refine mj_hn (by omega) ?_)) (by rfl) ?_
        refine mw_ci 82 i_GW_move_79 rfl (sp_Post_init (by first | exact mj_hs2 | exact mj_hs) (fun f2 g2 g3 => ?_)) rfl rfl (Nat.le_of_ble_eq_true rfl) (Nat.le_of_ble_eq_true rfl)
        have he : gw_ext f f2 := gw_ext_new hNf (fun a ha => (g2 a (by simpa using ha)).trans (va_up_ne _ _ ha))
        have n1 : (1 : Nat) ≠ σ.2.1 := by omega
        have hrf2 : f2 1 = _ := (g2 1 (fun q => n1 (List.mem_singleton.mp q))).trans ((va_up_ne _ _ n1).trans rf1)
        have hp3 : f2 p0 = mj_O 2 (gw_po s i) := (g2 p0 (by simpa using hne)).trans ((va_up_ne _ _ hne).trans hp2)
        refine mw_cv0 85 i_GW_move_82 rfl (by repeat (first | exact mj_hs2 | exact mj_hs | assumption | refine mj_hn2 (by omega) ?_ | refine mj_hn (by omega) ?_)) (sp_Room_setPost (r := 1) (σ := (f2, _, _)) (s2 := gw_sMove s i (nI v)) (by decide) hn14 hi hN (gw_rm_ext he hRf) (by rw [gw_sMove_po]; exact g3) (fun c hc => gw_sMove_wl hc) (fun j hj hne => gw_sMove_po2 (by omega) (by omega) hne) (fun f3 g4 g5 => ?_)) rfl rfl (Nat.le_of_ble_eq_true rfl) (Nat.le_of_ble_eq_true rfl)
        have hp4 : f3 p0 = mj_O 2 (gw_po s i) := (g4 p0 (by simp; omega)).trans hp3
        refine mw_ld 86 i_GW_move_85 rfl rfl rfl ?_
        refine mw_get 89 i_GW_move_86 rfl (by repeat (first | exact mj_hs2 | exact mj_hs | assumption | refine mj_hn2 (by omega) ?_ | refine mj_hn (by omega) ?_)) (by rfl) ?_
        refine mw_ri i_GW_move_89 rfl rfl ?_
        refine k2 (by simp [hz, hb, hw]) f3 (fun a ha hne => ?_) (gw_fin hX he g4 (by decide) g5 hRf6)
        exact (g4 a (by simp; omega)).trans ((g2 a (by simpa using hne)).trans ((va_up_ne _ _ hne).trans (g1 a (gw_BLn ha))))
      · skip
        refine mw_ld 1 i_GW_move_0 rfl rfl rfl ?_
        refine mw_get 4 i_GW_move_1 rfl (by assumption) (by rfl) ?_
        refine mw_ld 5 i_GW_move_4 rfl rfl rfl ?_
        refine mw_cv1 8 i_GW_move_5 rfl (by assumption) (sp_Room_postAt_in hn14 x2 hi (fun p0 hp0 hp1 => ?_)) rfl rfl (Nat.le_of_ble_eq_true rfl) (Nat.le_of_ble_eq_true rfl)
        refine mw_st (ls' := [_, _, _, _]) 9 i_GW_move_8 rfl rfl rfl rfl ?_
        refine mw_ld 10 i_GW_move_9 rfl rfl rfl ?_
        refine mw_nuF 13 i_GW_move_10 rfl ?_
        refine mw_ld 14 i_GW_move_13 rfl rfl rfl ?_
        refine mw_get 17 i_GW_move_14 rfl (by assumption) (by rfl) ?_
        refine mw_ld 18 i_GW_move_17 rfl rfl rfl ?_
        refine mw_cv1 21 i_GW_move_18 rfl (by assumption) (sp_Room_hasCell hd x2 ?_) rfl rfl (Nat.le_of_ble_eq_true rfl) (Nat.le_of_ble_eq_true rfl)
        refine mw_if1 i_GW_move_21 (mj_bI1.mpr hb) ?_
        refine mw_ld 28 i_GW_move_27 rfl rfl rfl ?_
        refine mw_get 31 i_GW_move_28 rfl (by assumption) (by rfl) ?_
        refine mw_ld 32 i_GW_move_31 rfl rfl rfl ?_
        refine mw_ld 33 i_GW_move_32 rfl rfl rfl ?_
        refine mw_get 36 i_GW_move_33 rfl hp1 (by rfl) ?_
        rw [et]
        refine mw_cv1 39 i_GW_move_36 rfl (by assumption) (sp_Room_canStand hv2 ht2 hd x2 ?_) rfl rfl (Nat.le_of_ble_eq_true rfl) (Nat.le_of_ble_eq_true rfl)
        refine mw_if0 42 i_GW_move_39 rfl (fun q => q (mj_bI0.mpr (by rw [← et]; exact gw_nt hw))) ?_
        refine mw_k 44 i_GW_move_42 rfl ?_
        refine mw_ri i_GW_move_44 rfl rfl ?_
        rw [if_pos hb] at k1
        exact k1 (by simp [hw])
    · skip
      refine mw_ld 1 i_GW_move_0 rfl rfl rfl ?_
      refine mw_get 4 i_GW_move_1 rfl (by assumption) (by rfl) ?_
      refine mw_ld 5 i_GW_move_4 rfl rfl rfl ?_
      refine mw_cv1 8 i_GW_move_5 rfl (by assumption) (sp_Room_postAt_in hn14 x2 hi (fun p0 hp0 hp1 => ?_)) rfl rfl (Nat.le_of_ble_eq_true rfl) (Nat.le_of_ble_eq_true rfl)
      refine mw_st (ls' := [_, _, _, _]) 9 i_GW_move_8 rfl rfl rfl rfl ?_
      refine mw_ld 10 i_GW_move_9 rfl rfl rfl ?_
      refine mw_nuF 13 i_GW_move_10 rfl ?_
      refine mw_ld 14 i_GW_move_13 rfl rfl rfl ?_
      refine mw_get 17 i_GW_move_14 rfl (by assumption) (by rfl) ?_
      refine mw_ld 18 i_GW_move_17 rfl rfl rfl ?_
      refine mw_cv1 21 i_GW_move_18 rfl (by assumption) (sp_Room_hasCell hd x2 ?_) rfl rfl (Nat.le_of_ble_eq_true rfl) (Nat.le_of_ble_eq_true rfl)
      refine mw_if0 24 i_GW_move_21 rfl (fun q => q (mj_bI0.mpr (gw_nt hb))) ?_
      refine mw_k 26 i_GW_move_24 rfl ?_
      refine mw_ri i_GW_move_26 rfl rfl ?_
      rw [if_neg hb] at k1
      exact k1 (by simp [hb])
  · skip
    refine mw_ld 1 i_GW_move_0 rfl rfl rfl ?_
    refine mw_get 4 i_GW_move_1 rfl (by assumption) (by rfl) ?_
    refine mw_ld 5 i_GW_move_4 rfl rfl rfl ?_
    refine mw_cv1 8 i_GW_move_5 rfl (by assumption) (sp_Room_postAt_out hn14 x2 (gw_nt hz) ?_) rfl rfl (Nat.le_of_ble_eq_true rfl) (Nat.le_of_ble_eq_true rfl)
    refine mw_st (ls' := [_, _, _, _]) 9 i_GW_move_8 rfl rfl rfl rfl ?_
    refine mw_ld 10 i_GW_move_9 rfl rfl rfl ?_
    refine mw_nuT i_GW_move_10 ?_
    refine mw_k 26 i_GW_move_24 rfl ?_
    refine mw_ri i_GW_move_26 rfl rfl ?_
    rw [a_move, if_neg hz] at k1
    exact k1 (by simp [gw_okMove, hz])
