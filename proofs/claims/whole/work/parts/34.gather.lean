/-! Choice: what is seen -/
theorem gw_vup_fr {L : List Nat} {f f' : Nat → mj_C} {w h n : Nat} {s : Nat → Int32} (hf : gw_fr L f f') (h1 : 4 ∉ L) (h2 : 5 ∉ L) (hU : gw_vup f w h n s) : gw_vup f' w h n s := by
  obtain ⟨wt, ⟨v1, v2⟩, hw⟩ := hU
  exact ⟨wt, ⟨(hf 4 h1).trans v1, (hf 5 h2).trans v2⟩, hw⟩
theorem gw_vok_fr {L : List Nat} {f f' : Nat → mj_C} {w h n : Nat} {s : Nat → Int32} (hf : gw_fr L f f') (h1 : 4 ∉ L) (h2 : 5 ∉ L) (hU : gw_vok f w h n s) : gw_vok f' w h n s := by
  rcases hU with hU | ⟨wt, v1, v2⟩
  · exact .inl (gw_vup_fr hf h1 h2 hU)
  · exact .inr ⟨wt, (hf 4 h1).trans v1, (hf 5 h2).trans v2⟩
/-- what a post sees, what it and all later ones see -/
def gw_pk (w h n : Nat) (s : Nat → Int32) (k c : Nat) : Bool := decide (c < w * h) && bt (gw_wt w h n s c) k
def gw_rk (w h n : Nat) (s : Nat → Int32) (k c : Nat) : Bool := (List.range 14).any fun j => decide (k ≤ j) && gw_pk w h n s j c
theorem gw_rk_14 {w h n : Nat} {s : Nat → Int32} {c : Nat} : gw_rk w h n s 14 c = false := by
  simp only [gw_rk, List.any_eq_false, List.mem_range]
  intro j hj
  simp; omega
theorem gw_rk_step {w h n : Nat} {s : Nat → Int32} {k c : Nat} (hk : k < 14) : gw_rk w h n s k c = (gw_rk w h n s (k + 1) c || gw_pk w h n s k c) := by
  rw [Bool.eq_iff_iff, Bool.or_eq_true]
  simp only [gw_rk, List.any_eq_true, List.mem_range, Bool.and_eq_true, decide_eq_true_eq]
  constructor
  · rintro ⟨j, hj, h1, h2⟩
    by_cases e : j = k
    · subst e; exact .inr h2
    · exact .inl ⟨j, hj, by omega, h2⟩
  · rintro (⟨j, hj, h1, h2⟩ | h2)
    · exact ⟨j, hj, by omega, h2⟩
    · exact ⟨k, hk, Nat.le_refl _, h2⟩
theorem gw_wo_bt {w h n : Nat} {s : Nat → Int32} {c k : Nat} (hc : c < 2147483648) : bt (gw_wo w h n s (nI c)) k = gw_pk w h n s k c := by
  rw [gw_wo_nI hc, gw_pk]
  by_cases q : c < w * h
  · simp [q]
  · simp [q, b_0]
/-- the Choice has gathered -/
def gw_gs (w h n : Nat) (s : Nat → Int32) (lo hi rl rh : Nat → Int64) (k : Nat) : Prop := gw_rp (lo k) (hi k) (gw_pk w h n s k) ∧ gw_rp (rl k) (rh k) (gw_rk w h n s k)
theorem sp_Choice_gatherSeen {X : mj_X} {d : Nat} {σ : mj_H} {Q : mj_H → Prop} {w h n : Nat} {s : Nat → Int32} {ol oh : Int64} {up sz fi fo : Int32} {lo hi rl rh : Nat → Int64} (hC : gw_ch σ.1 ol oh up sz fi fo lo hi rl rh) (hd : gw_dim w h) (hR : gw_rm σ.1 1 w h n s) (hU : gw_vup σ.1 w h n s) (k : ∀ f lo2 hi2 rl2 rh2, gw_fr [42, 43, 44, 45] σ.1 f → gw_ch f ol oh up sz fi fo lo2 hi2 rl2 rh2 → (∀ q, q < 14 → gw_gs w h n s lo2 hi2 rl2 rh2 q) → Q (f, σ.2)) : mj_M X (d + 2) y_Choice_gatherSeen [.ref 41] σ (mj_U Q) := by
  have hwh := gw_dim_le hd
  refine mw_in (l0 := [some (.ref 41), none, none, none, none, none, none]) rfl ?_
  refine mw_k 1 i_Choice_gatherSeen_0 rfl ?_
  refine mw_st (ls' := [_, _, _, _, _, _, _]) 2 i_Choice_gatherSeen_1 rfl rfl rfl rfl ?_
  refine mw_k 3 i_Choice_gatherSeen_2 rfl ?_
  refine mw_st (ls' := [_, _, _, _, _, _, _]) 4 i_Choice_gatherSeen_3 rfl rfl rfl rfl ?_
  refine mw_k 6 i_Choice_gatherSeen_4 rfl ?_
  refine mw_st (ls' := [_, _, _, _, _, _, _]) 8 i_Choice_gatherSeen_6 rfl rfl rfl rfl ?_
  refine mj_for (S := Int64 × Int64 × Option Value × (Nat → mj_C)) (fun i u => mj_Wp X (d + 2) y_Choice_gatherSeen 8 [some (.ref 41), some (.long u.1), none, some (.long u.2.1), none, some (.int (iI (13 - (i : Int)))), u.2.2.1] [] (u.2.2.2, σ.2) (mj_U Q)) (fun i u => gw_fr [42, 43, 44, 45] σ.1 u.2.2.2 ∧ gw_rp u.1 u.2.1 (gw_rk w h n s (14 - i)) ∧ ∃ lo hi rl rh, gw_ch u.2.2.2 ol oh up sz fi fo lo hi rl rh ∧ ∀ k, 14 ≤ k + i → k < 14 → gw_gs w h n s lo hi rl rh k) 14 ?_ ?_ 0 (0, 0, none, σ.1) (Nat.zero_le _) ⟨gw_fr_rf _ _, gw_rp_cg (fun c _ => gw_rk_14.symm) gw_rp_0, lo, hi, rl, rh, hC, fun k h1 h2 => absurd h1 (by omega)⟩
  · rintro ⟨al, ah, u1, f⟩ ⟨f1, f2r, lo, hi, rl, rh, f3, f4⟩
    dsimp only at f1 f2r f3 ⊢
    refine mw_ld 10 i_Choice_gatherSeen_8 rfl rfl rfl ?_
    refine mw_if1 i_Choice_gatherSeen_10 (by decide) ?_
    refine mw_rv i_Choice_gatherSeen_135 rfl ?_
    exact k f lo hi rl rh f1 f3 (fun q hq => f4 q (by omega) hq)
  · rintro i ⟨al, ah, u1, f⟩ hi14 ⟨f1, f2r, lo, hi, rl, rh, f3, f4⟩ ih
    dsimp only at f1 f2r f3 ⊢
    obtain ⟨b1, b2, b3, b4, b5⟩ := id f3
    obtain ⟨K, eK⟩ : ∃ K, K = 13 - i := ⟨_, rfl⟩
    have hK14 : K < 14 := by omega
    have eK2 : iI (13 - (i : Int)) = nI K := iI_nab _ _ (by omega)
    rw [eK2]
    refine mw_ld 10 i_Choice_gatherSeen_8 rfl rfl rfl ?_
    refine mw_if0 13 i_Choice_gatherSeen_10 rfl (nI_pos (by omega)) ?_
    refine mw_ld 14 i_Choice_gatherSeen_13 rfl rfl rfl ?_
    refine mw_get 17 i_Choice_gatherSeen_14 rfl (by repeat (first | exact mj_hs2 | exact mj_hs | assumption | refine mj_hn2 (by omega) ?_ | refine mj_hn (by omega) ?_)) (by rfl) ?_
    refine mw_ld 19 i_Choice_gatherSeen_17 rfl rfl rfl ?_
    refine mw_k 20 i_Choice_gatherSeen_19 rfl ?_
    refine mw_last 21 K i_Choice_gatherSeen_20 rfl (by repeat (first | exact mj_hs2 | exact mj_hs | assumption | refine mj_hn2 (by omega) ?_ | refine mj_hn (by omega) ?_)) rfl hK14 (by decide) ?_
    refine mw_ld 22 i_Choice_gatherSeen_21 rfl rfl rfl ?_
    refine mw_get 25 i_Choice_gatherSeen_22 rfl (by repeat (first | exact mj_hs2 | exact mj_hs | assumption | refine mj_hn2 (by omega) ?_ | refine mj_hn (by omega) ?_)) (by rfl) ?_
    refine mw_ld 27 i_Choice_gatherSeen_25 rfl rfl rfl ?_
    refine mw_k 28 i_Choice_gatherSeen_27 rfl ?_
    refine mw_last 29 K i_Choice_gatherSeen_28 rfl (by repeat (first | exact mj_hs2 | exact mj_hs | assumption | refine mj_hn2 (by omega) ?_ | refine mj_hn (by omega) ?_)) rfl hK14 (by decide) ?_
    refine mw_k 30 i_Choice_gatherSeen_29 rfl ?_
    refine mw_st (ls' := [_, _, _, _, _, _, _]) 32 i_Choice_gatherSeen_30 rfl rfl rfl rfl ?_
    refine mj_for (S := Nat → mj_C) (fun j f2 => mj_Wp X (d + 2) y_Choice_gatherSeen 32 [some (.ref 41), some (.long al), none, some (.long ah), none, some (.int (nI K)), some (.int (nI j))] [] (f2, σ.2) (mj_U Q)) (fun j f2 => gw_fr [42, 43, 44, 45] σ.1 f2 ∧ ∃ lo2 hi2, gw_ch f2 ol oh up sz fi fo lo2 hi2 rl rh ∧ gw_rp (lo2 K) (hi2 K) (fun c => decide (c < j) && gw_pk w h n s K c) ∧ ∀ k, k ≠ K → lo2 k = lo k ∧ hi2 k = hi k) 100 ?_ ?_ 0 _ (Nat.zero_le _) ⟨gw_fr_up (gw_fr_up f1 (by simp)) (by simp), _, _, ⟨mj_hn (by decide) (mj_hn (by decide) b1), mj_hn (by decide) mj_hs, mj_hs, mj_hn (by decide) (mj_hn (by decide) b4), mj_hn (by decide) (mj_hn (by decide) b5)⟩, by rw [pk_uLs, pk_uLs]; exact gw_rp_cg (fun c _ => by simp) gw_rp_0, fun k hk => ⟨pk_uLn hk, pk_uLn hk⟩⟩
    · rintro f2 ⟨g1, lo2, hi2, g2, g3, g4⟩
      obtain ⟨e1, e2, e3, e4, e5⟩ := id g2
      refine mw_ld 34 i_Choice_gatherSeen_32 rfl rfl rfl ?_
      refine mw_k 36 i_Choice_gatherSeen_34 rfl ?_
      refine mw_ic1 i_Choice_gatherSeen_36 (by decide) ?_
      refine mw_ld 94 i_Choice_gatherSeen_93 rfl rfl rfl ?_
      refine mw_ld 95 i_Choice_gatherSeen_94 rfl rfl rfl ?_
      refine mw_get 98 i_Choice_gatherSeen_95 rfl (by repeat (first | exact mj_hs2 | exact mj_hs | assumption | refine mj_hn2 (by omega) ?_ | refine mj_hn (by omega) ?_)) (by rfl) ?_
      refine mw_ld 100 i_Choice_gatherSeen_98 rfl rfl rfl ?_
      refine mw_lald 101 K i_Choice_gatherSeen_100 rfl (by repeat (first | exact mj_hs2 | exact mj_hs | assumption | refine mj_hn2 (by omega) ?_ | refine mj_hn (by omega) ?_)) rfl hK14 (by decide) ?_
      refine mw_bl 102 i_Choice_gatherSeen_101 rfl ?_
      refine mw_st (ls' := [_, _, _, _, _, _, _]) 103 i_Choice_gatherSeen_102 rfl rfl rfl rfl ?_
      refine mw_ld 104 i_Choice_gatherSeen_103 rfl rfl rfl ?_
      refine mw_ld 105 i_Choice_gatherSeen_104 rfl rfl rfl ?_
      refine mw_get 108 i_Choice_gatherSeen_105 rfl (by repeat (first | exact mj_hs2 | exact mj_hs | assumption | refine mj_hn2 (by omega) ?_ | refine mj_hn (by omega) ?_)) (by rfl) ?_
      refine mw_ld 110 i_Choice_gatherSeen_108 rfl rfl rfl ?_
      refine mw_lald 111 K i_Choice_gatherSeen_110 rfl (by repeat (first | exact mj_hs2 | exact mj_hs | assumption | refine mj_hn2 (by omega) ?_ | refine mj_hn (by omega) ?_)) rfl hK14 (by decide) ?_
      refine mw_bl 112 i_Choice_gatherSeen_111 rfl ?_
      refine mw_st (ls' := [_, _, _, _, _, _, _]) 113 i_Choice_gatherSeen_112 rfl rfl rfl rfl ?_
      refine mw_ld 114 i_Choice_gatherSeen_113 rfl rfl rfl ?_
      refine mw_get 117 i_Choice_gatherSeen_114 rfl (by repeat (first | exact mj_hs2 | exact mj_hs | assumption | refine mj_hn2 (by omega) ?_ | refine mj_hn (by omega) ?_)) (by rfl) ?_
      refine mw_ld 119 i_Choice_gatherSeen_117 rfl rfl rfl ?_
      refine mw_ld 120 i_Choice_gatherSeen_119 rfl rfl rfl ?_
      refine mw_last 121 K i_Choice_gatherSeen_120 rfl (by repeat (first | exact mj_hs2 | exact mj_hs | assumption | refine mj_hn2 (by omega) ?_ | refine mj_hn (by omega) ?_)) rfl hK14 (by decide) ?_
      refine mw_ld 122 i_Choice_gatherSeen_121 rfl rfl rfl ?_
      refine mw_get 125 i_Choice_gatherSeen_122 rfl (by repeat (first | exact mj_hs2 | exact mj_hs | assumption | refine mj_hn2 (by omega) ?_ | refine mj_hn (by omega) ?_)) (by rfl) ?_
      refine mw_ld 127 i_Choice_gatherSeen_125 rfl rfl rfl ?_
      refine mw_ld 128 i_Choice_gatherSeen_127 rfl rfl rfl ?_
      refine mw_last 129 K i_Choice_gatherSeen_128 rfl (by repeat (first | exact mj_hs2 | exact mj_hs | assumption | refine mj_hn2 (by omega) ?_ | refine mj_hn (by omega) ?_)) rfl hK14 (by decide) ?_
      refine mw_inc (ls' := [_, _, _, _, _, _, _]) 132 (iI (13 - ((i + 1 : Nat) : Int))) i_Choice_gatherSeen_129 rfl rfl rfl (by rw [iI_nI, show (-1 : Int32) = iI (-1) from rfl, iI_add]; congr 1; omega) rfl ?_
      refine mw_go i_Choice_gatherSeen_132 ?_
      have r3 : gw_rp (lo2 K) (hi2 K) (gw_pk w h n s K) := gw_rp_cg (fun c _ => by simp only [gw_pk]; by_cases q : c < w * h; (have : c < 100 := by omega); simp [this]; simp [q]) g3
      have r4 : gw_rp (al ||| lo2 K) (ah ||| hi2 K) (gw_rk w h n s K) := gw_rp_cg (fun c _ => by rw [gw_rk_step hK14, show K + 1 = 14 - i by omega]) (gw_rp_or f2r r3)
      have hfr : gw_fr [42, 43, 44, 45] σ.1 (va_up (va_up f2 44 (mj_AJ 14 (vp_updL rl K (al ||| lo2 K)))) 45 (mj_AJ 14 (vp_updL rh K (ah ||| hi2 K)))) := gw_fr_up (gw_fr_up g1 (by simp)) (by simp)
      have hch : gw_ch (va_up (va_up f2 44 (mj_AJ 14 (vp_updL rl K (al ||| lo2 K)))) 45 (mj_AJ 14 (vp_updL rh K (ah ||| hi2 K)))) ol oh up sz fi fo lo2 hi2 (vp_updL rl K (al ||| lo2 K)) (vp_updL rh K (ah ||| hi2 K)) := ⟨mj_hn (by decide) (mj_hn (by decide) e1), mj_hn (by decide) (mj_hn (by decide) e2), mj_hn (by decide) (mj_hn (by decide) e3), mj_hn (by decide) mj_hs, mj_hs⟩
      refine ih (_, _, _, va_up (va_up f2 44 (mj_AJ 14 (vp_updL rl K (al ||| lo2 K)))) 45 (mj_AJ 14 (vp_updL rh K (ah ||| hi2 K)))) ⟨hfr, by rw [show 14 - (i + 1) = K by omega]; exact r4, _, _, _, _, hch, fun k hk1 hk2 => ?_⟩
      by_cases e : k = K
      · subst e
        exact ⟨r3, by rw [pk_uLs, pk_uLs]; exact r4⟩
      · have hq := f4 k (by omega) hk2
        exact ⟨by rw [(g4 k e).1, (g4 k e).2]; exact hq.1, by rw [pk_uLn e, pk_uLn e]; exact hq.2⟩
    · rintro j f2 hj ⟨g1, lo2, hi2, g2, g3, g4⟩ ih2
      obtain ⟨e1, e2, e3, e4, e5⟩ := id g2
      have hR2 : gw_rm f2 1 w h n s := gw_rm_fr g1 (by decide) (by decide) (by decide) (by decide) hR
      have hU2 : gw_vup f2 w h n s := gw_vup_fr g1 (by decide) (by decide) hU
      obtain ⟨wt2, ⟨v1, v2⟩, -⟩ := id hU2
      refine mw_ld 34 i_Choice_gatherSeen_32 rfl rfl rfl ?_
      refine mw_k 36 i_Choice_gatherSeen_34 rfl ?_
      refine mw_ic0 39 i_Choice_gatherSeen_36 rfl (nI_ge (b := 100) hj (by decide)) ?_
      refine mw_ld 40 i_Choice_gatherSeen_39 rfl rfl rfl ?_
      refine mw_get 43 i_Choice_gatherSeen_40 rfl (by repeat (first | exact mj_hs2 | exact mj_hs | assumption | refine mj_hn2 (by omega) ?_ | refine mj_hn (by omega) ?_)) (by rfl) ?_
      refine mw_ld 45 i_Choice_gatherSeen_43 rfl rfl rfl ?_
      refine mw_cv1 48 i_Choice_gatherSeen_45 rfl (by repeat (first | exact mj_hs2 | exact mj_hs | assumption | refine mj_hn2 (by omega) ?_ | refine mj_hn (by omega) ?_)) (sp_View_watchersOf (σ := (f2, σ.2)) hd hR2 hU2 ?_) rfl rfl (Nat.le_of_ble_eq_true rfl) (Nat.le_of_ble_eq_true rfl)
      refine mw_ld 50 i_Choice_gatherSeen_48 rfl rfl rfl ?_
      refine mw_b 51 i_Choice_gatherSeen_50 rfl ?_
      refine mw_k 52 i_Choice_gatherSeen_51 rfl ?_
      refine mw_b 53 i_Choice_gatherSeen_52 rfl ?_
      refine mw_k 54 i_Choice_gatherSeen_53 rfl ?_
      refine mw_ic 57 i_Choice_gatherSeen_54 rfl (fun h54 => ?_) (fun h54 => ?_)
      · refine mw_inc (ls' := [_, _, _, _, _, _, _]) 90 (nI (j + 1)) i_Choice_gatherSeen_87 rfl rfl rfl (nI_1 j) rfl ?_
        refine mw_go i_Choice_gatherSeen_90 ?_
        first
        | (have hb : gw_pk w h n s K j = true := by rw [← gw_wo_bt (by omega)]; exact (gw_tb _ (by omega)).mp (Classical.not_not.mp h54)
           refine ih2 _ ⟨gw_fr_up (gw_fr_up g1 (by simp)) (by simp), _, _, ⟨mj_hn (by decide) (mj_hn (by decide) e1), mj_hn (by decide) mj_hs, mj_hs, mj_hn (by decide) (mj_hn (by decide) e4), mj_hn (by decide) (mj_hn (by decide) e5)⟩, ?_, fun k hk => ?_⟩
           · rw [pk_uLs, pk_uLs]
             refine gw_rp_cg (fun c _ => ?_) (gw_rp_or g3 (gw_rp_b hj))
             by_cases e : c = j
             · subst e; simp [hb]
             · have : c < j + 1 ↔ c < j := by omega
               simp [e, this]
           · rw [pk_uLn hk, pk_uLn hk]; exact g4 k hk)
        | (have hb : gw_pk w h n s K j = false := by
             rw [← gw_wo_bt (by omega), ← Bool.not_eq_true, ← gw_tb _ (by omega)]; exact h54
           refine ih2 _ ⟨g1, lo2, hi2, g2, gw_rp_cg (fun c _ => ?_) g3, g4⟩
           by_cases e : c = j
           · subst e; simp [hb]
           · have : c < j + 1 ↔ c < j := by omega
             simp [this])
      · refine mw_ld 58 i_Choice_gatherSeen_57 rfl rfl rfl ?_
        refine mw_get 61 i_Choice_gatherSeen_58 rfl (by repeat (first | exact mj_hs2 | exact mj_hs | assumption | refine mj_hn2 (by omega) ?_ | refine mj_hn (by omega) ?_)) (by rfl) ?_
        refine mw_ld 63 i_Choice_gatherSeen_61 rfl rfl rfl ?_
        refine mw_dup2 64 i_Choice_gatherSeen_63 rfl rfl rfl ?_
        refine mw_lald 65 K i_Choice_gatherSeen_64 rfl (by repeat (first | exact mj_hs2 | exact mj_hs | assumption | refine mj_hn2 (by omega) ?_ | refine mj_hn (by omega) ?_)) rfl hK14 (by decide) ?_
        refine mw_ld 67 i_Choice_gatherSeen_65 rfl rfl rfl ?_
        refine mw_cs1 70 i_Choice_gatherSeen_67 rfl (sp_Choice_lowBit ?_) rfl rfl (Nat.le_of_ble_eq_true rfl) (Nat.le_of_ble_eq_true rfl)
        refine mw_bl 71 i_Choice_gatherSeen_70 rfl ?_
        refine mw_last 72 K i_Choice_gatherSeen_71 rfl (by repeat (first | exact mj_hs2 | exact mj_hs | assumption | refine mj_hn2 (by omega) ?_ | refine mj_hn (by omega) ?_)) rfl hK14 (by decide) ?_
        refine mw_ld 73 i_Choice_gatherSeen_72 rfl rfl rfl ?_
        refine mw_get 76 i_Choice_gatherSeen_73 rfl (by repeat (first | exact mj_hs2 | exact mj_hs | assumption | refine mj_hn2 (by omega) ?_ | refine mj_hn (by omega) ?_)) (by rfl) ?_
        refine mw_ld 78 i_Choice_gatherSeen_76 rfl rfl rfl ?_
        refine mw_dup2 79 i_Choice_gatherSeen_78 rfl rfl rfl ?_
        refine mw_lald 80 K i_Choice_gatherSeen_79 rfl (by repeat (first | exact mj_hs2 | exact mj_hs | assumption | refine mj_hn2 (by omega) ?_ | refine mj_hn (by omega) ?_)) rfl hK14 (by decide) ?_
        refine mw_ld 82 i_Choice_gatherSeen_80 rfl rfl rfl ?_
        refine mw_cs1 85 i_Choice_gatherSeen_82 rfl (sp_Choice_highBit ?_) rfl rfl (Nat.le_of_ble_eq_true rfl) (Nat.le_of_ble_eq_true rfl)
        refine mw_bl 86 i_Choice_gatherSeen_85 rfl ?_
        refine mw_last 87 K i_Choice_gatherSeen_86 rfl (by repeat (first | exact mj_hs2 | exact mj_hs | assumption | refine mj_hn2 (by omega) ?_ | refine mj_hn (by omega) ?_)) rfl hK14 (by decide) ?_
        refine mw_inc (ls' := [_, _, _, _, _, _, _]) 90 (nI (j + 1)) i_Choice_gatherSeen_87 rfl rfl rfl (nI_1 j) rfl ?_
        refine mw_go i_Choice_gatherSeen_90 ?_
        first
        | (have hb : gw_pk w h n s K j = true := by rw [← gw_wo_bt (by omega)]; exact (gw_tb _ (by omega)).mp (Classical.not_not.mp h54)
           refine ih2 _ ⟨gw_fr_up (gw_fr_up g1 (by simp)) (by simp), _, _, ⟨mj_hn (by decide) (mj_hn (by decide) e1), mj_hn (by decide) mj_hs, mj_hs, mj_hn (by decide) (mj_hn (by decide) e4), mj_hn (by decide) (mj_hn (by decide) e5)⟩, ?_, fun k hk => ?_⟩
           · rw [pk_uLs, pk_uLs]
             refine gw_rp_cg (fun c _ => ?_) (gw_rp_or g3 (gw_rp_b hj))
             by_cases e : c = j
             · subst e; simp [hb]
             · have : c < j + 1 ↔ c < j := by omega
               simp [e, this]
           · rw [pk_uLn hk, pk_uLn hk]; exact g4 k hk)
        | (have hb : gw_pk w h n s K j = false := by
             rw [← gw_wo_bt (by omega), ← Bool.not_eq_true, ← gw_tb _ (by omega)]; exact h54
           refine ih2 _ ⟨g1, lo2, hi2, g2, gw_rp_cg (fun c _ => ?_) g3, g4⟩
           by_cases e : c = j
           · subst e; simp [hb]
           · have : c < j + 1 ↔ c < j := by omega
             simp [this])
