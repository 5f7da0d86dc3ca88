/-! Choice: solve -/
theorem sp_Choice_extend {X : mj_X} {w h n : Nat} {s : Nat → Int32} {ol oh : Int64} {up sz : Int32} {lo hi rl rh : Nat → Int64} (hd : gw_dim w h) (hn : n ≤ 14) (hO : gw_rp ol oh (gw_opn w h s)) (hG : ∀ q, q < 14 → gw_gs w h n s lo hi rl rh q) {m : Nat} (hm : m ≤ 14) {d i : Nat} {z fi : Int32} {fo : Nat} {sl sh : Int64} {σ : mj_H} {Q : mj_H → Prop} (h1 : i ≤ n) (h2 : gw_ch σ.1 ol oh up sz fi (nI fo) lo hi rl rh) (h3 : ∃ u, σ.1 4 = mj_O 6 [.ref 1, .ref 5, .int u]) (h4 : ∃ s', gw_rm σ.1 1 w h n s') (h5 : gw_rp sl sh (gw_ss w h n s z)) (h6 : fo + (gw_E (n - i) i m).length < 2 ^ 31) (k : ∀ f, gw_fr [41] σ.1 f → gw_ch f ol oh up sz (gw_pr w h n s z (gw_E (n - i) i m) (fi, fo)).1 (nI (gw_pr w h n s z (gw_E (n - i) i m) (fi, fo)).2) lo hi rl rh → Q (f, σ.2)) : mj_M X (d + 15) y_Choice_extend [.ref 41, .int (nI m), .int (nI i), .int z, .long sl, .long sh] σ (mj_U Q) := by
  have h := sp_Choice_extend_all (X := X) hd hn hO hG m hm (d := d + (14 - m)) h1 h2 h3 h4 h5 h6 k
  rwa [show d + (14 - m) + m + 1 = d + 15 by omega] at h
/-- the fewest, the first choice, how many: after the sets of fewer than so many posts -/
def gw_so (w h n : Nat) (s : Nat → Int32) : Nat → Int32 × Int32 × Nat
  | 0 => (gw_NONE, gw_NONE, 0)
  | m + 1 => if (gw_so w h n s m).2.2 = 0 then (if 0 < (gw_pr w h n s 0 (gw_E n 0 m) ((gw_so w h n s m).2.1, 0)).2 then nI m else gw_NONE, (gw_pr w h n s 0 (gw_E n 0 m) ((gw_so w h n s m).2.1, 0)).1, (gw_pr w h n s 0 (gw_E n 0 m) ((gw_so w h n s m).2.1, 0)).2) else gw_so w h n s m
theorem gw_so_st {w h n : Nat} {s : Nat → Int32} {m : Nat} (hm : ¬ (gw_so w h n s m).2.2 = 0) : ∀ j, gw_so w h n s (m + j) = gw_so w h n s m
  | 0 => rfl
  | j + 1 => by
    have ih := gw_so_st hm j
    show gw_so w h n s (m + j + 1) = _
    rw [gw_so, ih, if_neg hm]
theorem gw_so_lt {w h n : Nat} {s : Nat → Int32} (hn : n ≤ 14) : ∀ m, (gw_so w h n s m).2.2 ≤ 16384
  | 0 => by simp [gw_so]
  | m + 1 => by
    rw [gw_so]
    split
    · have h1 := gw_pr_le (w := w) (h := h) (n := n) (s := s) (z := 0) (L := gw_E n 0 m) (q := ((gw_so w h n s m).2.1, 0))
      have h2 := gw_E_len (j := n) (i := 0) (m := m)
      have h3 : 2 ^ n ≤ 2 ^ 14 := Nat.pow_le_pow_right (by decide) hn
      have h4 : (2 : Nat) ^ 14 = 16384 := by decide
      dsimp only at h1 ⊢
      omega
    · exact gw_so_lt hn m
abbrev gw_sl (w h n : Nat) (s : Nat → Int32) : Int32 × Int32 × Nat := gw_so w h n s 15
def gw_cup (f : Nat → mj_C) (w h n : Nat) (s : Nat → Int32) : Prop := ∃ ol oh lo hi rl rh, gw_ch f ol oh 1 (gw_sl w h n s).1 (gw_sl w h n s).2.1 (nI (gw_sl w h n s).2.2) lo hi rl rh
def gw_cok (f : Nat → mj_C) (w h n : Nat) (s : Nat → Int32) : Prop := gw_cup f w h n s ∨ ∃ ol oh sz fi fo lo hi rl rh, gw_ch f ol oh 0 sz fi fo lo hi rl rh
theorem gw_ss_0 {w h n : Nat} {s : Nat → Int32} {c : Nat} : gw_ss w h n s 0 c = false := by simp [gw_ss, b_0]
theorem nI_z {k : Nat} (h : k < 2147483648) : nI k = 0 ↔ k = 0 := by
  constructor
  · intro q
    apply Classical.byContradiction
    intro q2
    exact nI_ne0 (by omega) h q
  · intro q; subst q; rfl
theorem sp_Choice_solve {X : mj_X} {d : Nat} {σ : mj_H} {Q : mj_H → Prop} {w h n : Nat} {s : Nat → Int32} (hn : n ≤ 14) (hd : gw_dim w h) (hR : gw_rm σ.1 1 w h n s) (hU : gw_vup σ.1 w h n s) (hC : gw_cok σ.1 w h n s) (k : ∀ f, gw_fr [41, 42, 43, 44, 45] σ.1 f → gw_cup f w h n s → Q (f, σ.2)) : mj_M X (d + 16) y_Choice_solve [.ref 41] σ (mj_U Q) := by
  refine mw_in (l0 := [some (.ref 41), none]) rfl ?_
  rcases hC with hC | hC
  · obtain ⟨ol, oh, lo, hi, rl, rh, hC⟩ := id hC
    obtain ⟨b1, b2, b3, b4, b5⟩ := id hC
    refine mw_ld 1 i_Choice_solve_0 rfl rfl rfl ?_
    refine mw_get 4 i_Choice_solve_1 rfl (by assumption) (by rfl) ?_
    refine mw_if0 7 i_Choice_solve_4 rfl (by decide) ?_
    refine mw_rv i_Choice_solve_7 rfl ?_
    exact k σ.1 (gw_fr_rf _ _) ⟨ol, oh, lo, hi, rl, rh, hC⟩
  · obtain ⟨ol, oh, sz, fi, fo, lo, hi, rl, rh, hC⟩ := id hC
    obtain ⟨b1, b2, b3, b4, b5⟩ := id hC
    obtain ⟨wt, hV, -⟩ := id hU
    refine mw_ld 1 i_Choice_solve_0 rfl rfl rfl ?_
    refine mw_get 4 i_Choice_solve_1 rfl (by repeat (first | exact mj_hs2 | exact mj_hs | assumption | refine mj_hn2 (by omega) ?_ | refine mj_hn (by omega) ?_)) (by rfl) ?_
    refine mw_if1 i_Choice_solve_4 rfl ?_
    refine mw_ld 9 i_Choice_solve_8 rfl rfl rfl ?_
    refine mw_cv0 12 i_Choice_solve_9 rfl (by repeat (first | exact mj_hs2 | exact mj_hs | assumption | refine mj_hn2 (by omega) ?_ | refine mj_hn (by omega) ?_)) (sp_Choice_gatherOpen hC hd hR hV (fun f1 ol2 oh2 g1 g2 hO => ?_)) rfl rfl (Nat.le_of_ble_eq_true rfl) (Nat.le_of_ble_eq_true rfl)
    have hR1 : gw_rm f1 1 w h n s := gw_rm_fr g1 (by decide) (by decide) (by decide) (by decide) hR
    have hU1 : gw_vup f1 w h n s := gw_vup_fr g1 (by decide) (by decide) hU
    obtain ⟨x1, x2, x3, x4, x5⟩ := id g2
    refine mw_ld 13 i_Choice_solve_12 rfl rfl rfl ?_
    refine mw_cv0 16 i_Choice_solve_13 rfl (by repeat (first | exact mj_hs2 | exact mj_hs | assumption | refine mj_hn2 (by omega) ?_ | refine mj_hn (by omega) ?_)) (sp_Choice_gatherSeen (σ := (f1, σ.2)) g2 hd hR1 hU1 (fun f2 lo2 hi2 rl2 rh2 g3 g4 hG => ?_)) rfl rfl (Nat.le_of_ble_eq_true rfl) (Nat.le_of_ble_eq_true rfl)
    obtain ⟨d1, d2, d3, d4, d5⟩ := id g4
    have g5 : gw_fr [41, 42, 43, 44, 45] σ.1 f2 := gw_fr_tr (gw_fr_sub g1 (by simp)) (gw_fr_sub g3 (by simp))
    refine mw_ld 17 i_Choice_solve_16 rfl rfl rfl ?_
    refine mw_k 19 i_Choice_solve_17 rfl ?_
    refine mw_put (fs' := [_, _, _, _, _, _, _, _, _, _, _]) 22 i_Choice_solve_19 rfl (by repeat (first | exact mj_hs2 | exact mj_hs | assumption | refine mj_hn2 (by omega) ?_ | refine mj_hn (by omega) ?_)) (Nat.le_of_ble_eq_true rfl) rfl rfl (fun _ h => by cases h) (by rfl) ?_
    refine mw_ld 23 i_Choice_solve_22 rfl rfl rfl ?_
    refine mw_k 25 i_Choice_solve_23 rfl ?_
    refine mw_put (fs' := [_, _, _, _, _, _, _, _, _, _, _]) 28 i_Choice_solve_25 rfl (by repeat (first | exact mj_hs2 | exact mj_hs | assumption | refine mj_hn2 (by omega) ?_ | refine mj_hn (by omega) ?_)) (Nat.le_of_ble_eq_true rfl) rfl rfl (fun _ h => by cases h) (by rfl) ?_
    refine mw_ld 29 i_Choice_solve_28 rfl rfl rfl ?_
    refine mw_k 30 i_Choice_solve_29 rfl ?_
    refine mw_put (fs' := [_, _, _, _, _, _, _, _, _, _, _]) 33 i_Choice_solve_30 rfl (by repeat (first | exact mj_hs2 | exact mj_hs | assumption | refine mj_hn2 (by omega) ?_ | refine mj_hn (by omega) ?_)) (Nat.le_of_ble_eq_true rfl) rfl rfl (fun _ h => by cases h) (by rfl) ?_
    refine mw_k 34 i_Choice_solve_33 rfl ?_
    refine mw_st (ls' := [_, _]) 35 i_Choice_solve_34 rfl rfl rfl rfl ?_
    refine mj_for (S := Nat → mj_C) (fun i f => mj_Wp X (d + 16) y_Choice_solve 35 [some (.ref 41), some (.int (nI i))] [] (f, σ.2) (mj_U Q)) (fun i f => gw_fr [41, 42, 43, 44, 45] σ.1 f ∧ gw_ch f ol2 oh2 0 (gw_so w h n s i).1 (gw_so w h n s i).2.1 (nI (gw_so w h n s i).2.2) lo2 hi2 rl2 rh2) 15 ?_ ?_ 0 _ (Nat.zero_le _) ⟨gw_fr_up (gw_fr_up (gw_fr_up g5 (by simp)) (by simp)) (by simp), mj_hs, mj_hn (by decide) (mj_hn (by decide) (mj_hn (by decide) d2)), mj_hn (by decide) (mj_hn (by decide) (mj_hn (by decide) d3)), mj_hn (by decide) (mj_hn (by decide) (mj_hn (by decide) d4)), mj_hn (by decide) (mj_hn (by decide) (mj_hn (by decide) d5))⟩
    · rintro f ⟨f1, f3⟩
      obtain ⟨b1, b2, b3, b4, b5⟩ := id f3
      refine mw_ld 36 i_Choice_solve_35 rfl rfl rfl ?_
      refine mw_k 38 i_Choice_solve_36 rfl ?_
      refine mw_ic1 i_Choice_solve_38 (by decide) ?_
      refine mw_ld 81 i_Choice_solve_80 rfl rfl rfl ?_
      refine mw_k 82 i_Choice_solve_81 rfl ?_
      refine mw_put (fs' := [_, _, _, _, _, _, _, _, _, _, _]) 85 i_Choice_solve_82 rfl (by repeat (first | exact mj_hs2 | exact mj_hs | assumption | refine mj_hn2 (by omega) ?_ | refine mj_hn (by omega) ?_)) (Nat.le_of_ble_eq_true rfl) rfl rfl (fun _ h => by cases h) (by rfl) ?_
      refine mw_rv i_Choice_solve_85 rfl ?_
      refine k _ (gw_fr_up f1 (by simp)) ⟨ol2, oh2, lo2, hi2, rl2, rh2, ?_⟩
      have e := rfl (a := gw_so w h n s 15)
      rw [gw_sl, e]
      exact ⟨mj_hs, mj_hn (by decide) b2, mj_hn (by decide) b3, mj_hn (by decide) b4, mj_hn (by decide) b5⟩
    · rintro i f hi ⟨f1, f3⟩ ih
      obtain ⟨b1, b2, b3, b4, b5⟩ := id f3
      have hlt := gw_so_lt (w := w) (h := h) (s := s) hn i
      by_cases hz : (gw_so w h n s i).2.2 = 0
      · have hRf : gw_rm f 1 w h n s := gw_rm_fr f1 (by decide) (by decide) (by decide) (by decide) hR
        have hUf : gw_vup f w h n s := gw_vup_fr f1 (by decide) (by decide) hU
        obtain ⟨wt2, ⟨v1, v2⟩, -⟩ := hUf
        have hln := gw_E_len (j := n) (i := 0) (m := i)
        have hp14 : 2 ^ n ≤ 2 ^ 14 := Nat.pow_le_pow_right (by decide) hn
        refine mw_ld 36 i_Choice_solve_35 rfl rfl rfl ?_
        refine mw_k 38 i_Choice_solve_36 rfl ?_
        refine mw_ic0 41 i_Choice_solve_38 rfl (nI_nlt (a := 14) (by omega) (by decide)) ?_
        refine mw_ld 42 i_Choice_solve_41 rfl rfl rfl ?_
        refine mw_get 45 i_Choice_solve_42 rfl (by repeat (first | exact mj_hs2 | exact mj_hs | assumption | refine mj_hn2 (by omega) ?_ | refine mj_hn (by omega) ?_)) (by rfl) ?_
        refine mw_if0 48 i_Choice_solve_45 rfl (by rw [hz]; decide) ?_
        refine mw_ld 49 i_Choice_solve_48 rfl rfl rfl ?_
        refine mw_ld 50 i_Choice_solve_49 rfl rfl rfl ?_
        refine mw_k 51 i_Choice_solve_50 rfl ?_
        refine mw_k 52 i_Choice_solve_51 rfl ?_
        refine mw_k 53 i_Choice_solve_52 rfl ?_
        refine mw_k 54 i_Choice_solve_53 rfl ?_
        refine mw_cv0 57 i_Choice_solve_54 rfl (by repeat (first | exact mj_hs2 | exact mj_hs | assumption | refine mj_hn2 (by omega) ?_ | refine mj_hn (by omega) ?_)) (sp_Choice_extend (σ := (f, σ.2)) (m := i) (i := 0) (fo := 0) (fi := (gw_so w h n s i).2.1) hd hn hO hG (by omega) (Nat.zero_le _) (by rw [hz] at f3; exact f3) ⟨_, v1⟩ ⟨s, hRf⟩ (gw_rp_cg (fun c _ => gw_ss_0.symm) gw_rp_0) (by rw [Nat.sub_zero]; omega) (fun f4 g6 g7 => ?_)) rfl rfl (Nat.le_of_ble_eq_true rfl) (Nat.le_of_ble_eq_true rfl)
        rw [Nat.sub_zero] at g7
        obtain ⟨e1, e2, e3, e4, e5⟩ := id g7
        have hp2 := gw_pr_le (w := w) (h := h) (n := n) (s := s) (z := 0) (L := gw_E n 0 i) (q := ((gw_so w h n s i).2.1, 0))
        dsimp only at hp2
        refine mw_ld 58 i_Choice_solve_57 rfl rfl rfl ?_
        refine mw_ld 59 i_Choice_solve_58 rfl rfl rfl ?_
        refine mw_get 62 i_Choice_solve_59 rfl (by repeat (first | exact mj_hs2 | exact mj_hs | assumption | refine mj_hn2 (by omega) ?_ | refine mj_hn (by omega) ?_)) (by rfl) ?_
        refine mw_if 65 i_Choice_solve_62 rfl (fun h62 => ?_) (fun h62 => ?_)
        · refine mw_k 71 i_Choice_solve_69 rfl ?_
          refine mw_put (fs' := [_, _, _, _, _, _, _, _, _, _, _]) 74 i_Choice_solve_71 rfl (by repeat (first | exact mj_hs2 | exact mj_hs | assumption | refine mj_hn2 (by omega) ?_ | refine mj_hn (by omega) ?_)) (Nat.le_of_ble_eq_true rfl) rfl rfl (fun _ h => by cases h) (by rfl) ?_
          refine mw_inc (ls' := [_, _]) 77 (nI (i + 1)) i_Choice_solve_74 rfl rfl rfl (nI_1 i) rfl ?_
          refine mw_go i_Choice_solve_77 ?_
          have hfr := gw_fr_tr f1 (gw_fr_sub g6 (by simp) : gw_fr [41, 42, 43, 44, 45] f f4)
          have hs := show gw_so w h n s (i + 1) = _ by rw [gw_so, if_pos hz]
          first
          | (have hnp : ¬ 0 < (gw_pr w h n s 0 (gw_E n 0 i) ((gw_so w h n s i).2.1, 0)).2 := fun q => by
               have := nI_nle q (by omega)
               exact this h62
             refine ih _ ⟨gw_fr_up hfr (by simp), ?_⟩
             rw [hs, if_neg hnp]
             exact ⟨mj_hs, mj_hn (by decide) e2, mj_hn (by decide) e3, mj_hn (by decide) e4, mj_hn (by decide) e5⟩)
          | (have hnp : 0 < (gw_pr w h n s 0 (gw_E n 0 i) ((gw_so w h n s i).2.1, 0)).2 := by
               apply Nat.pos_of_ne_zero
               intro q
               rw [q] at h62
               exact h62 (by decide)
             refine ih _ ⟨gw_fr_up hfr (by simp), ?_⟩
             rw [hs, if_pos hnp]
             exact ⟨mj_hs, mj_hn (by decide) e2, mj_hn (by decide) e3, mj_hn (by decide) e4, mj_hn (by decide) e5⟩)
        · refine mw_ld 66 i_Choice_solve_65 rfl rfl rfl ?_
          refine mw_go i_Choice_solve_66 ?_
          refine mw_put (fs' := [_, _, _, _, _, _, _, _, _, _, _]) 74 i_Choice_solve_71 rfl (by repeat (first | exact mj_hs2 | exact mj_hs | assumption | refine mj_hn2 (by omega) ?_ | refine mj_hn (by omega) ?_)) (Nat.le_of_ble_eq_true rfl) rfl rfl (fun _ h => by cases h) (by rfl) ?_
          refine mw_inc (ls' := [_, _]) 77 (nI (i + 1)) i_Choice_solve_74 rfl rfl rfl (nI_1 i) rfl ?_
          refine mw_go i_Choice_solve_77 ?_
          have hfr := gw_fr_tr f1 (gw_fr_sub g6 (by simp) : gw_fr [41, 42, 43, 44, 45] f f4)
          have hs := show gw_so w h n s (i + 1) = _ by rw [gw_so, if_pos hz]
          first
          | (have hnp : ¬ 0 < (gw_pr w h n s 0 (gw_E n 0 i) ((gw_so w h n s i).2.1, 0)).2 := fun q => by
               have := nI_nle q (by omega)
               exact this h62
             refine ih _ ⟨gw_fr_up hfr (by simp), ?_⟩
             rw [hs, if_neg hnp]
             exact ⟨mj_hs, mj_hn (by decide) e2, mj_hn (by decide) e3, mj_hn (by decide) e4, mj_hn (by decide) e5⟩)
          | (have hnp : 0 < (gw_pr w h n s 0 (gw_E n 0 i) ((gw_so w h n s i).2.1, 0)).2 := by
               apply Nat.pos_of_ne_zero
               intro q
               rw [q] at h62
               exact h62 (by decide)
             refine ih _ ⟨gw_fr_up hfr (by simp), ?_⟩
             rw [hs, if_pos hnp]
             exact ⟨mj_hs, mj_hn (by decide) e2, mj_hn (by decide) e3, mj_hn (by decide) e4, mj_hn (by decide) e5⟩)
      · refine mw_ld 36 i_Choice_solve_35 rfl rfl rfl ?_
        refine mw_k 38 i_Choice_solve_36 rfl ?_
        refine mw_ic0 41 i_Choice_solve_38 rfl (nI_nlt (a := 14) (by omega) (by decide)) ?_
        refine mw_ld 42 i_Choice_solve_41 rfl rfl rfl ?_
        refine mw_get 45 i_Choice_solve_42 rfl (by repeat (first | exact mj_hs2 | exact mj_hs | assumption | refine mj_hn2 (by omega) ?_ | refine mj_hn (by omega) ?_)) (by rfl) ?_
        refine mw_if1 i_Choice_solve_45 (fun q => hz ((nI_z (by omega)).mp q)) ?_
        refine mw_ld 81 i_Choice_solve_80 rfl rfl rfl ?_
        refine mw_k 82 i_Choice_solve_81 rfl ?_
        refine mw_put (fs' := [_, _, _, _, _, _, _, _, _, _, _]) 85 i_Choice_solve_82 rfl (by repeat (first | exact mj_hs2 | exact mj_hs | assumption | refine mj_hn2 (by omega) ?_ | refine mj_hn (by omega) ?_)) (Nat.le_of_ble_eq_true rfl) rfl rfl (fun _ h => by cases h) (by rfl) ?_
        refine mw_rv i_Choice_solve_85 rfl ?_
        refine k _ (gw_fr_up f1 (by simp)) ⟨ol2, oh2, lo2, hi2, rl2, rh2, ?_⟩
        have e := show gw_so w h n s 15 = gw_so w h n s i by rw [show 15 = i + (15 - i) by omega]; exact gw_so_st hz _
        rw [gw_sl, e]
        exact ⟨mj_hs, mj_hn (by decide) b2, mj_hn (by decide) b3, mj_hn (by decide) b4, mj_hn (by decide) b5⟩
