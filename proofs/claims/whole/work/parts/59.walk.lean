/-! the model: walk -/
theorem gw_dI_eq {o : Option Nat} {k : Nat} (h : ∀ c, o = some c → c < 2147483648) (hk : k < 2147483648) : gw_dI o = nI k ↔ o = some k := by
  cases o with
  | none =>
    simp only [gw_dI, reduceCtorEq, iff_false]
    intro q
    have := congrArg Int32.toInt q
    rw [mj_nI k hk] at this
    have e : (-1 : Int32).toInt = -1 := by decide
    omega
  | some c =>
    simp only [gw_dI, Option.some.injEq]
    exact nI_inj (h c rfl) hk
theorem gw_UU_us {w h n : Nat} {s : Nat → Int32} {c : Nat} (hc : c < w * h) : gw_UU w h n s c = gw_us w h n s c := by simp [gw_U, hc]
theorem gw_wr_mono {w h : Nat} {U : Nat → Bool} {a N : Nat} {F0 F : Nat → Option Nat} {mo : Bool} {dn dn' : Nat → Nat → Prop} (hd : ∀ c d, dn' c d → U d = true → dn c d) (hw : gw_wr w h U a N F0 F mo dn) : gw_wr w h U a N F0 F mo dn' :=
  ⟨hw.1, hw.2.1, fun c d q e1 e2 e3 => hw.2.2.1 c d (hd c d q e2) e1 e2 e3, hw.2.2.2⟩
theorem sp_Model_walk {X : mj_X} {d : Nat} {σ : mj_H} {Q : mj_H → Prop} {w h kp rw : Nat} {tf fu fe fi ma md : Int32} {s : Nat → Int32} (hO : σ.1 55 = gw_mo w h kp rw tf fu fe fi ma md) (hs1 : σ.1 56 = mj_AI 213 s) {n : Nat} {wt : Nat → Int32} (hd : gw_dim w h) (hW : σ.1 58 = mj_AI 100 wt) (hwt : ∀ c, c < w * h → wt c = gw_wt w h n s c) {fa0 : Nat → Int32} (hFa : σ.1 65 = mj_AI 100 fa0) {a : Nat} (ha : a < w * h) (k : ∀ f fa, gw_fr [65] σ.1 f → f 65 = mj_AI 100 fa → (∀ c, c < w * h → fa c = gw_dI (gw_di w h (gw_UU w h n s) a c)) → Q (f, σ.2)) : mj_M X (d + 2) y_Model_walk [.ref 55, .int (nI a)] σ (mj_U Q) := by
  have hwh := gw_dim_le hd
  have key : ∀ (m N : Nat) (f : Nat → mj_C) (F : Nat → Option Nat) (mo : Bool) (l4 l5 : Option Value), gw_fr [65] σ.1 f → (∃ fa, f 65 = mj_AI 100 fa ∧ ∀ c, c < w * h → fa c = gw_dI (F c)) → gw_Lv w h (gw_UU w h n s) a N F → (mo = false → ∀ c, F c = gw_di w h (gw_UU w h n s) a c) → (mo = true → gw_cn (fun c => (F c).isNone) (w * h) < m) → N + m ≤ 200 → mj_Wp X (d + 2) y_Model_walk 44 [some (.ref 55), some (.int (nI a)), some (.int (mj_bI mo)), some (.int (nI N)), l4, l5] [] (f, σ.2) (mj_U Q) := by
    intro m
    induction m with
    | zero =>
      intro N f F mo l4 l5 hfr harr hL hF hcnt hN
      cases mo with
      | true => exact absurd (hcnt rfl) (Nat.not_lt_zero _)
      | false =>
        refine mw_ld 45 i_Model_walk_44 rfl rfl rfl ?_
        refine mw_if1 i_Model_walk_45 rfl ?_
        refine mw_rv i_Model_walk_145 rfl ?_
        obtain ⟨fa, e2, e3⟩ := harr
        exact k f fa hfr e2 (fun c hc => by rw [e3 c hc, hF rfl c])
    | succ m ih =>
      intro N f F mo l4 l5 hfr harr hL hF hcnt hN
      cases mo with
      | false =>
        refine mw_ld 45 i_Model_walk_44 rfl rfl rfl ?_
        refine mw_if1 i_Model_walk_45 rfl ?_
        refine mw_rv i_Model_walk_145 rfl ?_
        obtain ⟨fa, e2, e3⟩ := harr
        exact k f fa hfr e2 (fun c hc => by rw [e3 c hc, hF rfl c])
      | true =>
        refine mw_ld 45 i_Model_walk_44 rfl rfl rfl ?_
        refine mw_if0 48 i_Model_walk_45 rfl (by decide) ?_
        refine mw_k 49 i_Model_walk_48 rfl ?_
        refine mw_st (ls' := [_, _, _, _, _, _]) 50 i_Model_walk_49 rfl rfl rfl rfl ?_
        refine mw_k 51 i_Model_walk_50 rfl ?_
        refine mw_st (ls' := [_, _, _, _, _, _]) 53 i_Model_walk_51 rfl rfl rfl rfl ?_
        refine mj_for (S := (Nat → mj_C) × (Nat → Option Nat) × Bool × Option Value) (fun i u => mj_Wp X (d + 2) y_Model_walk 53 [some (.ref 55), some (.int (nI a)), some (.int (mj_bI u.2.2.1)), some (.int (nI N)), some (.int (nI i)), u.2.2.2] [] (u.1, σ.2) (mj_U Q)) (fun i u => gw_fr [65] σ.1 u.1 ∧ (∃ fa, u.1 65 = mj_AI 100 fa ∧ ∀ c, c < w * h → fa c = gw_dI (u.2.1 c)) ∧ gw_wr w h (gw_UU w h n s) a N F u.2.1 u.2.2.1 (fun c d => c < i)) (w * h) ?_ ?_ 0 (f, F, false, l5) (Nat.zero_le _) ⟨hfr, harr, gw_wr_mono (fun c d q _ => absurd q (Nat.not_lt_zero c)) (gw_wr_0 hL)⟩
        · rintro ⟨f1, F1, mo1, q5⟩ ⟨x1, ⟨fa1, x2, x3⟩, x4⟩
          dsimp only at x1 x2 x3 x4 ⊢
          have go : f1 55 = gw_mo w h kp rw tf fu fe fi ma md := (x1 55 (by decide)).trans hO
          have gs : f1 56 = mj_AI 213 s := (x1 56 (by decide)).trans hs1
          have gw : f1 58 = mj_AI 100 wt := (x1 58 (by decide)).trans hW
          have hL1 := gw_wr_end (fun c hc => gw_UU_lt hc) hL x4 (fun c d hc _ => hc)
          refine mw_ld 55 i_Model_walk_53 rfl rfl rfl ?_
          refine mw_ld 56 i_Model_walk_55 rfl rfl rfl ?_
          refine mw_cv1 59 i_Model_walk_56 rfl (by assumption) (sp_Model_cells (σ := (f1, σ.2)) go ?_) rfl rfl (Nat.le_of_ble_eq_true rfl) (Nat.le_of_ble_eq_true rfl)
          refine mw_ic1 i_Model_walk_59 (nI_le (Nat.le_refl _) (by omega)) ?_
          refine mw_inc (ls' := [_, _, _, _, _, _]) 142 (nI (N + 1)) i_Model_walk_139 rfl rfl rfl (nI_1 N) rfl ?_
          refine mw_go i_Model_walk_142 ?_
          refine ih (N + 1) f1 F1 mo1 _ _ x1 ⟨fa1, x2, x3⟩ hL1 (fun e => ?_) (fun e => ?_) (by omega)
          · exact gw_Lv_stop hL1 (fun q => by have := x4.2.2.2.mpr q; rw [e] at this; cases this)
          · obtain ⟨x, hx⟩ := x4.2.2.2.mp e
            have hxu := gw_di_U (x4.2.1 x _ hx).1
            have hx0 : F x = none := by
              cases e2 : F x with
              | none => rfl
              | some k2 =>
                have e3 := x4.1 x k2 e2
                have e4 := ((hL x k2).mp e2).2
                rw [hx] at e3
                simp only [Option.some.injEq] at e3
                omega
            have := gw_cn_lt (p := fun c => (F1 c).isNone) (q := fun c => (F c).isNone) (fun c hc => by
              cases e2 : F c with
              | none => rfl
              | some k2 => rw [x4.1 c k2 e2] at hc; cases hc) (x := x) (by rw [hx0]; rfl) (by rw [hx]; rfl) (gw_UU_lt hxu)
            have := hcnt rfl
            omega
        · rintro i ⟨f1, F1, mo1, q5⟩ hi ⟨x1, ⟨fa1, x2, x3⟩, x4⟩ ih2
          dsimp only at x1 x2 x3 x4 ⊢
          have go : f1 55 = gw_mo w h kp rw tf fu fe fi ma md := (x1 55 (by decide)).trans hO
          have gs : f1 56 = mj_AI 213 s := (x1 56 (by decide)).trans hs1
          have gw : f1 58 = mj_AI 100 wt := (x1 58 (by decide)).trans hW
          refine mw_ld 55 i_Model_walk_53 rfl rfl rfl ?_
          refine mw_ld 56 i_Model_walk_55 rfl rfl rfl ?_
          refine mw_cv1 59 i_Model_walk_56 rfl (by assumption) (sp_Model_cells (σ := (f1, σ.2)) go ?_) rfl rfl (Nat.le_of_ble_eq_true rfl) (Nat.le_of_ble_eq_true rfl)
          refine mw_ic0 62 i_Model_walk_59 rfl (nI_ge hi (by omega)) ?_
          refine mw_k 63 i_Model_walk_62 rfl ?_
          refine mw_st (ls' := [_, _, _, _, _, _]) 65 i_Model_walk_63 rfl rfl rfl rfl ?_
          refine mj_for (S := (Nat → mj_C) × (Nat → Option Nat) × Bool) (fun j v => mj_Wp X (d + 2) y_Model_walk 65 [some (.ref 55), some (.int (nI a)), some (.int (mj_bI v.2.2)), some (.int (nI N)), some (.int (nI i)), some (.int (nI j))] [] (v.1, σ.2) (mj_U Q)) (fun j v => gw_fr [65] σ.1 v.1 ∧ (∃ fa, v.1 65 = mj_AI 100 fa ∧ ∀ c, c < w * h → fa c = gw_dI (v.2.1 c)) ∧ gw_wr w h (gw_UU w h n s) a N F v.2.1 v.2.2 (fun c d => c < i ∨ (c = i ∧ d < j))) (w * h) ?_ ?_ 0 (f1, F1, mo1) (Nat.zero_le _) ⟨x1, ⟨fa1, x2, x3⟩, gw_wr_mono (fun c d q _ => by omega) x4⟩
          · rintro ⟨f2, F2, mo2⟩ ⟨y1, ⟨fa2, y2, y3⟩, y4⟩
            dsimp only at y1 y2 y3 y4 ⊢
            have go : f2 55 = gw_mo w h kp rw tf fu fe fi ma md := (y1 55 (by decide)).trans hO
            have gs : f2 56 = mj_AI 213 s := (y1 56 (by decide)).trans hs1
            have gw : f2 58 = mj_AI 100 wt := (y1 58 (by decide)).trans hW
            refine mw_ld 67 i_Model_walk_65 rfl rfl rfl ?_
            refine mw_ld 68 i_Model_walk_67 rfl rfl rfl ?_
            refine mw_cv1 71 i_Model_walk_68 rfl (by assumption) (sp_Model_cells (σ := (f2, σ.2)) go ?_) rfl rfl (Nat.le_of_ble_eq_true rfl) (Nat.le_of_ble_eq_true rfl)
            refine mw_ic1 i_Model_walk_71 (nI_le (Nat.le_refl _) (by omega)) ?_
            refine mw_inc (ls' := [_, _, _, _, _, _]) 136 (nI (i + 1)) i_Model_walk_133 rfl rfl rfl (nI_1 i) rfl ?_
            refine mw_go i_Model_walk_136 ?_
            exact ih2 (f2, F2, mo2, _) ⟨y1, ⟨fa2, y2, y3⟩, gw_wr_mono (fun c d q hu => by have := gw_UU_lt hu; omega) y4⟩
          · rintro j ⟨f2, F2, mo2⟩ hj ⟨y1, ⟨fa2, y2, y3⟩, y4⟩ ih3
            dsimp only at y1 y2 y3 y4 ⊢
            have go : f2 55 = gw_mo w h kp rw tf fu fe fi ma md := (y1 55 (by decide)).trans hO
            have gs : f2 56 = mj_AI 213 s := (y1 56 (by decide)).trans hs1
            have gw : f2 58 = mj_AI 100 wt := (y1 58 (by decide)).trans hW
            have hbd : ∀ x c, F2 x = some c → c < 2147483648 := fun x c hc => by have := (y4.2.1 x c hc).2; omega
            by_cases h1 : F2 i = some N
            · by_cases h2 : F2 j = none
              · by_cases h3 : gw_us w h n s j = true
                · by_cases h4 : gw_nb w h i j = true
                  · skip
                    refine mw_ld 67 i_Model_walk_65 rfl rfl rfl ?_
                    refine mw_ld 68 i_Model_walk_67 rfl rfl rfl ?_
                    refine mw_cv1 71 i_Model_walk_68 rfl (by repeat (first | exact mj_hs2 | exact mj_hs | assumption | refine mj_hn2 (by omega) ?_ | refine mj_hn (by omega) ?_)) (sp_Model_cells (σ := (f2, σ.2)) go ?_) rfl rfl (Nat.le_of_ble_eq_true rfl) (Nat.le_of_ble_eq_true rfl)
                    refine mw_ic0 74 i_Model_walk_71 rfl (nI_ge hj (by omega)) ?_
                    refine mw_ld 75 i_Model_walk_74 rfl rfl rfl ?_
                    refine mw_get 78 i_Model_walk_75 rfl (by repeat (first | exact mj_hs2 | exact mj_hs | assumption | refine mj_hn2 (by omega) ?_ | refine mj_hn (by omega) ?_)) (by rfl) ?_
                    refine mw_ld 80 i_Model_walk_78 rfl rfl rfl ?_
                    refine mw_iald 81 i i_Model_walk_80 rfl y2 rfl (by omega) (by decide) ?_
                    rw [y3 i hi]
                    refine mw_ld 82 i_Model_walk_81 rfl rfl rfl ?_
                    refine mw_ic0 85 i_Model_walk_82 rfl (fun q => q ((gw_dI_eq (hbd i) (by omega)).mpr h1)) ?_
                    refine mw_ld 86 i_Model_walk_85 rfl rfl rfl ?_
                    refine mw_get 89 i_Model_walk_86 rfl (by repeat (first | exact mj_hs2 | exact mj_hs | assumption | refine mj_hn2 (by omega) ?_ | refine mj_hn (by omega) ?_)) (by rfl) ?_
                    refine mw_ld 91 i_Model_walk_89 rfl rfl rfl ?_
                    refine mw_iald 92 j i_Model_walk_91 rfl y2 rfl (by omega) (by decide) ?_
                    rw [y3 j hj]
                    refine mw_if0 95 i_Model_walk_92 rfl (fun q => (gw_dI_ge (hbd j)).mp q h2) ?_
                    refine mw_ld 96 i_Model_walk_95 rfl rfl rfl ?_
                    refine mw_ld 98 i_Model_walk_96 rfl rfl rfl ?_
                    refine mw_cv1 101 i_Model_walk_98 rfl (by repeat (first | exact mj_hs2 | exact mj_hs | assumption | refine mj_hn2 (by omega) ?_ | refine mj_hn (by omega) ?_)) (sp_Model_isUnseen (σ := (f2, σ.2)) go gs hd gw hwt hj ?_) rfl rfl (Nat.le_of_ble_eq_true rfl) (Nat.le_of_ble_eq_true rfl)
                    refine mw_if0 104 i_Model_walk_101 rfl (mj_bI1.mpr h3) ?_
                    refine mw_ld 105 i_Model_walk_104 rfl rfl rfl ?_
                    refine mw_ld 107 i_Model_walk_105 rfl rfl rfl ?_
                    refine mw_ld 109 i_Model_walk_107 rfl rfl rfl ?_
                    refine mw_cv1 112 i_Model_walk_109 rfl (by repeat (first | exact mj_hs2 | exact mj_hs | assumption | refine mj_hn2 (by omega) ?_ | refine mj_hn (by omega) ?_)) (sp_Model_areNeighbours (σ := (f2, σ.2)) go hi hj hd ?_) rfl rfl (Nat.le_of_ble_eq_true rfl) (Nat.le_of_ble_eq_true rfl)
                    refine mw_if0 115 i_Model_walk_112 rfl (mj_bI1.mpr h4) ?_
                    refine mw_ld 116 i_Model_walk_115 rfl rfl rfl ?_
                    refine mw_get 119 i_Model_walk_116 rfl (by repeat (first | exact mj_hs2 | exact mj_hs | assumption | refine mj_hn2 (by omega) ?_ | refine mj_hn (by omega) ?_)) (by rfl) ?_
                    refine mw_ld 121 i_Model_walk_119 rfl rfl rfl ?_
                    refine mw_ld 122 i_Model_walk_121 rfl rfl rfl ?_
                    refine mw_k 123 i_Model_walk_122 rfl ?_
                    refine mw_b 124 i_Model_walk_123 rfl ?_
                    rw [nI_1]
                    refine mw_iast 125 j i_Model_walk_124 rfl y2 rfl (by omega) (by decide) ?_
                    refine mw_k 126 i_Model_walk_125 rfl ?_
                    refine mw_st (ls' := [_, _, _, _, _, _]) 127 i_Model_walk_126 rfl rfl rfl rfl ?_
                    refine mw_inc (ls' := [_, _, _, _, _, _]) 130 (nI (j + 1)) i_Model_walk_127 rfl rfl rfl (nI_1 j) rfl ?_
                    refine mw_go i_Model_walk_130 ?_
                    refine ih3 (va_up f2 65 (mj_AI 100 (upd fa2 j (nI (N + 1)))), va_up F2 j (some (N + 1)), true) ⟨gw_fr_up y1 (by simp), ⟨upd fa2 j (nI (N + 1)), (mj_hs : va_up f2 65 (mj_AI 100 (upd fa2 j (nI (N + 1)))) 65 = _), fun c hc => ?_⟩, gw_wr_put (i := i) (j := j) hL y4 (fun c d q => by omega) h1 h2 (by rw [gw_UU_us hj]; exact h3) h4⟩
                    dsimp only
                    by_cases e : c = j
                    · subst e; rw [pk_us, va_up_self]; rfl
                    · rw [pk_un e, va_up_ne _ _ e]; exact y3 c hc
                  · skip
                    refine mw_ld 67 i_Model_walk_65 rfl rfl rfl ?_
                    refine mw_ld 68 i_Model_walk_67 rfl rfl rfl ?_
                    refine mw_cv1 71 i_Model_walk_68 rfl (by repeat (first | exact mj_hs2 | exact mj_hs | assumption | refine mj_hn2 (by omega) ?_ | refine mj_hn (by omega) ?_)) (sp_Model_cells (σ := (f2, σ.2)) go ?_) rfl rfl (Nat.le_of_ble_eq_true rfl) (Nat.le_of_ble_eq_true rfl)
                    refine mw_ic0 74 i_Model_walk_71 rfl (nI_ge hj (by omega)) ?_
                    refine mw_ld 75 i_Model_walk_74 rfl rfl rfl ?_
                    refine mw_get 78 i_Model_walk_75 rfl (by repeat (first | exact mj_hs2 | exact mj_hs | assumption | refine mj_hn2 (by omega) ?_ | refine mj_hn (by omega) ?_)) (by rfl) ?_
                    refine mw_ld 80 i_Model_walk_78 rfl rfl rfl ?_
                    refine mw_iald 81 i i_Model_walk_80 rfl y2 rfl (by omega) (by decide) ?_
                    rw [y3 i hi]
                    refine mw_ld 82 i_Model_walk_81 rfl rfl rfl ?_
                    refine mw_ic0 85 i_Model_walk_82 rfl (fun q => q ((gw_dI_eq (hbd i) (by omega)).mpr h1)) ?_
                    refine mw_ld 86 i_Model_walk_85 rfl rfl rfl ?_
                    refine mw_get 89 i_Model_walk_86 rfl (by repeat (first | exact mj_hs2 | exact mj_hs | assumption | refine mj_hn2 (by omega) ?_ | refine mj_hn (by omega) ?_)) (by rfl) ?_
                    refine mw_ld 91 i_Model_walk_89 rfl rfl rfl ?_
                    refine mw_iald 92 j i_Model_walk_91 rfl y2 rfl (by omega) (by decide) ?_
                    rw [y3 j hj]
                    refine mw_if0 95 i_Model_walk_92 rfl (fun q => (gw_dI_ge (hbd j)).mp q h2) ?_
                    refine mw_ld 96 i_Model_walk_95 rfl rfl rfl ?_
                    refine mw_ld 98 i_Model_walk_96 rfl rfl rfl ?_
                    refine mw_cv1 101 i_Model_walk_98 rfl (by repeat (first | exact mj_hs2 | exact mj_hs | assumption | refine mj_hn2 (by omega) ?_ | refine mj_hn (by omega) ?_)) (sp_Model_isUnseen (σ := (f2, σ.2)) go gs hd gw hwt hj ?_) rfl rfl (Nat.le_of_ble_eq_true rfl) (Nat.le_of_ble_eq_true rfl)
                    refine mw_if0 104 i_Model_walk_101 rfl (mj_bI1.mpr h3) ?_
                    refine mw_ld 105 i_Model_walk_104 rfl rfl rfl ?_
                    refine mw_ld 107 i_Model_walk_105 rfl rfl rfl ?_
                    refine mw_ld 109 i_Model_walk_107 rfl rfl rfl ?_
                    refine mw_cv1 112 i_Model_walk_109 rfl (by repeat (first | exact mj_hs2 | exact mj_hs | assumption | refine mj_hn2 (by omega) ?_ | refine mj_hn (by omega) ?_)) (sp_Model_areNeighbours (σ := (f2, σ.2)) go hi hj hd ?_) rfl rfl (Nat.le_of_ble_eq_true rfl) (Nat.le_of_ble_eq_true rfl)
                    refine mw_if1 i_Model_walk_112 (mj_bI0.mpr (gw_nt h4)) ?_
                    refine mw_inc (ls' := [_, _, _, _, _, _]) 130 (nI (j + 1)) i_Model_walk_127 rfl rfl rfl (nI_1 j) rfl ?_
                    refine mw_go i_Model_walk_130 ?_
                    exact ih3 (f2, F2, mo2) ⟨y1, ⟨fa2, y2, y3⟩, gw_wr_no (i := i) (j := j) hL y4 (fun c d q => by omega) (fun q => h4 q.2.2.2)⟩
                · skip
                  refine mw_ld 67 i_Model_walk_65 rfl rfl rfl ?_
                  refine mw_ld 68 i_Model_walk_67 rfl rfl rfl ?_
                  refine mw_cv1 71 i_Model_walk_68 rfl (by repeat (first | exact mj_hs2 | exact mj_hs | assumption | refine mj_hn2 (by omega) ?_ | refine mj_hn (by omega) ?_)) (sp_Model_cells (σ := (f2, σ.2)) go ?_) rfl rfl (Nat.le_of_ble_eq_true rfl) (Nat.le_of_ble_eq_true rfl)
                  refine mw_ic0 74 i_Model_walk_71 rfl (nI_ge hj (by omega)) ?_
                  refine mw_ld 75 i_Model_walk_74 rfl rfl rfl ?_
                  refine mw_get 78 i_Model_walk_75 rfl (by repeat (first | exact mj_hs2 | exact mj_hs | assumption | refine mj_hn2 (by omega) ?_ | refine mj_hn (by omega) ?_)) (by rfl) ?_
                  refine mw_ld 80 i_Model_walk_78 rfl rfl rfl ?_
                  refine mw_iald 81 i i_Model_walk_80 rfl y2 rfl (by omega) (by decide) ?_
                  rw [y3 i hi]
                  refine mw_ld 82 i_Model_walk_81 rfl rfl rfl ?_
                  refine mw_ic0 85 i_Model_walk_82 rfl (fun q => q ((gw_dI_eq (hbd i) (by omega)).mpr h1)) ?_
                  refine mw_ld 86 i_Model_walk_85 rfl rfl rfl ?_
                  refine mw_get 89 i_Model_walk_86 rfl (by repeat (first | exact mj_hs2 | exact mj_hs | assumption | refine mj_hn2 (by omega) ?_ | refine mj_hn (by omega) ?_)) (by rfl) ?_
                  refine mw_ld 91 i_Model_walk_89 rfl rfl rfl ?_
                  refine mw_iald 92 j i_Model_walk_91 rfl y2 rfl (by omega) (by decide) ?_
                  rw [y3 j hj]
                  refine mw_if0 95 i_Model_walk_92 rfl (fun q => (gw_dI_ge (hbd j)).mp q h2) ?_
                  refine mw_ld 96 i_Model_walk_95 rfl rfl rfl ?_
                  refine mw_ld 98 i_Model_walk_96 rfl rfl rfl ?_
                  refine mw_cv1 101 i_Model_walk_98 rfl (by repeat (first | exact mj_hs2 | exact mj_hs | assumption | refine mj_hn2 (by omega) ?_ | refine mj_hn (by omega) ?_)) (sp_Model_isUnseen (σ := (f2, σ.2)) go gs hd gw hwt hj ?_) rfl rfl (Nat.le_of_ble_eq_true rfl) (Nat.le_of_ble_eq_true rfl)
                  refine mw_if1 i_Model_walk_101 (mj_bI0.mpr (gw_nt h3)) ?_
                  refine mw_inc (ls' := [_, _, _, _, _, _]) 130 (nI (j + 1)) i_Model_walk_127 rfl rfl rfl (nI_1 j) rfl ?_
                  refine mw_go i_Model_walk_130 ?_
                  exact ih3 (f2, F2, mo2) ⟨y1, ⟨fa2, y2, y3⟩, gw_wr_no (i := i) (j := j) hL y4 (fun c d q => by omega) (fun q => h3 (by rw [← gw_UU_us hj]; exact q.2.2.1))⟩
              · skip
                refine mw_ld 67 i_Model_walk_65 rfl rfl rfl ?_
                refine mw_ld 68 i_Model_walk_67 rfl rfl rfl ?_
                refine mw_cv1 71 i_Model_walk_68 rfl (by repeat (first | exact mj_hs2 | exact mj_hs | assumption | refine mj_hn2 (by omega) ?_ | refine mj_hn (by omega) ?_)) (sp_Model_cells (σ := (f2, σ.2)) go ?_) rfl rfl (Nat.le_of_ble_eq_true rfl) (Nat.le_of_ble_eq_true rfl)
                refine mw_ic0 74 i_Model_walk_71 rfl (nI_ge hj (by omega)) ?_
                refine mw_ld 75 i_Model_walk_74 rfl rfl rfl ?_
                refine mw_get 78 i_Model_walk_75 rfl (by repeat (first | exact mj_hs2 | exact mj_hs | assumption | refine mj_hn2 (by omega) ?_ | refine mj_hn (by omega) ?_)) (by rfl) ?_
                refine mw_ld 80 i_Model_walk_78 rfl rfl rfl ?_
                refine mw_iald 81 i i_Model_walk_80 rfl y2 rfl (by omega) (by decide) ?_
                rw [y3 i hi]
                refine mw_ld 82 i_Model_walk_81 rfl rfl rfl ?_
                refine mw_ic0 85 i_Model_walk_82 rfl (fun q => q ((gw_dI_eq (hbd i) (by omega)).mpr h1)) ?_
                refine mw_ld 86 i_Model_walk_85 rfl rfl rfl ?_
                refine mw_get 89 i_Model_walk_86 rfl (by repeat (first | exact mj_hs2 | exact mj_hs | assumption | refine mj_hn2 (by omega) ?_ | refine mj_hn (by omega) ?_)) (by rfl) ?_
                refine mw_ld 91 i_Model_walk_89 rfl rfl rfl ?_
                refine mw_iald 92 j i_Model_walk_91 rfl y2 rfl (by omega) (by decide) ?_
                rw [y3 j hj]
                refine mw_if1 i_Model_walk_92 ((gw_dI_ge (hbd j)).mpr h2) ?_
                refine mw_inc (ls' := [_, _, _, _, _, _]) 130 (nI (j + 1)) i_Model_walk_127 rfl rfl rfl (nI_1 j) rfl ?_
                refine mw_go i_Model_walk_130 ?_
                exact ih3 (f2, F2, mo2) ⟨y1, ⟨fa2, y2, y3⟩, gw_wr_no (i := i) (j := j) hL y4 (fun c d q => by omega) (fun q => h2 q.2.1)⟩
            · skip
              refine mw_ld 67 i_Model_walk_65 rfl rfl rfl ?_
              refine mw_ld 68 i_Model_walk_67 rfl rfl rfl ?_
              refine mw_cv1 71 i_Model_walk_68 rfl (by repeat (first | exact mj_hs2 | exact mj_hs | assumption | refine mj_hn2 (by omega) ?_ | refine mj_hn (by omega) ?_)) (sp_Model_cells (σ := (f2, σ.2)) go ?_) rfl rfl (Nat.le_of_ble_eq_true rfl) (Nat.le_of_ble_eq_true rfl)
              refine mw_ic0 74 i_Model_walk_71 rfl (nI_ge hj (by omega)) ?_
              refine mw_ld 75 i_Model_walk_74 rfl rfl rfl ?_
              refine mw_get 78 i_Model_walk_75 rfl (by repeat (first | exact mj_hs2 | exact mj_hs | assumption | refine mj_hn2 (by omega) ?_ | refine mj_hn (by omega) ?_)) (by rfl) ?_
              refine mw_ld 80 i_Model_walk_78 rfl rfl rfl ?_
              refine mw_iald 81 i i_Model_walk_80 rfl y2 rfl (by omega) (by decide) ?_
              rw [y3 i hi]
              refine mw_ld 82 i_Model_walk_81 rfl rfl rfl ?_
              refine mw_ic1 i_Model_walk_82 (fun q => h1 ((gw_dI_eq (hbd i) (by omega)).mp q)) ?_
              refine mw_inc (ls' := [_, _, _, _, _, _]) 130 (nI (j + 1)) i_Model_walk_127 rfl rfl rfl (nI_1 j) rfl ?_
              refine mw_go i_Model_walk_130 ?_
              exact ih3 (f2, F2, mo2) ⟨y1, ⟨fa2, y2, y3⟩, gw_wr_no (i := i) (j := j) hL y4 (fun c d q => by omega) (fun q => h1 q.1)⟩
  refine mw_in (l0 := [some (.ref 55), some (.int (nI a)), none, none, none, none]) rfl ?_
  refine mw_k 1 i_Model_walk_0 rfl ?_
  refine mw_st (ls' := [_, _, _, _, _, _]) 2 i_Model_walk_1 rfl rfl rfl rfl ?_
  refine mj_for (S := Nat → mj_C) (fun i f => mj_Wp X (d + 2) y_Model_walk 2 [some (.ref 55), some (.int (nI a)), some (.int (nI i)), none, none, none] [] (f, σ.2) (mj_U Q)) (fun i f => gw_fr [65] σ.1 f ∧ ∃ fa, f 65 = mj_AI 100 fa ∧ ∀ c, c < i → fa c = gw_dI (if c = a ∧ gw_UU w h n s c = true then some 0 else none)) (w * h) ?_ ?_ 0 σ.1 (Nat.zero_le _) ⟨gw_fr_rf _ _, fa0, hFa, fun c hc => absurd hc (Nat.not_lt_zero c)⟩
  · rintro f ⟨y1, fa, y2, y3⟩
    have go : f 55 = gw_mo w h kp rw tf fu fe fi ma md := (y1 55 (by decide)).trans hO
    have gs : f 56 = mj_AI 213 s := (y1 56 (by decide)).trans hs1
    have gw : f 58 = mj_AI 100 wt := (y1 58 (by decide)).trans hW
    refine mw_ld 3 i_Model_walk_2 rfl rfl rfl ?_
    refine mw_ld 4 i_Model_walk_3 rfl rfl rfl ?_
    refine mw_cv1 7 i_Model_walk_4 rfl (by assumption) (sp_Model_cells (σ := (f, σ.2)) go ?_) rfl rfl (Nat.le_of_ble_eq_true rfl) (Nat.le_of_ble_eq_true rfl)
    refine mw_ic1 i_Model_walk_7 (nI_le (Nat.le_refl _) (by omega)) ?_
    refine mw_k 41 i_Model_walk_40 rfl ?_
    refine mw_st (ls' := [_, _, _, _, _, _]) 42 i_Model_walk_41 rfl rfl rfl rfl ?_
    refine mw_k 43 i_Model_walk_42 rfl ?_
    refine mw_st (ls' := [_, _, _, _, _, _]) 44 i_Model_walk_43 rfl rfl rfl rfl ?_
    exact key 101 0 f (fun c => if c = a ∧ gw_UU w h n s c = true then some 0 else none) true none none y1 ⟨fa, y2, y3⟩ (gw_Lv_0 (fun c hc => gw_UU_lt hc) (fun c => rfl)) (fun q => by cases q) (fun _ => by have := gw_cn_le (fun c => ((if c = a ∧ gw_UU w h n s c = true then some 0 else none : Option Nat)).isNone) (w * h); omega) (by decide)
  · rintro i f hi ⟨y1, fa, y2, y3⟩ ih
    have go : f 55 = gw_mo w h kp rw tf fu fe fi ma md := (y1 55 (by decide)).trans hO
    have gs : f 56 = mj_AI 213 s := (y1 56 (by decide)).trans hs1
    have gw : f 58 = mj_AI 100 wt := (y1 58 (by decide)).trans hW
    by_cases e : i = a
    · by_cases hu : gw_us w h n s i = true
      · skip
        refine mw_ld 3 i_Model_walk_2 rfl rfl rfl ?_
        refine mw_ld 4 i_Model_walk_3 rfl rfl rfl ?_
        refine mw_cv1 7 i_Model_walk_4 rfl (by repeat (first | exact mj_hs2 | exact mj_hs | assumption | refine mj_hn2 (by omega) ?_ | refine mj_hn (by omega) ?_)) (sp_Model_cells (σ := (f, σ.2)) go ?_) rfl rfl (Nat.le_of_ble_eq_true rfl) (Nat.le_of_ble_eq_true rfl)
        refine mw_ic0 10 i_Model_walk_7 rfl (nI_ge hi (by omega)) ?_
        refine mw_ld 11 i_Model_walk_10 rfl rfl rfl ?_
        refine mw_get 14 i_Model_walk_11 rfl (by repeat (first | exact mj_hs2 | exact mj_hs | assumption | refine mj_hn2 (by omega) ?_ | refine mj_hn (by omega) ?_)) (by rfl) ?_
        refine mw_ld 15 i_Model_walk_14 rfl rfl rfl ?_
        refine mw_ld 16 i_Model_walk_15 rfl rfl rfl ?_
        refine mw_ld 17 i_Model_walk_16 rfl rfl rfl ?_
        refine mw_ic0 20 i_Model_walk_17 rfl (fun q => q (by rw [e])) ?_
        refine mw_ld 21 i_Model_walk_20 rfl rfl rfl ?_
        refine mw_ld 22 i_Model_walk_21 rfl rfl rfl ?_
        refine mw_cv1 25 i_Model_walk_22 rfl (by repeat (first | exact mj_hs2 | exact mj_hs | assumption | refine mj_hn2 (by omega) ?_ | refine mj_hn (by omega) ?_)) (sp_Model_isUnseen (σ := (f, σ.2)) go gs hd gw hwt hi ?_) rfl rfl (Nat.le_of_ble_eq_true rfl) (Nat.le_of_ble_eq_true rfl)
        refine mw_if0 28 i_Model_walk_25 rfl (mj_bI1.mpr hu) ?_
        refine mw_k 29 i_Model_walk_28 rfl ?_
        refine mw_go i_Model_walk_29 ?_
        refine mw_iast 34 i i_Model_walk_33 rfl y2 rfl (by omega) (by decide) ?_
        refine mw_inc (ls' := [_, _, _, _, _, _]) 37 (nI (i + 1)) i_Model_walk_34 rfl rfl rfl (nI_1 i) rfl ?_
        refine mw_go i_Model_walk_37 ?_
        refine ih _ ⟨gw_fr_up y1 (by simp), _, mj_hs, fun c hc => ?_⟩
        by_cases e : c = i
        · subst e; rw [pk_us, if_pos ⟨e, by rw [gw_UU_us hi]; exact hu⟩]; rfl
        · rw [pk_un e]; exact y3 c (by omega)
      · skip
        refine mw_ld 3 i_Model_walk_2 rfl rfl rfl ?_
        refine mw_ld 4 i_Model_walk_3 rfl rfl rfl ?_
        refine mw_cv1 7 i_Model_walk_4 rfl (by repeat (first | exact mj_hs2 | exact mj_hs | assumption | refine mj_hn2 (by omega) ?_ | refine mj_hn (by omega) ?_)) (sp_Model_cells (σ := (f, σ.2)) go ?_) rfl rfl (Nat.le_of_ble_eq_true rfl) (Nat.le_of_ble_eq_true rfl)
        refine mw_ic0 10 i_Model_walk_7 rfl (nI_ge hi (by omega)) ?_
        refine mw_ld 11 i_Model_walk_10 rfl rfl rfl ?_
        refine mw_get 14 i_Model_walk_11 rfl (by repeat (first | exact mj_hs2 | exact mj_hs | assumption | refine mj_hn2 (by omega) ?_ | refine mj_hn (by omega) ?_)) (by rfl) ?_
        refine mw_ld 15 i_Model_walk_14 rfl rfl rfl ?_
        refine mw_ld 16 i_Model_walk_15 rfl rfl rfl ?_
        refine mw_ld 17 i_Model_walk_16 rfl rfl rfl ?_
        refine mw_ic0 20 i_Model_walk_17 rfl (fun q => q (by rw [e])) ?_
        refine mw_ld 21 i_Model_walk_20 rfl rfl rfl ?_
        refine mw_ld 22 i_Model_walk_21 rfl rfl rfl ?_
        refine mw_cv1 25 i_Model_walk_22 rfl (by repeat (first | exact mj_hs2 | exact mj_hs | assumption | refine mj_hn2 (by omega) ?_ | refine mj_hn (by omega) ?_)) (sp_Model_isUnseen (σ := (f, σ.2)) go gs hd gw hwt hi ?_) rfl rfl (Nat.le_of_ble_eq_true rfl) (Nat.le_of_ble_eq_true rfl)
        refine mw_if1 i_Model_walk_25 (mj_bI0.mpr (gw_nt hu)) ?_
        refine mw_k 33 i_Model_walk_32 rfl ?_
        refine mw_iast 34 i i_Model_walk_33 rfl y2 rfl (by omega) (by decide) ?_
        refine mw_inc (ls' := [_, _, _, _, _, _]) 37 (nI (i + 1)) i_Model_walk_34 rfl rfl rfl (nI_1 i) rfl ?_
        refine mw_go i_Model_walk_37 ?_
        refine ih _ ⟨gw_fr_up y1 (by simp), _, mj_hs, fun c hc => ?_⟩
        by_cases e : c = i
        · subst e; rw [pk_us, if_neg (fun q => hu (by rw [← gw_UU_us hi]; exact q.2))]; rfl
        · rw [pk_un e]; exact y3 c (by omega)
    · skip
      refine mw_ld 3 i_Model_walk_2 rfl rfl rfl ?_
      refine mw_ld 4 i_Model_walk_3 rfl rfl rfl ?_
      refine mw_cv1 7 i_Model_walk_4 rfl (by repeat (first | exact mj_hs2 | exact mj_hs | assumption | refine mj_hn2 (by omega) ?_ | refine mj_hn (by omega) ?_)) (sp_Model_cells (σ := (f, σ.2)) go ?_) rfl rfl (Nat.le_of_ble_eq_true rfl) (Nat.le_of_ble_eq_true rfl)
      refine mw_ic0 10 i_Model_walk_7 rfl (nI_ge hi (by omega)) ?_
      refine mw_ld 11 i_Model_walk_10 rfl rfl rfl ?_
      refine mw_get 14 i_Model_walk_11 rfl (by repeat (first | exact mj_hs2 | exact mj_hs | assumption | refine mj_hn2 (by omega) ?_ | refine mj_hn (by omega) ?_)) (by rfl) ?_
      refine mw_ld 15 i_Model_walk_14 rfl rfl rfl ?_
      refine mw_ld 16 i_Model_walk_15 rfl rfl rfl ?_
      refine mw_ld 17 i_Model_walk_16 rfl rfl rfl ?_
      refine mw_ic1 i_Model_walk_17 (fun q => e ((nI_inj (by omega) (by omega)).mp q)) ?_
      refine mw_k 33 i_Model_walk_32 rfl ?_
      refine mw_iast 34 i i_Model_walk_33 rfl y2 rfl (by omega) (by decide) ?_
      refine mw_inc (ls' := [_, _, _, _, _, _]) 37 (nI (i + 1)) i_Model_walk_34 rfl rfl rfl (nI_1 i) rfl ?_
      refine mw_go i_Model_walk_37 ?_
      refine ih _ ⟨gw_fr_up y1 (by simp), _, mj_hs, fun c hc => ?_⟩
      by_cases e : c = i
      · subst e; rw [pk_us, if_neg (fun q => e q.1)]; rfl
      · rw [pk_un e]; exact y3 c (by omega)
