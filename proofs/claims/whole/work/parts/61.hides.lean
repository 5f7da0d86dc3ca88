/-! the model: hides -/
noncomputable def gw_dn (w h : Nat) (U : Nat → Bool) (i d : Nat) : Bool := @decide (∃ c0, c0 < i ∧ gw_cc w h U c0 d) (Classical.propDecidable _)
theorem gw_dn_t {w h : Nat} {U : Nat → Bool} {i d : Nat} : gw_dn w h U i d = true ↔ ∃ c0, c0 < i ∧ gw_cc w h U c0 d := by rw [gw_dn]; exact @decide_eq_true_iff _ (Classical.propDecidable _)
theorem gw_dn_0 {w h : Nat} {U : Nat → Bool} {d : Nat} : gw_dn w h U 0 d = false := by
  rw [Bool.eq_false_iff]; intro q
  obtain ⟨c0, h0, -⟩ := gw_dn_t.mp q
  exact absurd h0 (Nat.not_lt_zero _)
theorem gw_dn_s {w h : Nat} {U : Nat → Bool} {i d : Nat} : gw_dn w h U (i + 1) d = (gw_dn w h U i d || !(gw_di w h U i d).isNone) := by
  rw [Bool.eq_iff_iff, Bool.or_eq_true, gw_dn_t, gw_dn_t, Bool.not_eq_true', ← Bool.not_eq_true, Option.isNone_iff_eq_none, gw_di_none, Classical.not_not]
  constructor
  · rintro ⟨c0, h0, h1⟩
    by_cases e : c0 = i
    · subst e; exact .inr h1
    · exact .inl ⟨c0, by omega, h1⟩
  · rintro (⟨c0, h0, h1⟩ | h1)
    · exact ⟨c0, by omega, h1⟩
    · exact ⟨i, by omega, h1⟩
theorem gw_dn_no {w h : Nat} {U : Nat → Bool} {i : Nat} (hi : U i = false ∨ gw_dn w h U i i = true) (d : Nat) : gw_dn w h U (i + 1) d = gw_dn w h U i d := by
  rw [gw_dn_s]
  cases hq : (gw_di w h U i d).isNone with
  | true => simp
  | false =>
    have hcc : gw_cc w h U i d := by
      apply Classical.byContradiction
      intro z
      rw [gw_di_none.mpr z] at hq; cases hq
    obtain ⟨k, hk⟩ := hcc
    rcases hi with hi | hi
    · rw [gw_R_start hk] at hi; cases hi
    · obtain ⟨c0, h0, k0, hk0⟩ := gw_dn_t.mp hi
      have : gw_dn w h U i d = true := gw_dn_t.mpr ⟨c0, h0, _, gw_R_tr hk0 hk⟩
      rw [this]; rfl
theorem gw_rt_dn {w h : Nat} {U : Nat → Bool} {c : Nat} : gw_rt w h U c = (U c && !gw_dn w h U c c) := by
  rw [Bool.eq_iff_iff, gw_rt_t, Bool.and_eq_true, Bool.not_eq_true', ← Bool.not_eq_true, gw_dn_t]
theorem sp_Model_hides {X : mj_X} {d : Nat} {σ : mj_H} {Q : Value → mj_H → Prop} {w h n : Nat} {s : Nat → Int32} {kp : Nat} {hs : Nat → Nat → Int32} {P : List gw_Row} {sz : Int32} (hM : gw_MI σ.1 w h n s kp hs P sz) (hd : gw_dim w h) (hn14 : n ≤ 14) (hp : s 100 = nI n) (hv : gw_vp w h n s)  (k : ∀ f, gw_fr gw_ML σ.1 f → gw_MI f w h n s kp hs P sz → Q (.int (a_hides w h n s)) (f, σ.2)) : mj_M X (d + 20) y_Model_hides [.ref 55] σ (mj_V Q) := by
  obtain ⟨tf, fu, fe, fi, ma, md, hO, hA, hRr, hSs, htf⟩ := id hM
  obtain ⟨hs1, bf, hB, hb⟩ := id hA
  obtain ⟨⟨wt0, hW⟩, ⟨he0, hH⟩, ⟨fr0, hF⟩, ⟨fa0, hFa⟩, ⟨ct0, hCt⟩, ⟨mc0, hm1⟩, ⟨mb0, hm2⟩, ⟨mp0, hm3⟩, ⟨mw0, hm4⟩⟩ := id hSs
  have hwh := gw_dim_le hd
  refine mw_in (l0 := [some (.ref 55), none, none, none]) rfl ?_
  rw [a_hides] at k
  refine mw_ld 1 i_Model_hides_0 rfl rfl rfl ?_
  refine mw_cv0 4 i_Model_hides_1 rfl (by assumption) (sp_Model_look hO hs1 hd hn14 hp hv hW (fun f wt g1 g2 g3 => ?_)) rfl rfl (Nat.le_of_ble_eq_true rfl) (Nat.le_of_ble_eq_true rfl)
  have go : f 55 = gw_mo w h kp P.length tf fu fe fi ma md := (g1 _ (by decide)).trans hO
  have gs : f 56 = mj_AI 213 s := (g1 _ (by decide)).trans hs1
  have hMf := gw_MI_look g1 g2 hM
  have hff : gw_fr gw_ML σ.1 f := gw_fr_sub g1 (by decide)
  have gfa : f 65 = mj_AI 100 fa0 := (g1 _ (by decide)).trans hFa
  have gct : f 66 = mj_AZ 100 ct0 := (g1 _ (by decide)).trans hCt
  refine mw_k 5 i_Model_hides_4 rfl ?_
  refine mw_st (ls' := [_, _, _, _]) 6 i_Model_hides_5 rfl rfl rfl rfl ?_
  refine mj_for (S := Nat → mj_C) (fun i f0 => mj_Wp X (d + 20) y_Model_hides 6 [some (.ref 55), some (.int (nI i)), none, none] [] (f0, σ.2) (mj_V Q)) (fun i f0 => gw_fr [66] f f0 ∧ ∃ ct, f0 66 = mj_AZ 100 ct ∧ ∀ x, x < i → ct x = 0) (w * h) ?_ ?_ 0 f (Nat.zero_le _) ⟨gw_fr_rf _ _, ct0, gct, fun x hx => absurd hx (Nat.not_lt_zero x)⟩
  · rintro f0 ⟨y1, ct, y2, y3⟩
    have go0 : f0 55 = gw_mo w h kp P.length tf fu fe fi ma md := (y1 55 (by decide)).trans go
    refine mw_ld 7 i_Model_hides_6 rfl rfl rfl ?_
    refine mw_ld 8 i_Model_hides_7 rfl rfl rfl ?_
    refine mw_cv1 11 i_Model_hides_8 rfl (by assumption) (sp_Model_cells (σ := (f0, σ.2)) go0 ?_) rfl rfl (Nat.le_of_ble_eq_true rfl) (Nat.le_of_ble_eq_true rfl)
    refine mw_ic1 i_Model_hides_11 (nI_le (Nat.le_refl _) (by omega)) ?_
    refine mw_k 28 i_Model_hides_27 rfl ?_
    refine mw_st (ls' := [_, _, _, _]) 29 i_Model_hides_28 rfl rfl rfl rfl ?_
    refine mw_k 30 i_Model_hides_29 rfl ?_
    refine mw_st (ls' := [_, _, _, _]) 31 i_Model_hides_30 rfl rfl rfl rfl ?_
    refine mj_for (S := (Nat → mj_C) × Option Value) (fun i u => mj_Wp X (d + 20) y_Model_hides 31 [some (.ref 55), some (.int (nI (gw_cn (gw_rt w h (gw_UU w h n s)) i))), some (.int (nI i)), u.2] [] (u.1, σ.2) (mj_V Q)) (fun i u => gw_fr [65, 66] f u.1 ∧ (∃ fa, u.1 65 = mj_AI 100 fa) ∧ ∃ ct, u.1 66 = mj_AZ 100 ct ∧ ∀ x, x < w * h → ct x = mj_bI (gw_dn w h (gw_UU w h n s) i x)) (w * h) ?_ ?_ 0 (f0, none) (Nat.zero_le _) ⟨gw_fr_sub y1 (by simp), ⟨fa0, (y1 65 (by decide)).trans gfa⟩, ct, y2, fun x hx => by rw [gw_dn_0]; exact y3 x hx⟩
    · rintro ⟨f1, q5⟩ ⟨y1, ⟨fa, y2⟩, ct, y3, y4⟩
      dsimp only at y1 y2 y3 ⊢
      have go1 : f1 55 = gw_mo w h kp P.length tf fu fe fi ma md := (y1 55 (by decide)).trans go
      have gs1 : f1 56 = mj_AI 213 s := (y1 56 (by decide)).trans gs
      have gw1 : f1 58 = mj_AI 100 wt := (y1 58 (by decide)).trans g2
      refine mw_ld 32 i_Model_hides_31 rfl rfl rfl ?_
      refine mw_ld 33 i_Model_hides_32 rfl rfl rfl ?_
      refine mw_cv1 36 i_Model_hides_33 rfl (by assumption) (sp_Model_cells (σ := (f1, σ.2)) go1 ?_) rfl rfl (Nat.le_of_ble_eq_true rfl) (Nat.le_of_ble_eq_true rfl)
      refine mw_ic1 i_Model_hides_36 (nI_le (Nat.le_refl _) (by omega)) ?_
      refine mw_ld 116 i_Model_hides_115 rfl rfl rfl ?_
      refine mw_ri i_Model_hides_116 rfl rfl ?_
      refine k f1 (gw_fr_tr hff (gw_fr_sub y1 (by decide))) ?_
      obtain ⟨tf', fu', fe', fi', ma', md', m1, m2, m3, m4, m5⟩ := hMf
      exact ⟨tf', fu', fe', fi', ma', md', (y1 _ (by decide)).trans m1, gw_mA_fr y1 (by decide) (by decide) m2, gw_mR_fr y1 (fun a _ _ => by simp; omega) m3, gw_mS_fr y1 (gw_no_in (by decide)) (gw_no_in (by decide)) (gw_no_in (by decide)) (fun _ => ⟨_, y2⟩) (fun _ => ⟨_, y3⟩) (gw_no_in (by decide)) (gw_no_in (by decide)) (gw_no_in (by decide)) (gw_no_in (by decide)) m4, m5⟩
    · rintro i ⟨f1, q5⟩ hi ⟨y1, ⟨fa, y2⟩, ct, y3, y4⟩ ih
      dsimp only at y1 y2 y3 ⊢
      have go1 : f1 55 = gw_mo w h kp P.length tf fu fe fi ma md := (y1 55 (by decide)).trans go
      have gs1 : f1 56 = mj_AI 213 s := (y1 56 (by decide)).trans gs
      have gw1 : f1 58 = mj_AI 100 wt := (y1 58 (by decide)).trans g2
      by_cases hu : gw_us w h n s i = true
      · have hU : gw_UU w h n s i = true := by rw [gw_UU_us hi]; exact hu
        by_cases hA : gw_dn w h (gw_UU w h n s) i i = true
        · have hrt : ¬ gw_rt w h (gw_UU w h n s) i = true := by rw [gw_rt_dn, hA]; simp
          refine mw_ld 32 i_Model_hides_31 rfl rfl rfl ?_
          refine mw_ld 33 i_Model_hides_32 rfl rfl rfl ?_
          refine mw_cv1 36 i_Model_hides_33 rfl (by repeat (first | exact mj_hs2 | exact mj_hs | assumption | refine mj_hn2 (by omega) ?_ | refine mj_hn (by omega) ?_)) (sp_Model_cells (σ := (f1, σ.2)) go1 ?_) rfl rfl (Nat.le_of_ble_eq_true rfl) (Nat.le_of_ble_eq_true rfl)
          refine mw_ic0 39 i_Model_hides_36 rfl (nI_ge hi (by omega)) ?_
          refine mw_ld 40 i_Model_hides_39 rfl rfl rfl ?_
          refine mw_ld 41 i_Model_hides_40 rfl rfl rfl ?_
          refine mw_cv1 44 i_Model_hides_41 rfl (by repeat (first | exact mj_hs2 | exact mj_hs | assumption | refine mj_hn2 (by omega) ?_ | refine mj_hn (by omega) ?_)) (sp_Model_isUnseen (σ := (f1, σ.2)) go1 gs1 hd gw1 g3 hi ?_) rfl rfl (Nat.le_of_ble_eq_true rfl) (Nat.le_of_ble_eq_true rfl)
          refine mw_if0 47 i_Model_hides_44 rfl (mj_bI1.mpr hu) ?_
          refine mw_ld 48 i_Model_hides_47 rfl rfl rfl ?_
          refine mw_get 51 i_Model_hides_48 rfl (by repeat (first | exact mj_hs2 | exact mj_hs | assumption | refine mj_hn2 (by omega) ?_ | refine mj_hn (by omega) ?_)) (by rfl) ?_
          refine mw_ld 52 i_Model_hides_51 rfl rfl rfl ?_
          refine mw_zald 53 i i_Model_hides_52 rfl y3 rfl (by omega) (by decide) ?_
          rw [y4 i hi]
          refine mw_if1 i_Model_hides_53 (mj_bI1.mpr hA) ?_
          refine mw_inc (ls' := [_, _, _, _]) 112 (nI (i + 1)) i_Model_hides_109 rfl rfl rfl (nI_1 i) rfl ?_
          refine mw_go i_Model_hides_112 ?_
          have e := ih (f1, q5) ⟨y1, ⟨fa, y2⟩, ct, y3, fun x hx => by rw [gw_dn_no (.inr hA)]; exact y4 x hx⟩
          simp only [gw_cn] at e
          rw [if_neg hrt] at e
          exact e
        · have hrt : gw_rt w h (gw_UU w h n s) i = true := by rw [gw_rt_dn, gw_nt hA, hU]; rfl
          refine mw_ld 32 i_Model_hides_31 rfl rfl rfl ?_
          refine mw_ld 33 i_Model_hides_32 rfl rfl rfl ?_
          refine mw_cv1 36 i_Model_hides_33 rfl (by repeat (first | exact mj_hs2 | exact mj_hs | assumption | refine mj_hn2 (by omega) ?_ | refine mj_hn (by omega) ?_)) (sp_Model_cells (σ := (f1, σ.2)) go1 ?_) rfl rfl (Nat.le_of_ble_eq_true rfl) (Nat.le_of_ble_eq_true rfl)
          refine mw_ic0 39 i_Model_hides_36 rfl (nI_ge hi (by omega)) ?_
          refine mw_ld 40 i_Model_hides_39 rfl rfl rfl ?_
          refine mw_ld 41 i_Model_hides_40 rfl rfl rfl ?_
          refine mw_cv1 44 i_Model_hides_41 rfl (by repeat (first | exact mj_hs2 | exact mj_hs | assumption | refine mj_hn2 (by omega) ?_ | refine mj_hn (by omega) ?_)) (sp_Model_isUnseen (σ := (f1, σ.2)) go1 gs1 hd gw1 g3 hi ?_) rfl rfl (Nat.le_of_ble_eq_true rfl) (Nat.le_of_ble_eq_true rfl)
          refine mw_if0 47 i_Model_hides_44 rfl (mj_bI1.mpr hu) ?_
          refine mw_ld 48 i_Model_hides_47 rfl rfl rfl ?_
          refine mw_get 51 i_Model_hides_48 rfl (by repeat (first | exact mj_hs2 | exact mj_hs | assumption | refine mj_hn2 (by omega) ?_ | refine mj_hn (by omega) ?_)) (by rfl) ?_
          refine mw_ld 52 i_Model_hides_51 rfl rfl rfl ?_
          refine mw_zald 53 i i_Model_hides_52 rfl y3 rfl (by omega) (by decide) ?_
          rw [y4 i hi]
          refine mw_if0 56 i_Model_hides_53 rfl (fun q => q (mj_bI0.mpr (gw_nt hA))) ?_
          refine mw_inc (ls' := [_, _, _, _]) 59 (nI (gw_cn (gw_rt w h (gw_UU w h n s)) i + 1)) i_Model_hides_56 rfl rfl rfl (nI_1 _) rfl ?_
          refine mw_ld 60 i_Model_hides_59 rfl rfl rfl ?_
          refine mw_ld 61 i_Model_hides_60 rfl rfl rfl ?_
          refine mw_cv0 64 i_Model_hides_61 rfl (by repeat (first | exact mj_hs2 | exact mj_hs | assumption | refine mj_hn2 (by omega) ?_ | refine mj_hn (by omega) ?_)) (sp_Model_walk (σ := (f1, σ.2)) go1 gs1 hd gw1 g3 y2 hi (fun f2 fa2 e1 e2 e3 => ?_)) rfl rfl (Nat.le_of_ble_eq_true rfl) (Nat.le_of_ble_eq_true rfl)
          refine mw_k 65 i_Model_hides_64 rfl ?_
          refine mw_st (ls' := [_, _, _, _]) 66 i_Model_hides_65 rfl rfl rfl rfl ?_
          refine mj_for (S := Nat → mj_C) (fun j f3 => mj_Wp X (d + 20) y_Model_hides 66 [some (.ref 55), some (.int (nI (gw_cn (gw_rt w h (gw_UU w h n s)) i + 1))), some (.int (nI i)), some (.int (nI j))] [] (f3, σ.2) (mj_V Q)) (fun j f3 => gw_fr [66] f2 f3 ∧ ∃ ct, f3 66 = mj_AZ 100 ct ∧ (∀ x, x < j → ct x = mj_bI (gw_dn w h (gw_UU w h n s) (i + 1) x)) ∧ ∀ x, j ≤ x → x < w * h → ct x = mj_bI (gw_dn w h (gw_UU w h n s) i x)) (w * h) ?_ ?_ 0 f2 (Nat.zero_le _) ⟨gw_fr_rf _ _, ct, (e1 66 (by decide)).trans y3, fun x hx => absurd hx (Nat.not_lt_zero x), fun x _ hx => y4 x hx⟩
          · rintro f3 ⟨z1, ct3, z2, z3, z4⟩
            have go3 : f3 55 = gw_mo w h kp P.length tf fu fe fi ma md := (z1 55 (by decide)).trans ((e1 55 (by decide)).trans go1)
            refine mw_ld 67 i_Model_hides_66 rfl rfl rfl ?_
            refine mw_ld 68 i_Model_hides_67 rfl rfl rfl ?_
            refine mw_cv1 71 i_Model_hides_68 rfl (by assumption) (sp_Model_cells (σ := (f3, σ.2)) go3 ?_) rfl rfl (Nat.le_of_ble_eq_true rfl) (Nat.le_of_ble_eq_true rfl)
            refine mw_ic1 i_Model_hides_71 (nI_le (Nat.le_refl _) (by omega)) ?_
            refine mw_inc (ls' := [_, _, _, _]) 112 (nI (i + 1)) i_Model_hides_109 rfl rfl rfl (nI_1 i) rfl ?_
            refine mw_go i_Model_hides_112 ?_
            have e := ih (f3, some (.int (nI (w * h)))) ⟨gw_fr_tr y1 (gw_fr_tr (gw_fr_sub e1 (by simp)) (gw_fr_sub z1 (by simp))), ⟨fa2, (z1 65 (by decide)).trans e2⟩, ct3, z2, z3⟩
            simp only [gw_cn] at e
            rw [if_pos hrt] at e
            exact e
          · rintro j f3 hj ⟨z1, ct3, z2, z3, z4⟩ ih3
            have go3 : f3 55 = gw_mo w h kp P.length tf fu fe fi ma md := (z1 55 (by decide)).trans ((e1 55 (by decide)).trans go1)
            have gf3 : f3 65 = mj_AI 100 fa2 := (z1 65 (by decide)).trans e2
            have hlt : ∀ c, gw_di w h (gw_UU w h n s) i j = some c → c < 2147483648 := fun c hc => by have := gw_di_lt hd hc; omega
            by_cases hA : gw_dn w h (gw_UU w h n s) i j = true
            · skip
              refine mw_ld 67 i_Model_hides_66 rfl rfl rfl ?_
              refine mw_ld 68 i_Model_hides_67 rfl rfl rfl ?_
              refine mw_cv1 71 i_Model_hides_68 rfl (by repeat (first | exact mj_hs2 | exact mj_hs | assumption | refine mj_hn2 (by omega) ?_ | refine mj_hn (by omega) ?_)) (sp_Model_cells (σ := (f3, σ.2)) go3 ?_) rfl rfl (Nat.le_of_ble_eq_true rfl) (Nat.le_of_ble_eq_true rfl)
              refine mw_ic0 74 i_Model_hides_71 rfl (nI_ge hj (by omega)) ?_
              refine mw_ld 75 i_Model_hides_74 rfl rfl rfl ?_
              refine mw_get 78 i_Model_hides_75 rfl (by repeat (first | exact mj_hs2 | exact mj_hs | assumption | refine mj_hn2 (by omega) ?_ | refine mj_hn (by omega) ?_)) (by rfl) ?_
              refine mw_ld 79 i_Model_hides_78 rfl rfl rfl ?_
              refine mw_ld 80 i_Model_hides_79 rfl rfl rfl ?_
              refine mw_get 83 i_Model_hides_80 rfl (by repeat (first | exact mj_hs2 | exact mj_hs | assumption | refine mj_hn2 (by omega) ?_ | refine mj_hn (by omega) ?_)) (by rfl) ?_
              refine mw_ld 84 i_Model_hides_83 rfl rfl rfl ?_
              refine mw_zald 85 j i_Model_hides_84 rfl z2 rfl (by omega) (by decide) ?_
              rw [z4 j (Nat.le_refl _) hj]
              refine mw_if1 i_Model_hides_85 (mj_bI1.mpr hA) ?_
              refine mw_k 98 i_Model_hides_97 rfl ?_
              refine mw_go i_Model_hides_98 ?_
              refine mw_zast 103 j i_Model_hides_102 rfl z2 rfl (by omega) (by decide) rfl ?_
              refine mw_inc (ls' := [_, _, _, _]) 106 (nI (j + 1)) i_Model_hides_103 rfl rfl rfl (nI_1 j) rfl ?_
              refine mw_go i_Model_hides_106 ?_
              refine ih3 _ ⟨gw_fr_up z1 (by simp), _, mj_hs, fun x hx => ?_, fun x hx1 hx2 => ?_⟩
              · by_cases e : x = j
                · subst e; rw [pk_us, gw_dn_s, hA, Bool.true_or]; rfl
                · rw [pk_un e]; exact z3 x (by omega)
              · rw [pk_un (by omega)]; exact z4 x (by omega) hx2
            · by_cases hB : gw_di w h (gw_UU w h n s) i j = none
              · skip
                refine mw_ld 67 i_Model_hides_66 rfl rfl rfl ?_
                refine mw_ld 68 i_Model_hides_67 rfl rfl rfl ?_
                refine mw_cv1 71 i_Model_hides_68 rfl (by repeat (first | exact mj_hs2 | exact mj_hs | assumption | refine mj_hn2 (by omega) ?_ | refine mj_hn (by omega) ?_)) (sp_Model_cells (σ := (f3, σ.2)) go3 ?_) rfl rfl (Nat.le_of_ble_eq_true rfl) (Nat.le_of_ble_eq_true rfl)
                refine mw_ic0 74 i_Model_hides_71 rfl (nI_ge hj (by omega)) ?_
                refine mw_ld 75 i_Model_hides_74 rfl rfl rfl ?_
                refine mw_get 78 i_Model_hides_75 rfl (by repeat (first | exact mj_hs2 | exact mj_hs | assumption | refine mj_hn2 (by omega) ?_ | refine mj_hn (by omega) ?_)) (by rfl) ?_
                refine mw_ld 79 i_Model_hides_78 rfl rfl rfl ?_
                refine mw_ld 80 i_Model_hides_79 rfl rfl rfl ?_
                refine mw_get 83 i_Model_hides_80 rfl (by repeat (first | exact mj_hs2 | exact mj_hs | assumption | refine mj_hn2 (by omega) ?_ | refine mj_hn (by omega) ?_)) (by rfl) ?_
                refine mw_ld 84 i_Model_hides_83 rfl rfl rfl ?_
                refine mw_zald 85 j i_Model_hides_84 rfl z2 rfl (by omega) (by decide) ?_
                rw [z4 j (Nat.le_refl _) hj]
                refine mw_if0 88 i_Model_hides_85 rfl (fun q => q (mj_bI0.mpr (gw_nt hA))) ?_
                refine mw_ld 89 i_Model_hides_88 rfl rfl rfl ?_
                refine mw_get 92 i_Model_hides_89 rfl (by repeat (first | exact mj_hs2 | exact mj_hs | assumption | refine mj_hn2 (by omega) ?_ | refine mj_hn (by omega) ?_)) (by rfl) ?_
                refine mw_ld 93 i_Model_hides_92 rfl rfl rfl ?_
                refine mw_iald 94 j i_Model_hides_93 rfl gf3 rfl (by omega) (by decide) ?_
                rw [e3 j hj]
                refine mw_if1 i_Model_hides_94 ((gw_dI_neg hlt).mpr hB) ?_
                refine mw_k 102 i_Model_hides_101 rfl ?_
                refine mw_zast 103 j i_Model_hides_102 rfl z2 rfl (by omega) (by decide) rfl ?_
                refine mw_inc (ls' := [_, _, _, _]) 106 (nI (j + 1)) i_Model_hides_103 rfl rfl rfl (nI_1 j) rfl ?_
                refine mw_go i_Model_hides_106 ?_
                refine ih3 _ ⟨gw_fr_up z1 (by simp), _, mj_hs, fun x hx => ?_, fun x hx1 hx2 => ?_⟩
                · by_cases e : x = j
                  · subst e; rw [pk_us, gw_dn_s, gw_nt hA, hB]; rfl
                  · rw [pk_un e]; exact z3 x (by omega)
                · rw [pk_un (by omega)]; exact z4 x (by omega) hx2
              · have hB2 : (gw_di w h (gw_UU w h n s) i j).isNone = false := by cases e : gw_di w h (gw_UU w h n s) i j with | none => exact absurd e hB | some _ => rfl
                refine mw_ld 67 i_Model_hides_66 rfl rfl rfl ?_
                refine mw_ld 68 i_Model_hides_67 rfl rfl rfl ?_
                refine mw_cv1 71 i_Model_hides_68 rfl (by repeat (first | exact mj_hs2 | exact mj_hs | assumption | refine mj_hn2 (by omega) ?_ | refine mj_hn (by omega) ?_)) (sp_Model_cells (σ := (f3, σ.2)) go3 ?_) rfl rfl (Nat.le_of_ble_eq_true rfl) (Nat.le_of_ble_eq_true rfl)
                refine mw_ic0 74 i_Model_hides_71 rfl (nI_ge hj (by omega)) ?_
                refine mw_ld 75 i_Model_hides_74 rfl rfl rfl ?_
                refine mw_get 78 i_Model_hides_75 rfl (by repeat (first | exact mj_hs2 | exact mj_hs | assumption | refine mj_hn2 (by omega) ?_ | refine mj_hn (by omega) ?_)) (by rfl) ?_
                refine mw_ld 79 i_Model_hides_78 rfl rfl rfl ?_
                refine mw_ld 80 i_Model_hides_79 rfl rfl rfl ?_
                refine mw_get 83 i_Model_hides_80 rfl (by repeat (first | exact mj_hs2 | exact mj_hs | assumption | refine mj_hn2 (by omega) ?_ | refine mj_hn (by omega) ?_)) (by rfl) ?_
                refine mw_ld 84 i_Model_hides_83 rfl rfl rfl ?_
                refine mw_zald 85 j i_Model_hides_84 rfl z2 rfl (by omega) (by decide) ?_
                rw [z4 j (Nat.le_refl _) hj]
                refine mw_if0 88 i_Model_hides_85 rfl (fun q => q (mj_bI0.mpr (gw_nt hA))) ?_
                refine mw_ld 89 i_Model_hides_88 rfl rfl rfl ?_
                refine mw_get 92 i_Model_hides_89 rfl (by repeat (first | exact mj_hs2 | exact mj_hs | assumption | refine mj_hn2 (by omega) ?_ | refine mj_hn (by omega) ?_)) (by rfl) ?_
                refine mw_ld 93 i_Model_hides_92 rfl rfl rfl ?_
                refine mw_iald 94 j i_Model_hides_93 rfl gf3 rfl (by omega) (by decide) ?_
                rw [e3 j hj]
                refine mw_if0 97 i_Model_hides_94 rfl (fun q => hB ((gw_dI_neg hlt).mp q)) ?_
                refine mw_k 98 i_Model_hides_97 rfl ?_
                refine mw_go i_Model_hides_98 ?_
                refine mw_zast 103 j i_Model_hides_102 rfl z2 rfl (by omega) (by decide) rfl ?_
                refine mw_inc (ls' := [_, _, _, _]) 106 (nI (j + 1)) i_Model_hides_103 rfl rfl rfl (nI_1 j) rfl ?_
                refine mw_go i_Model_hides_106 ?_
                refine ih3 _ ⟨gw_fr_up z1 (by simp), _, mj_hs, fun x hx => ?_, fun x hx1 hx2 => ?_⟩
                · by_cases e : x = j
                  · subst e; rw [pk_us, gw_dn_s, gw_nt hA, hB2]; rfl
                  · rw [pk_un e]; exact z3 x (by omega)
                · rw [pk_un (by omega)]; exact z4 x (by omega) hx2
      · have hU : gw_UU w h n s i = false := by rw [gw_UU_us hi]; exact gw_nt hu
        have hrt : ¬ gw_rt w h (gw_UU w h n s) i = true := by rw [gw_rt_dn, hU]; simp
        refine mw_ld 32 i_Model_hides_31 rfl rfl rfl ?_
        refine mw_ld 33 i_Model_hides_32 rfl rfl rfl ?_
        refine mw_cv1 36 i_Model_hides_33 rfl (by repeat (first | exact mj_hs2 | exact mj_hs | assumption | refine mj_hn2 (by omega) ?_ | refine mj_hn (by omega) ?_)) (sp_Model_cells (σ := (f1, σ.2)) go1 ?_) rfl rfl (Nat.le_of_ble_eq_true rfl) (Nat.le_of_ble_eq_true rfl)
        refine mw_ic0 39 i_Model_hides_36 rfl (nI_ge hi (by omega)) ?_
        refine mw_ld 40 i_Model_hides_39 rfl rfl rfl ?_
        refine mw_ld 41 i_Model_hides_40 rfl rfl rfl ?_
        refine mw_cv1 44 i_Model_hides_41 rfl (by repeat (first | exact mj_hs2 | exact mj_hs | assumption | refine mj_hn2 (by omega) ?_ | refine mj_hn (by omega) ?_)) (sp_Model_isUnseen (σ := (f1, σ.2)) go1 gs1 hd gw1 g3 hi ?_) rfl rfl (Nat.le_of_ble_eq_true rfl) (Nat.le_of_ble_eq_true rfl)
        refine mw_if1 i_Model_hides_44 (mj_bI0.mpr (gw_nt hu)) ?_
        refine mw_inc (ls' := [_, _, _, _]) 112 (nI (i + 1)) i_Model_hides_109 rfl rfl rfl (nI_1 i) rfl ?_
        refine mw_go i_Model_hides_112 ?_
        have e := ih (f1, q5) ⟨y1, ⟨fa, y2⟩, ct, y3, fun x hx => by rw [gw_dn_no (.inl hU)]; exact y4 x hx⟩
        simp only [gw_cn] at e
        rw [if_neg hrt] at e
        exact e
  · rintro i f0 hi ⟨y1, ct, y2, y3⟩ ih
    have go0 : f0 55 = gw_mo w h kp P.length tf fu fe fi ma md := (y1 55 (by decide)).trans go
    refine mw_ld 7 i_Model_hides_6 rfl rfl rfl ?_
    refine mw_ld 8 i_Model_hides_7 rfl rfl rfl ?_
    refine mw_cv1 11 i_Model_hides_8 rfl (by repeat (first | exact mj_hs2 | exact mj_hs | assumption | refine mj_hn2 (by omega) ?_ | refine mj_hn (by omega) ?_)) (sp_Model_cells (σ := (f0, σ.2)) go0 ?_) rfl rfl (Nat.le_of_ble_eq_true rfl) (Nat.le_of_ble_eq_true rfl)
    refine mw_ic0 14 i_Model_hides_11 rfl (nI_ge hi (by omega)) ?_
    refine mw_ld 15 i_Model_hides_14 rfl rfl rfl ?_
    refine mw_get 18 i_Model_hides_15 rfl (by repeat (first | exact mj_hs2 | exact mj_hs | assumption | refine mj_hn2 (by omega) ?_ | refine mj_hn (by omega) ?_)) (by rfl) ?_
    refine mw_ld 19 i_Model_hides_18 rfl rfl rfl ?_
    refine mw_k 20 i_Model_hides_19 rfl ?_
    refine mw_zast 21 i i_Model_hides_20 rfl y2 rfl (by omega) (by decide) rfl ?_
    refine mw_inc (ls' := [_, _, _, _]) 24 (nI (i + 1)) i_Model_hides_21 rfl rfl rfl (nI_1 i) rfl ?_
    refine mw_go i_Model_hides_24 ?_
    refine ih _ ⟨gw_fr_up y1 (by simp), _, mj_hs, fun x hx => ?_⟩
    by_cases e : x = i
    · subst e; exact pk_us
    · rw [pk_un e]; exact y3 x (by omega)
