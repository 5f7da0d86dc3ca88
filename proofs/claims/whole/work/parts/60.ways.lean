/-! the model: sneak, way -/
theorem gw_MI_far {f f' : Nat → mj_C} {w h n : Nat} {s : Nat → Int32} {kp : Nat} {hs : Nat → Nat → Int32} {P : List gw_Row} {sz : Int32} {fa : Nat → Int32} (hf : gw_fr [65] f f') (hw : f' 65 = mj_AI 100 fa) (hM : gw_MI f w h n s kp hs P sz) : gw_MI f' w h n s kp hs P sz := by
  obtain ⟨tf, fu, fe, fi, ma, md, m1, m2, m3, m4, m5⟩ := hM
  exact ⟨tf, fu, fe, fi, ma, md, (hf _ (by decide)).trans m1, gw_mA_fr hf (by decide) (by decide) m2, gw_mR_fr hf (fun a _ _ => by simp; omega) m3, gw_mS_fr hf (gw_no_in (by decide)) (gw_no_in (by decide)) (gw_no_in (by decide)) (fun _ => ⟨_, hw⟩) (gw_no_in (by decide)) (gw_no_in (by decide)) (gw_no_in (by decide)) (gw_no_in (by decide)) (gw_no_in (by decide)) m4, m5⟩
theorem gw_MI_ct {f f' : Nat → mj_C} {w h n : Nat} {s : Nat → Int32} {kp : Nat} {hs : Nat → Nat → Int32} {P : List gw_Row} {sz : Int32} {fa : Nat → Int32} (hf : gw_fr [66] f f') (hw : f' 66 = mj_AZ 100 fa) (hM : gw_MI f w h n s kp hs P sz) : gw_MI f' w h n s kp hs P sz := by
  obtain ⟨tf, fu, fe, fi, ma, md, m1, m2, m3, m4, m5⟩ := hM
  exact ⟨tf, fu, fe, fi, ma, md, (hf _ (by decide)).trans m1, gw_mA_fr hf (by decide) (by decide) m2, gw_mR_fr hf (fun a _ _ => by simp; omega) m3, gw_mS_fr hf (gw_no_in (by decide)) (gw_no_in (by decide)) (gw_no_in (by decide)) (gw_no_in (by decide)) (fun _ => ⟨_, hw⟩) (gw_no_in (by decide)) (gw_no_in (by decide)) (gw_no_in (by decide)) (gw_no_in (by decide)) m4, m5⟩
theorem gw_di_lt {w h n : Nat} {s : Nat → Int32} (hd : gw_dim w h) {a c k : Nat} (e : gw_di w h (gw_UU w h n s) a c = some k) : k < 100 := by
  have hwh := gw_dim_le hd
  have key : ∀ j, j ≤ k → ∃ x, gw_di w h (gw_UU w h n s) a x = some (k - j) := by
    intro j
    induction j with
    | zero => exact fun _ => ⟨c, e⟩
    | succ j ih =>
      intro hj
      obtain ⟨x, hx⟩ := ih (by omega)
      obtain ⟨y, hy, -⟩ := gw_di_back (N := k - (j + 1)) (by rw [hx]; congr 1; omega)
      exact ⟨y, hy⟩
  apply Classical.byContradiction
  intro hk
  have ex : ∀ j, j ≤ 100 → ∃ x, gw_di w h (gw_UU w h n s) a x = some j := fun j hj => by
    obtain ⟨x, hx⟩ := key (k - j) (by omega)
    exact ⟨x, by rw [hx]; congr 1; omega⟩
  obtain ⟨g, hg⟩ : ∃ g : Nat → Nat, ∀ j, j ≤ 100 → gw_di w h (gw_UU w h n s) a (g j) = some j := by
    refine ⟨fun j => @dite _ (j ≤ 100) (Classical.propDecidable _) (fun hj => Classical.choose (ex j hj)) (fun _ => 0), fun j hj => ?_⟩
    dsimp only
    rw [dif_pos hj]
    exact Classical.choose_spec (ex j hj)
  have := fb_holes (w * h) 101 g (fun i hi => gw_UU_lt (gw_di_U (hg i (by omega)))) (fun i j hij hj e2 => by
    have h1 := hg i (by omega)
    have h2 := hg j (by omega)
    rw [e2, h2] at h1
    simp only [Option.some.injEq] at h1
    omega)
  omega
theorem gw_no_mono {w h x i j y z : Nat} (hij : i < j) (hj : j < 4) (h1 : gw_no w h x i = some y) (h2 : gw_no w h x j = some z) (hw : 1 ≤ w) : y < z := by
  have hm : x % w < w := Nat.mod_lt _ (by omega)
  have hml := Nat.mod_le x w
  have e0 : gw_no w h x 0 = some y → (w ≤ x ∧ y = x - w) := fun q => by
    simp only [gw_no] at q
    split at q
    · rename_i z; simp only [Option.some.injEq] at q; exact ⟨gw_div_le z, q.symm⟩
    · cases q
  match i, j, hij, hj with
  | 0, 1, _, _ =>
    obtain ⟨q1, q2⟩ := e0 h1
    simp only [gw_no] at h2
    split at h2
    · simp only [Option.some.injEq] at h2; omega
    · cases h2
  | 0, 2, _, _ =>
    obtain ⟨q1, q2⟩ := e0 h1
    simp only [gw_no] at h2
    split at h2
    · simp only [Option.some.injEq] at h2; omega
    · cases h2
  | 0, 3, _, _ =>
    obtain ⟨q1, q2⟩ := e0 h1
    simp only [gw_no] at h2
    split at h2
    · simp only [Option.some.injEq] at h2; omega
    · cases h2
  | 1, 2, _, _ =>
    simp only [gw_no] at h1 h2
    split at h1
    · split at h2
      · simp only [Option.some.injEq] at h1 h2; omega
      · cases h2
    · cases h1
  | 1, 3, _, _ =>
    simp only [gw_no] at h1 h2
    split at h1
    · split at h2
      · simp only [Option.some.injEq] at h1 h2; omega
      · cases h2
    · cases h1
  | 2, 3, _, _ =>
    simp only [gw_no] at h1 h2
    split at h1
    · split at h2
      · simp only [Option.some.injEq] at h1 h2; omega
      · cases h2
    · cases h1
  | i + 3, j, hij, hj => exact absurd hj (by omega)
theorem gw_ff_min {p : Nat → Bool} {N c : Nat} (h : gw_ff p N = some c) : ∀ j, j < c → p j = false := by
  intro j hj
  cases hp : p j with
  | false => rfl
  | true =>
    exfalso
    obtain ⟨m, hm, hmin⟩ := pk_least (fun x => p x = true) ⟨j, hp⟩
    have hmj : m ≤ j := by
      apply Classical.byContradiction
      intro q; exact hmin j (by omega) hp
    have hcN := (gw_ff_spec h).1
    have := gw_ff_some (p := p) (N := N) (c := m) (by omega) hm (fun x hx => by simpa using hmin x hx)
    rw [h] at this
    simp only [Option.some.injEq] at this
    omega
/-- the least neighbour that is one step nearer -/
theorem gw_ln_least {w h n : Nat} {s : Nat → Int32} (hd : gw_dim w h) {b x k : Nat} (hx : gw_di w h (gw_UU w h n s) b x = some (k + 1)) :
    gw_di w h (gw_UU w h n s) b (gw_ln w h (gw_di w h (gw_UU w h n s) b) x) = some k ∧ gw_nb w h x (gw_ln w h (gw_di w h (gw_UU w h n s) b) x) = true ∧ ∀ c, c < gw_ln w h (gw_di w h (gw_UU w h n s) b) x → ¬ (gw_di w h (gw_UU w h n s) b c = some k ∧ gw_nb w h x c = true) := by
  have hxu := gw_di_U hx
  have hxw := gw_UU_lt hxu
  have near : ∀ y, gw_nb w h x y = true → ∀ j, gw_di w h (gw_UU w h n s) b y = some j → j < k + 1 → j = k := by
    intro y hy j hj hlt
    obtain ⟨i, hi, hno⟩ := gw_nb_t.mp hy
    obtain ⟨i2, hi2, hno2⟩ := gw_no_sym hd hxw hno
    obtain ⟨k2, hk2, e2⟩ := gw_di_step hj hxu (gw_nb_t.mpr ⟨i2, hi2, hno2⟩)
    rw [hx] at e2
    simp only [Option.some.injEq] at e2
    omega
  obtain ⟨y, hy1, hy2, -⟩ := gw_di_back hx
  obtain ⟨iy, hiy, hnoy⟩ := gw_nb_t.mp hy2
  obtain ⟨jy, hjy, hnoxy⟩ := gw_no_sym hd (gw_UU_lt (gw_di_U hy1)) hnoy
  have hnr : ∀ j z, gw_no w h x j = some z → gw_di w h (gw_UU w h n s) b z = some k → gw_nr w h (gw_di w h (gw_UU w h n s) b) x j = true := by
    intro j z h1 h2
    simp only [gw_nr, h1, h2, hx, gw_ols, decide_eq_true_eq]; omega
  cases hff : gw_ff (gw_nr w h (gw_di w h (gw_UU w h n s) b) x) 4 with
  | none =>
    have := gw_ff_none.mp hff jy hjy
    rw [hnr jy y hnoxy hy1] at this
    cases this
  | some i0 =>
    obtain ⟨hi0, hp0⟩ := gw_ff_spec hff
    cases hno0 : gw_no w h x i0 with
    | none => simp only [gw_nr, hno0] at hp0; cases hp0
    | some y0 =>
      have eln : gw_ln w h (gw_di w h (gw_UU w h n s) b) x = y0 := by rw [gw_ln, hff]; simp [hno0]
      rw [eln]
      have hnb0 : gw_nb w h x y0 = true := gw_nb_t.mpr ⟨i0, hi0, hno0⟩
      simp only [gw_nr, hno0, hx] at hp0
      cases hdy : gw_di w h (gw_UU w h n s) b y0 with
      | none => rw [hdy] at hp0; cases hp0
      | some j0 =>
        rw [hdy] at hp0
        simp only [gw_ols, decide_eq_true_eq] at hp0
        have e0 := near y0 hnb0 j0 hdy hp0
        subst e0
        refine ⟨rfl, hnb0, fun c hc hq => ?_⟩
        obtain ⟨ic, hic, hnoc⟩ := gw_nb_t.mp hq.2
        have hmin := gw_ff_min hff
        rcases Nat.lt_or_ge ic i0 with z | z
        · have := hmin ic z
          rw [hnr ic c hnoc hq.1] at this; cases this
        · rcases Nat.lt_or_ge i0 ic with z2 | z2
          · have := gw_no_mono z2 hic hno0 hnoc hd.1; omega
          · have : ic = i0 := by omega
            subst this
            rw [hno0] at hnoc
            simp only [Option.some.injEq] at hnoc
            omega
theorem gw_it_di {w h n : Nat} {s : Nat → Int32} (hd : gw_dim w h) {a b L : Nat} (ha : gw_di w h (gw_UU w h n s) b a = some L) : ∀ i, i ≤ L → gw_di w h (gw_UU w h n s) b (gw_it w h (gw_di w h (gw_UU w h n s) b) a i) = some (L - i)
  | 0, _ => ha
  | i + 1, hi => by
    have ih := gw_it_di hd ha i (by omega)
    exact (gw_ln_least hd (k := L - (i + 1)) (by rw [ih]; congr 1; omega)).1
theorem sp_Model_sneak {X : mj_X} {d : Nat} {σ : mj_H} {Q : Value → mj_H → Prop} {w h n : Nat} {s : Nat → Int32} {kp : Nat} {hs : Nat → Nat → Int32} {P : List gw_Row} {sz : Int32} (hM : gw_MI σ.1 w h n s kp hs P sz) (hd : gw_dim w h) (hn14 : n ≤ 14) (hp : s 100 = nI n) (hv : gw_vp w h n s) {a b : Int32} (k : ∀ f, gw_fr gw_ML σ.1 f → gw_MI f w h n s kp hs P sz → Q (.int (a_sneak w h n s a b)) (f, σ.2)) : mj_M X (d + 20) y_Model_sneak [.ref 55, .int a, .int b] σ (mj_V Q) := by
  obtain ⟨tf, fu, fe, fi, ma, md, hO, hA, hRr, hSs, htf⟩ := id hM
  obtain ⟨hs1, bf, hB, hb⟩ := id hA
  obtain ⟨⟨wt0, hW⟩, ⟨he0, hH⟩, ⟨fr0, hF⟩, ⟨fa0, hFa⟩, ⟨ct0, hCt⟩, ⟨mc0, hm1⟩, ⟨mb0, hm2⟩, ⟨mp0, hm3⟩, ⟨mw0, hm4⟩⟩ := id hSs
  have hwh := gw_dim_le hd
  refine mw_in (l0 := [some (.ref 55), some (.int a), some (.int b)]) rfl ?_
  by_cases ha : gw_ce w h a = true
  · skip
    by_cases hb2 : gw_ce w h b = true
    · skip
      obtain ⟨a, ha2, rfl⟩ := gw_ce_of hd ha
      obtain ⟨b, hb3, rfl⟩ := gw_ce_of hd hb2
      rw [a_sneak, if_pos ha, if_pos hb2, gw_tn (by omega), gw_tn (by omega), gw_di_sym hd (fun c hc => gw_UU_lt hc)] at k
      have hlt : ∀ c, gw_di w h (gw_UU w h n s) a b = some c → c < 2147483648 := fun c hc => by have := gw_di_lt hd hc; omega
      by_cases hq : gw_di w h (gw_UU w h n s) a b = none
      · skip
        refine mw_ld 1 i_Model_sneak_0 rfl rfl rfl ?_
        refine mw_ld 2 i_Model_sneak_1 rfl rfl rfl ?_
        refine mw_cv1 5 i_Model_sneak_2 rfl (by assumption) (sp_Model_isCell hO hd ?_) rfl rfl (Nat.le_of_ble_eq_true rfl) (Nat.le_of_ble_eq_true rfl)
        refine mw_if0 8 i_Model_sneak_5 rfl (mj_bI1.mpr ha) ?_
        refine mw_ld 9 i_Model_sneak_8 rfl rfl rfl ?_
        refine mw_ld 10 i_Model_sneak_9 rfl rfl rfl ?_
        refine mw_cv1 13 i_Model_sneak_10 rfl (by assumption) (sp_Model_isCell hO hd ?_) rfl rfl (Nat.le_of_ble_eq_true rfl) (Nat.le_of_ble_eq_true rfl)
        refine mw_if1 i_Model_sneak_13 (mj_bI1.mpr hb2) ?_
        refine mw_ld 20 i_Model_sneak_19 rfl rfl rfl ?_
        refine mw_cv0 23 i_Model_sneak_20 rfl (by assumption) (sp_Model_look hO hs1 hd hn14 hp hv hW (fun f wt g1 g2 g3 => ?_)) rfl rfl (Nat.le_of_ble_eq_true rfl) (Nat.le_of_ble_eq_true rfl)
        have go : f 55 = gw_mo w h kp P.length tf fu fe fi ma md := (g1 _ (by decide)).trans hO
        have gs : f 56 = mj_AI 213 s := (g1 _ (by decide)).trans hs1
        have hMf := gw_MI_look g1 g2 hM
        have hff : gw_fr gw_ML σ.1 f := gw_fr_sub g1 (by decide)
        have gfa : f 65 = mj_AI 100 fa0 := (g1 _ (by decide)).trans hFa
        refine mw_ld 24 i_Model_sneak_23 rfl rfl rfl ?_
        refine mw_ld 25 i_Model_sneak_24 rfl rfl rfl ?_
        refine mw_cv0 28 i_Model_sneak_25 rfl (by assumption) (sp_Model_walk (σ := (f, σ.2)) go gs hd g2 g3 gfa ha2 (fun f2 fa e1 e2 e3 => ?_)) rfl rfl (Nat.le_of_ble_eq_true rfl) (Nat.le_of_ble_eq_true rfl)
        have go2 : f2 55 = gw_mo w h kp P.length tf fu fe fi ma md := (e1 _ (by decide)).trans go
        have hMf2 := gw_MI_far e1 e2 hMf
        have hff2 : gw_fr gw_ML σ.1 f2 := gw_fr_tr hff (gw_fr_sub e1 (by decide))
        refine mw_ld 29 i_Model_sneak_28 rfl rfl rfl ?_
        refine mw_get 32 i_Model_sneak_29 rfl (by assumption) (by rfl) ?_
        refine mw_ld 33 i_Model_sneak_32 rfl rfl rfl ?_
        refine mw_iald 34 b i_Model_sneak_33 rfl e2 rfl (by omega) (by decide) ?_
        rw [e3 b hb3]
        refine mw_if0 37 i_Model_sneak_34 rfl (fun q => (gw_dI_ge hlt).mp q hq) ?_
        refine mw_k 39 i_Model_sneak_37 rfl ?_
        refine mw_go i_Model_sneak_39 ?_
        refine mw_ri i_Model_sneak_48 rfl rfl ?_
        rw [hq] at k
        exact k f2 hff2 hMf2
      · skip
        refine mw_ld 1 i_Model_sneak_0 rfl rfl rfl ?_
        refine mw_ld 2 i_Model_sneak_1 rfl rfl rfl ?_
        refine mw_cv1 5 i_Model_sneak_2 rfl (by assumption) (sp_Model_isCell hO hd ?_) rfl rfl (Nat.le_of_ble_eq_true rfl) (Nat.le_of_ble_eq_true rfl)
        refine mw_if0 8 i_Model_sneak_5 rfl (mj_bI1.mpr ha) ?_
        refine mw_ld 9 i_Model_sneak_8 rfl rfl rfl ?_
        refine mw_ld 10 i_Model_sneak_9 rfl rfl rfl ?_
        refine mw_cv1 13 i_Model_sneak_10 rfl (by assumption) (sp_Model_isCell hO hd ?_) rfl rfl (Nat.le_of_ble_eq_true rfl) (Nat.le_of_ble_eq_true rfl)
        refine mw_if1 i_Model_sneak_13 (mj_bI1.mpr hb2) ?_
        refine mw_ld 20 i_Model_sneak_19 rfl rfl rfl ?_
        refine mw_cv0 23 i_Model_sneak_20 rfl (by assumption) (sp_Model_look hO hs1 hd hn14 hp hv hW (fun f wt g1 g2 g3 => ?_)) rfl rfl (Nat.le_of_ble_eq_true rfl) (Nat.le_of_ble_eq_true rfl)
        have go : f 55 = gw_mo w h kp P.length tf fu fe fi ma md := (g1 _ (by decide)).trans hO
        have gs : f 56 = mj_AI 213 s := (g1 _ (by decide)).trans hs1
        have hMf := gw_MI_look g1 g2 hM
        have hff : gw_fr gw_ML σ.1 f := gw_fr_sub g1 (by decide)
        have gfa : f 65 = mj_AI 100 fa0 := (g1 _ (by decide)).trans hFa
        refine mw_ld 24 i_Model_sneak_23 rfl rfl rfl ?_
        refine mw_ld 25 i_Model_sneak_24 rfl rfl rfl ?_
        refine mw_cv0 28 i_Model_sneak_25 rfl (by assumption) (sp_Model_walk (σ := (f, σ.2)) go gs hd g2 g3 gfa ha2 (fun f2 fa e1 e2 e3 => ?_)) rfl rfl (Nat.le_of_ble_eq_true rfl) (Nat.le_of_ble_eq_true rfl)
        have go2 : f2 55 = gw_mo w h kp P.length tf fu fe fi ma md := (e1 _ (by decide)).trans go
        have hMf2 := gw_MI_far e1 e2 hMf
        have hff2 : gw_fr gw_ML σ.1 f2 := gw_fr_tr hff (gw_fr_sub e1 (by decide))
        refine mw_ld 29 i_Model_sneak_28 rfl rfl rfl ?_
        refine mw_get 32 i_Model_sneak_29 rfl (by assumption) (by rfl) ?_
        refine mw_ld 33 i_Model_sneak_32 rfl rfl rfl ?_
        refine mw_iald 34 b i_Model_sneak_33 rfl e2 rfl (by omega) (by decide) ?_
        rw [e3 b hb3]
        refine mw_if1 i_Model_sneak_34 ((gw_dI_ge hlt).mpr hq) ?_
        refine mw_ld 43 i_Model_sneak_42 rfl rfl rfl ?_
        refine mw_get 46 i_Model_sneak_43 rfl (by assumption) (by rfl) ?_
        refine mw_ld 47 i_Model_sneak_46 rfl rfl rfl ?_
        refine mw_iald 48 b i_Model_sneak_47 rfl e2 rfl (by omega) (by decide) ?_
        rw [e3 b hb3]
        refine mw_ri i_Model_sneak_48 rfl rfl ?_
        cases e : gw_di w h (gw_UU w h n s) a b with
        | none => exact absurd e hq
        | some q =>
          rw [e] at k
          exact k f2 hff2 hMf2
    · skip
      refine mw_ld 1 i_Model_sneak_0 rfl rfl rfl ?_
      refine mw_ld 2 i_Model_sneak_1 rfl rfl rfl ?_
      refine mw_cv1 5 i_Model_sneak_2 rfl (by assumption) (sp_Model_isCell hO hd ?_) rfl rfl (Nat.le_of_ble_eq_true rfl) (Nat.le_of_ble_eq_true rfl)
      refine mw_if0 8 i_Model_sneak_5 rfl (mj_bI1.mpr ha) ?_
      refine mw_ld 9 i_Model_sneak_8 rfl rfl rfl ?_
      refine mw_ld 10 i_Model_sneak_9 rfl rfl rfl ?_
      refine mw_cv1 13 i_Model_sneak_10 rfl (by assumption) (sp_Model_isCell hO hd ?_) rfl rfl (Nat.le_of_ble_eq_true rfl) (Nat.le_of_ble_eq_true rfl)
      refine mw_if0 16 i_Model_sneak_13 rfl (fun q => q (mj_bI0.mpr (gw_nt hb2))) ?_
      refine mw_k 18 i_Model_sneak_16 rfl ?_
      refine mw_ri i_Model_sneak_18 rfl rfl ?_
      rw [a_sneak, if_pos ha, if_neg hb2] at k
      exact k σ.1 (gw_fr_rf _ _) hM
  · skip
    refine mw_ld 1 i_Model_sneak_0 rfl rfl rfl ?_
    refine mw_ld 2 i_Model_sneak_1 rfl rfl rfl ?_
    refine mw_cv1 5 i_Model_sneak_2 rfl (by assumption) (sp_Model_isCell hO hd ?_) rfl rfl (Nat.le_of_ble_eq_true rfl) (Nat.le_of_ble_eq_true rfl)
    refine mw_if1 i_Model_sneak_5 (mj_bI0.mpr (gw_nt ha)) ?_
    refine mw_k 18 i_Model_sneak_16 rfl ?_
    refine mw_ri i_Model_sneak_18 rfl rfl ?_
    rw [a_sneak, if_neg ha] at k
    exact k σ.1 (gw_fr_rf _ _) hM
theorem sp_Model_way {X : mj_X} {d : Nat} {σ : mj_H} {Q : Value → mj_H → Prop} {w h n : Nat} {s : Nat → Int32} {kp : Nat} {hs : Nat → Nat → Int32} {P : List gw_Row} {sz : Int32} (hM : gw_MI σ.1 w h n s kp hs P sz) (hd : gw_dim w h) (hn14 : n ≤ 14) (hp : s 100 = nI n) (hv : gw_vp w h n s) {a b i : Int32} (k : ∀ f, gw_fr gw_ML σ.1 f → gw_MI f w h n s kp hs P sz → Q (.int (a_way w h n s a b i)) (f, σ.2)) : mj_M X (d + 20) y_Model_way [.ref 55, .int a, .int b, .int i] σ (mj_V Q) := by
  obtain ⟨tf, fu, fe, fi, ma, md, hO, hA, hRr, hSs, htf⟩ := id hM
  obtain ⟨hs1, bf, hB, hb⟩ := id hA
  obtain ⟨⟨wt0, hW⟩, ⟨he0, hH⟩, ⟨fr0, hF⟩, ⟨fa0, hFa⟩, ⟨ct0, hCt⟩, ⟨mc0, hm1⟩, ⟨mb0, hm2⟩, ⟨mp0, hm3⟩, ⟨mw0, hm4⟩⟩ := id hSs
  have hwh := gw_dim_le hd
  refine mw_in (l0 := [some (.ref 55), some (.int a), some (.int b), some (.int i), none, none, none]) rfl ?_
  by_cases ha : gw_ce w h a = true
  · skip
    by_cases hb2 : gw_ce w h b = true
    · skip
      by_cases hi0 : (0 : Int32) ≤ i
      · skip
        obtain ⟨a, ha2, rfl⟩ := gw_ce_of hd ha
        obtain ⟨b, hb3, rfl⟩ := gw_ce_of hd hb2
        have hi1 : 0 ≤ i.toInt := (mj_le _ _).mp hi0
        have hib := (mj_nn i).2
        obtain ⟨I, hI3, rfl⟩ : ∃ I : Nat, I < 2147483648 ∧ i = nI I := ⟨i.toInt.toNat, by omega, mj_of hi1⟩
        rw [a_way, if_pos ha, if_pos hb2, if_pos hi0, gw_tn (by omega), gw_tn (by omega), gw_tn hI3, gw_way] at k
        cases hL : gw_di w h (gw_UU w h n s) b a with
        | none =>
          rw [hL] at k
          refine mw_ld 1 i_Model_way_0 rfl rfl rfl ?_
          refine mw_ld 2 i_Model_way_1 rfl rfl rfl ?_
          refine mw_cv1 5 i_Model_way_2 rfl (by assumption) (sp_Model_isCell hO hd ?_) rfl rfl (Nat.le_of_ble_eq_true rfl) (Nat.le_of_ble_eq_true rfl)
          refine mw_if0 8 i_Model_way_5 rfl (mj_bI1.mpr ha) ?_
          refine mw_ld 9 i_Model_way_8 rfl rfl rfl ?_
          refine mw_ld 10 i_Model_way_9 rfl rfl rfl ?_
          refine mw_cv1 13 i_Model_way_10 rfl (by assumption) (sp_Model_isCell hO hd ?_) rfl rfl (Nat.le_of_ble_eq_true rfl) (Nat.le_of_ble_eq_true rfl)
          refine mw_if0 16 i_Model_way_13 rfl (mj_bI1.mpr hb2) ?_
          refine mw_ld 17 i_Model_way_16 rfl rfl rfl ?_
          refine mw_if1 i_Model_way_17 hi0 ?_
          refine mw_ld 24 i_Model_way_23 rfl rfl rfl ?_
          refine mw_cv0 27 i_Model_way_24 rfl (by assumption) (sp_Model_look hO hs1 hd hn14 hp hv hW (fun f wt g1 g2 g3 => ?_)) rfl rfl (Nat.le_of_ble_eq_true rfl) (Nat.le_of_ble_eq_true rfl)
          have go : f 55 = gw_mo w h kp P.length tf fu fe fi ma md := (g1 _ (by decide)).trans hO
          have gs : f 56 = mj_AI 213 s := (g1 _ (by decide)).trans hs1
          have hMf := gw_MI_look g1 g2 hM
          have hff : gw_fr gw_ML σ.1 f := gw_fr_sub g1 (by decide)
          have gfa : f 65 = mj_AI 100 fa0 := (g1 _ (by decide)).trans hFa
          refine mw_ld 28 i_Model_way_27 rfl rfl rfl ?_
          refine mw_ld 29 i_Model_way_28 rfl rfl rfl ?_
          refine mw_cv0 32 i_Model_way_29 rfl (by assumption) (sp_Model_walk (σ := (f, σ.2)) go gs hd g2 g3 gfa hb3 (fun f2 fa e1 e2 e3 => ?_)) rfl rfl (Nat.le_of_ble_eq_true rfl) (Nat.le_of_ble_eq_true rfl)
          have go2 : f2 55 = gw_mo w h kp P.length tf fu fe fi ma md := (e1 _ (by decide)).trans go
          have hMf2 := gw_MI_far e1 e2 hMf
          have hff2 : gw_fr gw_ML σ.1 f2 := gw_fr_tr hff (gw_fr_sub e1 (by decide))
          refine mw_ld 33 i_Model_way_32 rfl rfl rfl ?_
          refine mw_get 36 i_Model_way_33 rfl (by assumption) (by rfl) ?_
          refine mw_ld 37 i_Model_way_36 rfl rfl rfl ?_
          refine mw_iald 38 a i_Model_way_37 rfl e2 rfl (by omega) (by decide) ?_
          rw [e3 a ha2, hL]
          refine mw_ld 39 i_Model_way_38 rfl rfl rfl ?_
          refine mw_ic0 42 i_Model_way_39 rfl (fun q => by have := (mj_le _ _).mp q; rw [mj_nI I hI3] at this; have e : (-1 : Int32).toInt = -1 := (by decide); have e2 : (gw_dI none).toInt = -1 := e; omega) ?_
          refine mw_k 44 i_Model_way_42 rfl ?_
          refine mw_ri i_Model_way_44 rfl rfl ?_
          exact k f2 hff2 hMf2
        | some L =>
          rw [hL] at k
          have hL1 := gw_di_lt hd hL
          dsimp only at k
          by_cases hIL : I ≤ L
          · rw [if_pos hIL] at k
            refine mw_ld 1 i_Model_way_0 rfl rfl rfl ?_
            refine mw_ld 2 i_Model_way_1 rfl rfl rfl ?_
            refine mw_cv1 5 i_Model_way_2 rfl (by assumption) (sp_Model_isCell hO hd ?_) rfl rfl (Nat.le_of_ble_eq_true rfl) (Nat.le_of_ble_eq_true rfl)
            refine mw_if0 8 i_Model_way_5 rfl (mj_bI1.mpr ha) ?_
            refine mw_ld 9 i_Model_way_8 rfl rfl rfl ?_
            refine mw_ld 10 i_Model_way_9 rfl rfl rfl ?_
            refine mw_cv1 13 i_Model_way_10 rfl (by assumption) (sp_Model_isCell hO hd ?_) rfl rfl (Nat.le_of_ble_eq_true rfl) (Nat.le_of_ble_eq_true rfl)
            refine mw_if0 16 i_Model_way_13 rfl (mj_bI1.mpr hb2) ?_
            refine mw_ld 17 i_Model_way_16 rfl rfl rfl ?_
            refine mw_if1 i_Model_way_17 hi0 ?_
            refine mw_ld 24 i_Model_way_23 rfl rfl rfl ?_
            refine mw_cv0 27 i_Model_way_24 rfl (by assumption) (sp_Model_look hO hs1 hd hn14 hp hv hW (fun f wt g1 g2 g3 => ?_)) rfl rfl (Nat.le_of_ble_eq_true rfl) (Nat.le_of_ble_eq_true rfl)
            have go : f 55 = gw_mo w h kp P.length tf fu fe fi ma md := (g1 _ (by decide)).trans hO
            have gs : f 56 = mj_AI 213 s := (g1 _ (by decide)).trans hs1
            have hMf := gw_MI_look g1 g2 hM
            have hff : gw_fr gw_ML σ.1 f := gw_fr_sub g1 (by decide)
            have gfa : f 65 = mj_AI 100 fa0 := (g1 _ (by decide)).trans hFa
            refine mw_ld 28 i_Model_way_27 rfl rfl rfl ?_
            refine mw_ld 29 i_Model_way_28 rfl rfl rfl ?_
            refine mw_cv0 32 i_Model_way_29 rfl (by assumption) (sp_Model_walk (σ := (f, σ.2)) go gs hd g2 g3 gfa hb3 (fun f2 fa e1 e2 e3 => ?_)) rfl rfl (Nat.le_of_ble_eq_true rfl) (Nat.le_of_ble_eq_true rfl)
            have go2 : f2 55 = gw_mo w h kp P.length tf fu fe fi ma md := (e1 _ (by decide)).trans go
            have hMf2 := gw_MI_far e1 e2 hMf
            have hff2 : gw_fr gw_ML σ.1 f2 := gw_fr_tr hff (gw_fr_sub e1 (by decide))
            refine mw_ld 33 i_Model_way_32 rfl rfl rfl ?_
            refine mw_get 36 i_Model_way_33 rfl (by assumption) (by rfl) ?_
            refine mw_ld 37 i_Model_way_36 rfl rfl rfl ?_
            refine mw_iald 38 a i_Model_way_37 rfl e2 rfl (by omega) (by decide) ?_
            rw [e3 a ha2, hL]
            refine mw_ld 39 i_Model_way_38 rfl rfl rfl ?_
            refine mw_ic1 i_Model_way_39 (nI_le hIL (by omega)) ?_
            refine mw_ld 46 i_Model_way_45 rfl rfl rfl ?_
            refine mw_st (ls' := [_, _, _, _, _, _, _]) 48 i_Model_way_46 rfl rfl rfl rfl ?_
            refine mw_k 49 i_Model_way_48 rfl ?_
            refine mw_st (ls' := [_, _, _, _, _, _, _]) 51 i_Model_way_49 rfl rfl rfl rfl ?_
            refine mj_for (S := Option Value) (fun i u => mj_Wp X (d + 20) y_Model_way 51 [some (.ref 55), some (.int (nI a)), some (.int (nI b)), some (.int (nI I)), some (.int (nI (gw_it w h (gw_di w h (gw_UU w h n s) b) a i))), some (.int (nI i)), u] [] (f2, σ.2) (mj_V Q)) (fun i _ => True) I ?_ ?_ 0 none (Nat.zero_le _) trivial
            · intro u _
              refine mw_ld 53 i_Model_way_51 rfl rfl rfl ?_
              refine mw_ld 54 i_Model_way_53 rfl rfl rfl ?_
              refine mw_ic1 i_Model_way_54 (nI_le (Nat.le_refl _) hI3) ?_
              refine mw_ld 108 i_Model_way_106 rfl rfl rfl ?_
              refine mw_ri i_Model_way_108 rfl rfl ?_
              exact k f2 hff2 hMf2
            · intro i u hi _ ih
              have hDat := gw_it_di hd hL i (by omega)
              have hat : gw_it w h (gw_di w h (gw_UU w h n s) b) a i < w * h := gw_UU_lt (gw_di_U hDat)
              refine mw_ld 53 i_Model_way_51 rfl rfl rfl ?_
              refine mw_ld 54 i_Model_way_53 rfl rfl rfl ?_
              refine mw_ic0 57 i_Model_way_54 rfl (nI_ge hi hI3) ?_
              refine mw_k 58 i_Model_way_57 rfl ?_
              refine mw_st (ls' := [_, _, _, _, _, _, _]) 60 i_Model_way_58 rfl rfl rfl rfl ?_
              obtain ⟨l1, l2, l3⟩ := gw_ln_least hd (k := L - i - 1) (by rw [hDat]; congr 1; omega)
              have hyw : gw_ln w h (gw_di w h (gw_UU w h n s) b) (gw_it w h (gw_di w h (gw_UU w h n s) b) a i) < w * h := gw_UU_lt (gw_di_U l1)
              refine mj_for (S := Unit) (fun c _ => mj_Wp X (d + 20) y_Model_way 60 [some (.ref 55), some (.int (nI a)), some (.int (nI b)), some (.int (nI I)), some (.int (nI (gw_it w h (gw_di w h (gw_UU w h n s) b) a i))), some (.int (nI i)), some (.int (nI c))] [] (f2, σ.2) (mj_V Q)) (fun c _ => True) (gw_ln w h (gw_di w h (gw_UU w h n s) b) (gw_it w h (gw_di w h (gw_UU w h n s) b) a i)) ?_ ?_ 0 () (Nat.zero_le _) trivial
              · intro _ _
                refine mw_ld 61 i_Model_way_60 rfl rfl rfl ?_
                refine mw_get 64 i_Model_way_61 rfl (by assumption) (by rfl) ?_
                refine mw_ld 66 i_Model_way_64 rfl rfl rfl ?_
                refine mw_iald 67 (gw_ln w h (gw_di w h (gw_UU w h n s) b) (gw_it w h (gw_di w h (gw_UU w h n s) b) a i)) i_Model_way_66 rfl e2 rfl (by omega) (by decide) ?_
                rw [e3 _ hyw]
                refine mw_ld 68 i_Model_way_67 rfl rfl rfl ?_
                refine mw_get 71 i_Model_way_68 rfl (by assumption) (by rfl) ?_
                refine mw_ld 73 i_Model_way_71 rfl rfl rfl ?_
                refine mw_iald 74 (gw_it w h (gw_di w h (gw_UU w h n s) b) a i) i_Model_way_73 rfl e2 rfl (by omega) (by decide) ?_
                rw [e3 _ hat, hDat]
                refine mw_k 75 i_Model_way_74 rfl ?_
                refine mw_b 76 i_Model_way_75 rfl ?_
                rw [show gw_dI (some (L - i)) = nI (L - i) from rfl, nI_m1 (by omega)]
                refine mw_ic0 79 i_Model_way_76 rfl (fun q => q (by rw [l1]; rfl)) ?_
                refine mw_ld 80 i_Model_way_79 rfl rfl rfl ?_
                refine mw_ld 82 i_Model_way_80 rfl rfl rfl ?_
                refine mw_ld 84 i_Model_way_82 rfl rfl rfl ?_
                refine mw_cv1 87 i_Model_way_84 rfl (by assumption) (sp_Model_areNeighbours (σ := (f2, σ.2)) go2 hat hyw hd ?_) rfl rfl (Nat.le_of_ble_eq_true rfl) (Nat.le_of_ble_eq_true rfl)
                refine mw_if1 i_Model_way_87 (mj_bI1.mpr l2) ?_
                refine mw_ld 98 i_Model_way_96 rfl rfl rfl ?_
                refine mw_st (ls' := [_, _, _, _, _, _, _]) 100 i_Model_way_98 rfl rfl rfl rfl ?_
                refine mw_inc (ls' := [_, _, _, _, _, _, _]) 103 (nI (i + 1)) i_Model_way_100 rfl rfl rfl (nI_1 i) rfl ?_
                refine mw_go i_Model_way_103 ?_
                exact ih _ trivial
              · intro c _ hc _ ih2
                have hno := l3 c hc
                have hcw : c < w * h := by omega
                by_cases hc1 : gw_di w h (gw_UU w h n s) b c = some (L - i - 1)
                · have hc2 : gw_nb w h (gw_it w h (gw_di w h (gw_UU w h n s) b) a i) c = false := by rw [Bool.eq_false_iff]; exact fun q => hno ⟨hc1, q⟩
                  refine mw_ld 61 i_Model_way_60 rfl rfl rfl ?_
                  refine mw_get 64 i_Model_way_61 rfl (by assumption) (by rfl) ?_
                  refine mw_ld 66 i_Model_way_64 rfl rfl rfl ?_
                  refine mw_iald 67 c i_Model_way_66 rfl e2 rfl (by omega) (by decide) ?_
                  rw [e3 _ hcw]
                  refine mw_ld 68 i_Model_way_67 rfl rfl rfl ?_
                  refine mw_get 71 i_Model_way_68 rfl (by assumption) (by rfl) ?_
                  refine mw_ld 73 i_Model_way_71 rfl rfl rfl ?_
                  refine mw_iald 74 (gw_it w h (gw_di w h (gw_UU w h n s) b) a i) i_Model_way_73 rfl e2 rfl (by omega) (by decide) ?_
                  rw [e3 _ hat, hDat]
                  refine mw_k 75 i_Model_way_74 rfl ?_
                  refine mw_b 76 i_Model_way_75 rfl ?_
                  rw [show gw_dI (some (L - i)) = nI (L - i) from rfl, nI_m1 (by omega)]
                  refine mw_ic0 79 i_Model_way_76 rfl (fun q => q (by rw [hc1]; rfl)) ?_
                  refine mw_ld 80 i_Model_way_79 rfl rfl rfl ?_
                  refine mw_ld 82 i_Model_way_80 rfl rfl rfl ?_
                  refine mw_ld 84 i_Model_way_82 rfl rfl rfl ?_
                  refine mw_cv1 87 i_Model_way_84 rfl (by assumption) (sp_Model_areNeighbours (σ := (f2, σ.2)) go2 hat hcw hd ?_) rfl rfl (Nat.le_of_ble_eq_true rfl) (Nat.le_of_ble_eq_true rfl)
                  refine mw_if0 90 i_Model_way_87 rfl (fun q => q (mj_bI0.mpr hc2)) ?_
                  refine mw_inc (ls' := [_, _, _, _, _, _, _]) 93 (nI (c + 1)) i_Model_way_90 rfl rfl rfl (nI_1 c) rfl ?_
                  refine mw_go i_Model_way_93 ?_
                  exact ih2 () trivial
                · skip
                  refine mw_ld 61 i_Model_way_60 rfl rfl rfl ?_
                  refine mw_get 64 i_Model_way_61 rfl (by assumption) (by rfl) ?_
                  refine mw_ld 66 i_Model_way_64 rfl rfl rfl ?_
                  refine mw_iald 67 c i_Model_way_66 rfl e2 rfl (by omega) (by decide) ?_
                  rw [e3 _ hcw]
                  refine mw_ld 68 i_Model_way_67 rfl rfl rfl ?_
                  refine mw_get 71 i_Model_way_68 rfl (by assumption) (by rfl) ?_
                  refine mw_ld 73 i_Model_way_71 rfl rfl rfl ?_
                  refine mw_iald 74 (gw_it w h (gw_di w h (gw_UU w h n s) b) a i) i_Model_way_73 rfl e2 rfl (by omega) (by decide) ?_
                  rw [e3 _ hat, hDat]
                  refine mw_k 75 i_Model_way_74 rfl ?_
                  refine mw_b 76 i_Model_way_75 rfl ?_
                  rw [show gw_dI (some (L - i)) = nI (L - i) from rfl, nI_m1 (by omega)]
                  refine mw_ic1 i_Model_way_76 (fun q => hc1 ((gw_dI_eq (fun z hz => by have := gw_di_lt hd hz; omega) (by omega)).mp q)) ?_
                  refine mw_inc (ls' := [_, _, _, _, _, _, _]) 93 (nI (c + 1)) i_Model_way_90 rfl rfl rfl (nI_1 c) rfl ?_
                  refine mw_go i_Model_way_93 ?_
                  exact ih2 () trivial
          · rw [if_neg hIL] at k
            refine mw_ld 1 i_Model_way_0 rfl rfl rfl ?_
            refine mw_ld 2 i_Model_way_1 rfl rfl rfl ?_
            refine mw_cv1 5 i_Model_way_2 rfl (by assumption) (sp_Model_isCell hO hd ?_) rfl rfl (Nat.le_of_ble_eq_true rfl) (Nat.le_of_ble_eq_true rfl)
            refine mw_if0 8 i_Model_way_5 rfl (mj_bI1.mpr ha) ?_
            refine mw_ld 9 i_Model_way_8 rfl rfl rfl ?_
            refine mw_ld 10 i_Model_way_9 rfl rfl rfl ?_
            refine mw_cv1 13 i_Model_way_10 rfl (by assumption) (sp_Model_isCell hO hd ?_) rfl rfl (Nat.le_of_ble_eq_true rfl) (Nat.le_of_ble_eq_true rfl)
            refine mw_if0 16 i_Model_way_13 rfl (mj_bI1.mpr hb2) ?_
            refine mw_ld 17 i_Model_way_16 rfl rfl rfl ?_
            refine mw_if1 i_Model_way_17 hi0 ?_
            refine mw_ld 24 i_Model_way_23 rfl rfl rfl ?_
            refine mw_cv0 27 i_Model_way_24 rfl (by assumption) (sp_Model_look hO hs1 hd hn14 hp hv hW (fun f wt g1 g2 g3 => ?_)) rfl rfl (Nat.le_of_ble_eq_true rfl) (Nat.le_of_ble_eq_true rfl)
            have go : f 55 = gw_mo w h kp P.length tf fu fe fi ma md := (g1 _ (by decide)).trans hO
            have gs : f 56 = mj_AI 213 s := (g1 _ (by decide)).trans hs1
            have hMf := gw_MI_look g1 g2 hM
            have hff : gw_fr gw_ML σ.1 f := gw_fr_sub g1 (by decide)
            have gfa : f 65 = mj_AI 100 fa0 := (g1 _ (by decide)).trans hFa
            refine mw_ld 28 i_Model_way_27 rfl rfl rfl ?_
            refine mw_ld 29 i_Model_way_28 rfl rfl rfl ?_
            refine mw_cv0 32 i_Model_way_29 rfl (by assumption) (sp_Model_walk (σ := (f, σ.2)) go gs hd g2 g3 gfa hb3 (fun f2 fa e1 e2 e3 => ?_)) rfl rfl (Nat.le_of_ble_eq_true rfl) (Nat.le_of_ble_eq_true rfl)
            have go2 : f2 55 = gw_mo w h kp P.length tf fu fe fi ma md := (e1 _ (by decide)).trans go
            have hMf2 := gw_MI_far e1 e2 hMf
            have hff2 : gw_fr gw_ML σ.1 f2 := gw_fr_tr hff (gw_fr_sub e1 (by decide))
            refine mw_ld 33 i_Model_way_32 rfl rfl rfl ?_
            refine mw_get 36 i_Model_way_33 rfl (by assumption) (by rfl) ?_
            refine mw_ld 37 i_Model_way_36 rfl rfl rfl ?_
            refine mw_iald 38 a i_Model_way_37 rfl e2 rfl (by omega) (by decide) ?_
            rw [e3 a ha2, hL]
            refine mw_ld 39 i_Model_way_38 rfl rfl rfl ?_
            refine mw_ic0 42 i_Model_way_39 rfl (nI_ge (by omega) hI3) ?_
            refine mw_k 44 i_Model_way_42 rfl ?_
            refine mw_ri i_Model_way_44 rfl rfl ?_
            exact k f2 hff2 hMf2
      · skip
        refine mw_ld 1 i_Model_way_0 rfl rfl rfl ?_
        refine mw_ld 2 i_Model_way_1 rfl rfl rfl ?_
        refine mw_cv1 5 i_Model_way_2 rfl (by assumption) (sp_Model_isCell hO hd ?_) rfl rfl (Nat.le_of_ble_eq_true rfl) (Nat.le_of_ble_eq_true rfl)
        refine mw_if0 8 i_Model_way_5 rfl (mj_bI1.mpr ha) ?_
        refine mw_ld 9 i_Model_way_8 rfl rfl rfl ?_
        refine mw_ld 10 i_Model_way_9 rfl rfl rfl ?_
        refine mw_cv1 13 i_Model_way_10 rfl (by assumption) (sp_Model_isCell hO hd ?_) rfl rfl (Nat.le_of_ble_eq_true rfl) (Nat.le_of_ble_eq_true rfl)
        refine mw_if0 16 i_Model_way_13 rfl (mj_bI1.mpr hb2) ?_
        refine mw_ld 17 i_Model_way_16 rfl rfl rfl ?_
        refine mw_if0 20 i_Model_way_17 rfl hi0 ?_
        refine mw_k 22 i_Model_way_20 rfl ?_
        refine mw_ri i_Model_way_22 rfl rfl ?_
        rw [a_way, if_pos ha, if_pos hb2, if_neg hi0] at k
        exact k σ.1 (gw_fr_rf _ _) hM
    · skip
      refine mw_ld 1 i_Model_way_0 rfl rfl rfl ?_
      refine mw_ld 2 i_Model_way_1 rfl rfl rfl ?_
      refine mw_cv1 5 i_Model_way_2 rfl (by assumption) (sp_Model_isCell hO hd ?_) rfl rfl (Nat.le_of_ble_eq_true rfl) (Nat.le_of_ble_eq_true rfl)
      refine mw_if0 8 i_Model_way_5 rfl (mj_bI1.mpr ha) ?_
      refine mw_ld 9 i_Model_way_8 rfl rfl rfl ?_
      refine mw_ld 10 i_Model_way_9 rfl rfl rfl ?_
      refine mw_cv1 13 i_Model_way_10 rfl (by assumption) (sp_Model_isCell hO hd ?_) rfl rfl (Nat.le_of_ble_eq_true rfl) (Nat.le_of_ble_eq_true rfl)
      refine mw_if1 i_Model_way_13 (mj_bI0.mpr (gw_nt hb2)) ?_
      refine mw_k 22 i_Model_way_20 rfl ?_
      refine mw_ri i_Model_way_22 rfl rfl ?_
      rw [a_way, if_pos ha, if_neg hb2] at k
      exact k σ.1 (gw_fr_rf _ _) hM
  · skip
    refine mw_ld 1 i_Model_way_0 rfl rfl rfl ?_
    refine mw_ld 2 i_Model_way_1 rfl rfl rfl ?_
    refine mw_cv1 5 i_Model_way_2 rfl (by assumption) (sp_Model_isCell hO hd ?_) rfl rfl (Nat.le_of_ble_eq_true rfl) (Nat.le_of_ble_eq_true rfl)
    refine mw_if1 i_Model_way_5 (mj_bI0.mpr (gw_nt ha)) ?_
    refine mw_k 22 i_Model_way_20 rfl ?_
    refine mw_ri i_Model_way_22 rfl rfl ?_
    rw [a_way, if_neg ha] at k
    exact k σ.1 (gw_fr_rf _ _) hM
