/-! the tree: the pure part -/
/-! the tree: the rows below a row -/
def gw_kd (P : List gw_Row) (i : Nat) : List Int32 := ((P.map Prod.snd).filter (fun r => decide (r.1 = nI i))).map (fun r => r.2.1)
def gw_blk (b : Int32) (k : Nat) : List Int32 := ((List.range k).filter (bt b)).map nI
theorem gw_kd_app {P R : List gw_Row} {i : Nat} : gw_kd (P ++ R) i = gw_kd P i ++ gw_kd R i := by simp [gw_kd, List.filter_append]
theorem gw_kd_one {u a c z b : Int32} {i : Nat} : gw_kd [(u, a, c, z, b)] i = if a = nI i then [c] else [] := by
  by_cases q : a = nI i
  · rw [if_pos q]; simp [gw_kd, q]
  · rw [if_neg q]; simp [gw_kd, q]
theorem gw_blk_s {b : Int32} {k : Nat} : gw_blk b (k + 1) = gw_blk b k ++ if bt b k then [nI k] else [] := by
  rw [gw_blk, gw_blk, List.range_succ, List.filter_append, List.map_append]
  cases e : bt b k <;> simp [e]
def gw_gd (P : List gw_Row) : Prop := ∀ i, P.length ≤ i → i < 2147483648 → gw_kd P i = []
theorem gw_rw_last {P : List gw_Row} {r : gw_Row} : gw_rw (P ++ [r]) P.length = r := by rw [gw_rw, List.getElem?_append_right (Nat.le_refl _), Nat.sub_self]; rfl
theorem gw_kd_base {P : List gw_Row} {u a c z b : Int32} (hg : gw_gd P) (ha : ∀ j, j < 2147483648 → a = nI j → j < P.length) (hl : P.length < 2147483648) : (∀ i, i < P.length → gw_kd (P ++ [(u, a, c, z, b)]) i = gw_kd P i ++ if a = nI i then [c] else []) ∧ gw_kd (P ++ [(u, a, c, z, b)]) P.length = [] ∧ gw_gd (P ++ [(u, a, c, z, b)]) := by
  refine ⟨fun i _ => by rw [gw_kd_app, gw_kd_one], ?_, fun i h1 h2 => ?_⟩
  · rw [gw_kd_app, gw_kd_one, hg _ (Nat.le_refl _) hl, if_neg (fun q => by have := ha _ hl q; omega)]; rfl
  · rw [List.length_append, List.length_singleton] at h1
    rw [gw_kd_app, gw_kd_one, hg i (by omega) h2, if_neg (fun q => by have := ha _ h2 q; omega)]; rfl
theorem gw_g_kd {w h n : Nat} {s : Nat → Int32} : ∀ (m : Nat) (P : List gw_Row) (a c z : Int32), gw_gd P → (∀ j, j < 2147483648 → a = nI j → j < P.length) → (gw_g w h n s m P a c z).length < 2147483648 →
    (∀ i, i < P.length → gw_kd (gw_g w h n s m P a c z) i = gw_kd P i ++ if a = nI i then [c] else []) ∧ (∀ i, P.length ≤ i → i < (gw_g w h n s m P a c z).length → gw_kd (gw_g w h n s m P a c z) i = gw_blk (gw_rw (gw_g w h n s m P a c z) i).2.2.2.2 14) ∧ gw_gd (gw_g w h n s m P a c z)
  | 0, P, a, c, z, hg, ha, hl => by
    rw [gw_g] at hl ⊢
    rw [List.length_append, List.length_singleton] at hl
    obtain ⟨b1, b2, b3⟩ := gw_kd_base (u := gw_lu w h n s z) (a := a) (c := c) (z := z) (b := 0) hg ha (by omega)
    refine ⟨b1, fun i h1 h2 => ?_, b3⟩
    rw [List.length_append, List.length_singleton] at h2
    have e : i = P.length := by omega
    subst e
    rw [b2, gw_rw_last]
    have : (List.range 14).filter (bt 0) = [] := by rw [List.filter_eq_nil_iff]; intro x _; rw [b_0]; decide
    rw [gw_blk, this]; rfl
  | m + 1, P, a, c, z, hg, ha, hl => by
    have ih := gw_g_kd (w := w) (h := h) (n := n) (s := s) m
    have hpos := gw_g_pre (w := w) (h := h) (n := n) (s := s) (m + 1) P a c z
    rw [gw_g_s] at hl ⊢
    have hpre : ∀ {i j : Nat}, i ≤ j → gw_lp (fun k P' => if bt (gw_cs w h n s z) k then gw_g w h n s m P' (nI P.length) (nI k) (z ||| gw_bit k) else P') (P ++ [(gw_lu w h n s z, a, c, z, gw_cs w h n s z)]) i <+: gw_lp (fun k P' => if bt (gw_cs w h n s z) k then gw_g w h n s m P' (nI P.length) (nI k) (z ||| gw_bit k) else P') (P ++ [(gw_lu w h n s z, a, c, z, gw_cs w h n s z)]) j := fun hij => gw_lp_pre (fun k t => by (try dsimp only); split; exact gw_g_pre _ _ _ _ _; exact List.prefix_rfl) hij
    have hlP : P.length + 1 ≤ (gw_lp (fun k P' => if bt (gw_cs w h n s z) k then gw_g w h n s m P' (nI P.length) (nI k) (z ||| gw_bit k) else P') (P ++ [(gw_lu w h n s z, a, c, z, gw_cs w h n s z)]) 14).length := by
      have := (hpre (Nat.zero_le 14)).length_le
      have e : (gw_lp (fun k P' => if bt (gw_cs w h n s z) k then gw_g w h n s m P' (nI P.length) (nI k) (z ||| gw_bit k) else P') (P ++ [(gw_lu w h n s z, a, c, z, gw_cs w h n s z)]) 0).length = P.length + 1 := by show (P ++ [_]).length = _; rw [List.length_append, List.length_singleton]
      omega
    have key : ∀ k, k ≤ 14 → (∀ i, i < P.length → gw_kd (gw_lp (fun k P' => if bt (gw_cs w h n s z) k then gw_g w h n s m P' (nI P.length) (nI k) (z ||| gw_bit k) else P') (P ++ [(gw_lu w h n s z, a, c, z, gw_cs w h n s z)]) k) i = gw_kd P i ++ if a = nI i then [c] else []) ∧ gw_kd (gw_lp (fun k P' => if bt (gw_cs w h n s z) k then gw_g w h n s m P' (nI P.length) (nI k) (z ||| gw_bit k) else P') (P ++ [(gw_lu w h n s z, a, c, z, gw_cs w h n s z)]) k) P.length = gw_blk (gw_cs w h n s z) k ∧
        (∀ i, P.length < i → i < (gw_lp (fun k P' => if bt (gw_cs w h n s z) k then gw_g w h n s m P' (nI P.length) (nI k) (z ||| gw_bit k) else P') (P ++ [(gw_lu w h n s z, a, c, z, gw_cs w h n s z)]) k).length → gw_kd (gw_lp (fun k P' => if bt (gw_cs w h n s z) k then gw_g w h n s m P' (nI P.length) (nI k) (z ||| gw_bit k) else P') (P ++ [(gw_lu w h n s z, a, c, z, gw_cs w h n s z)]) k) i = gw_blk (gw_rw (gw_lp (fun k P' => if bt (gw_cs w h n s z) k then gw_g w h n s m P' (nI P.length) (nI k) (z ||| gw_bit k) else P') (P ++ [(gw_lu w h n s z, a, c, z, gw_cs w h n s z)]) k) i).2.2.2.2 14) ∧ gw_gd (gw_lp (fun k P' => if bt (gw_cs w h n s z) k then gw_g w h n s m P' (nI P.length) (nI k) (z ||| gw_bit k) else P') (P ++ [(gw_lu w h n s z, a, c, z, gw_cs w h n s z)]) k) := by
      intro k
      induction k with
      | zero =>
        intro _
        obtain ⟨b1, b2, b3⟩ := gw_kd_base (u := gw_lu w h n s z) (a := a) (c := c) (z := z) (b := gw_cs w h n s z) hg ha (by omega)
        refine ⟨b1, by show gw_kd (P ++ [_]) _ = _; rw [b2]; rfl, fun i h1 h2 => ?_, b3⟩
        have h2 : i < (P ++ [_]).length := h2
        rw [List.length_append, List.length_singleton] at h2
        omega
      | succ k IH =>
        intro hk
        obtain ⟨i1, i2, i3, i4⟩ := IH (by omega)
        have hlk := (hpre (show k ≤ 14 by omega)).length_le
        have hl0 := (hpre (Nat.zero_le k)).length_le
        have e0 : (gw_lp (fun k P' => if bt (gw_cs w h n s z) k then gw_g w h n s m P' (nI P.length) (nI k) (z ||| gw_bit k) else P') (P ++ [(gw_lu w h n s z, a, c, z, gw_cs w h n s z)]) 0).length = P.length + 1 := by show (P ++ [_]).length = _; rw [List.length_append, List.length_singleton]
        by_cases hb : bt (gw_cs w h n s z) k = true
        · have es : gw_lp (fun k P' => if bt (gw_cs w h n s z) k then gw_g w h n s m P' (nI P.length) (nI k) (z ||| gw_bit k) else P') (P ++ [(gw_lu w h n s z, a, c, z, gw_cs w h n s z)]) (k + 1) = gw_g w h n s m (gw_lp (fun k P' => if bt (gw_cs w h n s z) k then gw_g w h n s m P' (nI P.length) (nI k) (z ||| gw_bit k) else P') (P ++ [(gw_lu w h n s z, a, c, z, gw_cs w h n s z)]) k) (nI P.length) (nI k) (z ||| gw_bit k) := by rw [gw_lp]; (try dsimp only); rw [if_pos hb]
          have hls := (hpre hk).length_le
          have hpk := hpre (show k ≤ k + 1 by omega)
          rw [es] at hls hpk ⊢
          obtain ⟨j1, j2, j3⟩ := ih (gw_lp (fun k P' => if bt (gw_cs w h n s z) k then gw_g w h n s m P' (nI P.length) (nI k) (z ||| gw_bit k) else P') (P ++ [(gw_lu w h n s z, a, c, z, gw_cs w h n s z)]) k) (nI P.length) (nI k) (z ||| gw_bit k) i4 (fun j hj e => by have := (nI_inj (by omega) hj).mp e; omega) (by omega)
          refine ⟨fun i hi => ?_, ?_, fun i h1 h2 => ?_, j3⟩
          · rw [j1 i (by omega), if_neg (show ¬ nI P.length = nI i from fun e => by have := (nI_inj (by omega) (by omega)).mp e; omega), List.append_nil]; exact i1 i hi
          · rw [j1 P.length (by omega), i2, if_pos rfl, gw_blk_s, if_pos hb]
          · rcases Nat.lt_or_ge i (gw_lp (fun k P' => if bt (gw_cs w h n s z) k then gw_g w h n s m P' (nI P.length) (nI k) (z ||| gw_bit k) else P') (P ++ [(gw_lu w h n s z, a, c, z, gw_cs w h n s z)]) k).length with q | q
            · rw [j1 i q, i3 i h1 q, if_neg (fun e => by have := (nI_inj (by omega) (by omega)).mp e; omega), List.append_nil, gw_rw_pre hpk q]
            · exact j2 i q h2
        · have es : gw_lp (fun k P' => if bt (gw_cs w h n s z) k then gw_g w h n s m P' (nI P.length) (nI k) (z ||| gw_bit k) else P') (P ++ [(gw_lu w h n s z, a, c, z, gw_cs w h n s z)]) (k + 1) = gw_lp (fun k P' => if bt (gw_cs w h n s z) k then gw_g w h n s m P' (nI P.length) (nI k) (z ||| gw_bit k) else P') (P ++ [(gw_lu w h n s z, a, c, z, gw_cs w h n s z)]) k := by rw [gw_lp]; (try dsimp only); rw [if_neg hb]
          rw [es]
          exact ⟨i1, by rw [i2, gw_blk_s, if_neg hb, List.append_nil], i3, i4⟩
    obtain ⟨k1, k2, k3, k4⟩ := key 14 (Nat.le_refl _)
    refine ⟨k1, fun i h1 h2 => ?_, k4⟩
    rcases Nat.lt_or_ge P.length i with q | q
    · exact k3 i q h2
    · have e : i = P.length := by omega
      subst e
      rw [k2]
      have hp0 : (P ++ [(gw_lu w h n s z, a, c, z, gw_cs w h n s z)]) <+: gw_lp (fun k P' => if bt (gw_cs w h n s z) k then gw_g w h n s m P' (nI P.length) (nI k) (z ||| gw_bit k) else P') (P ++ [(gw_lu w h n s z, a, c, z, gw_cs w h n s z)]) 14 := hpre (Nat.zero_le 14)
      rw [gw_rw_pre hp0 (by rw [List.length_append, List.length_singleton]; omega), gw_rw_last]
theorem gw_g_all {w h n N : Nat} {s : Nat → Int32} (hn : n ≤ 14) (hno : ∀ z, gw_has n z = true → gw_cn (bt z) 14 ≤ N → gw_wa w h n s z = false) (hd : gw_dim w h) : ∀ (m : Nat) (P : List gw_Row) (a c z : Int32), gw_has n z = true → gw_cn (bt z) 14 + m = N → (∀ r ∈ P, gw_ce w h r.1 = true ∧ gw_has n r.2.2.2.1 = true ∧ gw_has n r.2.2.2.2 = true) → ∀ r ∈ gw_g w h n s m P a c z, gw_ce w h r.1 = true ∧ gw_has n r.2.2.2.1 = true ∧ gw_has n r.2.2.2.2 = true := by
  have hwh := gw_dim_le hd
  have hlu : ∀ z, gw_has n z = true → gw_cn (bt z) 14 ≤ N → ∃ q, q < w * h ∧ gw_lu w h n s z = nI q ∧ gw_cs w h n s z = gw_wt w h n s q ∧ gw_wt w h n s q &&& z = 0 := by
    intro z hz hc
    have h0 := hno z hz hc
    cases e : gw_lo w h n s z with
    | none => rw [gw_wa, e] at h0; cases h0
    | some q =>
      have hq := (gw_ff_spec e).1
      have hu := (gw_ff_spec e).2
      rw [gw_up, Bool.and_eq_true, beq_iff_eq, beq_iff_eq] at hu
      have el : gw_lu w h n s z = nI q := by rw [gw_lu, e]; rfl
      exact ⟨q, hq, el, by rw [gw_cs, el, gw_wo_nI (by omega), if_pos hq], hu.2⟩
  have hwth : ∀ q, gw_has n (gw_wt w h n s q) = true := fun q => (gw_has_iff hn).mpr (fun i h1 _ => by rw [gw_wt_bt hn]; simp; omega)
  intro m
  induction m with
  | zero =>
    intro P a c z hz hc hP r hr
    rw [gw_g, List.mem_append, List.mem_singleton] at hr
    rcases hr with q | rfl
    · exact hP r q
    · obtain ⟨q, hq, el, -, -⟩ := hlu z hz (by omega)
      exact ⟨by show gw_ce w h (gw_lu w h n s z) = true; rw [el, gw_ce_nI (by omega)]; simp [hq], hz, (gw_has_iff hn).mpr (fun i _ _ => b_0 i)⟩
  | succ m ih =>
    intro P a c z hz hc hP
    obtain ⟨q, hq, el, ecs, e0⟩ := hlu z hz (by omega)
    rw [gw_g_s]
    have key : ∀ k, k ≤ 14 → ∀ r ∈ gw_lp (fun k P' => if bt (gw_cs w h n s z) k then gw_g w h n s m P' (nI P.length) (nI k) (z ||| gw_bit k) else P') (P ++ [(gw_lu w h n s z, a, c, z, gw_cs w h n s z)]) k, gw_ce w h r.1 = true ∧ gw_has n r.2.2.2.1 = true ∧ gw_has n r.2.2.2.2 = true := by
      intro k
      induction k with
      | zero =>
        intro _ r hr
        have hr : r ∈ P ++ [(gw_lu w h n s z, a, c, z, gw_cs w h n s z)] := hr
        rw [List.mem_append, List.mem_singleton] at hr
        rcases hr with y | rfl
        · exact hP r y
        · exact ⟨by show gw_ce w h (gw_lu w h n s z) = true; rw [el, gw_ce_nI (by omega)]; simp [hq], hz, by show gw_has n (gw_cs w h n s z) = true; rw [ecs]; exact hwth q⟩
      | succ k IH =>
        intro hk r hr
        rw [gw_lp] at hr
        (try dsimp only at hr)
        by_cases hb : bt (gw_cs w h n s z) k = true
        · rw [if_pos hb] at hr
          rw [ecs, gw_wt_bt hn, Bool.and_eq_true, decide_eq_true_eq] at hb
          have hzi : bt z k = false := by
            cases e : bt z k with
            | false => rfl
            | true => exact absurd ⟨by rw [gw_wt_bt hn]; simp [hb], e⟩ ((gw_and0.mp e0) k (by omega))
          exact ih _ _ _ _ ((gw_has_iff hn).mpr (fun j h1 h2 => by rw [gw_bt_orb (by omega), (gw_has_iff hn).mp hz j h1 h2]; simp; omega)) (by rw [gw_cn_set (p := bt z) (i := k) (fun x => gw_bt_orb (by omega)) hzi (by omega)]; omega) (IH (by omega)) r hr
        · rw [if_neg hb] at hr; exact IH (by omega) r hr
    exact key 14 (Nat.le_refl _)
/-- what holds of the rows of a tree -/
def gw_tr (w h n : Nat) (P : List gw_Row) : Prop := P.length ≤ 600 ∧ ∀ i, i < P.length → gw_kd P i = gw_blk (gw_rw P i).2.2.2.2 14 ∧ gw_ce w h (gw_rw P i).1 = true ∧ gw_has n (gw_rw P i).2.2.2.1 = true ∧ gw_has n (gw_rw P i).2.2.2.2 = true
theorem gw_tr_0 {w h n : Nat} : gw_tr w h n [] := ⟨Nat.zero_le _, fun i hi => by cases hi⟩
theorem gw_rw_mem {P : List gw_Row} {i : Nat} (hi : i < P.length) : gw_rw P i ∈ P := by
  rw [gw_rw, List.getElem?_eq_getElem hi]; exact List.getElem_mem hi
theorem gw_no_of {w h n N : Nat} {s : Nat → Int32} (hn : n ≤ 14) (hN : N ≤ 6) (hf : (gw_sl w h n s).1 = gw_NONE ∨ ¬ (gw_sl w h n s).1 ≤ nI N) : ∀ z, gw_has n z = true → gw_cn (bt z) 14 ≤ N → gw_wa w h n s z = false := by
  intro z hz hc
  rw [Bool.eq_false_iff]
  intro hw
  obtain ⟨mn, e1, e2⟩ := gw_sl_min hn hz hw
  rw [e1] at hf
  rcases hf with q | q
  · exact gw_NONE_ne (by omega) q
  · exact q (nI_le (by omega) (by omega))
theorem gw_cn00 : gw_cn (bt 0) 14 = 0 := gw_cn_f (fun k _ => b_0 k)
theorem gw_has0 {n : Nat} (hn : n ≤ 14) : gw_has n 0 = true := (gw_has_iff hn).mpr (fun i _ _ => b_0 i)
theorem gw_tr_T {w h n N : Nat} {s : Nat → Int32} (hd : gw_dim w h) (hn : n ≤ 14) (hN : N ≤ 6) (hf : (gw_sl w h n s).1 = gw_NONE ∨ ¬ (gw_sl w h n s).1 ≤ nI N) (hl : (gw_T w h n s N).length ≤ 600) : gw_tr w h n (gw_T w h n s N) := by
  have hno := gw_no_of hn hN hf
  obtain ⟨-, k2, -⟩ := gw_g_kd (w := w) (h := h) (n := n) (s := s) N [] gw_NONE gw_NONE 0 (fun i _ _ => rfl) (fun j hj e => absurd e.symm (gw_NONE_ne hj)) (by have hl2 : (gw_g w h n s N [] gw_NONE gw_NONE 0).length ≤ 600 := hl; omega)
  have ka := gw_g_all hn hno hd N [] gw_NONE gw_NONE 0 (gw_has0 hn) (by rw [gw_cn00]; omega) (fun r hr => by cases hr)
  exact ⟨hl, fun i hi => ⟨k2 i (Nat.zero_le _) hi, ka _ (gw_rw_mem hi)⟩⟩
theorem gw_tr_set {w h n : Nat} {P : List gw_Row} {i : Nat} {c : Int32} (hi : i < P.length) (hc : gw_ce w h c = true) (ht : gw_tr w h n P) : gw_tr w h n (P.set i (c, (gw_rw P i).2)) := by
  have hm : (P.set i (c, (gw_rw P i).2)).map Prod.snd = P.map Prod.snd := by
    apply List.ext_getElem?
    intro j
    rw [List.getElem?_map, List.getElem?_map, List.getElem?_set]
    by_cases e : i = j
    · subst e
      rw [if_pos rfl, if_pos hi, gw_rw, List.getElem?_eq_getElem hi]; rfl
    · rw [if_neg e]
  have hk : ∀ j, gw_kd (P.set i (c, (gw_rw P i).2)) j = gw_kd P j := fun j => by rw [gw_kd, gw_kd, hm]
  have hr : ∀ j, j < P.length → (gw_rw (P.set i (c, (gw_rw P i).2)) j).2 = (gw_rw P j).2 ∧ ((gw_rw (P.set i (c, (gw_rw P i).2)) j).1 = c ∨ (gw_rw (P.set i (c, (gw_rw P i).2)) j).1 = (gw_rw P j).1) := by
    intro j hj
    by_cases e : i = j
    · subst e
      have : gw_rw (P.set i (c, (gw_rw P i).2)) i = (c, (gw_rw P i).2) := by rw [gw_rw, List.getElem?_set, if_pos rfl, if_pos hi]; rfl
      rw [this]; exact ⟨rfl, .inl rfl⟩
    · have : gw_rw (P.set i (c, (gw_rw P i).2)) j = gw_rw P j := by rw [gw_rw, List.getElem?_set, if_neg e]; rfl
      rw [this]; exact ⟨rfl, .inr rfl⟩
  refine ⟨by rw [List.length_set]; exact ht.1, fun j hj => ?_⟩
  rw [List.length_set] at hj
  obtain ⟨t1, t2, t3, t4⟩ := ht.2 j hj
  obtain ⟨r1, r2⟩ := hr j hj
  rw [hk j, r1]
  refine ⟨t1, ?_, t3, t4⟩
  rcases r2 with q | q
  · rw [q]; exact hc
  · rw [q]; exact t2
theorem gw_P_map (P : List gw_Row) : (List.range P.length).map (gw_rw P) = P := by
  apply List.ext_getElem?
  intro j
  rw [List.getElem?_map]
  rcases Nat.lt_or_ge j P.length with q | q
  · rw [List.getElem?_range q, List.getElem?_eq_getElem q]
    show some (gw_rw P j) = _
    rw [gw_rw, List.getElem?_eq_getElem q]; rfl
  · rw [List.getElem?_eq_none (by rw [List.length_range]; exact q), List.getElem?_eq_none q]; rfl
theorem gw_cn_kd {P : List gw_Row} {i : Nat} : gw_cn (fun j => decide ((gw_rw P j).2.1 = nI i)) P.length = (gw_kd P i).length := by
  rw [← gw_cn_range, gw_kd, List.length_map]
  conv => rhs; rw [← gw_P_map P]
  rw [List.map_map, List.filter_map, List.length_map]
  rfl
/-- who came in the rows below -/
def gw_pb (P : List gw_Row) (i : Nat) : Nat → Int32
  | 0 => 0
  | j + 1 => if (gw_rw P j).2.1 = nI i then gw_pb P i j ||| ((1 : Int32) <<< ((gw_rw P j).2.2.1 &&& 31)) else gw_pb P i j
theorem gw_pb_bt {P : List gw_Row} {i x : Nat} : ∀ N, bt (gw_pb P i N) x = true ↔ ∃ j, j < N ∧ (gw_rw P j).2.1 = nI i ∧ bt ((1 : Int32) <<< ((gw_rw P j).2.2.1 &&& 31)) x = true
  | 0 => by rw [gw_pb, b_0]; exact ⟨fun q => (by cases q), fun ⟨j, hj, _⟩ => absurd hj (Nat.not_lt_zero j)⟩
  | N + 1 => by
    have ih := gw_pb_bt (P := P) (i := i) (x := x) N
    rw [gw_pb, gw_ex_succ, ← ih]
    by_cases q : (gw_rw P N).2.1 = nI i
    · rw [if_pos q, b_or, Bool.or_eq_true]
      exact ⟨fun z => z.imp id (fun y => ⟨q, y⟩), fun z => z.imp id (fun y => y.2)⟩
    · rw [if_neg q]
      exact ⟨fun z => .inl z, fun z => z.elim id (fun y => absurd y.1 q)⟩
theorem gw_pb_eq {w h n : Nat} {P : List gw_Row} (hn : n ≤ 14) (ht : gw_tr w h n P) {i : Nat} (hi : i < P.length) : gw_pb P i P.length = (gw_rw P i).2.2.2.2 := by
  obtain ⟨t1, -, -, t4⟩ := ht.2 i hi
  refine b_ext (fun x hx => ?_)
  rw [Bool.eq_iff_iff, gw_pb_bt]
  have mem : ∀ u, u ∈ gw_kd P i ↔ ∃ j, j < P.length ∧ (gw_rw P j).2.1 = nI i ∧ (gw_rw P j).2.2.1 = u := by
    intro u
    rw [gw_kd, List.mem_map]
    constructor
    · rintro ⟨r, hr, rfl⟩
      obtain ⟨h1, h2⟩ := List.mem_filter.mp hr
      obtain ⟨r2, h3, rfl⟩ := List.mem_map.mp h1
      rw [← gw_P_map P] at h3
      obtain ⟨j, hj, rfl⟩ := List.mem_map.mp h3
      exact ⟨j, List.mem_range.mp hj, of_decide_eq_true h2, rfl⟩
    · rintro ⟨j, hj, e1, rfl⟩
      exact ⟨(gw_rw P j).2, List.mem_filter.mpr ⟨List.mem_map.mpr ⟨_, gw_rw_mem hj, rfl⟩, decide_eq_true e1⟩, rfl⟩
  constructor
  · rintro ⟨j, hj, e1, e2⟩
    have h1 := (mem _).mpr ⟨j, hj, e1, rfl⟩
    rw [t1, gw_blk] at h1
    obtain ⟨k, hk, e3⟩ := List.mem_map.mp h1
    obtain ⟨h2, h3⟩ := List.mem_filter.mp hk
    have hk14 := List.mem_range.mp h2
    rw [← e3] at e2
    have h4 := gw_bt_bit (k := k) (i := x) (by omega)
    rw [gw_bit] at h4
    rw [h4] at e2
    have : x = k := of_decide_eq_true e2
    rw [this]; exact h3
  · intro hb
    have hx14 : x < 14 := by
      apply Classical.byContradiction
      intro q
      rw [(gw_has_iff hn).mp t4 x (by omega) hx] at hb; cases hb
    have h1 : nI x ∈ gw_kd P i := by
      rw [t1, gw_blk]
      exact List.mem_map.mpr ⟨x, List.mem_filter.mpr ⟨List.mem_range.mpr hx14, hb⟩, rfl⟩
    obtain ⟨j, hj, e1, e2⟩ := (mem _).mp h1
    refine ⟨j, hj, e1, ?_⟩
    rw [e2]
    have h4 := gw_bt_bit (k := x) (i := x) (by omega)
    rw [gw_bit] at h4
    rw [h4]; simp
theorem gw_andN (a b : Nat) : nI a &&& nI b = nI (a &&& b) := b_ext (fun i hi => by rw [b_and, gw_bt_nI hi, gw_bt_nI hi, gw_bt_nI hi, Nat.testBit_and])
def gw_pA (m : Nat) : Nat := m - (m / 2 &&& 1431655765)
def gw_pB (a : Nat) : Nat := (a &&& 858993459) + (a / 4 &&& 858993459)
def gw_pC (b : Nat) : Nat := (b + b / 16) &&& 252645135
def gw_pE (c : Nat) : Nat := c + c / 256
def gw_pG (e : Nat) : Nat := (e + e / 65536) &&& 63
theorem gw_us1N {m : Nat} (hm : m < 4294967296) (k : Nat) (s : Int32) (hs : ((s.toUInt32 &&& Int32.toUInt32 31).toBitVec % 32).toNat = k) : gw_us1 (nI m) s = nI (m / 2 ^ k) := pk_ushrN (by omega) s k hs
theorem gw_pc_nI {m : Nat} (hm : m < 16384) : gw_pc (nI m) = nI (gw_pG (gw_pE (gw_pC (gw_pB (gw_pA m))))) := by
  have l1 : (m / 2 &&& 1431655765) ≤ m / 2 := Nat.and_le_left
  have ha : gw_pA m < 16384 := by rw [gw_pA]; omega
  have e1 : nI m - (gw_us1 (nI m) 1 &&& 1431655765) = nI (gw_pA m) := by
    rw [gw_us1N (by omega) 1 1 (by decide), show (1431655765 : Int32) = nI 1431655765 from rfl, gw_andN, pk_sub (show (m / 2 ^ 1 &&& 1431655765) ≤ m from Nat.le_trans l1 (by omega))]; rfl
  generalize gw_pA m = a at *
  have l2 : (a &&& 858993459) ≤ a := Nat.and_le_left
  have l3 : (a / 4 &&& 858993459) ≤ a / 4 := Nat.and_le_left
  have hb : gw_pB a < 32768 := by rw [gw_pB]; omega
  have e2 : (nI a &&& 858993459) + (gw_us1 (nI a) 2 &&& 858993459) = nI (gw_pB a) := by
    rw [gw_us1N (by omega) 2 2 (by decide), show (858993459 : Int32) = nI 858993459 from rfl, gw_andN, gw_andN, nI_add]; rfl
  generalize gw_pB a = b at *
  have l4 : ((b + b / 16) &&& 252645135) ≤ b + b / 16 := Nat.and_le_left
  have hc : gw_pC b < 65536 := by rw [gw_pC]; omega
  have e3 : (nI b + gw_us1 (nI b) 4) &&& 252645135 = nI (gw_pC b) := by
    rw [gw_us1N (by omega) 4 4 (by decide), nI_add, show (252645135 : Int32) = nI 252645135 from rfl, gw_andN]; rfl
  generalize gw_pC b = c at *
  have he : gw_pE c < 131072 := by rw [gw_pE]; omega
  have e4 : nI c + gw_us1 (nI c) 8 = nI (gw_pE c) := by
    rw [gw_us1N (by omega) 8 8 (by decide), nI_add]; rfl
  generalize gw_pE c = e at *
  have e5 : (nI e + gw_us1 (nI e) 16) &&& 63 = nI (gw_pG e) := by
    rw [gw_us1N (by omega) 16 16 (by decide), nI_add, show (63 : Int32) = nI 63 from rfl, gw_andN]; rfl
  rw [gw_pc]
  simp only [e1, e2, e3, e4, e5]
def gw_p7 (x : Nat) : Nat := x % 2 + x / 2 % 2 + x / 4 % 2 + x / 8 % 2 + x / 16 % 2 + x / 32 % 2 + x / 64 % 2
theorem gw_pc_ok : ∀ a, a < 128 → ∀ b, b < 128 → gw_pG (gw_pE (gw_pC (gw_pB (gw_pA (128 * a + b))))) = gw_p7 b + gw_p7 a := by decide +kernel
theorem gw_cn_p7 : ∀ x, x < 128 → gw_cn (fun i => x.testBit i) 7 = gw_p7 x := by decide +kernel
theorem gw_cn_add (p : Nat → Bool) (m : Nat) : ∀ n, gw_cn p (m + n) = gw_cn p m + gw_cn (fun i => p (m + i)) n
  | 0 => rfl
  | n + 1 => by
    show gw_cn p (m + n) + (if p (m + n) = true then 1 else 0) = _
    rw [gw_cn_add p m n]; simp only [gw_cn]; omega
theorem gw_cn_14 {a b : Nat} (ha : a < 128) (hb : b < 128) : gw_cn (fun i => (128 * a + b).testBit i) 14 = gw_p7 b + gw_p7 a := by
  have t := fun j => Nat.testBit_two_pow_mul_add a (b := b) (i := 7) hb j
  rw [show (14 : Nat) = 7 + 7 from rfl, gw_cn_add, ← gw_cn_p7 b hb, ← gw_cn_p7 a ha]
  congr 1
  · exact gw_cn_cg (fun k hk => by have := t k; rw [if_pos hk] at this; exact this)
  · exact gw_cn_cg (fun k hk => by have := t (7 + k); rw [if_neg (by omega), Nat.add_sub_cancel_left] at this; exact this)
theorem gw_pc_eq {n : Nat} {z : Int32} (hn : n ≤ 14) (hz : gw_has n z = true) : gw_pc z = nI (gw_cn (bt z) 14) := by
  obtain ⟨m, hm, rfl⟩ := (gw_has_lt hn).mp hz
  have h14 : 2 ^ n ≤ 2 ^ 14 := Nat.pow_le_pow_right (by decide) hn
  have h15 : (2 : Nat) ^ 14 = 16384 := by decide
  have e : m = 128 * (m / 128) + m % 128 := by omega
  have := (gw_pc_ok (m / 128) (by omega) (m % 128) (by omega)).trans (gw_cn_14 (by omega) (by omega)).symm
  rw [← e] at this
  rw [gw_pc_nI (by omega), this, gw_cn_cg (p := bt (nI m)) (q := fun i => m.testBit i) (fun k hk => gw_bt_nI (by omega))]
theorem gw_cn_blk {b : Int32} : (gw_blk b 14).length = gw_cn (bt b) 14 := by rw [gw_blk, List.length_map, gw_cn_range]
