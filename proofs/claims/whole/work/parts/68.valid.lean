/-! the states between calls -/
/-- states as calls leave them -/
def gw_va (w h n : Nat) (s : Nat → Int32) : Prop := n ≤ 14 ∧ gw_vp w h n s ∧ s 100 = nI n ∧ ∀ c, c < 100 → s c = 0 ∨ s c = 1
theorem gw_va_cg {w h n : Nat} {s s2 : Nat → Int32} (he : ∀ i, i < 213 → s2 i = s i) (hv : gw_va w h n s) : gw_va w h n s2 := by
  obtain ⟨v1, v2, v3, v4⟩ := hv
  exact ⟨v1, gw_vp_cg v1 (fun c _ hc => he c hc) v2, by rw [he 100 (by decide)]; exact v3, fun c hc => by rw [he c (by omega)]; exact v4 c hc⟩
theorem gw_va_0 {w h : Nat} {s2 : Nat → Int32} (he : ∀ i, i < 213 → s2 i = 0) : gw_va w h 0 s2 := ⟨Nat.zero_le _, fun k hk => absurd hk (Nat.not_lt_zero k), by rw [he 100 (by decide)]; rfl, fun c hc => .inl (he c (by omega))⟩
theorem gw_va_drop {w h n : Nat} {s : Nat → Int32} (hv : gw_va w h (n + 1) s) : gw_va w h n (upd s 100 (nI n)) := by
  obtain ⟨v1, v2, v3, v4⟩ := hv
  refine ⟨by omega, fun k hk => ?_, pk_us, fun c hc => by rw [pk_un (by omega)]; exact v4 c hc⟩
  have := v2 k (by omega)
  simp (disch := omega) only [pk_un]
  exact this
theorem gw_va_wall {w h n a b : Nat} {on : Int32} {s : Nat → Int32} (hd : gw_dim w h) (ho : gw_in on 0 1 = true) (hv : gw_va w h n s) : gw_va w h n (gw_bd w h a b on s) := by
  obtain ⟨v1, v2, v3, v4⟩ := hv
  refine ⟨v1, gw_vp_cg v1 (fun c h1 _ => gw_bd_hi hd h1) v2, by rw [gw_bd_hi hd (by decide)]; exact v3, fun c hc => ?_⟩
  rw [gw_bd]
  by_cases q : gw_rec w h a b c = true
  · rw [if_pos q]
    obtain ⟨i, hi, rfl⟩ := gw_in_of (k := 1) (by decide) ho
    rcases Nat.eq_zero_or_pos i with z | z
    · subst z; exact .inl rfl
    · have : i = 1 := by omega
      subst this; exact .inr rfl
  · rw [if_neg q]; exact v4 c hc
theorem gw_va_set {w h n z : Nat} {s s2 : Nat → Int32} (hz : z < n) (hv : gw_va w h n s) (h1 : ∀ c, c ≤ 100 → s2 c = s c) (h2 : ∀ b j, 101 ≤ b → j < 14 → j ≠ z → b ∈ [101, 115, 129, 143, 157, 171, 185, 199] → s2 (b + j) = s (b + j)) (h3 : (∃ c, c < w * h ∧ s2 (101 + z) = nI c) ∧ gw_kind (s2 (115 + z)) = true ∧
  (-9 ≤ (s2 (129 + z)).toInt ∧ (s2 (129 + z)).toInt ≤ 9) ∧ (-9 ≤ (s2 (143 + z)).toInt ∧ (s2 (143 + z)).toInt ≤ 9) ∧ (-9 ≤ (s2 (157 + z)).toInt ∧ (s2 (157 + z)).toInt ≤ 9) ∧ (-9 ≤ (s2 (171 + z)).toInt ∧ (s2 (171 + z)).toInt ≤ 9) ∧
  (1 ≤ (s2 (185 + z)).toInt ∧ (s2 (185 + z)).toInt ≤ 9) ∧ (s2 (199 + z) = 0 ∨ s2 (199 + z) = 1)) : gw_va w h n s2 := by
  obtain ⟨v1, v2, v3, v4⟩ := hv
  refine ⟨v1, fun k hk => ?_, by rw [h1 100 (by decide)]; exact v3, fun c hc => by rw [h1 c (by omega)]; exact v4 c hc⟩
  by_cases e : k = z
  · subst e; exact h3
  · rw [h2 101 k (by omega) (by omega) e (by simp), h2 115 k (by omega) (by omega) e (by simp), h2 129 k (by omega) (by omega) e (by simp), h2 143 k (by omega) (by omega) e (by simp), h2 157 k (by omega) (by omega) e (by simp), h2 171 k (by omega) (by omega) e (by simp), h2 185 k (by omega) (by omega) e (by simp), h2 199 k (by omega) (by omega) e (by simp)]
    exact v2 k hk
theorem gw_mem8 {b : Nat} (h : b ∈ [101, 115, 129, 143, 157, 171, 185, 199]) : b = 101 ∨ b = 115 ∨ b = 129 ∨ b = 143 ∨ b = 157 ∨ b = 171 ∨ b = 185 ∨ b = 199 := by simpa using h
theorem gw_va_reach {w h n z : Nat} {s : Nat → Int32} {v : Int32} (hz : z < n) (hg : gw_in v 1 9 = true) (hv : gw_va w h n s) : gw_va w h n (gw_sReach s z v) := by
  have h14 := hv.1
  have h0 := hv.2.1 z hz
  have hg2 := gw_in_iff.mp hg
  refine gw_va_set hz hv (fun c hc => by simp (disch := omega) only [gw_sReach, pk_un]) (fun b j hb hj hne hm => ?_) ?_
  · have := gw_mem8 hm
    rw [gw_sReach, pk_un (by omega)]
  · simp (disch := omega) only [gw_sReach, pk_us, pk_un]
    exact ⟨h0.1, h0.2.1, h0.2.2.1, h0.2.2.2.1, h0.2.2.2.2.1, h0.2.2.2.2.2.1, hg2, h0.2.2.2.2.2.2.2⟩
theorem gw_va_lamp {w h n z : Nat} {s : Nat → Int32} {v : Int32} (hz : z < n) (hg : gw_in v 0 1 = true) (hv : gw_va w h n s) : gw_va w h n (gw_sLamp s z v) := by
  have h14 := hv.1
  have h0 := hv.2.1 z hz
  obtain ⟨i, hi, rfl⟩ := gw_in_of (k := 1) (by decide) hg
  refine gw_va_set hz hv (fun c hc => by simp (disch := omega) only [gw_sLamp, pk_un]) (fun b j hb hj hne hm => ?_) ?_
  · have := gw_mem8 hm
    rw [gw_sLamp, pk_un (by omega)]
  · simp (disch := omega) only [gw_sLamp, pk_us, pk_un]
    refine ⟨h0.1, h0.2.1, h0.2.2.1, h0.2.2.2.1, h0.2.2.2.2.1, h0.2.2.2.2.2.1, h0.2.2.2.2.2.2.1, ?_⟩
    rcases Nat.eq_zero_or_pos i with q | q
    · subst q; exact .inl rfl
    · have : i = 1 := by omega
      subst this; exact .inr rfl
theorem gw_va_move {w h n z : Nat} {s : Nat → Int32} {v : Int32} (hd : gw_dim w h) (hz : z < n) (hg : gw_ce w h v = true) (hv : gw_va w h n s) : gw_va w h n (gw_sMove s z v) := by
  have h14 := hv.1
  have h0 := hv.2.1 z hz
  refine gw_va_set hz hv (fun c hc => by simp (disch := omega) only [gw_sMove, pk_un]) (fun b j hb hj hne hm => ?_) ?_
  · have := gw_mem8 hm
    rw [gw_sMove, pk_un (by omega)]
  · simp (disch := omega) only [gw_sMove, pk_us, pk_un]
    exact ⟨gw_ce_of hd hg, h0.2⟩
theorem gw_va_aim {w h n z : Nat} {s : Nat → Int32} {f t : Int32} (hz : z < n) (hg : gw_dirs f t = true) (hv : gw_va w h n s) : gw_va w h n (gw_sAim s z f t) := by
  have h14 := hv.1
  have h0 := hv.2.1 z hz
  have hi : ∀ x, gw_isd x = true → (-9 ≤ (gw_acr x).toInt ∧ (gw_acr x).toInt ≤ 9) ∧ (-9 ≤ (gw_dwn x).toInt ∧ (gw_dwn x).toInt ≤ 9) := fun x hx => by
    simp only [gw_isd, Bool.and_eq_true] at hx
    have m9 : (-9 : Int32).toInt = -9 := by decide
    have p9 : (9 : Int32).toInt = 9 := by decide
    have h1 := gw_in_iff.mp hx.1.1
    have h2 := gw_in_iff.mp hx.1.2
    rw [m9, p9] at h1 h2
    exact ⟨h1, h2⟩
  have hf : gw_isd f = true ∧ gw_isd t = true := by
    simp only [gw_dirs, Bool.and_eq_true] at hg
    exact ⟨hg.1.1, hg.1.2⟩
  refine gw_va_set hz hv (fun c hc => by simp (disch := omega) only [gw_sAim, pk_un]) (fun b j hb hj hne hm => ?_) ?_
  · have := gw_mem8 hm
    rw [gw_sAim, pk_un (by omega), pk_un (by omega), pk_un (by omega), pk_un (by omega)]
  · simp (disch := omega) only [gw_sAim, pk_us, pk_un]
    exact ⟨h0.1, h0.2.1, (hi f hf.1).1, (hi f hf.1).2, (hi t hf.2).1, (hi t hf.2).2, h0.2.2.2.2.2.2⟩
theorem gw_va_post {w h n : Nat} {s : Nat → Int32} {c k : Int32} (hd : gw_dim w h) (hn : n < 14) (hc : gw_ce w h c = true) (hk : gw_kind k = true) (hv : gw_va w h n s) : gw_va w h (n + 1) (gw_sPost s n c k) := by
  obtain ⟨v1, v2, v3, v4⟩ := hv
  refine ⟨by omega, fun j hj => ?_, by simp (disch := omega) only [gw_sPost, pk_us, pk_un], fun q hq => by rw [gw_sPost_wl hq]; exact v4 q hq⟩
  by_cases e : j = n
  · subst e
    simp (disch := omega) only [gw_sPost, pk_us, pk_un]
    exact ⟨gw_ce_of hd hc, hk, by decide, by decide, by decide, by decide, by decide, by first | exact .inr rfl | exact .inr trivial⟩
  · simp (disch := omega) only [gw_sPost, pk_un]
    exact v2 j (by omega)
theorem gw_va_push {w h n kp : Nat} {s : Nat → Int32} {hn : Nat → Nat} {hs : Nat → Nat → Int32} (hk : kp ≤ 10) (hv : gw_va w h n s) (hh : ∀ j, j < kp → gw_va w h (hn j) (hs j)) : ∀ j, j < min (kp + 1) 10 → gw_va w h (gw_push kp hn n j) (gw_push kp hs s j) := by
  intro j hj
  simp only [gw_push]
  by_cases e : kp = 10
  · rw [if_pos e, if_pos e]
    by_cases e9 : j < 9
    · rw [if_pos e9, if_pos e9]; exact hh (j + 1) (by omega)
    · rw [if_neg e9, if_neg e9]; exact hv
  · rw [if_neg e, if_neg e]
    by_cases e9 : j < kp
    · rw [if_pos e9, if_pos e9]; exact hh j e9
    · rw [if_neg e9, if_neg e9]; exact hv
theorem gw_MI_keep {f f' : Nat → mj_C} {w h n : Nat} {s : Nat → Int32} {kp : Nat} {hs : Nat → Nat → Int32} {P : List gw_Row} {sz : Int32} (hk : ∀ a, 55 ≤ a → a < 71 → f' a = f a) (hM : gw_MI f w h n s kp hs P sz) : gw_MI f' w h n s kp hs P sz := by
  obtain ⟨tf, fu, fe, fi, ma, md, m1, ⟨a1, bf, a2, a3⟩, ⟨rc, ra, rp, ry, b1, b2, b3, b4, b5⟩, ⟨⟨g1, c1⟩, ⟨g2, c2⟩, ⟨g3, c3⟩, ⟨g4, c4⟩, ⟨g5, c5⟩, ⟨g6, c6⟩, ⟨g7, c7⟩, ⟨g8, c8⟩, ⟨g9, c9⟩⟩, m5⟩ := hM
  have e : ∀ a {c : mj_C}, 55 ≤ a → a < 71 → f a = c → f' a = c := fun a c h1 h2 h3 => (hk a h1 h2).trans h3
  exact ⟨tf, fu, fe, fi, ma, md, e _ (by decide) (by decide) m1, ⟨e _ (by decide) (by decide) a1, bf, e _ (by decide) (by decide) a2, a3⟩, ⟨rc, ra, rp, ry, e _ (by decide) (by decide) b1, e _ (by decide) (by decide) b2, e _ (by decide) (by decide) b3, e _ (by decide) (by decide) b4, b5⟩,
    ⟨⟨g1, e _ (by decide) (by decide) c1⟩, ⟨g2, e _ (by decide) (by decide) c2⟩, ⟨g3, e _ (by decide) (by decide) c3⟩, ⟨g4, e _ (by decide) (by decide) c4⟩, ⟨g5, e _ (by decide) (by decide) c5⟩, ⟨g6, e _ (by decide) (by decide) c6⟩, ⟨g7, e _ (by decide) (by decide) c7⟩, ⟨g8, e _ (by decide) (by decide) c8⟩, ⟨g9, e _ (by decide) (by decide) c9⟩⟩, m5⟩
/-- between two calls of the law -/
def gw_LI (t : Nat) (σ : mj_H) : Prop := ∃ w h n s kp hn hs P sz, gw_dim w h ∧ gw_va w h n s ∧ kp ≤ 10 ∧ (∀ j, j < kp → gw_va w h (hn j) (hs j)) ∧ gw_tr w h n P ∧ gw_CI σ.1 w h n s kp hn hs P sz ∧ gw_MI σ.1 w h n s kp hs P sz ∧ 71 ≤ σ.2.1 ∧ (∀ a, σ.2.1 ≤ a → σ.1 a = none) ∧ σ.2.1 ≤ 71 + t ∧ σ.2.2 ≤ 12505 + 6 * t
theorem gw_ML71 : ∀ b ∈ gw_ML, b < 71 := by decide
theorem gw_LI_mk {t : Nat} {f f2 : Nat → mj_C} {N q : Nat} {w h n : Nat} {s : Nat → Int32} {kp : Nat} {hn : Nat → Nat} {hs : Nat → Nat → Int32} {P : List gw_Row} {sz : Int32} (hd : gw_dim w h) (hv : gw_va w h n s) (hk : kp ≤ 10) (hh : ∀ j, j < kp → gw_va w h (hn j) (hs j)) (ht : gw_tr w h n P) (hC : gw_CI f w h n s kp hn hs P sz) (hf : gw_fr gw_ML f f2) (hM : gw_MI f2 w h n s kp hs P sz) (hN : 71 ≤ N) (hno : ∀ a, N ≤ a → f a = none) (hN2 : N ≤ 71 + t) (hq : q ≤ 12505 + 6 * t) : gw_LI t (f2, N, q) :=
  ⟨w, h, n, s, kp, hn, hs, P, sz, hd, hv, hk, hh, ht, gw_CI_fr hf (by decide) hC, hM, hN, fun a ha => (hf a (fun z => by have h1 := gw_ML71 a z; have h2 : N ≤ a := ha; omega)).trans (hno a ha), hN2, hq⟩
theorem gw_LI_up {t : Nat} {σ : mj_H} (h : gw_LI t σ) : gw_LI (t + 1) σ := by
  obtain ⟨w, h, n, s, kp, hn, hs, P, sz, a1, a2, a3, a4, a5, a6, a7, a8, a9, b1, b2⟩ := h
  exact ⟨w, h, n, s, kp, hn, hs, P, sz, a1, a2, a3, a4, a5, a6, a7, a8, a9, by omega, by omega⟩
theorem gw_in_dim {w h : Nat} (hd : gw_dim w h) : (gw_in (nI w) 1 10 && gw_in (nI h) 1 10) = true := by
  have p1 : (1 : Int32).toInt = 1 := by decide
  have p10 : (10 : Int32).toInt = 10 := by decide
  obtain ⟨h1, h2, h3, h4⟩ := hd
  rw [Bool.and_eq_true, gw_in_iff, gw_in_iff, mj_nI w (by omega), mj_nI h (by omega), p1, p10]
  omega
theorem gw_ok1 {a b : Bool} (h : (a && b) = true) : a = true ∧ b = true := by simpa using h
