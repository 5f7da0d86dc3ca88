/-! Room: building -/
theorem gw_cn_gap {p : Nat → Bool} {a : Nat} : ∀ {b : Nat}, a ≤ b → (∀ c, a ≤ c → c < b → p c = false) → gw_cn p b = gw_cn p a
  | 0, h, _ => by
    have : a = 0 := by omega
    subst this; rfl
  | b + 1, h, hp => by
    rcases Nat.lt_or_ge a (b + 1) with q | q
    · simp only [gw_cn]
      rw [gw_cn_gap (b := b) (by omega) (fun c h1 h2 => hp c h1 (by omega)), hp b (by omega) (by omega)]
      simp
    · have : a = b + 1 := by omega
      subst this; rfl
theorem gw_po_cg {s s2 : Nat → Int32} (h : ∀ c, 100 ≤ c → s2 c = s c) (k : Nat) : gw_po s2 k = gw_po s k := by
  simp only [gw_po, h (101 + k) (by omega), h (115 + k) (by omega), h (129 + k) (by omega), h (143 + k) (by omega), h (157 + k) (by omega), h (171 + k) (by omega), h (185 + k) (by omega), h (199 + k) (by omega)]
theorem gw_ps_cg {f : Nat → mj_C} {s s2 : Nat → Int32} {n : Nat} {ps : Nat → Option Nat} (h : ∀ k, k < n → gw_po s2 k = gw_po s k) (hp : gw_ps f s n ps) : gw_ps f s2 n ps := by
  intro k hk
  refine ⟨fun hkn => ?_, (hp k hk).2⟩
  obtain ⟨p, h0, h1, h2⟩ := (hp k hk).1 hkn
  exact ⟨p, h0, h1, by rw [h k hkn]; exact h2⟩
/-- two states that a Room can't tell apart -/
theorem gw_rm_cg {f : Nat → mj_C} {r w h n : Nat} {s s2 : Nat → Int32} (h1 : ∀ c, c < 100 → s2 c = s c) (h2 : ∀ k, k < n → gw_po s2 k = gw_po s k) (hR : gw_rm f r w h n s) : gw_rm f r w h n s2 := by
  obtain ⟨wl, ps, c1, c2, c3, c4, c5⟩ := hR
  exact ⟨wl, ps, c1, c2, c3, fun c hc => by rw [h1 c hc]; exact c4 c hc, gw_ps_cg h2 c5⟩
def gw_rec (w h a b c : Nat) : Bool := decide (c < w * h) && gw_box (a / w) (b / w) (c / w) && gw_box (a % w) (b % w) (c % w)
/-- the state with a rectangle built, as far as below x -/
def gw_bx (w h a b : Nat) (on : Int32) (s : Nat → Int32) (x c : Nat) : Int32 := if gw_rec w h a b c && decide (c < x) then on else s c
def gw_bd (w h a b : Nat) (on : Int32) (s : Nat → Int32) (c : Nat) : Int32 := if gw_rec w h a b c then on else s c
def gw_bn (w h a b : Nat) (on : Int32) (s : Nat → Int32) : Nat → Bool := fun c => gw_rec w h a b c && !(s c == on)
theorem gw_bx_gap {w h a b : Nat} {on : Int32} {s : Nat → Int32} {x y : Nat} (hxy : x ≤ y) (hg : ∀ c, x ≤ c → c < y → gw_rec w h a b c = false) : gw_bx w h a b on s y = gw_bx w h a b on s x := by
  funext c
  simp only [gw_bx]
  by_cases q : gw_rec w h a b c = true
  · by_cases q2 : c < x
    · have : c < y := by omega
      simp [q2, this]
    · have : ¬ c < y := fun q3 => by rw [hg c (by omega) q3] at q; cases q
      simp [q2, this]
  · simp [q]
theorem gw_rec_row {w h a b i j : Nat} (hj : j < w) : gw_rec w h a b (i * w + j) = (decide (i * w + j < w * h) && gw_box (a / w) (b / w) i && gw_box (a % w) (b % w) j) := by
  have e1 : (i * w + j) / w = i := by rw [Nat.mul_comm, Nat.mul_add_div (by omega), Nat.div_eq_of_lt hj]; rfl
  have e2 : (i * w + j) % w = j := by rw [Nat.mul_comm, Nat.mul_add_mod]; exact Nat.mod_eq_of_lt hj
  rw [gw_rec, e1, e2]
theorem sp_Room_setPost0 {X : mj_X} {d : Nat} {σ : mj_H} {Q : mj_H → Prop} {r z : Nat} {v1 v2 v3 v4 : Value} {ps : Nat → Option Nat} (hz : z < 14) (c1 : σ.1 r = mj_O 4 [v1, v2, v3, v4, .ref (r + 2)]) (c3 : σ.1 (r + 2) = mj_AR 3 14 ps) (k : Q (va_up σ.1 (r + 2) (mj_AR 3 14 (va_up ps z none)), σ.2)) : mj_M X d y_Room_setPost [.ref r, .int (nI z), .null] σ (mj_U Q) := by
  refine mw_in (l0 := [some (.ref r), some (.int (nI z)), some (.null)]) rfl ?_
  refine mw_ld 1 i_Room_setPost_0 rfl rfl rfl ?_
  refine mw_if0 4 i_Room_setPost_1 rfl (nI_pos (by omega)) ?_
  refine mw_ld 5 i_Room_setPost_4 rfl rfl rfl ?_
  refine mw_k 7 i_Room_setPost_5 rfl ?_
  refine mw_ic0 10 i_Room_setPost_7 rfl (nI_ge (a := z) (b := 14) (by omega) (by decide)) ?_
  refine mw_ld 11 i_Room_setPost_10 rfl rfl rfl ?_
  refine mw_get 14 i_Room_setPost_11 rfl (by assumption) (by rfl) ?_
  refine mw_ld 15 i_Room_setPost_14 rfl rfl rfl ?_
  refine mw_ld 16 i_Room_setPost_15 rfl rfl rfl ?_
  refine mw_aast 17 z none i_Room_setPost_16 rfl (by decide) c3 rfl (by omega) (by decide) rfl (fun q hq => by cases hq) ?_
  refine mw_rv i_Room_setPost_17 rfl ?_
  exact k
theorem sp_Room_removeLatestPost {X : mj_X} {d : Nat} {σ : mj_H} {Q : mj_H → Prop} {r w h n : Nat} {s : Nat → Int32} (hr : r + 2 < 71) (hn : n + 1 ≤ 14) (hR : gw_rm σ.1 r w h (n + 1) s) (k : ∀ f, gw_fr [r, r + 2] σ.1 f → gw_rm f r w h n s → Q (f, σ.2)) : mj_M X (d + 1) y_Room_removeLatestPost [.ref r] σ (mj_U Q) := by
  obtain ⟨wl, ps, c1, c2, c3, c4, c5⟩ := id hR
  refine mw_in (l0 := [some (.ref r)]) rfl ?_
  refine mw_ld 1 i_Room_removeLatestPost_0 rfl rfl rfl ?_
  refine mw_get 4 i_Room_removeLatestPost_1 rfl (by repeat (first | exact mj_hs2 | exact mj_hs | assumption | refine mj_hn2 (by omega) ?_ | refine mj_hn (by omega) ?_)) (by rfl) ?_
  refine mw_if0 7 i_Room_removeLatestPost_4 rfl (nI_nle (by omega) (by omega)) ?_
  refine mw_ld 8 i_Room_removeLatestPost_7 rfl rfl rfl ?_
  refine mw_dup 9 i_Room_removeLatestPost_8 rfl rfl ?_
  refine mw_get 12 i_Room_removeLatestPost_9 rfl (by repeat (first | exact mj_hs2 | exact mj_hs | assumption | refine mj_hn2 (by omega) ?_ | refine mj_hn (by omega) ?_)) (by rfl) ?_
  refine mw_k 13 i_Room_removeLatestPost_12 rfl ?_
  refine mw_b 14 i_Room_removeLatestPost_13 rfl ?_
  rw [nI_pred]
  refine mw_put (fs' := [_, _, _, _, _]) 17 i_Room_removeLatestPost_14 rfl (by repeat (first | exact mj_hs2 | exact mj_hs | assumption | refine mj_hn2 (by omega) ?_ | refine mj_hn (by omega) ?_)) (Nat.le_of_ble_eq_true rfl) rfl rfl (fun _ h => by cases h) (by rfl) ?_
  refine mw_ld 18 i_Room_removeLatestPost_17 rfl rfl rfl ?_
  refine mw_ld 19 i_Room_removeLatestPost_18 rfl rfl rfl ?_
  refine mw_get 22 i_Room_removeLatestPost_19 rfl (by repeat (first | exact mj_hs2 | exact mj_hs | assumption | refine mj_hn2 (by omega) ?_ | refine mj_hn (by omega) ?_)) (by rfl) ?_
  refine mw_k 23 i_Room_removeLatestPost_22 rfl ?_
  refine mw_cv0 26 i_Room_removeLatestPost_23 rfl (by repeat (first | exact mj_hs2 | exact mj_hs | assumption | refine mj_hn2 (by omega) ?_ | refine mj_hn (by omega) ?_)) (sp_Room_setPost0 (by omega) (by repeat (first | exact mj_hs2 | exact mj_hs | assumption | refine mj_hn2 (by omega) ?_ | refine mj_hn (by omega) ?_)) (by repeat (first | exact mj_hs2 | exact mj_hs | assumption | refine mj_hn2 (by omega) ?_ | refine mj_hn (by omega) ?_)) ?_) rfl rfl (Nat.le_of_ble_eq_true rfl) (Nat.le_of_ble_eq_true rfl)
  refine mw_rv i_Room_removeLatestPost_26 rfl ?_
  refine k _ (gw_fr_up (gw_fr_up (gw_fr_rf _ _) (by simp)) (by simp)) ⟨wl, va_up ps n none, mj_hn (by omega) mj_hs, mj_hn (by omega) (mj_hn (by omega) c2), mj_hs, c4, fun j hj => ⟨fun hjn => ?_, fun hjn => ?_⟩⟩
  · obtain ⟨p1, g0, g1, g2⟩ := (c5 j hj).1 (by omega)
    exact ⟨p1, g0, by rw [va_up_ne _ _ (by omega)]; exact g1, mj_hn (by omega) (mj_hn (by omega) g2)⟩
  · by_cases e : j = n
    · subst e; exact va_up_self _ _ _
    · rw [va_up_ne _ _ e]; exact (c5 j hj).2 (by omega)
theorem sp_Room_build {X : mj_X} {d : Nat} {σ : mj_H} {Q : Value → mj_H → Prop} {r w h n : Nat} {s : Nat → Int32} {a b : Nat} {on : Int32} (hr : r + 2 < 71) (ha : a < w * h) (hb : b < w * h) (hd : gw_dim w h) (hR : gw_rm σ.1 r w h n s) (k : ∀ f, gw_fr [r + 1] σ.1 f → gw_rm f r w h n (gw_bd w h a b on s) → Q (.int (nI (gw_cn (gw_bn w h a b on s) (w * h)))) (f, σ.2)) : mj_M X (d + 1) y_Room_build [.ref r, .int (nI a), .int (nI b), .int on] σ (mj_V Q) := by
  obtain ⟨wl, ps, c1, c2, c3, c4, c5⟩ := id hR
  have hw1 := hd.1
  have hw2 := hd.2.1
  have hh1 := hd.2.2.1
  have hh2 := hd.2.2.2
  have hwh := gw_dim_le hd
  obtain ⟨ra, era⟩ : ∃ q, q = a / w := ⟨_, rfl⟩
  obtain ⟨ca, eca⟩ : ∃ q, q = a % w := ⟨_, rfl⟩
  obtain ⟨rb, erb⟩ : ∃ q, q = b / w := ⟨_, rfl⟩
  obtain ⟨cb, ecb⟩ : ∃ q, q = b % w := ⟨_, rfl⟩
  have l1 : ra < h := by rw [era]; exact Nat.div_lt_of_lt_mul ha
  have l2 : rb < h := by rw [erb]; exact Nat.div_lt_of_lt_mul hb
  have l3 : ca < w := by rw [eca]; exact Nat.mod_lt _ (by omega)
  have l4 : cb < w := by rw [ecb]; exact Nat.mod_lt _ (by omega)
  refine mw_in (l0 := [some (.ref r), some (.int (nI a)), some (.int (nI b)), some (.int on), none, none, none, none, none, none, none, none]) rfl ?_
  refine mw_ld 1 i_Room_build_0 rfl rfl rfl ?_
  refine mw_ld 2 i_Room_build_1 rfl rfl rfl ?_
  refine mw_cv1 5 i_Room_build_2 rfl (by assumption) (sp_Room_rowOf (by omega) hd hR ?_) rfl rfl (Nat.le_of_ble_eq_true rfl) (Nat.le_of_ble_eq_true rfl)
  rw [← era]
  refine mw_ld 6 i_Room_build_5 rfl rfl rfl ?_
  refine mw_ld 7 i_Room_build_6 rfl rfl rfl ?_
  refine mw_cv1 10 i_Room_build_7 rfl (by assumption) (sp_Room_rowOf (by omega) hd hR ?_) rfl rfl (Nat.le_of_ble_eq_true rfl) (Nat.le_of_ble_eq_true rfl)
  rw [← erb]
  refine mw_max 13 i_Room_build_10 rfl (Nat.le_of_ble_eq_true rfl) ?_
  rw [nI_min (by omega) (by omega)]
  refine mw_st (ls' := [_, _, _, _, _, _, _, _, _, _, _, _]) 15 i_Room_build_13 rfl rfl rfl rfl ?_
  refine mw_ld 16 i_Room_build_15 rfl rfl rfl ?_
  refine mw_ld 17 i_Room_build_16 rfl rfl rfl ?_
  refine mw_cv1 20 i_Room_build_17 rfl (by assumption) (sp_Room_rowOf (by omega) hd hR ?_) rfl rfl (Nat.le_of_ble_eq_true rfl) (Nat.le_of_ble_eq_true rfl)
  rw [← era]
  refine mw_ld 21 i_Room_build_20 rfl rfl rfl ?_
  refine mw_ld 22 i_Room_build_21 rfl rfl rfl ?_
  refine mw_cv1 25 i_Room_build_22 rfl (by assumption) (sp_Room_rowOf (by omega) hd hR ?_) rfl rfl (Nat.le_of_ble_eq_true rfl) (Nat.le_of_ble_eq_true rfl)
  rw [← erb]
  refine mw_max 28 i_Room_build_25 rfl (Nat.le_of_ble_eq_true rfl) ?_
  rw [nI_max (by omega) (by omega)]
  refine mw_st (ls' := [_, _, _, _, _, _, _, _, _, _, _, _]) 30 i_Room_build_28 rfl rfl rfl rfl ?_
  refine mw_ld 31 i_Room_build_30 rfl rfl rfl ?_
  refine mw_ld 32 i_Room_build_31 rfl rfl rfl ?_
  refine mw_cv1 35 i_Room_build_32 rfl (by assumption) (sp_Room_columnOf (by omega) hd hR ?_) rfl rfl (Nat.le_of_ble_eq_true rfl) (Nat.le_of_ble_eq_true rfl)
  rw [← eca]
  refine mw_ld 36 i_Room_build_35 rfl rfl rfl ?_
  refine mw_ld 37 i_Room_build_36 rfl rfl rfl ?_
  refine mw_cv1 40 i_Room_build_37 rfl (by assumption) (sp_Room_columnOf (by omega) hd hR ?_) rfl rfl (Nat.le_of_ble_eq_true rfl) (Nat.le_of_ble_eq_true rfl)
  rw [← ecb]
  refine mw_max 43 i_Room_build_40 rfl (Nat.le_of_ble_eq_true rfl) ?_
  rw [nI_min (by omega) (by omega)]
  refine mw_st (ls' := [_, _, _, _, _, _, _, _, _, _, _, _]) 45 i_Room_build_43 rfl rfl rfl rfl ?_
  refine mw_ld 46 i_Room_build_45 rfl rfl rfl ?_
  refine mw_ld 47 i_Room_build_46 rfl rfl rfl ?_
  refine mw_cv1 50 i_Room_build_47 rfl (by assumption) (sp_Room_columnOf (by omega) hd hR ?_) rfl rfl (Nat.le_of_ble_eq_true rfl) (Nat.le_of_ble_eq_true rfl)
  rw [← eca]
  refine mw_ld 51 i_Room_build_50 rfl rfl rfl ?_
  refine mw_ld 52 i_Room_build_51 rfl rfl rfl ?_
  refine mw_cv1 55 i_Room_build_52 rfl (by assumption) (sp_Room_columnOf (by omega) hd hR ?_) rfl rfl (Nat.le_of_ble_eq_true rfl) (Nat.le_of_ble_eq_true rfl)
  rw [← ecb]
  refine mw_max 58 i_Room_build_55 rfl (Nat.le_of_ble_eq_true rfl) ?_
  rw [nI_max (by omega) (by omega)]
  refine mw_st (ls' := [_, _, _, _, _, _, _, _, _, _, _, _]) 60 i_Room_build_58 rfl rfl rfl rfl ?_
  refine mw_k 61 i_Room_build_60 rfl ?_
  refine mw_st (ls' := [_, _, _, _, _, _, _, _, _, _, _, _]) 63 i_Room_build_61 rfl rfl rfl rfl ?_
  refine mw_ld 65 i_Room_build_63 rfl rfl rfl ?_
  refine mw_st (ls' := [_, _, _, _, _, _, _, _, _, _, _, _]) 67 i_Room_build_65 rfl rfl rfl rfl ?_
  have hg0 : ∀ c, c < min ra rb * w → gw_rec w h a b c = false := by
    intro c h1
    rw [Bool.eq_false_iff]
    intro hq
    simp only [gw_rec, gw_box, Bool.and_eq_true, decide_eq_true_eq] at hq
    have h2 : c / w < min ra rb := (Nat.div_lt_iff_lt_mul (by omega)).mpr h1
    omega
  refine mj_forF (S := Nat × Option Value × Option Value × (Nat → mj_C)) (fun i u => mj_Wp X (d + 1) y_Room_build 67 [some (.ref r), some (.int (nI a)), some (.int (nI b)), some (.int on), some (.int (nI (min ra rb))), some (.int (nI (max ra rb))), some (.int (nI (min ca cb))), some (.int (nI (max ca cb))), some (.int (nI u.1)), some (.int (nI i)), u.2.1, u.2.2.1] [] (u.2.2.2, σ.2) (mj_V Q)) (fun i u => gw_fr [r + 1] σ.1 u.2.2.2 ∧ gw_rm u.2.2.2 r w h n (gw_bx w h a b on s (i * w)) ∧ u.1 = gw_cn (gw_bn w h a b on s) (i * w)) (min ra rb) (max ra rb + 1) ?_ ?_ (0, none, none, σ.1) (by omega) ⟨gw_fr_rf _ _, ?_, ?_⟩
  · rintro ⟨u0, u1, u2, u3⟩ ⟨g1, g2, g3⟩
    dsimp only at g1 g2 g3 ⊢
    subst g3
    refine mw_ld 69 i_Room_build_67 rfl rfl rfl ?_
    refine mw_ld 71 i_Room_build_69 rfl rfl rfl ?_
    refine mw_ic1 i_Room_build_71 (nI_lt (by omega) (by omega)) ?_
    refine mw_ld 142 i_Room_build_140 rfl rfl rfl ?_
    refine mw_ri i_Room_build_142 rfl rfl ?_
    have hg : ∀ c, (max ra rb + 1) * w ≤ c → gw_rec w h a b c = false := by
      intro c h1
      rw [Bool.eq_false_iff]
      intro hq
      simp only [gw_rec, gw_box, Bool.and_eq_true, decide_eq_true_eq] at hq
      have h2 : c / w < max ra rb + 1 := by rw [era, erb]; omega
      have h3 := (Nat.div_lt_iff_lt_mul (by omega)).mp h2
      omega
    have e1 : gw_bx w h a b on s ((max ra rb + 1) * w) = gw_bd w h a b on s := by
      funext c
      simp only [gw_bx, gw_bd]
      by_cases q : c < (max ra rb + 1) * w
      · simp [q]
      · rw [hg c (by omega)]; simp
    have e2 : gw_cn (gw_bn w h a b on s) ((max ra rb + 1) * w) = gw_cn (gw_bn w h a b on s) (w * h) := by
      rcases Nat.lt_or_ge ((max ra rb + 1) * w) (w * h) with q | q
      · exact (gw_cn_gap (by omega) (fun c h1 h2 => by rw [gw_bn, hg c h1]; rfl)).symm
      · exact gw_cn_gap q (fun c h1 h2 => by rw [gw_bn, gw_rec]; simp; omega)
    rw [e1] at g2
    rw [e2]
    exact k _ g1 g2
  · rintro i ⟨u0, u1, u2, u3⟩ hil hi ⟨g1, g2, g3⟩ ih
    dsimp only at g1 g2 g3 ⊢
    subst g3
    have hih : i < h := by omega
    have hg : ∀ c, i * w ≤ c → c < i * w + min ca cb → gw_rec w h a b c = false := by
      intro c h1 h2
      have e : c = i * w + (c - i * w) := by omega
      rw [e, gw_rec_row (by omega), ← eca, ← ecb]
      simp [gw_box]; omega
    refine mw_ld 69 i_Room_build_67 rfl rfl rfl ?_
    refine mw_ld 71 i_Room_build_69 rfl rfl rfl ?_
    refine mw_ic0 74 i_Room_build_71 rfl (nI_nlt (by omega) (by omega)) ?_
    refine mw_ld 76 i_Room_build_74 rfl rfl rfl ?_
    refine mw_st (ls' := [_, _, _, _, _, _, _, _, _, _, _, _]) 78 i_Room_build_76 rfl rfl rfl rfl ?_
    refine mj_forF (S := Nat × Option Value × (Nat → mj_C)) (fun j u => mj_Wp X (d + 1) y_Room_build 78 [some (.ref r), some (.int (nI a)), some (.int (nI b)), some (.int on), some (.int (nI (min ra rb))), some (.int (nI (max ra rb))), some (.int (nI (min ca cb))), some (.int (nI (max ca cb))), some (.int (nI u.1)), some (.int (nI i)), some (.int (nI j)), u.2.1] [] (u.2.2, σ.2) (mj_V Q)) (fun j u => gw_fr [r + 1] σ.1 u.2.2 ∧ gw_rm u.2.2 r w h n (gw_bx w h a b on s (i * w + j)) ∧ u.1 = gw_cn (gw_bn w h a b on s) (i * w + j)) (min ca cb) (max ca cb + 1) ?_ ?_ (_, _, _) (by omega) ⟨g1, ?_, ?_⟩
    · rintro ⟨u0, u1, u2⟩ ⟨g1, g2, g3⟩
      dsimp only at g1 g2 g3 ⊢
      subst g3
      refine mw_ld 80 i_Room_build_78 rfl rfl rfl ?_
      refine mw_ld 82 i_Room_build_80 rfl rfl rfl ?_
      refine mw_ic1 i_Room_build_82 (nI_lt (by omega) (by omega)) ?_
      refine mw_inc (ls' := [_, _, _, _, _, _, _, _, _, _, _, _]) 137 (nI (i + 1)) i_Room_build_134 rfl rfl rfl (nI_1 i) rfl ?_
      refine mw_go i_Room_build_137 ?_
      have hg : ∀ c, i * w + (max ca cb + 1) ≤ c → c < (i + 1) * w → gw_rec w h a b c = false := by
        intro c h1 h2
        rw [Nat.succ_mul] at h2
        have e : c = i * w + (c - i * w) := by omega
        rw [e, gw_rec_row (by omega), ← eca, ← ecb]
        simp [gw_box]; omega
      refine ih (_, _, _, _) ⟨g1, ?_, ?_⟩
      · rw [gw_bx_gap (by rw [Nat.succ_mul]; omega) hg]; exact g2
      · exact (gw_cn_gap (a := i * w + (max ca cb + 1)) (b := (i + 1) * w) (by rw [Nat.succ_mul]; omega) (fun c h1 h2 => by rw [gw_bn, hg c h1 h2]; rfl)).symm
    · rintro j ⟨u0, u1, u2⟩ hjl hj ⟨g1, g2, g3⟩ ih2
      dsimp only at g1 g2 g3 ⊢
      subst g3
      obtain ⟨wl2, ps2, d1, d2, d3, d4, d5⟩ := id g2
      have hcell : i * w + j < w * h := by
        have : i * w + w ≤ h * w := by rw [← Nat.succ_mul]; exact Nat.mul_le_mul_right w hih
        rw [Nat.mul_comm w h]; omega
      have hrec : gw_rec w h a b (i * w + j) = true := by
        rw [gw_rec_row (by omega), ← era, ← eca, ← erb, ← ecb]
        simp [gw_box, hcell]; omega
      have hcur : gw_bx w h a b on s (i * w + j) (i * w + j) = s (i * w + j) := by simp [gw_bx]
      refine mw_ld 80 i_Room_build_78 rfl rfl rfl ?_
      refine mw_ld 82 i_Room_build_80 rfl rfl rfl ?_
      refine mw_ic0 85 i_Room_build_82 rfl (nI_nlt (by omega) (by omega)) ?_
      refine mw_ld 87 i_Room_build_85 rfl rfl rfl ?_
      refine mw_ld 88 i_Room_build_87 rfl rfl rfl ?_
      refine mw_get 91 i_Room_build_88 rfl (by assumption) (by rfl) ?_
      refine mw_b 92 i_Room_build_91 rfl ?_
      refine mw_ld 94 i_Room_build_92 rfl rfl rfl ?_
      refine mw_b 95 i_Room_build_94 rfl ?_
      rw [pk_mul, nI_add]
      refine mw_st (ls' := [_, _, _, _, _, _, _, _, _, _, _, _]) 97 i_Room_build_95 rfl rfl rfl rfl ?_
      refine mw_ld 98 i_Room_build_97 rfl rfl rfl ?_
      refine mw_ld 100 i_Room_build_98 rfl rfl rfl ?_
      refine mw_cv1 103 i_Room_build_100 rfl (by assumption) (sp_Room_hasCell hd g2 ?_) rfl rfl (Nat.le_of_ble_eq_true rfl) (Nat.le_of_ble_eq_true rfl)
      refine mw_if0 106 i_Room_build_103 rfl (mj_bI1.mpr (by rw [gw_ce_nI (by omega)]; simp [hcell])) ?_
      refine mw_ld 107 i_Room_build_106 rfl rfl rfl ?_
      refine mw_get 110 i_Room_build_107 rfl (by assumption) (by rfl) ?_
      refine mw_ld 112 i_Room_build_110 rfl rfl rfl ?_
      refine mw_iald 113 (i * w + j) i_Room_build_112 rfl d2 rfl (by omega) (by decide) ?_
      rw [d4 _ (by omega), hcur]
      refine mw_ld 114 i_Room_build_113 rfl rfl rfl ?_
      refine mw_ic 117 i_Room_build_114 rfl (fun h114 => ?_) (fun h114 => ?_)
      · refine mw_inc (ls' := [_, _, _, _, _, _, _, _, _, _, _, _]) 131 (nI (j + 1)) i_Room_build_128 rfl rfl rfl (nI_1 j) rfl ?_
        refine mw_go i_Room_build_131 ?_
        first
        | (have hon : s (i * w + j) = on := h114
           refine ih2 (_, _, _) ⟨g1, ?_, ?_⟩
           · refine gw_rm_cg (s := gw_bx w h a b on s (i * w + j)) (fun c hc => ?_) (fun q hq => ?_) g2
             · simp only [gw_bx]
               by_cases e : c = i * w + j
               · subst e; simp [hon]
               · have : c < i * w + (j + 1) ↔ c < i * w + j := by omega
                 simp [this]
             · exact gw_po_cg (fun c hc => by simp only [gw_bx, gw_rec]; have : ¬ c < w * h := by omega
                                              simp [this]) q
           · show _ = gw_cn _ (i * w + j + 1)
             simp [gw_cn, gw_bn, hon])
        | (have hon : ¬ s (i * w + j) = on := h114
           refine ih2 (_, _, _) ⟨gw_fr_up g1 (by simp), ?_, ?_⟩
           · refine ⟨upd wl2 (i * w + j) on, ps2, (va_up_ne _ _ (by omega)).trans d1, va_up_self _ _ _, (va_up_ne _ _ (by omega)).trans d3, fun c hc => ?_, ?_⟩
             · by_cases e : c = i * w + j
               · subst e
                 rw [pk_us]
                 simp only [gw_bx, hrec]
                 rw [if_pos (by simp)]
               · rw [pk_un e, d4 c hc]
                 simp only [gw_bx]
                 have : c < i * w + (j + 1) ↔ c < i * w + j := by omega
                 simp [this]
             · refine gw_ps_fr (L := [r + 1]) (f := u2) (gw_fr_up (gw_fr_rf _ _) (by simp)) (by intro q hq; simp at hq; omega) (gw_ps_cg (fun q hq => ?_) d5)
               exact gw_po_cg (fun c hc => by simp only [gw_bx, gw_rec]; have : ¬ c < w * h := by omega
                                              simp [this]) q
           · show _ = gw_cn _ (i * w + j + 1)
             simp [gw_cn, gw_bn, hon, hrec])
      · refine mw_ld 118 i_Room_build_117 rfl rfl rfl ?_
        refine mw_get 121 i_Room_build_118 rfl (by assumption) (by rfl) ?_
        refine mw_ld 123 i_Room_build_121 rfl rfl rfl ?_
        refine mw_ld 124 i_Room_build_123 rfl rfl rfl ?_
        refine mw_iast 125 (i * w + j) i_Room_build_124 rfl d2 rfl (by omega) (by decide) ?_
        refine mw_inc (ls' := [_, _, _, _, _, _, _, _, _, _, _, _]) 128 (nI (gw_cn (gw_bn w h a b on s) (i * w + j) + 1)) i_Room_build_125 rfl rfl rfl (nI_1 _) rfl ?_
        refine mw_inc (ls' := [_, _, _, _, _, _, _, _, _, _, _, _]) 131 (nI (j + 1)) i_Room_build_128 rfl rfl rfl (nI_1 j) rfl ?_
        refine mw_go i_Room_build_131 ?_
        first
        | (have hon : s (i * w + j) = on := h114
           refine ih2 (_, _, _) ⟨g1, ?_, ?_⟩
           · refine gw_rm_cg (s := gw_bx w h a b on s (i * w + j)) (fun c hc => ?_) (fun q hq => ?_) g2
             · simp only [gw_bx]
               by_cases e : c = i * w + j
               · subst e; simp [hon]
               · have : c < i * w + (j + 1) ↔ c < i * w + j := by omega
                 simp [this]
             · exact gw_po_cg (fun c hc => by simp only [gw_bx, gw_rec]; have : ¬ c < w * h := by omega
                                              simp [this]) q
           · show _ = gw_cn _ (i * w + j + 1)
             simp [gw_cn, gw_bn, hon])
        | (have hon : ¬ s (i * w + j) = on := h114
           refine ih2 (_, _, _) ⟨gw_fr_up g1 (by simp), ?_, ?_⟩
           · refine ⟨upd wl2 (i * w + j) on, ps2, (va_up_ne _ _ (by omega)).trans d1, va_up_self _ _ _, (va_up_ne _ _ (by omega)).trans d3, fun c hc => ?_, ?_⟩
             · by_cases e : c = i * w + j
               · subst e
                 rw [pk_us]
                 simp only [gw_bx, hrec]
                 rw [if_pos (by simp)]
               · rw [pk_un e, d4 c hc]
                 simp only [gw_bx]
                 have : c < i * w + (j + 1) ↔ c < i * w + j := by omega
                 simp [this]
             · refine gw_ps_fr (L := [r + 1]) (f := u2) (gw_fr_up (gw_fr_rf _ _) (by simp)) (by intro q hq; simp at hq; omega) (gw_ps_cg (fun q hq => ?_) d5)
               exact gw_po_cg (fun c hc => by simp only [gw_bx, gw_rec]; have : ¬ c < w * h := by omega
                                              simp [this]) q
           · show _ = gw_cn _ (i * w + j + 1)
             simp [gw_cn, gw_bn, hon, hrec])
    · rw [gw_bx_gap (Nat.le_add_right _ _) hg]; exact g2
    · exact (gw_cn_gap (a := i * w) (b := i * w + min ca cb) (Nat.le_add_right _ _) (fun c h1 h2 => by rw [gw_bn, hg c h1 h2]; rfl)).symm
  · have e0 : gw_bx w h a b on s (min ra rb * w) = s := by
      rw [gw_bx_gap (x := 0) (Nat.zero_le _) (fun c _ h2 => hg0 c h2)]
      funext c; simp [gw_bx]
    rw [e0]; exact hR
  · exact (gw_cn_gap (a := 0) (b := min ra rb * w) (Nat.zero_le _) (fun c _ h2 => by rw [gw_bn, hg0 c h2]; rfl)).symm
