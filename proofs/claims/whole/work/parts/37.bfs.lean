/-! ways: the pure part -/
theorem fb_holes : ∀ (m n : Nat) (f : Nat → Nat), (∀ i, i < n → f i < m) → (∀ i j, i < j → j < n → f i ≠ f j) → n ≤ m := by
  intro m
  induction m with
  | zero =>
    intro n f h1 _
    rcases Nat.eq_zero_or_pos n with h | h
    · omega
    · exact absurd (h1 0 h) (Nat.not_lt_zero _)
  | succ m ih =>
    intro n f h1 h2
    by_cases hx : ∃ i, i < n ∧ f i = m
    · obtain ⟨a, ha, hfa⟩ := hx
      have hg := ih (n - 1) (fun i => if i < a then f i else f (i + 1)) (by
        intro i hi
        by_cases q : i < a
        · simp only [if_pos q]
          have b1 := h1 i (by omega)
          have b2 := h2 i a q ha
          omega
        · simp only [if_neg q]
          have b1 := h1 (i + 1) (by omega)
          have b2 := h2 a (i + 1) (by omega) (by omega)
          omega) (by
        intro i j hij hj
        by_cases q : i < a
        · by_cases r : j < a
          · simp only [if_pos q, if_pos r]
            exact h2 i j hij (by omega)
          · simp only [if_pos q, if_neg r]
            exact h2 i (j + 1) (by omega) (by omega)
        · have r : ¬ j < a := by omega
          simp only [if_neg q, if_neg r]
          exact h2 (i + 1) (j + 1) (by omega) (by omega))
      omega
    · have hg := ih n f (fun i hi => by
        have b1 := h1 i hi
        have b2 : f i ≠ m := fun e => hx ⟨i, hi, e⟩
        omega) h2
      omega
/-! ways through unseen cells -/
def gw_no (w h c : Nat) : Nat → Option Nat
  | 0 => if 0 < c / w then some (c - w) else none
  | 1 => if 0 < c % w then some (c - 1) else none
  | 2 => if c % w < w - 1 then some (c + 1) else none
  | _ => if c / w < h - 1 then some (c + w) else none
def gw_dI (o : Option Nat) : Int32 := match o with
  | some c => nI c
  | none => -1
theorem gw_be_no (w h c i : Nat) : gw_be w h c i = gw_dI (gw_no w h c i) := by
  match i with
  | 0 => simp only [gw_be, gw_no]; split <;> rfl
  | 1 => simp only [gw_be, gw_no]; split <;> rfl
  | 2 => simp only [gw_be, gw_no]; split <;> rfl
  | i + 3 => simp only [gw_be, gw_no]; split <;> rfl
theorem gw_dI_none {o : Option Nat} (h : ∀ c, o = some c → c < 2147483648) : gw_dI o = -1 ↔ o = none := by
  cases o with
  | none => simp [gw_dI]
  | some c =>
    have hc := h c rfl
    simp only [gw_dI, reduceCtorEq, iff_false]
    intro q
    have q2 := congrArg Int32.toInt q
    rw [mj_nI c hc] at q2
    have : (-1 : Int32).toInt = -1 := by decide
    omega
/-- a way of just so many steps from a cell, through cells of a kind -/
def gw_R (w h : Nat) (U : Nat → Bool) (a : Nat) : Nat → Nat → Prop
  | 0, c => c = a ∧ U c = true
  | k + 1, c => U c = true ∧ ∃ x i, i < 4 ∧ gw_R w h U a k x ∧ gw_no w h x i = some c
/-- the steps from a cell are told: to those that are reached the fewest, the others are as they were -/
def gw_Sp (w h : Nat) (U : Nat → Bool) (a : Nat) (D0 D : Nat → Option Nat) : Prop :=
  (∀ c, (∃ k, gw_R w h U a k c) → ∃ k, D c = some k ∧ gw_R w h U a k c ∧ ∀ j, gw_R w h U a j c → k ≤ j) ∧ ∀ c, ¬ (∃ k, gw_R w h U a k c) → D c = D0 c
/-- while it goes on: the queue (cells qs, their steps dq, wt of them, hd done, m sides of the next one) -/
def gw_bf (w h : Nat) (U : Nat → Bool) (a : Nat) (D0 D : Nat → Option Nat) (qs dq : Nat → Nat) (wt hd m : Nat) : Prop :=
  (∀ i, i < wt → qs i < w * h ∧ U (qs i) = true ∧ D (qs i) = some (dq i) ∧ gw_R w h U a (dq i) (qs i)) ∧
  (∀ i j, i < j → j < wt → qs i ≠ qs j) ∧ (∀ c, (∀ i, i < wt → qs i ≠ c) → D c = D0 c) ∧
  (∀ i j, i ≤ j → j < wt → dq i ≤ dq j) ∧ (∀ j, j < wt → hd < wt → dq j ≤ dq hd + 1) ∧ hd ≤ wt ∧ (U a = true → 0 < wt ∧ qs 0 = a ∧ dq 0 = 0) ∧
  ∀ i e y, i < wt → e < 4 → (i < hd ∨ (i = hd ∧ e < m)) → gw_no w h (qs i) e = some y → U y = true → ∃ j, j < wt ∧ qs j = y ∧ dq j ≤ dq i + 1
theorem gw_bf_0 {w h : Nat} {U : Nat → Bool} {a : Nat} {D0 : Nat → Option Nat} {qs dq : Nat → Nat} (ha : U a = false) : gw_bf w h U a D0 D0 qs dq 0 0 0 :=
  ⟨fun i hi => absurd hi (Nat.not_lt_zero _), fun i j _ hj => absurd hj (Nat.not_lt_zero _), fun c _ => rfl, fun i j _ hj => absurd hj (Nat.not_lt_zero _), fun j hj => absurd hj (Nat.not_lt_zero _), Nat.le_refl _, fun q => (by rw [ha] at q; cases q), fun i e y hi => absurd hi (Nat.not_lt_zero _)⟩
theorem gw_bf_1 {w h : Nat} {U : Nat → Bool} {a : Nat} {D0 : Nat → Option Nat} (ha : U a = true) (hw : a < w * h) : gw_bf w h U a D0 (va_up D0 a (some 0)) (fun _ => a) (fun _ => 0) 1 0 0 :=
  ⟨fun i hi => ⟨hw, ha, va_up_self _ _ _, rfl, ha⟩, fun i j h1 h2 => by omega, fun c hc => va_up_ne _ _ (fun e => hc 0 (by decide) e.symm), fun _ _ _ _ => Nat.le_refl _, fun _ _ _ => Nat.zero_le _, by omega, fun _ => ⟨by decide, rfl, rfl⟩, fun i e y hi he hc _ _ => by omega⟩
theorem gw_bf_skip {w h : Nat} {U : Nat → Bool} {a : Nat} {D0 D : Nat → Option Nat} {qs dq : Nat → Nat} {wt hd m : Nat} (hb : gw_bf w h U a D0 D qs dq wt hd m) (hhd : hd < wt) (hU : ∀ c, U c = true → D0 c = none) (hs : ∀ y, gw_no w h (qs hd) m = some y → U y = true → D y ≠ none) : gw_bf w h U a D0 D qs dq wt hd (m + 1) := by
  obtain ⟨b1, b2, b3, b4, b5, b6, b7, b8⟩ := hb
  refine ⟨b1, b2, b3, b4, b5, b6, b7, fun i e y hi he hc hn hu => ?_⟩
  by_cases q : i < hd ∨ (i = hd ∧ e < m)
  · exact b8 i e y hi he q hn hu
  · have e1 : i = hd := by omega
    have e2 : e = m := by omega
    subst e1; subst e2
    apply Classical.byContradiction
    intro hx
    apply hs y hn hu
    rw [b3 y (fun j hj e => hx ⟨j, hj, e, b5 j hj hhd⟩)]
    exact hU y hu
theorem gw_bf_new {w h : Nat} {U : Nat → Bool} {a : Nat} {D0 D : Nat → Option Nat} {qs dq : Nat → Nat} {wt hd m y : Nat} (hb : gw_bf w h U a D0 D qs dq wt hd m) (hhd : hd < wt) (hm : m < 4) (hn : gw_no w h (qs hd) m = some y) (hy : U y = true) (hw : y < w * h) (hD : D y = none) :
    gw_bf w h U a D0 (va_up D y (some (dq hd + 1))) (va_up qs wt y) (va_up dq wt (dq hd + 1)) (wt + 1) hd (m + 1) := by
  obtain ⟨b1, b2, b3, b4, b5, b6, b7, b8⟩ := hb
  have hne : ∀ i, i < wt → qs i ≠ y := fun i hi e => by have := (b1 i hi).2.2.1; rw [e, hD] at this; cases this
  have hq : ∀ i, i < wt → va_up qs wt y i = qs i := fun i hi => va_up_ne _ _ (by omega)
  have hdq : ∀ i, i < wt → va_up dq wt (dq hd + 1) i = dq i := fun i hi => va_up_ne _ _ (by omega)
  refine ⟨fun i hi => ?_, fun i j hij hj => ?_, fun c hc => ?_, fun i j hij hj => ?_, fun j hj _ => ?_, by omega, fun hua => ?_, fun i e z hi he hc hz hu => ?_⟩
  · rcases Nat.lt_succ_iff_lt_or_eq.mp hi with q | q
    · rw [hq i q, hdq i q]
      obtain ⟨c1, c2, c3, c4⟩ := b1 i q
      exact ⟨c1, c2, by rw [va_up_ne _ _ (hne i q)]; exact c3, c4⟩
    · subst q
      have e1 : va_up qs i y i = y := va_up_self _ _ _
      have e2 : va_up dq i (dq hd + 1) i = dq hd + 1 := va_up_self _ _ _
      rw [e1, e2]
      exact ⟨hw, hy, va_up_self _ _ _, hy, qs hd, m, hm, (b1 hd hhd).2.2.2, hn⟩
  · rcases Nat.lt_succ_iff_lt_or_eq.mp hj with q | q
    · rw [hq i (by omega), hq j q]; exact b2 i j hij q
    · subst q
      rw [hq i (by omega), va_up_self]; exact hne i (by omega)
  · have hcy : c ≠ y := fun e => hc wt (by omega) (by rw [va_up_self]; exact e.symm)
    rw [va_up_ne _ _ hcy]
    exact b3 c (fun i hi e => hc i (by omega) (by rw [hq i hi]; exact e))
  · rcases Nat.lt_succ_iff_lt_or_eq.mp hj with q | q
    · rw [hdq i (by omega), hdq j q]; exact b4 i j hij q
    · subst q
      rw [va_up_self]
      rcases Nat.lt_or_ge i j with q2 | q2
      · rw [hdq i q2]; exact b5 i q2 hhd
      · have : i = j := by omega
        subst this; rw [va_up_self]; exact Nat.le_refl _
  · rw [hdq hd hhd]
    rcases Nat.lt_succ_iff_lt_or_eq.mp hj with q | q
    · rw [hdq j q]; exact b5 j q hhd
    · subst q; rw [va_up_self]; exact Nat.le_refl _
  · obtain ⟨c1, c2, c3⟩ := b7 hua
    exact ⟨by omega, by rw [hq 0 c1]; exact c2, by rw [hdq 0 c1]; exact c3⟩
  · have hiw : i < wt := by omega
    rw [hq i hiw] at hz
    by_cases q : i < hd ∨ (i = hd ∧ e < m)
    · obtain ⟨j, hj, c1, c2⟩ := b8 i e z hiw he q hz hu
      exact ⟨j, by omega, by rw [hq j hj]; exact c1, by rw [hdq j hj, hdq i hiw]; exact c2⟩
    · have e1 : i = hd := by omega
      have e2 : e = m := by omega
      subst e1; subst e2
      rw [hn] at hz
      cases hz
      exact ⟨wt, by omega, va_up_self _ _ _, by rw [va_up_self, hdq i hiw]; exact Nat.le_refl _⟩
theorem gw_bf_next {w h : Nat} {U : Nat → Bool} {a : Nat} {D0 D : Nat → Option Nat} {qs dq : Nat → Nat} {wt hd : Nat} (hb : gw_bf w h U a D0 D qs dq wt hd 4) (hhd : hd < wt) : gw_bf w h U a D0 D qs dq wt (hd + 1) 0 := by
  obtain ⟨b1, b2, b3, b4, b5, b6, b7, b8⟩ := hb
  exact ⟨b1, b2, b3, b4, fun j hj hh => Nat.le_trans (b5 j hj hhd) (Nat.add_le_add_right (b4 hd (hd + 1) (by omega) hh) 1), by omega, b7, fun i e y hi he hc hn hu => b8 i e y hi he (by omega) hn hu⟩
theorem gw_bf_wt {w h : Nat} {U : Nat → Bool} {a : Nat} {D0 D : Nat → Option Nat} {qs dq : Nat → Nat} {wt hd m : Nat} (hb : gw_bf w h U a D0 D qs dq wt hd m) : wt ≤ w * h := fb_holes (w * h) wt qs (fun i hi => (hb.1 i hi).1) hb.2.1
theorem gw_bf_end {w h : Nat} {U : Nat → Bool} {a : Nat} {D0 D : Nat → Option Nat} {qs dq : Nat → Nat} {wt m : Nat} (hb : gw_bf w h U a D0 D qs dq wt wt m) : gw_Sp w h U a D0 D := by
  obtain ⟨b1, b2, b3, b4, b5, b6, b7, b8⟩ := hb
  have key : ∀ k c, gw_R w h U a k c → ∃ j, j < wt ∧ qs j = c ∧ dq j ≤ k := by
    intro k
    induction k with
    | zero =>
      rintro c ⟨rfl, hc⟩
      obtain ⟨c1, c2, c3⟩ := b7 hc
      exact ⟨0, c1, c2, by omega⟩
    | succ k ih =>
      rintro c ⟨hc, x, i, hi, hx, hn⟩
      obtain ⟨j, hj, c1, c2⟩ := ih x hx
      subst c1
      obtain ⟨j2, e1, e2, e3⟩ := b8 j i c hj hi (.inl hj) hn hc
      exact ⟨j2, e1, e2, by omega⟩
  refine ⟨fun c ⟨k, hk⟩ => ?_, fun c hc => b3 c (fun i hi e => hc ⟨dq i, by rw [← e]; exact (b1 i hi).2.2.2⟩)⟩
  obtain ⟨j, hj, c1, c2⟩ := key k c hk
  subst c1
  refine ⟨dq j, (b1 j hj).2.2.1, (b1 j hj).2.2.2, fun k2 hk2 => ?_⟩
  obtain ⟨j2, hj2, e1, e2⟩ := key k2 (qs j) hk2
  have : j2 = j := by
    apply Classical.byContradiction
    intro q
    rcases Nat.lt_or_ge j2 j with q2 | q2
    · exact b2 j2 j q2 hj e1
    · exact b2 j j2 (by omega) hj2 e1.symm
  subst this
  exact e2
theorem gw_no_lt {w h c i y : Nat} (hd : gw_dim w h) (hc : c < w * h) (hn : gw_no w h c i = some y) : y < w * h := by
  have hw1 := hd.1
  have hh1 := hd.2.2.1
  have hdm := Nat.div_add_mod c w
  have hm : c % w < w := Nat.mod_lt _ (by omega)
  have hq : c / w < h := Nat.div_lt_of_lt_mul hc
  match i with
  | 0 => simp only [gw_no] at hn; split at hn <;> simp at hn; omega
  | 1 => simp only [gw_no] at hn; split at hn <;> simp at hn; omega
  | 2 =>
    simp only [gw_no] at hn
    split at hn
    · rename_i q
      simp at hn
      have h2 : w * (c / w) + w ≤ w * h := by rw [← Nat.mul_succ]; exact Nat.mul_le_mul_left w hq
      omega
    · simp at hn
  | i + 3 =>
    simp only [gw_no] at hn
    split at hn
    · rename_i q
      simp at hn
      have h2 : w * (c / w + 2) ≤ w * h := Nat.mul_le_mul_left w (by omega)
      rw [Nat.mul_add] at h2
      omega
    · simp at hn
