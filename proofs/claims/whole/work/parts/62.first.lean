/-! the first choice: the pure part -/
/-! the first choice: the sets in their order -/
def gw_lx (z u : Int32) : Prop := ∃ i, i < 32 ∧ bt z i = true ∧ bt u i = false ∧ ∀ j, j < i → bt z j = bt u j
theorem gw_lx_asym {z u : Int32} (h1 : gw_lx z u) (h2 : gw_lx u z) : False := by
  obtain ⟨i, -, a1, a2, a3⟩ := h1
  obtain ⟨j, -, b1, b2, b3⟩ := h2
  rcases Nat.lt_or_ge i j with q | q
  · have := b3 i q; rw [a1, a2] at this; cases this
  · rcases Nat.lt_or_ge j i with q2 | q2
    · have := a3 j q2; rw [b1, b2] at this; cases this
    · have : i = j := by omega
      subst this; rw [a1] at b2; cases b2
theorem gw_lx_tr {z t u : Int32} (h1 : gw_lx z t) (h2 : gw_lx t u) : gw_lx z u := by
  obtain ⟨i, hi, a1, a2, a3⟩ := h1
  obtain ⟨j, hj, b1, b2, b3⟩ := h2
  rcases Nat.lt_or_ge i j with q | q
  · exact ⟨i, hi, a1, by rw [← b3 i q]; exact a2, fun x hx => (a3 x hx).trans (b3 x (by omega))⟩
  · rcases Nat.lt_or_ge j i with q2 | q2
    · exact ⟨j, hj, by rw [a3 j q2]; exact b1, b2, fun x hx => (a3 x (by omega)).trans (b3 x hx)⟩
    · have : i = j := by omega
      subst this; rw [a2] at b1; cases b1
theorem gw_lx_tot {z u : Int32} (h : z ≠ u) : gw_lx z u ∨ gw_lx u z := by
  have hx : ∃ i, i < 32 ∧ bt z i ≠ bt u i := by
    apply Classical.byContradiction
    intro q
    apply h
    refine b_ext (fun i hi => ?_)
    apply Classical.byContradiction
    exact fun q2 => q ⟨i, hi, q2⟩
  obtain ⟨i, ⟨hi, hne⟩, hmin⟩ := pk_least (fun i => i < 32 ∧ bt z i ≠ bt u i) hx
  have hl : ∀ j, j < i → bt z j = bt u j := fun j hj => by
    apply Classical.byContradiction
    exact fun q => hmin j hj ⟨by omega, q⟩
  cases e1 : bt z i with
  | true =>
    cases e2 : bt u i with
    | true => rw [e1, e2] at hne; exact absurd rfl hne
    | false => exact .inl ⟨i, hi, e1, e2, hl⟩
  | false =>
    cases e2 : bt u i with
    | true => exact .inr ⟨i, hi, e2, e1, fun j hj => (hl j hj).symm⟩
    | false => rw [e1, e2] at hne; exact absurd rfl hne
theorem b_neg (x : Int32) {i : Nat} (hi : i < 32) : bt (-x) i = (bt x i ^^ decide (∃ j, j < i ∧ bt x j = true)) := by
  unfold bt
  rw [Int32.toBitVec_neg, BitVec.getLsbD_neg]
  simp [hi]
theorem gw_isf {z u : Int32} : (¬ ((z &&& (z ^^^ u)) &&& (-(z ^^^ u))) = 0) ↔ gw_lx z u := by
  rw [gw_and0]
  constructor
  · intro h
    have hx : ∃ k, k < 32 ∧ bt (z &&& (z ^^^ u)) k = true ∧ bt (-(z ^^^ u)) k = true := by
      apply Classical.byContradiction
      intro q
      apply h
      exact fun k hk z => q ⟨k, hk, z.1, z.2⟩
    obtain ⟨k, hk, h1, h2⟩ := hx
    rw [b_and, b_xor, Bool.and_eq_true] at h1
    rw [b_neg _ hk, b_xor] at h2
    obtain ⟨h3, h4⟩ := h1
    have h5 : bt u k = false := by rw [h3] at h4; simpa using h4
    rw [h4] at h2
    have h6 : ¬ ∃ j, j < k ∧ bt (z ^^^ u) j = true := by simpa using h2
    refine ⟨k, hk, h3, h5, fun j hj => ?_⟩
    apply Classical.byContradiction
    intro q
    apply h6
    refine ⟨j, hj, ?_⟩
    rw [b_xor]
    cases e1 : bt z j <;> cases e2 : bt u j <;> simp_all
  · rintro ⟨k, hk, h1, h2, h3⟩ h
    refine h k hk ⟨?_, ?_⟩
    · rw [b_and, b_xor, h1, h2]; rfl
    · rw [b_neg _ hk, b_xor, h1, h2]
      have : ¬ ∃ j, j < k ∧ bt (z ^^^ u) j = true := by
        rintro ⟨j, hj, q⟩
        rw [b_xor, h3 j hj] at q
        simp at q
      simp [this]
theorem gw_cn_set {p q : Nat → Bool} {i : Nat} (hq : ∀ k, q k = (p k || decide (k = i))) (hp : p i = false) : ∀ {N : Nat}, i < N → gw_cn q N = gw_cn p N + 1
  | 0, h => absurd h (Nat.not_lt_zero _)
  | N + 1, h => by
    simp only [gw_cn]
    by_cases e : i = N
    · subst e
      have e1 : gw_cn q i = gw_cn p i := gw_cn_cg (fun k hk => by rw [hq k]; simp; omega)
      rw [e1, hq i, hp]; simp
    · have := gw_cn_set hq hp (N := N) (by omega)
      rw [this, hq N]
      have : decide (N = i) = false := by simp; omega
      rw [this, Bool.or_false]; omega
theorem gw_cn_0 {p : Nat → Bool} : ∀ {N : Nat}, gw_cn p N = 0 → ∀ k, k < N → p k = false
  | 0, _, k, hk => absurd hk (Nat.not_lt_zero _)
  | N + 1, h, k, hk => by
    simp only [gw_cn] at h
    by_cases e : k = N
    · subst e
      cases hp : p k with
      | false => rfl
      | true => rw [hp] at h; simp at h
    · exact gw_cn_0 (N := N) (by omega) k (by omega)
theorem gw_cn_f {p : Nat → Bool} : ∀ {N : Nat}, (∀ k, k < N → p k = false) → gw_cn p N = 0
  | 0, _ => rfl
  | N + 1, h => by simp only [gw_cn]; rw [gw_cn_f (N := N) (fun k hk => h k (by omega)), h N (by omega)]; rfl
theorem gw_E_mem : ∀ {j i m : Nat} {t : Int32}, i + j ≤ 14 → (t ∈ gw_E j i m ↔ ((∀ x, bt t x = true → i ≤ x ∧ x < i + j) ∧ gw_cn (bt t) 14 = m)) := by
  have z0 : gw_cn (bt 0) 14 = 0 := gw_cn_f (fun k _ => b_0 k)
  have single : ∀ (i j : Nat) (t : Int32), i + j ≤ 14 → (t ∈ [(0 : Int32)] ↔ ((∀ x, bt t x = true → i ≤ x ∧ x < i + j) ∧ gw_cn (bt t) 14 = 0)) := by
    intro i j t hij
    rw [List.mem_singleton]
    constructor
    · rintro rfl
      exact ⟨fun x hx => (by rw [b_0] at hx; cases hx), z0⟩
    · rintro ⟨h1, h2⟩
      refine b_ext (fun x hx => ?_)
      rw [b_0]
      cases e : bt t x with
      | false => rfl
      | true => have := h1 x e; rw [gw_cn_0 h2 x (by omega)] at e; cases e
  intro j
  induction j with
  | zero =>
    intro i m t hij
    cases m with
    | zero => rw [gw_E_0]; exact single i 0 t hij
    | succ m =>
      rw [gw_E_none (by omega)]
      constructor
      · intro h; cases h
      · rintro ⟨h1, h2⟩
        have : gw_cn (bt t) 14 = 0 := gw_cn_f (fun k _ => by
          cases e : bt t k with
          | false => rfl
          | true => have := h1 k e; omega)
        omega
  | succ j ih =>
    intro i m t hij
    cases m with
    | zero => rw [gw_E_0]; exact single i (j + 1) t hij
    | succ m =>
      rw [gw_E_s, List.mem_append, List.mem_map]
      constructor
      · rintro (⟨t2, h2, rfl⟩ | h2)
        · obtain ⟨a1, a2⟩ := (ih (by omega)).mp h2
          have hb : ∀ x, bt (gw_bit i ||| t2) x = (bt t2 x || decide (x = i)) := fun x => by rw [b_or, gw_bt_bit (by omega), Bool.or_comm]
          refine ⟨fun x hx => ?_, ?_⟩
          · rw [hb x, Bool.or_eq_true] at hx
            rcases hx with q | q
            · have := a1 x q; omega
            · have := of_decide_eq_true q; omega
          · rw [gw_cn_set (p := bt t2) (i := i) hb (by
              cases e : bt t2 i with
              | false => rfl
              | true => have := a1 i e; omega) (by omega), a2]
        · obtain ⟨a1, a2⟩ := (ih (by omega)).mp h2
          exact ⟨fun x hx => by have := a1 x hx; omega, a2⟩
      · rintro ⟨h1, h2⟩
        cases e : bt t i with
        | true =>
          left
          have hb : ∀ x, x < 32 → bt (t &&& (gw_bit i ^^^ (-1))) x = (bt t x && !decide (x = i)) := fun x hx => by
            rw [b_and, b_xor, gw_bt_bit (by omega), b_m1 x hx]; simp
          have hb2 : ∀ x, bt (t &&& (gw_bit i ^^^ (-1))) x = (bt t x && !decide (x = i)) := fun x => by
            rcases Nat.lt_or_ge x 32 with q | q
            · exact hb x q
            · rw [b_big q, b_big q]; rfl
          have hor : gw_bit i ||| (t &&& (gw_bit i ^^^ (-1))) = t := b_ext (fun x hx => by
            rw [b_or, gw_bt_bit (by omega), hb x hx]
            by_cases q : x = i
            · subst q; rw [e]; simp
            · simp [q])
          refine ⟨t &&& (gw_bit i ^^^ (-1)), (ih (by omega)).mpr ⟨fun x hx => ?_, ?_⟩, hor⟩
          · rw [hb2 x, Bool.and_eq_true] at hx
            have := h1 x hx.1
            have q : x ≠ i := by simpa using hx.2
            omega
          · have := gw_cn_set (p := bt (t &&& (gw_bit i ^^^ (-1)))) (q := bt t) (i := i) (fun x => by
              rw [hb2 x]
              by_cases q : x = i
              · subst q; rw [e]; simp
              · simp [q]) (by rw [hb2 i]; simp) (N := 14) (by omega)
            omega
        | false =>
          right
          refine (ih (by omega)).mpr ⟨fun x hx => ?_, h2⟩
          have := h1 x hx
          have q : x ≠ i := fun q => by rw [q, e] at hx; cases hx
          omega
theorem gw_E_pw : ∀ {j i m : Nat}, i + j ≤ 14 → (gw_E j i m).Pairwise gw_lx := by
  intro j
  induction j with
  | zero =>
    intro i m _
    cases m with
    | zero => rw [gw_E_0]; simp
    | succ m => rw [gw_E_none (by omega)]; exact List.Pairwise.nil
  | succ j ih =>
    intro i m hij
    cases m with
    | zero => rw [gw_E_0]; simp
    | succ m =>
      have hb : ∀ (t : Int32) (x : Nat), bt (gw_bit i ||| t) x = (decide (x = i) || bt t x) := fun t x => by rw [b_or, gw_bt_bit (by omega)]
      rw [gw_E_s, List.pairwise_append, List.pairwise_map]
      refine ⟨(ih (by omega)).imp_of_mem (fun {a b} ha hb2 hab => ?_), ih (by omega), fun a ha b hb2 => ?_⟩
      · obtain ⟨k, hk, a1, a2, a3⟩ := hab
        have hka := ((gw_E_mem (by omega)).mp ha).1 k a1
        refine ⟨k, hk, by rw [hb, a1]; simp, by rw [hb, a2]; simp; omega, fun x hx => by rw [hb, hb, a3 x hx]⟩
      · obtain ⟨t, ht, rfl⟩ := List.mem_map.mp ha
        have h1 := ((gw_E_mem (by omega)).mp ht).1
        have h2 := ((gw_E_mem (by omega)).mp hb2).1
        have no : ∀ (u : Int32), (∀ x, bt u x = true → i + 1 ≤ x ∧ x < i + 1 + j) → ∀ x, x ≤ i → bt u x = false := fun u hu x hx => by
          cases e : bt u x with
          | false => rfl
          | true => have := hu x e; omega
        exact ⟨i, by omega, by rw [hb]; simp, no b h2 i (Nat.le_refl _), fun x hx => by rw [hb, no t h1 x (by omega), no b h2 x (by omega)]; simp; omega⟩
theorem gw_0or (z : Int32) : 0 ||| z = z := b_ext (fun i _ => by rw [b_or, b_0, Bool.false_or])
theorem gw_pr_pos {w h n : Nat} {s : Nat → Int32} : ∀ (L : List Int32) (a : Int32) (c : Nat), gw_pr w h n s 0 L (a, c + 1) = (a, c + 1 + (L.filter (gw_wa w h n s)).length)
  | [], a, c => rfl
  | t :: L, a, c => by
    show gw_pr w h n s 0 L (gw_s1 w h n s (a, c + 1) (0 ||| t)) = _
    rw [gw_0or, gw_s1]
    cases e : gw_wa w h n s t with
    | true =>
      rw [if_pos rfl, if_neg (by simp), gw_pr_pos L a (c + 1), List.filter_cons, if_pos e, List.length_cons]
      congr 1; omega
    | false => rw [if_neg (by decide), gw_pr_pos L a c, List.filter_cons, if_neg (by rw [e]; decide)]
theorem gw_pr_zero {w h n : Nat} {s : Nat → Int32} : ∀ (L : List Int32) (a : Int32), gw_pr w h n s 0 L (a, 0) = (((L.filter (gw_wa w h n s)).head?).getD a, (L.filter (gw_wa w h n s)).length)
  | [], a => rfl
  | t :: L, a => by
    show gw_pr w h n s 0 L (gw_s1 w h n s (a, 0) (0 ||| t)) = _
    rw [gw_0or, gw_s1]
    cases e : gw_wa w h n s t with
    | true =>
      rw [if_pos rfl, if_pos rfl, gw_pr_pos L t 0, List.filter_cons, if_pos e, List.length_cons]
      show (t, 0 + 1 + _) = (t, _ + 1)
      congr 1; omega
    | false => rw [if_neg (by decide), gw_pr_zero L a, List.filter_cons, if_neg (by rw [e]; decide)]
theorem gw_so_no {w h n : Nat} {s : Nat → Int32} : ∀ {m : Nat}, (∀ j, j < m → (gw_E n 0 j).filter (gw_wa w h n s) = []) → gw_so w h n s m = (gw_NONE, gw_NONE, 0)
  | 0, _ => rfl
  | m + 1, hm => by
    rw [gw_so, gw_so_no (m := m) (fun j hj => hm j (by omega)), if_pos rfl, gw_pr_zero, hm m (by omega)]
    rfl
theorem gw_so_at {w h n : Nat} {s : Nat → Int32} {m : Nat} {t : Int32} {L : List Int32} (h0 : ∀ j, j < m → (gw_E n 0 j).filter (gw_wa w h n s) = []) (hm : (gw_E n 0 m).filter (gw_wa w h n s) = t :: L) : gw_so w h n s (m + 1) = (nI m, t, (t :: L).length) := by
  rw [gw_so, gw_so_no h0, if_pos rfl, gw_pr_zero, hm]
  simp
theorem gw_cn_range (p : Nat → Bool) : ∀ N, ((List.range N).filter p).length = gw_cn p N
  | 0 => rfl
  | N + 1 => by
    rw [List.range_succ, List.filter_append, List.length_append, gw_cn_range p N, gw_cn]
    cases e : p N <;> simp [e]
/-! the model's search, in numbers -/
def gw_pn (v : Nat) : Nat := gw_cn (bt (nI v)) 14
def gw_m1 (A : Nat → Bool) (V mn t c : Nat) : Prop := t < V ∧ A t = true ∧ gw_pn t = mn ∧ (∀ v, v < V → A v = true → mn ≤ gw_pn v) ∧ (∀ v, v < V → A v = true → gw_pn v = mn → v ≠ t → gw_lx (nI t) (nI v)) ∧ c = gw_cn (fun v => A v && (gw_pn v == mn)) V
def gw_ms (A : Nat → Bool) (V : Nat) (fe fi ma : Int32) : Prop := ((∀ v, v < V → A v = false) ∧ fe = gw_NONE ∧ fi = gw_NONE ∧ ma = 0) ∨ ∃ mn t c, gw_m1 A V mn t c ∧ fe = nI mn ∧ fi = nI t ∧ ma = nI c
theorem gw_m0_yes {A : Nat → Bool} {V : Nat} (h0 : ∀ v, v < V → A v = false) (hA : A V = true) : gw_m1 A (V + 1) (gw_pn V) V 1 := by
  have key : ∀ v, v < V + 1 → A v = true → v = V := fun v hv q => by
    apply Classical.byContradiction
    intro e
    rw [h0 v (by omega)] at q; cases q
  refine ⟨by omega, hA, rfl, fun v hv q => by rw [key v hv q]; exact Nat.le_refl _, fun v hv q _ e => absurd (key v hv q) e, ?_⟩
  simp only [gw_cn]
  rw [gw_cn_f (fun k hk => by rw [h0 k hk]; rfl)]; simp [hA]
theorem gw_m1_no {A : Nat → Bool} {V mn t c : Nat} (h : gw_m1 A V mn t c) (hn : A V = false ∨ mn < gw_pn V) : gw_m1 A (V + 1) mn t c := by
  obtain ⟨a1, a2, a3, a4, a5, a6⟩ := h
  refine ⟨by omega, a2, a3, fun v hv q => ?_, fun v hv q e1 e2 => ?_, ?_⟩
  · by_cases e : v = V
    · subst e; rcases hn with z | z
      · rw [q] at z; cases z
      · omega
    · exact a4 v (by omega) q
  · by_cases e : v = V
    · subst e; rcases hn with z | z
      · rw [q] at z; cases z
      · omega
    · exact a5 v (by omega) q e1 e2
  · simp only [gw_cn]
    rw [a6, if_neg]
    · rfl
    · intro q
      simp only [Bool.and_eq_true, beq_iff_eq] at q
      rcases hn with z | z
      · rw [q.1] at z; cases z
      · omega
theorem gw_m1_less {A : Nat → Bool} {V mn t c : Nat} (h : gw_m1 A V mn t c) (hA : A V = true) (hl : gw_pn V < mn) : gw_m1 A (V + 1) (gw_pn V) V 1 := by
  obtain ⟨a1, a2, a3, a4, a5, a6⟩ := h
  refine ⟨by omega, hA, rfl, fun v hv q => ?_, fun v hv q e1 e2 => ?_, ?_⟩
  · by_cases e : v = V
    · subst e; exact Nat.le_refl _
    · have := a4 v (by omega) q; omega
  · have := a4 v (by omega) q; omega
  · simp only [gw_cn]
    rw [gw_cn_f (fun k hk => by
      cases e : A k with
      | false => rfl
      | true => have := a4 k hk e; simp; omega)]; simp [hA]
theorem gw_m1_first {A : Nat → Bool} {V mn t c : Nat} (h : gw_m1 A V mn t c) (hA : A V = true) (hl : gw_pn V = mn) (hx : gw_lx (nI V) (nI t)) : gw_m1 A (V + 1) mn V (c + 1) := by
  obtain ⟨a1, a2, a3, a4, a5, a6⟩ := h
  refine ⟨by omega, hA, hl, fun v hv q => ?_, fun v hv q e1 e2 => ?_, ?_⟩
  · by_cases e : v = V
    · subst e; omega
    · exact a4 v (by omega) q
  · by_cases e : v = t
    · subst e; exact hx
    · exact gw_lx_tr hx (a5 v (by omega) q e1 e)
  · simp only [gw_cn]
    rw [← a6]; simp [hA, hl]
theorem gw_m1_keep {A : Nat → Bool} {V mn t c : Nat} (hV : V < 2147483648) (h : gw_m1 A V mn t c) (hA : A V = true) (hl : gw_pn V = mn) (hx : ¬ gw_lx (nI V) (nI t)) : gw_m1 A (V + 1) mn t (c + 1) := by
  obtain ⟨a1, a2, a3, a4, a5, a6⟩ := h
  refine ⟨by omega, a2, a3, fun v hv q => ?_, fun v hv q e1 e2 => ?_, ?_⟩
  · by_cases e : v = V
    · subst e; omega
    · exact a4 v (by omega) q
  · by_cases e : v = V
    · subst e
      rcases gw_lx_tot (z := nI v) (u := nI t) (fun q => by have := (nI_inj hV (by omega)).mp q; omega) with z | z
      · exact absurd z hx
      · exact z
    · exact a5 v (by omega) q e1 e2
  · simp only [gw_cn]
    rw [← a6]; simp [hA, hl]
theorem gw_seek_eq {w h n : Nat} {s : Nat → Int32} (hn : n ≤ 14) {fe fi ma : Int32} (hs : gw_ms (fun v => gw_wa w h n s (nI v)) (2 ^ n) fe fi ma) : fe = (gw_sl w h n s).1 ∧ fi = (gw_sl w h n s).2.1 ∧ ma = nI (gw_sl w h n s).2.2 := by
  have h14 : 2 ^ n ≤ 2 ^ 14 := Nat.pow_le_pow_right (by decide) hn
  have h15 : (2 : Nat) ^ 14 = 16384 := by decide
  have inE : ∀ m (t : Int32), t ∈ gw_E n 0 m ↔ ∃ v, v < 2 ^ n ∧ t = nI v ∧ gw_pn v = m := by
    intro m t
    rw [gw_E_mem (by omega)]
    constructor
    · rintro ⟨h1, h2⟩
      obtain ⟨v, hv, e⟩ := (gw_has_lt hn).mp ((gw_has_iff hn).mpr (fun i h3 h4 => by
        cases e : bt t i with
        | false => rfl
        | true => have := h1 i e; omega))
      exact ⟨v, hv, e, by rw [gw_pn, ← e]; exact h2⟩
    · rintro ⟨v, hv, rfl, hp⟩
      refine ⟨fun x hx => ?_, hp⟩
      have hb := (gw_has_iff hn).mp ((gw_has_lt hn).mpr ⟨v, hv, rfl⟩)
      apply Classical.byContradiction
      intro q
      rcases Nat.lt_or_ge x 32 with z | z
      · rw [hb x (by omega) z] at hx; cases hx
      · rw [b_big z] at hx; cases hx
  rcases hs with ⟨h0, rfl, rfl, rfl⟩ | ⟨mn, t, c, ⟨a1, a2, a3, a4, a5, a6⟩, rfl, rfl, rfl⟩
  · have e : gw_sl w h n s = (gw_NONE, gw_NONE, 0) := gw_so_no (fun j _ => by
      rw [List.filter_eq_nil_iff]
      intro u hu
      obtain ⟨v, hv, rfl, -⟩ := (inE j u).mp hu
      rw [show gw_wa w h n s (nI v) = false from h0 v hv]; decide)
    rw [e]; exact ⟨rfl, rfl, rfl⟩
  · have hmn : mn ≤ 14 := by rw [← a3]; exact gw_cn_le _ _
    have hno : ∀ j, j < mn → (gw_E n 0 j).filter (gw_wa w h n s) = [] := fun j hj => by
      rw [List.filter_eq_nil_iff]
      intro u hu q
      obtain ⟨v, hv, rfl, hp⟩ := (inE j u).mp hu
      have := a4 v hv q
      omega
    have hmem : nI t ∈ (gw_E n 0 mn).filter (gw_wa w h n s) := List.mem_filter.mpr ⟨(inE mn _).mpr ⟨t, a1, rfl, a3⟩, a2⟩
    cases hL : (gw_E n 0 mn).filter (gw_wa w h n s) with
    | nil => rw [hL] at hmem; cases hmem
    | cons t2 L =>
      have hpw : (t2 :: L).Pairwise gw_lx := by rw [← hL]; exact (gw_E_pw (by omega)).sublist List.filter_sublist
      have ht2 : t2 = nI t := by
        apply Classical.byContradiction
        intro hne
        rw [hL] at hmem
        rcases List.mem_cons.mp hmem with q | q
        · exact hne q.symm
        · have h1 := List.rel_of_pairwise_cons hpw q
          have h2 : t2 ∈ (gw_E n 0 mn).filter (gw_wa w h n s) := by rw [hL]; simp
          obtain ⟨h3, h4⟩ := List.mem_filter.mp h2
          obtain ⟨v, hv, rfl, hp⟩ := (inE mn t2).mp h3
          exact gw_lx_asym h1 (a5 v hv h4 hp (fun e => hne (by rw [e])))
      have hlen : (t2 :: L).length = c := by
        rw [a6, ← gw_cn_range, ← hL, ← List.length_map (f := nI) (as := (List.range (2 ^ n)).filter _)]
        apply List.Perm.length_eq
        rw [List.perm_ext_iff_of_nodup]
        · intro u
          rw [List.mem_filter, inE, List.mem_map]
          constructor
          · rintro ⟨⟨v, hv, rfl, hp⟩, hq⟩
            exact ⟨v, List.mem_filter.mpr ⟨List.mem_range.mpr hv, by simp [hq, hp]⟩, rfl⟩
          · rintro ⟨v, hv, rfl⟩
            obtain ⟨h1, h2⟩ := List.mem_filter.mp hv
            simp only [Bool.and_eq_true, beq_iff_eq] at h2
            exact ⟨⟨v, List.mem_range.mp h1, rfl, h2.2⟩, h2.1⟩
        · rw [hL]
          exact hpw.imp (fun {a b} hab e => by subst e; exact gw_lx_asym hab hab)
        · rw [List.Nodup, List.pairwise_map]
          refine (List.nodup_range.filter _).imp_of_mem (fun {a b} ha hb hab e => hab ((nI_inj ?_ ?_).mp e))
          · have := List.mem_range.mp (List.mem_filter.mp ha).1; omega
          · have := List.mem_range.mp (List.mem_filter.mp hb).1; omega
      have e1 := gw_so_at hno hL
      have e2 : gw_sl w h n s = gw_so w h n s (mn + 1) := by
        have := gw_so_st (w := w) (h := h) (n := n) (s := s) (m := mn + 1) (by rw [e1]; simp) (14 - mn)
        rw [show mn + 1 + (14 - mn) = 15 by omega] at this
        exact this
      rw [e2, e1, ht2, ← hlen, ht2]
      exact ⟨rfl, rfl, rfl⟩
