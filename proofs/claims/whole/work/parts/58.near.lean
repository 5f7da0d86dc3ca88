/-! the model: ways, the pure part -/
/-- neighbours, as the model counts them -/
def gw_nb (w h a b : Nat) : Bool := (List.range 4).any fun i => gw_no w h a i == some b
theorem gw_nb_t {w h a b : Nat} : gw_nb w h a b = true ↔ ∃ i, i < 4 ∧ gw_no w h a i = some b := by simp [gw_nb, List.any_eq_true]
theorem gw_sq : ∀ i, i < 19 → ∀ j, j < 19 → ((((i : Nat) : Int) - 9) * (((i : Nat) : Int) - 9) + (((j : Nat) : Int) - 9) * (((j : Nat) : Int) - 9) = 1 ↔ ((i = 10 ∧ j = 9) ∨ (i = 8 ∧ j = 9) ∨ (i = 9 ∧ j = 10) ∨ (i = 9 ∧ j = 8))) := by decide +kernel
theorem gw_sq2 {x y : Int} (hx : -9 ≤ x ∧ x ≤ 9) (hy : -9 ≤ y ∧ y ≤ 9) : x * x + y * y = 1 ↔ ((x = 1 ∧ y = 0) ∨ (x = -1 ∧ y = 0) ∨ (x = 0 ∧ y = 1) ∨ (x = 0 ∧ y = -1)) := by
  obtain ⟨i, hi⟩ : ∃ i : Nat, x = (i : Int) - 9 := ⟨(x + 9).toNat, by omega⟩
  obtain ⟨j, hj⟩ : ∃ j : Nat, y = (j : Int) - 9 := ⟨(y + 9).toNat, by omega⟩
  subst hi; subst hj
  rw [gw_sq i (by omega) j (by omega)]
  omega
theorem gw_nb_iff {w h a b : Nat} (hd : gw_dim w h) (ha : a < w * h) (hb : b < w * h) : gw_nb w h a b = true ↔ ((a % w = b % w + 1 ∧ a / w = b / w) ∨ (a % w + 1 = b % w ∧ a / w = b / w) ∨ (a % w = b % w ∧ a / w = b / w + 1) ∨ (a % w = b % w ∧ a / w + 1 = b / w)) := by
  have hw1 := hd.1
  have row : ∀ r c, c < w → (w * r + c) / w = r ∧ (w * r + c) % w = c := fun r c hc => ⟨by rw [Nat.mul_add_div (by omega), Nat.div_eq_of_lt hc]; rfl, by rw [Nat.mul_add_mod]; exact Nat.mod_eq_of_lt hc⟩
  have ea := Nat.div_add_mod a w
  have eb := Nat.div_add_mod b w
  have ma : a % w < w := Nat.mod_lt _ (by omega)
  have mb : b % w < w := Nat.mod_lt _ (by omega)
  have qa : a / w < h := Nat.div_lt_of_lt_mul ha
  have qb : b / w < h := Nat.div_lt_of_lt_mul hb
  obtain ⟨r, er⟩ : ∃ r, r = a / w := ⟨_, rfl⟩
  obtain ⟨c, ec⟩ : ∃ c, c = a % w := ⟨_, rfl⟩
  obtain ⟨r2, er2⟩ : ∃ r, r = b / w := ⟨_, rfl⟩
  obtain ⟨c2, ec2⟩ : ∃ c, c = b % w := ⟨_, rfl⟩
  rw [← er, ← ec] at ea
  rw [← er2, ← ec2] at eb
  rw [← ec] at ma; rw [← ec2] at mb; rw [← er] at qa; rw [← er2] at qb
  rw [gw_nb_t, ← er, ← ec, ← er2, ← ec2]
  constructor
  · rintro ⟨i, hi, hn⟩
    match i, hi with
    | 0, _ =>
      simp only [gw_no] at hn
      rw [← er] at hn
      split at hn
      · rename_i q
        simp only [Option.some.injEq] at hn
        obtain ⟨r3, e3⟩ : ∃ r3, r = r3 + 1 := ⟨r - 1, by omega⟩
        have ey : b = w * r3 + c := by rw [← hn, ← ea, e3, Nat.mul_succ]; omega
        have h1 := row r3 c ma
        rw [← ey, ← er2, ← ec2] at h1
        omega
      · cases hn
    | 1, _ =>
      simp only [gw_no] at hn
      rw [← ec] at hn
      split at hn
      · rename_i q
        simp only [Option.some.injEq] at hn
        have ey : b = w * r + (c - 1) := by omega
        have h1 := row r (c - 1) (by omega)
        rw [← ey, ← er2, ← ec2] at h1
        omega
      · cases hn
    | 2, _ =>
      simp only [gw_no] at hn
      rw [← ec] at hn
      split at hn
      · rename_i q
        simp only [Option.some.injEq] at hn
        have ey : b = w * r + (c + 1) := by omega
        have h1 := row r (c + 1) (by omega)
        rw [← ey, ← er2, ← ec2] at h1
        omega
      · cases hn
    | 3, _ =>
      simp only [gw_no] at hn
      rw [← er] at hn
      split at hn
      · rename_i q
        simp only [Option.some.injEq] at hn
        have ey : b = w * (r + 1) + c := by rw [← hn, ← ea, Nat.mul_succ]; omega
        have h1 := row (r + 1) c ma
        rw [← ey, ← er2, ← ec2] at h1
        omega
      · cases hn
  · rintro (⟨q1, q2⟩ | ⟨q1, q2⟩ | ⟨q1, q2⟩ | ⟨q1, q2⟩)
    · refine ⟨1, by decide, ?_⟩
      simp only [gw_no]
      rw [← ec, if_pos (by omega)]
      congr 1
      rw [← ea, ← eb, q2]; omega
    · refine ⟨2, by decide, ?_⟩
      simp only [gw_no]
      rw [← ec, if_pos (by omega)]
      congr 1
      rw [← ea, ← eb, q2]; omega
    · refine ⟨0, by decide, ?_⟩
      simp only [gw_no]
      rw [← er, if_pos (by omega)]
      congr 1
      rw [← ea, ← eb, q2, Nat.mul_succ]; omega
    · refine ⟨3, by decide, ?_⟩
      simp only [gw_no]
      rw [← er, if_pos (by omega)]
      congr 1
      rw [← ea, ← eb, ← q2, Nat.mul_succ]; omega
theorem gw_nb32 {w h a b : Nat} (hd : gw_dim w h) (ha : a < w * h) (hb : b < w * h) : ((nI (a % w) - nI (b % w)) * (nI (a % w) - nI (b % w)) + (nI (a / w) - nI (b / w)) * (nI (a / w) - nI (b / w)) = 1) ↔ gw_nb w h a b = true := by
  have hw1 := hd.1
  have hw2 := hd.2.1
  have hh2 := hd.2.2.2
  have ma : a % w < w := Nat.mod_lt _ (by omega)
  have mb : b % w < w := Nat.mod_lt _ (by omega)
  have qa : a / w < h := Nat.div_lt_of_lt_mul ha
  have qb : b / w < h := Nat.div_lt_of_lt_mul hb
  rw [gw_nb_iff hd ha hb]
  generalize a % w = ca at *
  generalize b % w = cb at *
  generalize a / w = ra at *
  generalize b / w = rb at *
  have p1 := gw_prod (a := (ca : Int) - cb) (b := (ca : Int) - cb) (by omega) (by omega)
  have p2 := gw_prod (a := (ra : Int) - rb) (b := (ra : Int) - rb) (by omega) (by omega)
  have h2 := gw_sq2 (x := (ca : Int) - cb) (y := (ra : Int) - rb) (by omega) (by omega)
  simp only [iI_nI, iI_sub, iI_mul, iI_add]
  rw [show (1 : Int32) = iI 1 from rfl, iI_eq (by omega) (by omega), h2]
  omega
/-! the fewest steps -/
theorem gw_di_some {w h : Nat} {U : Nat → Bool} {a c k : Nat} : gw_di w h U a c = some k ↔ (gw_R w h U a k c ∧ ∀ j, j < k → ¬ gw_R w h U a j c) := by
  by_cases hx : ∃ k, gw_R w h U a k c
  · have hc := Classical.choose_spec (pk_least (fun k => gw_R w h U a k c) hx)
    rw [gw_di, dif_pos hx, Option.some.injEq]
    constructor
    · intro e; rw [← e]; exact hc
    · rintro ⟨h1, h2⟩
      apply Classical.byContradiction
      intro q
      rcases Nat.lt_or_gt_of_ne q with q2 | q2
      · exact h2 _ q2 hc.1
      · exact hc.2 _ q2 h1
  · rw [gw_di, dif_neg hx]
    constructor
    · intro e; cases e
    · rintro ⟨h1, -⟩; exact absurd ⟨k, h1⟩ hx
theorem gw_di_ex {w h : Nat} {U : Nat → Bool} {a c k : Nat} (hr : gw_R w h U a k c) : ∃ j, j ≤ k ∧ gw_di w h U a c = some j := by
  obtain ⟨j, h1, h2⟩ := pk_least (fun k => gw_R w h U a k c) ⟨k, hr⟩
  refine ⟨j, ?_, gw_di_some.mpr ⟨h1, h2⟩⟩
  apply Classical.byContradiction
  intro q
  exact h2 k (by omega) hr
theorem gw_di_none {w h : Nat} {U : Nat → Bool} {a c : Nat} : gw_di w h U a c = none ↔ ¬ gw_cc w h U a c := by
  constructor
  · rintro e ⟨k, hk⟩
    obtain ⟨j, -, hj⟩ := gw_di_ex hk
    rw [e] at hj; cases hj
  · intro hq
    cases e : gw_di w h U a c with
    | none => rfl
    | some k => exact absurd ⟨k, (gw_di_some.mp e).1⟩ hq
theorem gw_di_step {w h : Nat} {U : Nat → Bool} {a c d N : Nat} (h1 : gw_di w h U a c = some N) (hu : U d = true) (hn : gw_nb w h c d = true) : ∃ k, k ≤ N + 1 ∧ gw_di w h U a d = some k := by
  obtain ⟨i, hi, hno⟩ := gw_nb_t.mp hn
  exact gw_di_ex (k := N + 1) ⟨hu, c, i, hi, (gw_di_some.mp h1).1, hno⟩
theorem gw_di_back {w h : Nat} {U : Nat → Bool} {a d N : Nat} (h1 : gw_di w h U a d = some (N + 1)) : ∃ c, gw_di w h U a c = some N ∧ gw_nb w h c d = true ∧ U d = true := by
  obtain ⟨⟨hu, x, i, hi, hx, hno⟩, h3⟩ := gw_di_some.mp h1
  obtain ⟨j, hj, e⟩ := gw_di_ex hx
  have hjN : j = N := by
    apply Classical.byContradiction
    intro q
    exact h3 (j + 1) (by omega) ⟨hu, x, i, hi, (gw_di_some.mp e).1, hno⟩
  subst hjN
  exact ⟨x, e, gw_nb_t.mpr ⟨i, hi, hno⟩, hu⟩
theorem gw_di_U {w h : Nat} {U : Nat → Bool} {a c k : Nat} (h1 : gw_di w h U a c = some k) : U c = true := gw_R_U (gw_di_some.mp h1).1
/-- all up to a level are told -/
def gw_Lv (w h : Nat) (U : Nat → Bool) (a N : Nat) (F : Nat → Option Nat) : Prop := ∀ c k, F c = some k ↔ (gw_di w h U a c = some k ∧ k ≤ N)
/-- while the next level is told -/
def gw_wr (w h : Nat) (U : Nat → Bool) (a N : Nat) (F0 F : Nat → Option Nat) (mo : Bool) (dn : Nat → Nat → Prop) : Prop :=
  (∀ c k, F0 c = some k → F c = some k) ∧ (∀ c k, F c = some k → gw_di w h U a c = some k ∧ k ≤ N + 1) ∧
  (∀ c d, dn c d → gw_di w h U a c = some N → U d = true → gw_nb w h c d = true → F d ≠ none) ∧ (mo = true ↔ ∃ c, F c = some (N + 1))
theorem gw_Lv_0 {w h : Nat} {U : Nat → Bool} {a : Nat} (hu : ∀ c, U c = true → c < w * h) {F : Nat → Option Nat} (hF : ∀ c, F c = if c = a ∧ U c = true then some 0 else none) : gw_Lv w h U a 0 F := by
  intro c k
  rw [hF c]
  by_cases q : c = a ∧ U c = true
  · rw [if_pos q, Option.some.injEq]
    constructor
    · intro e; subst e
      exact ⟨gw_di_some.mpr ⟨q, fun j hj => absurd hj (Nat.not_lt_zero j)⟩, Nat.le_refl _⟩
    · rintro ⟨h1, h2⟩; omega
  · rw [if_neg q]
    constructor
    · intro e; cases e
    · rintro ⟨h1, h2⟩
      have : k = 0 := by omega
      subst this
      exact absurd (gw_di_some.mp h1).1 q
theorem gw_wr_0 {w h : Nat} {U : Nat → Bool} {a N : Nat} {F : Nat → Option Nat} (hL : gw_Lv w h U a N F) : gw_wr w h U a N F F false (fun _ _ => False) :=
  ⟨fun c k e => e, fun c k e => ⟨((hL c k).mp e).1, by have := ((hL c k).mp e).2; omega⟩, fun c d q => q.elim, ⟨fun q => (by cases q), fun ⟨c, q⟩ => by have := ((hL c (N + 1)).mp q).2; omega⟩⟩
theorem gw_wr_put {w h : Nat} {U : Nat → Bool} {a N : Nat} {F0 F : Nat → Option Nat} {mo : Bool} {dn dn' : Nat → Nat → Prop} {i j : Nat} (hL : gw_Lv w h U a N F0) (hw : gw_wr w h U a N F0 F mo dn) (hdn : ∀ c d, dn' c d → dn c d ∨ (c = i ∧ d = j)) (h1 : F i = some N) (h2 : F j = none) (h3 : U j = true) (h4 : gw_nb w h i j = true) : gw_wr w h U a N F0 (va_up F j (some (N + 1))) true dn' := by
  obtain ⟨a1, a2, a3, a4⟩ := hw
  have hd : gw_di w h U a j = some (N + 1) := by
    obtain ⟨k, hk, e⟩ := gw_di_step (a2 i N h1).1 h3 h4
    have : k = N + 1 := by
      apply Classical.byContradiction
      intro q
      have := a1 j k ((hL j k).mpr ⟨e, by omega⟩)
      rw [h2] at this; cases this
    rw [← this]; exact e
  refine ⟨fun c k e => ?_, fun c k e => ?_, fun c d hq e1 e2 e3 => ?_, ⟨fun _ => ⟨j, va_up_self _ _ _⟩, fun _ => rfl⟩⟩
  · by_cases q : c = j
    · subst q; have := a1 c k e; rw [h2] at this; cases this
    · rw [va_up_ne _ _ q]; exact a1 c k e
  · by_cases q : c = j
    · subst q; rw [va_up_self, Option.some.injEq] at e; rw [← e]; exact ⟨hd, Nat.le_refl _⟩
    · rw [va_up_ne _ _ q] at e; exact a2 c k e
  · by_cases q : d = j
    · subst q; rw [va_up_self]; simp
    · rw [va_up_ne _ _ q]
      rcases hdn c d hq with z | z
      · exact a3 c d z e1 e2 e3
      · exact absurd z.2 q
theorem gw_wr_no {w h : Nat} {U : Nat → Bool} {a N : Nat} {F0 F : Nat → Option Nat} {mo : Bool} {dn dn' : Nat → Nat → Prop} {i j : Nat} (hL : gw_Lv w h U a N F0) (hw : gw_wr w h U a N F0 F mo dn) (hdn : ∀ c d, dn' c d → dn c d ∨ (c = i ∧ d = j)) (hno : ¬ (F i = some N ∧ F j = none ∧ U j = true ∧ gw_nb w h i j = true)) : gw_wr w h U a N F0 F mo dn' := by
  obtain ⟨a1, a2, a3, a4⟩ := hw
  refine ⟨a1, a2, fun c d hq e1 e2 e3 => ?_, a4⟩
  rcases hdn c d hq with z | ⟨z1, z2⟩
  · exact a3 c d z e1 e2 e3
  · subst z1; subst z2
    intro q
    exact hno ⟨a1 c N ((hL c N).mpr ⟨e1, Nat.le_refl _⟩), q, e2, e3⟩
theorem gw_wr_end {w h : Nat} {U : Nat → Bool} {a N : Nat} {F0 F : Nat → Option Nat} {mo : Bool} {dn : Nat → Nat → Prop} (hu : ∀ c, U c = true → c < w * h) (hL : gw_Lv w h U a N F0) (hw : gw_wr w h U a N F0 F mo dn) (hdn : ∀ c d, c < w * h → d < w * h → dn c d) : gw_Lv w h U a (N + 1) F := by
  obtain ⟨a1, a2, a3, a4⟩ := hw
  intro c k
  constructor
  · exact a2 c k
  · rintro ⟨h1, h2⟩
    rcases Nat.lt_or_ge N k with q | q
    · have e : k = N + 1 := by omega
      subst e
      obtain ⟨x, e1, e2, e3⟩ := gw_di_back h1
      have hne := a3 x c (hdn x c (hu x (gw_di_U e1)) (hu c e3)) e1 e3 e2
      cases hF : F c with
      | none => exact absurd hF hne
      | some j =>
        have := (a2 c j hF).1
        rw [h1] at this
        exact this.symm
    · exact a1 c k ((hL c k).mpr ⟨h1, q⟩)
theorem gw_Lv_stop {w h : Nat} {U : Nat → Bool} {a N : Nat} {F : Nat → Option Nat} (hL : gw_Lv w h U a (N + 1) F) (hno : ¬ ∃ c, F c = some (N + 1)) : ∀ c, F c = gw_di w h U a c := by
  have key : ∀ m c, ¬ gw_di w h U a c = some (N + 1 + m) := by
    intro m
    induction m with
    | zero => exact fun c e => hno ⟨c, (hL c (N + 1)).mpr ⟨e, Nat.le_refl _⟩⟩
    | succ m ih =>
      intro c e
      obtain ⟨x, e1, -, -⟩ := gw_di_back (N := N + 1 + m) e
      exact ih x e1
  intro c
  cases hF : F c with
  | some k => exact ((hL c k).mp hF).1.symm
  | none =>
    cases hd : gw_di w h U a c with
    | none => rfl
    | some k =>
      exfalso
      rcases Nat.lt_or_ge (N + 1) k with q | q
      · exact key (k - (N + 1)) c (by rw [hd]; congr 1; omega)
      · have := (hL c k).mpr ⟨hd, q⟩
        rw [hF] at this; cases this
theorem gw_cn_lt {p q : Nat → Bool} (hpq : ∀ c, p c = true → q c = true) {x : Nat} (hx : q x = true) (hpx : p x = false) : ∀ {N : Nat}, x < N → gw_cn p N < gw_cn q N := by
  have le : ∀ N, gw_cn p N ≤ gw_cn q N := by
    intro N
    induction N with
    | zero => exact Nat.le_refl _
    | succ N ih =>
      simp only [gw_cn]
      by_cases z : p N = true
      · rw [if_pos z, if_pos (hpq N z)]; omega
      · rw [if_neg z]; omega
  intro N
  induction N with
  | zero => intro hN; omega
  | succ N ih =>
    intro hN
    simp only [gw_cn]
    by_cases e : x = N
    · subst e; have := le x; rw [if_neg (by rw [hpx]; decide), if_pos hx]; omega
    · have := ih (by omega)
      by_cases z : p N = true
      · rw [if_pos z, if_pos (hpq N z)]; omega
      · rw [if_neg z]; omega
theorem sp_Model_areNeighbours {X : mj_X} {d : Nat} {σ : mj_H} {Q : Value → mj_H → Prop} {w h kp rw : Nat} {tf fu fe fi ma md : Int32} (hO : σ.1 55 = gw_mo w h kp rw tf fu fe fi ma md) {a b : Nat} (ha : a < w * h) (hb : b < w * h) (hd : gw_dim w h) (k : Q (.int (mj_bI (gw_nb w h a b))) σ) : mj_M X d y_Model_areNeighbours [.ref 55, .int (nI a), .int (nI b)] σ (mj_V Q) := by
  have hw1 := hd.1
  have hw2 := hd.2.1
  have hwh := gw_dim_le hd
  have hw0 : ¬ nI w = 0 := nI_ne0 (by omega) (by omega)
  have hnb := gw_nb32 hd ha hb
  refine mw_in (l0 := [some (.ref 55), some (.int (nI a)), some (.int (nI b)), none, none]) rfl ?_
  refine mw_ld 1 i_Model_areNeighbours_0 rfl rfl rfl ?_
  refine mw_ld 2 i_Model_areNeighbours_1 rfl rfl rfl ?_
  refine mw_get 5 i_Model_areNeighbours_2 rfl (by assumption) (by rfl) ?_
  refine mw_d 6 i_Model_areNeighbours_5 rfl hw0 ?_
  rw [pk_rem (by omega) (by omega) (by omega)]
  refine mw_ld 7 i_Model_areNeighbours_6 rfl rfl rfl ?_
  refine mw_ld 8 i_Model_areNeighbours_7 rfl rfl rfl ?_
  refine mw_get 11 i_Model_areNeighbours_8 rfl (by assumption) (by rfl) ?_
  refine mw_d 12 i_Model_areNeighbours_11 rfl hw0 ?_
  rw [pk_rem (by omega) (by omega) (by omega)]
  refine mw_b 13 i_Model_areNeighbours_12 rfl ?_
  refine mw_st (ls' := [_, _, _, _, _]) 14 i_Model_areNeighbours_13 rfl rfl rfl rfl ?_
  refine mw_ld 15 i_Model_areNeighbours_14 rfl rfl rfl ?_
  refine mw_ld 16 i_Model_areNeighbours_15 rfl rfl rfl ?_
  refine mw_get 19 i_Model_areNeighbours_16 rfl (by assumption) (by rfl) ?_
  refine mw_d 20 i_Model_areNeighbours_19 rfl hw0 ?_
  rw [pk_div (by omega) (by omega) (by omega)]
  refine mw_ld 21 i_Model_areNeighbours_20 rfl rfl rfl ?_
  refine mw_ld 22 i_Model_areNeighbours_21 rfl rfl rfl ?_
  refine mw_get 25 i_Model_areNeighbours_22 rfl (by assumption) (by rfl) ?_
  refine mw_d 26 i_Model_areNeighbours_25 rfl hw0 ?_
  rw [pk_div (by omega) (by omega) (by omega)]
  refine mw_b 27 i_Model_areNeighbours_26 rfl ?_
  refine mw_st (ls' := [_, _, _, _, _]) 29 i_Model_areNeighbours_27 rfl rfl rfl rfl ?_
  refine mw_ld 30 i_Model_areNeighbours_29 rfl rfl rfl ?_
  refine mw_ld 31 i_Model_areNeighbours_30 rfl rfl rfl ?_
  refine mw_b 32 i_Model_areNeighbours_31 rfl ?_
  refine mw_ld 34 i_Model_areNeighbours_32 rfl rfl rfl ?_
  refine mw_ld 36 i_Model_areNeighbours_34 rfl rfl rfl ?_
  refine mw_b 37 i_Model_areNeighbours_36 rfl ?_
  refine mw_b 38 i_Model_areNeighbours_37 rfl ?_
  refine mw_k 39 i_Model_areNeighbours_38 rfl ?_
  refine mw_ic 42 i_Model_areNeighbours_39 rfl (fun h39 => ?_) (fun h39 => ?_)
  · refine mw_k 47 i_Model_areNeighbours_46 rfl ?_
    refine mw_ri i_Model_areNeighbours_47 rfl rfl ?_
    first
    | exact mj_q1 (hnb.mp (Classical.not_not.mp h39)) k
    | exact mj_q0 (by rw [Bool.eq_false_iff]; exact fun q => h39 (hnb.mpr q)) k
  · refine mw_k 43 i_Model_areNeighbours_42 rfl ?_
    refine mw_go i_Model_areNeighbours_43 ?_
    refine mw_ri i_Model_areNeighbours_47 rfl rfl ?_
    first
    | exact mj_q1 (hnb.mp (Classical.not_not.mp h39)) k
    | exact mj_q0 (by rw [Bool.eq_false_iff]; exact fun q => h39 (hnb.mpr q)) k
