/-! the rules of the stack, the locals and the ways, one by one -/
section MS1
variable {l : Launch} {G : mj_G} {d : Nat}
theorem mj_cat0 {v : Value} (h : mj_cat 0 v = true) : ∃ k, v = .int k := by cases v <;> simp [mj_cat] at h ⊢
theorem mj_cat1 {v : Value} (h : mj_cat 1 v = true) : ∃ k, v = .long k := by cases v <;> simp [mj_cat] at h ⊢
theorem mj_cat2 (G : mj_G) {v : Value} (h : mj_cat 2 v = true) : mj_cv G v = .null ∨ ∃ a, mj_cv G v = .ref a := by
  cases v with
  | null => exact .inl rfl
  | ref a => exact .inr ⟨_, rfl⟩
  | float z =>
    refine .inr ?_
    by_cases e : z = 0
    · exact ⟨G.2.1, by simp [mj_cv, e]⟩
    · exact ⟨G.2.2.1, by simp [mj_cv, e]⟩
  | int _ => simp [mj_cat] at h
  | long _ => simp [mj_cat] at h
  | double _ => simp [mj_cat] at h
  | retAddr _ => simp [mj_cat] at h
theorem mj_cat2c {v : Value} (h : mj_cat 2 v = true) : v.category = 1 := by
  cases v <;> first | rfl | simp [mj_cat] at h
theorem mj_s0 : ∀ y pc len v ls st σ r, mj_Kc y pc len v → mj_So l G d y (pc + len) ls (v :: st) σ r → mj_So l G d y pc ls st σ r := by
  intro y pc len v ls st σ r hk k
  refine mj_up (fun p e R s m args below meth c Q n0 cells slots H locs lsR hc hw hl hP hS w => ?_) k
  obtain ⟨hx, hb, hr, hml, hown, hts, -⟩ := hc
  rcases hk with ⟨n, hd, rfl, rfl⟩ | ⟨n, hd, rfl, rfl⟩ | ⟨n, hd, rfl, rfl⟩ | ⟨i, n, hd, rfl, rfl, hm⟩ | ⟨i, n, hd, rfl, rfl, hm⟩ | ⟨n, hd, rfl, rfl⟩ | ⟨i, n, hd, rfl, rfl, hm⟩ | ⟨hd, rfl, rfl⟩
  · exact lv_iconst hx hb hd rfl w
  · exact lv_bipush hx hb hd rfl w
  · exact lv_sipush hx hb hd rfl w
  · exact lv_ldc hx hb hown (hts _ hm) hd w
  · exact lv_ldcw hx hb hown (hts _ hm) hd w
  · exact lv_lconst hx hb hd rfl w
  · exact lv_ldc2 hx hb hown (hts _ hm) hd w
  · exact lv_null hx hb hd w
theorem mj_s1 : ∀ y pc len i c v ls st σ r, mj_Ld y pc len i c → ls[i]? = some (some v) → mj_cat c v = true → mj_So l G d y (pc + len) ls (v :: st) σ r → mj_So l G d y pc ls st σ r := by
  intro y pc len i ct v ls st σ r hk hi hcat k
  refine mj_up (fun p e R s m args below meth c Q n0 cells slots H locs lsR hc hw hl hP hS w => ?_) k
  obtain ⟨hx, hb, -⟩ := hc
  have hv := hl.2.2.2 i v hi
  have w : W p l e R s m args below meth c H locs cells slots Q (F0 m (pc + len) lsR (mj_cv G v :: st.map (mj_cv G))) := w
  rcases hk with ⟨rfl, hk⟩ | ⟨rfl, hk⟩ | ⟨rfl, hk⟩
  · obtain ⟨z, rfl⟩ := mj_cat0 hcat
    rcases hk with ⟨rfl, hd⟩ | ⟨rfl, f, hf, hd⟩
    · exact lv_iload hx hb hd hv w
    · exact lv_iload_n hx hb hd hf hv w
  · obtain ⟨z, rfl⟩ := mj_cat1 hcat
    rcases hk with ⟨rfl, hd⟩ | ⟨rfl, f, hf, hd⟩
    · exact lv_lload hx hb hd hv w
    · exact lv_lload_n hx hb hd hf hv w
  · rcases mj_cat2 G hcat with q | ⟨a, q⟩
    · rw [q] at hv w
      rcases hk with ⟨rfl, hd⟩ | ⟨rfl, f, hf, hd⟩
      · exact lv_aloadN hx hb hd hv w
      · exact lv_aload_nN hx hb hd hf hv w
    · rw [q] at hv w
      rcases hk with ⟨rfl, hd⟩ | ⟨rfl, f, hf, hd⟩
      · exact lv_aload hx hb hd hv w
      · exact lv_aload_n hx hb hd hf hv w
def mj_ll (G : mj_G) (ls : mj_L) : List (Nat × Value) := (List.range ls.length).filterMap fun i => (ls.getD i none).map fun v => (i, mj_cv G v)
theorem mj_ll_mem {ls : mj_L} {q : Nat × Value} : q ∈ mj_ll G ls ↔ ∃ v, ls[q.1]? = some (some v) ∧ q.2 = mj_cv G v := by
  obtain ⟨i, u⟩ := q
  simp only [mj_ll, List.mem_filterMap, List.mem_range]
  constructor
  · rintro ⟨j, hj, h⟩
    cases hg : ls.getD j none with
    | none => rw [hg] at h; cases h
    | some v =>
      rw [hg] at h
      cases h
      refine ⟨v, ?_, rfl⟩
      rw [List.getD_eq_getElem?_getD, List.getElem?_eq_getElem hj] at hg
      rw [List.getElem?_eq_getElem hj]
      exact congrArg some hg
  · rintro ⟨v, h, e⟩
    have hj := (List.getElem?_eq_some_iff.mp h).1
    refine ⟨i, hj, ?_⟩
    rw [List.getD_eq_getElem?_getD, h]
    simp only [Option.getD_some, Option.map_some]
    rw [← e]
theorem mj_lv_has {lsR : Array Slot} {nL : Nat} {ls : mj_L} (h : mj_lv G lsR nL ls) : lv_has lsR nL (mj_ll G ls) := by
  refine ⟨h.1, h.2.1, fun q hq => ?_⟩
  obtain ⟨v, h1, h2⟩ := mj_ll_mem.mp hq
  rw [h2]
  exact h.2.2.2 q.1 v h1
theorem mj_ok_lt {ls : mj_L} {i c : Nat} (h : mj_ok ls i c = true) : i < ls.length ∧ (c = 1 → i + 1 < ls.length) ∧ ∀ j v, j + 1 = i → ls[j]? = some (some v) → ¬ v.category = 2 := by
  simp only [mj_ok, Bool.and_eq_true, Bool.or_eq_true, beq_iff_eq, Bool.not_eq_true'] at h
  obtain ⟨h1, h2⟩ := h
  refine ⟨?_, ?_, ?_⟩
  · split at h1 <;> simp at h1 <;> omega
  · intro e
    rw [if_pos e] at h1
    simpa using h1
  · intro j v hj hv hcat
    rcases h2 with h2 | h2
    · omega
    · rw [show i - 1 = j by omega, hv] at h2
      simp [mj_isL, hcat] at h2
theorem mj_lv_st1 {lsR ls' : Array Slot} {nL i c : Nat} {v : Value} {ls : mj_L} (h : mj_lv G lsR nL ls) (ho : mj_ok ls i c = true) (hcat : v.category = 1)
    (h2 : lv_has ls' nL ((i, mj_cv G v) :: (mj_ll G ls).filter (fun q => !(q.1 == i) && !(q.1 + 1 == i && q.2.category == 2)))) : mj_lv G ls' nL (mj_set ls i v) := by
  obtain ⟨o1, o2, o3⟩ := mj_ok_lt ho
  have e : mj_set ls i v = ls.set i (some v) := by rw [mj_set, if_neg (by omega)]
  rw [e]
  refine ⟨h2.1, h2.2.1, by rw [List.length_set]; exact h.2.2.1, fun j u hj => ?_⟩
  by_cases q : i = j
  · subst q
    rw [List.getElem?_set_self o1] at hj
    cases hj
    exact h2.2.2 (i, mj_cv G v) List.mem_cons_self
  · rw [List.getElem?_set_ne q] at hj
    refine h2.2.2 (j, mj_cv G u) (List.mem_cons_of_mem _ (List.mem_filter.mpr ⟨mj_ll_mem.mpr ⟨u, hj, rfl⟩, ?_⟩))
    have q2 : ¬ j = i := fun z => q z.symm
    by_cases e1 : j + 1 = i
    · have := o3 j u e1 hj
      simp [q2, e1, mj_cv_cat, this]
    · simp [q2, e1]
theorem mj_lv_st2 {lsR ls' : Array Slot} {nL i : Nat} {v : Value} {ls : mj_L} (h : mj_lv G lsR nL ls) (ho : mj_ok ls i 1 = true) (hcat : v.category = 2)
    (h2 : lv_has ls' nL ((i, mj_cv G v) :: (mj_ll G ls).filter (fun q => !(q.1 == i) && (!(q.1 == i + 1) && !(q.1 + 1 == i && q.2.category == 2))))) : mj_lv G ls' nL (mj_set ls i v) := by
  obtain ⟨o1, o2, o3⟩ := mj_ok_lt ho
  have e : mj_set ls i v = (ls.set i (some v)).set (i + 1) none := by rw [mj_set, if_pos hcat]
  rw [e]
  refine ⟨h2.1, h2.2.1, by rw [List.length_set, List.length_set]; exact h.2.2.1, fun j u hj => ?_⟩
  by_cases q1 : i + 1 = j
  · subst q1
    rw [List.getElem?_set_self (by rw [List.length_set]; exact o2 rfl)] at hj
    cases hj
  · rw [List.getElem?_set_ne q1] at hj
    by_cases q : i = j
    · subst q
      rw [List.getElem?_set_self o1] at hj
      cases hj
      exact h2.2.2 (i, mj_cv G v) List.mem_cons_self
    · rw [List.getElem?_set_ne q] at hj
      refine h2.2.2 (j, mj_cv G u) (List.mem_cons_of_mem _ (List.mem_filter.mpr ⟨mj_ll_mem.mpr ⟨u, hj, rfl⟩, ?_⟩))
      have q2 : ¬ j = i := fun z => q z.symm
      have q3 : ¬ j = i + 1 := fun z => q1 z.symm
      by_cases e1 : j + 1 = i
      · have := o3 j u e1 hj
        simp [q2, q3, e1, mj_cv_cat, this]
      · simp [q2, q3, e1]
theorem mj_s2 : ∀ y pc len i c v ls st σ r, mj_St y pc len i c → mj_cat c v = true → mj_ok ls i c = true → mj_So l G d y (pc + len) (mj_set ls i v) st σ r → mj_So l G d y pc ls (v :: st) σ r := by
  intro y pc len i ct v ls st σ r hk hcat ho k
  refine ⟨k.1, fun p e R s m args below meth c Q n0 q0 hc hw h1 h2 h3 hret H locs lsR hl hP hS => ?_⟩
  have k2 : ∀ lsN : Array Slot, mj_lv G lsN y.2.2.1 (mj_set ls i v) → mj_WW l p e R s m args below meth c Q n0 q0 H locs σ (F0 m (pc + len) lsN (st.map (mj_cv G))) := fun lsN hN => k.2 p e R s m args below meth c Q n0 q0 hc hw h1 h2 h3 hret H locs lsN hN hP hS
  obtain ⟨hx, hb, -⟩ := hc
  have hh := mj_lv_has hl
  have hlt : i < y.2.2.1 := Nat.lt_of_lt_of_le (mj_ok_lt ho).1 hl.2.2.1
  show W p l e R s m args below meth c H locs _ _ Q (F0 m pc lsR (mj_cv G v :: st.map (mj_cv G)))
  rcases hk with ⟨rfl, hk⟩ | ⟨rfl, hk⟩ | ⟨rfl, hk⟩
  · obtain ⟨z, rfl⟩ := mj_cat0 hcat
    rcases hk with ⟨rfl, hd⟩ | ⟨rfl, f, hf, hd⟩
    · exact lv_istore hx hb hd hh hlt rfl (fun lsN hN => k2 lsN (mj_lv_st1 hl ho rfl hN))
    · exact lv_istore_n hx hb hd hf hh hlt rfl (fun lsN hN => k2 lsN (mj_lv_st1 hl ho rfl hN))
  · obtain ⟨z, rfl⟩ := mj_cat1 hcat
    have hlt2 : i + 1 < y.2.2.1 := Nat.lt_of_lt_of_le ((mj_ok_lt ho).2.1 rfl) hl.2.2.1
    rcases hk with ⟨rfl, hd⟩ | ⟨rfl, f, hf, hd⟩
    · exact lv_lstore hx hb hd hh hlt2 rfl (fun lsN hN => k2 lsN (mj_lv_st2 hl ho rfl hN))
    · exact lv_lstore_n hx hb hd hf hh hlt2 rfl (fun lsN hN => k2 lsN (mj_lv_st2 hl ho rfl hN))
  · have hc1 := mj_cat2c hcat
    rcases mj_cat2 G hcat with q | ⟨a, q⟩
    · rw [q]
      have k3 : ∀ lsN : Array Slot, lv_has lsN y.2.2.1 ((i, Value.null) :: (mj_ll G ls).filter (fun q => !(q.1 == i) && !(q.1 + 1 == i && q.2.category == 2))) → mj_WW l p e R s m args below meth c Q n0 q0 H locs σ (F0 m (pc + len) lsN (st.map (mj_cv G))) := fun lsN hN => k2 lsN (mj_lv_st1 hl ho hc1 (by rw [q]; exact hN))
      rcases hk with ⟨rfl, hd⟩ | ⟨rfl, f, hf, hd⟩
      · exact lv_astoreN hx hb hd hh hlt rfl k3
      · exact lv_astore_nN hx hb hd hf hh hlt rfl k3
    · rw [q]
      have k3 : ∀ lsN : Array Slot, lv_has lsN y.2.2.1 ((i, Value.ref a) :: (mj_ll G ls).filter (fun q => !(q.1 == i) && !(q.1 + 1 == i && q.2.category == 2))) → mj_WW l p e R s m args below meth c Q n0 q0 H locs σ (F0 m (pc + len) lsN (st.map (mj_cv G))) := fun lsN hN => k2 lsN (mj_lv_st1 hl ho hc1 (by rw [q]; exact hN))
      rcases hk with ⟨rfl, hd⟩ | ⟨rfl, f, hf, hd⟩
      · exact lv_astore hx hb hd hh hlt rfl k3
      · exact lv_astore_n hx hb hd hf hh hlt rfl k3
theorem mj_s3 : ∀ y pc i n v ls st σ r, mj_In y pc i n → ls[i]? = some (some (.int v)) → mj_ok ls i 0 = true → mj_So l G d y (pc + 3) (ls.set i (some (.int (v + n)))) st σ r → mj_So l G d y pc ls st σ r := by
  rintro y pc i n v ls st σ r ⟨j, hd, rfl⟩ hi ho k
  refine ⟨k.1, fun p e R s m args below meth c Q n0 q0 hc hw h1 h2 h3 hret H locs lsR hl hP hS => ?_⟩
  have k2 := fun lsN hN => k.2 p e R s m args below meth c Q n0 q0 hc hw h1 h2 h3 hret H locs lsN hN hP hS
  obtain ⟨hx, hb, -⟩ := hc
  have hh := mj_lv_has hl
  have hlt : i < y.2.2.1 := Nat.lt_of_lt_of_le (mj_ok_lt ho).1 hl.2.2.1
  obtain ⟨q, hq⟩ := List.getElem?_of_mem (mj_ll_mem (G := G) (ls := ls) (q := (i, .int v)) |>.mpr ⟨.int v, hi, rfl⟩)
  exact lv_iinc hx hb hd hh hq rfl hlt rfl (fun lsN hN => k2 lsN (mj_lv_st1 (v := .int (v + Int32.ofInt j)) hl ho rfl hN))
theorem mj_s4 : ∀ y pc op a b ls st σ r, mj_B2 y pc op → mj_So l G d y (pc + 1) ls (.int (op a b) :: st) σ r → mj_So l G d y pc ls (.int b :: .int a :: st) σ r := by
  intro y pc op a b ls st σ r hk k
  refine mj_up (fun p e R s m args below meth c Q n0 cells slots H locs lsR hc hw hl hP hS w => ?_) k
  obtain ⟨hx, hb, -⟩ := hc
  rcases hk with ⟨hd, rfl⟩ | ⟨hd, rfl⟩ | ⟨hd, rfl⟩ | ⟨hd, rfl⟩ | ⟨hd, rfl⟩ | ⟨hd, rfl⟩ | ⟨hd, rfl⟩ | ⟨hd, rfl⟩ | ⟨hd, rfl⟩
  · exact lv_iadd hx hb hd w
  · exact lv_isub hx hb hd w
  · exact lv_imul hx hb hd w
  · exact lv_iand hx hb hd w
  · exact lv_ior hx hb hd w
  · exact lv_ixor hx hb hd w
  · exact lv_ishl hx hb hd w
  · exact lv_ishr hx hb hd w
  · exact lv_iushr hx hb hd rfl w
theorem mj_s5 : ∀ y pc op a b ls st σ r, mj_D2 y pc op → ¬ b = 0 → mj_So l G d y (pc + 1) ls (.int (op a b) :: st) σ r → mj_So l G d y pc ls (.int b :: .int a :: st) σ r := by
  intro y pc op a b ls st σ r hk hne k
  refine mj_up (fun p e R s m args below meth c Q n0 cells slots H locs lsR hc hw hl hP hS w => ?_) k
  obtain ⟨hx, hb, -⟩ := hc
  rcases hk with ⟨hd, rfl⟩ | ⟨hd, rfl⟩
  · exact lv_idiv hx hb hd hne w
  · exact lv_irem hx hb hd hne w
theorem mj_s6 : ∀ y pc a ls st σ r, decode y.2.1 pc = .ok (.ineg, 1) → mj_So l G d y (pc + 1) ls (.int (-a) :: st) σ r → mj_So l G d y pc ls (.int a :: st) σ r := by
  intro y pc a ls st σ r hd k
  refine mj_up (fun p e R s m args below meth c Q n0 cells slots H locs lsR hc hw hl hP hS w => ?_) k
  exact lv_ineg hc.1 hc.2.1 hd w
theorem mj_s7 : ∀ y pc op a b ls st σ r, mj_BL y pc op → mj_So l G d y (pc + 1) ls (.long (op a b) :: st) σ r → mj_So l G d y pc ls (.long b :: .long a :: st) σ r := by
  intro y pc op a b ls st σ r hk k
  refine mj_up (fun p e R s m args below meth c Q n0 cells slots H locs lsR hc hw hl hP hS w => ?_) k
  rcases hk with ⟨hd, rfl⟩ | ⟨hd, rfl⟩ | ⟨hd, rfl⟩
  · exact lv_lor hc.1 hc.2.1 hd w
  · exact lv_land hc.1 hc.2.1 hd w
  · exact lv_lxor hc.1 hc.2.1 hd w
theorem mj_s8 : ∀ y pc (a : Int64) (b : Int32) ls st σ r, decode y.2.1 pc = .ok (.lshl, 1) → mj_So l G d y (pc + 1) ls (.long (a <<< (b.toInt64 &&& 63)) :: st) σ r → mj_So l G d y pc ls (.int b :: .long a :: st) σ r := by
  intro y pc a b ls st σ r hd k
  refine mj_up (fun p e R s m args below meth c Q n0 cells slots H locs lsR hc hw hl hP hS w => ?_) k
  exact lv_lshl hc.1 hc.2.1 hd rfl w
theorem mj_s9 : ∀ y pc a b ls st σ r, decode y.2.1 pc = .ok (.lcmp, 1) → mj_So l G d y (pc + 1) ls (.int (lg_cmp a b) :: st) σ r → mj_So l G d y pc ls (.long b :: .long a :: st) σ r := by
  intro y pc a b ls st σ r hd k
  refine mj_up (fun p e R s m args below meth c Q n0 cells slots H locs lsR hc hw hl hP hS w => ?_) k
  exact W.lcmp hc.1 hc.2.1 hd w
theorem mj_s10 : ∀ y pc (v : Value) ls st σ r, decode y.2.1 pc = .ok (.dup, 1) → v.category = 1 → mj_So l G d y (pc + 1) ls (v :: v :: st) σ r → mj_So l G d y pc ls (v :: st) σ r := by
  intro y pc v ls st σ r hd hv k
  refine mj_up (fun p e R s m args below meth c Q n0 cells slots H locs lsR hc hw hl hP hS w => ?_) k
  exact lv_dup hc.1 hc.2.1 hd (by rw [mj_cv_cat]; exact hv) w
theorem mj_s11 : ∀ y pc (v w : Value) ls st σ r, decode y.2.1 pc = .ok (.dup2, 1) → v.category = 1 → w.category = 1 → mj_So l G d y (pc + 1) ls (v :: w :: v :: w :: st) σ r → mj_So l G d y pc ls (v :: w :: st) σ r := by
  intro y pc v w ls st σ r hd hv hw2 k
  refine mj_up (fun p e R s m args below meth c Q n0 cells slots H locs lsR hc hw hl hP hS w => ?_) k
  exact lv_dup2_11 hc.1 hc.2.1 hd (by rw [mj_cv_cat]; exact hv) (by rw [mj_cv_cat]; exact hw2) w
theorem mj_s12 : ∀ y pc tgt cn (a : Int32) ls st σ r, mj_If y pc tgt cn → cn a → mj_So l G d y tgt ls st σ r → mj_So l G d y pc ls (.int a :: st) σ r := by
  rintro y pc tgt cn a ls st σ r ⟨off, ho, hk⟩ ha k
  refine mj_up (fun p e R s m args below meth c Q n0 cells slots H locs lsR hc hw hl hP hS w => ?_) k
  rcases hk with ⟨hd, rfl⟩ | ⟨hd, rfl⟩ | ⟨hd, rfl⟩ | ⟨hd, rfl⟩ | ⟨hd, rfl⟩ | ⟨hd, rfl⟩
  · exact lv_if_eq hc.1 hc.2.1 hd ho (fun _ => w) (fun q => absurd ha q)
  · exact lv_if_ne hc.1 hc.2.1 hd ho (fun _ => w) (fun q => absurd q ha)
  · exact lv_if_lt hc.1 hc.2.1 hd ho (fun _ => w) (fun q => absurd ha q)
  · exact lv_if_ge hc.1 hc.2.1 hd ho (fun _ => w) (fun q => absurd ha q)
  · exact lv_if_gt hc.1 hc.2.1 hd ho (fun _ => w) (fun q => absurd ha q)
  · exact lv_if_le hc.1 hc.2.1 hd ho (fun _ => w) (fun q => absurd ha q)
theorem mj_s13 : ∀ y pc tgt cn (a : Int32) ls st σ r, mj_If y pc tgt cn → ¬ cn a → mj_So l G d y (pc + 3) ls st σ r → mj_So l G d y pc ls (.int a :: st) σ r := by
  rintro y pc tgt cn a ls st σ r ⟨off, ho, hk⟩ ha k
  refine mj_up (fun p e R s m args below meth c Q n0 cells slots H locs lsR hc hw hl hP hS w => ?_) k
  rcases hk with ⟨hd, rfl⟩ | ⟨hd, rfl⟩ | ⟨hd, rfl⟩ | ⟨hd, rfl⟩ | ⟨hd, rfl⟩ | ⟨hd, rfl⟩
  · exact lv_if_eq hc.1 hc.2.1 hd ho (fun q => absurd q ha) (fun _ => w)
  · exact lv_if_ne hc.1 hc.2.1 hd ho (fun q => absurd q ha) (fun _ => w)
  · exact lv_if_lt hc.1 hc.2.1 hd ho (fun q => absurd q ha) (fun _ => w)
  · exact lv_if_ge hc.1 hc.2.1 hd ho (fun q => absurd q ha) (fun _ => w)
  · exact lv_if_gt hc.1 hc.2.1 hd ho (fun q => absurd q ha) (fun _ => w)
  · exact lv_if_le hc.1 hc.2.1 hd ho (fun q => absurd q ha) (fun _ => w)
theorem mj_s14 : ∀ y pc tgt cn (a b : Int32) ls st σ r, mj_Ic y pc tgt cn → cn a b → mj_So l G d y tgt ls st σ r → mj_So l G d y pc ls (.int b :: .int a :: st) σ r := by
  rintro y pc tgt cn a b ls st σ r ⟨off, ho, hk⟩ ha k
  refine mj_up (fun p e R s m args below meth c Q n0 cells slots H locs lsR hc hw hl hP hS w => ?_) k
  rcases hk with ⟨hd, rfl⟩ | ⟨hd, rfl⟩ | ⟨hd, rfl⟩ | ⟨hd, rfl⟩ | ⟨hd, rfl⟩ | ⟨hd, rfl⟩
  · exact lv_icmp_eq hc.1 hc.2.1 hd ho (fun _ => w) (fun q => absurd ha q)
  · exact lv_icmp_ne hc.1 hc.2.1 hd ho (fun _ => w) (fun q => absurd q ha)
  · exact lv_icmp_lt hc.1 hc.2.1 hd ho (fun _ => w) (fun q => absurd ha q)
  · exact lv_icmp_ge hc.1 hc.2.1 hd ho (fun _ => w) (fun q => absurd ha q)
  · exact lv_icmp_gt hc.1 hc.2.1 hd ho (fun _ => w) (fun q => absurd ha q)
  · exact lv_icmp_le hc.1 hc.2.1 hd ho (fun _ => w) (fun q => absurd ha q)
theorem mj_s15 : ∀ y pc tgt cn (a b : Int32) ls st σ r, mj_Ic y pc tgt cn → ¬ cn a b → mj_So l G d y (pc + 3) ls st σ r → mj_So l G d y pc ls (.int b :: .int a :: st) σ r := by
  rintro y pc tgt cn a b ls st σ r ⟨off, ho, hk⟩ ha k
  refine mj_up (fun p e R s m args below meth c Q n0 cells slots H locs lsR hc hw hl hP hS w => ?_) k
  rcases hk with ⟨hd, rfl⟩ | ⟨hd, rfl⟩ | ⟨hd, rfl⟩ | ⟨hd, rfl⟩ | ⟨hd, rfl⟩ | ⟨hd, rfl⟩
  · exact lv_icmp_eq hc.1 hc.2.1 hd ho (fun q => absurd q ha) (fun _ => w)
  · exact lv_icmp_ne hc.1 hc.2.1 hd ho (fun q => absurd q ha) (fun _ => w)
  · exact lv_icmp_lt hc.1 hc.2.1 hd ho (fun q => absurd q ha) (fun _ => w)
  · exact lv_icmp_ge hc.1 hc.2.1 hd ho (fun q => absurd q ha) (fun _ => w)
  · exact lv_icmp_gt hc.1 hc.2.1 hd ho (fun q => absurd q ha) (fun _ => w)
  · exact lv_icmp_le hc.1 hc.2.1 hd ho (fun q => absurd q ha) (fun _ => w)
theorem mj_s16 : ∀ y pc tgt ls st σ r, mj_Go y pc tgt → mj_So l G d y tgt ls st σ r → mj_So l G d y pc ls st σ r := by
  rintro y pc tgt ls st σ r ⟨off, ho, hd⟩ k
  refine mj_up (fun p e R s m args below meth c Q n0 cells slots H locs lsR hc hw hl hP hS w => ?_) k
  exact lv_goto hc.1 hc.2.1 hd ho w
theorem mj_s17 : ∀ y pc tgt b (a : Option Nat) ls st σ r, mj_Nu y pc tgt b → mj_So l G d y (if a.isNone = b then tgt else pc + 3) ls st σ r → mj_So l G d y pc ls (va_rf a :: st) σ r := by
  rintro y pc tgt b a ls st σ r ⟨off, ho, hk⟩ k
  refine mj_up (fun p e R s m args below meth c Q n0 cells slots H locs lsR hc hw hl hP hS w => ?_) k
  rcases hk with ⟨rfl, hd⟩ | ⟨rfl, hd⟩ <;> cases a
  · exact lv_ifnullN hc.1 hc.2.1 hd ho w
  · exact lv_ifnull hc.1 hc.2.1 hd w
  · exact lv_ifnonnullN hc.1 hc.2.1 hd w
  · exact lv_ifnonnull hc.1 hc.2.1 hd ho w
theorem mj_s18 : ∀ y pc k tgt ls st σ r, mj_Sw y pc k tgt → mj_So l G d y tgt ls st σ r → mj_So l G d y pc ls (.int k :: st) σ r := by
  rintro y pc q tgt ls st σ r ⟨dflt, lo, hi, offs, len, hd, hk⟩ k
  refine mj_up (fun p e R s m args below meth c Q n0 cells slots H locs lsR hc hw hl hP hS w => ?_) k
  rcases hk with ⟨h1, h2⟩ | ⟨h1, h2, off, h3, h4⟩
  · exact lv_tableOut hc.1 hc.2.1 hd h1 h2 w
  · exact lv_tableIn hc.1 hc.2.1 hd h1 h2 h3 h4 w
end MS1
