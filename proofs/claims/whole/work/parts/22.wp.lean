/-! THE RULES OF THE SMALL MACHINE, as they are used: from the goal backwards -/
def mj_Wp (X : mj_X) (d : Nat) (y : mj_Y) (pc : Nat) (ls : mj_L) (st : List Value) (σ : mj_H) (Q : Option Value → mj_H → Prop) : Prop := ∃ v σ', mj_Run X d y pc ls st σ (v, σ') ∧ Q v σ'
/-- a method is called -/
def mj_M (X : mj_X) (d : Nat) (z : mj_Y) (as : List Value) (σ : mj_H) (Q : Option Value → mj_H → Prop) : Prop := mj_Wp X d z 0 (mj_en z as) [] σ Q
def mj_V (Q : Value → mj_H → Prop) : Option Value → mj_H → Prop := fun v σ => ∃ u, v = some u ∧ Q u σ
def mj_U (Q : mj_H → Prop) : Option Value → mj_H → Prop := fun v σ => v = none ∧ Q σ
section MW
variable {X : mj_X} {d : Nat} {y : mj_Y} {pc : Nat} {ls : mj_L} {st : List Value} {σ : mj_H} {Q : Option Value → mj_H → Prop}
theorem mj_lift {pc' : Nat} {ls' : mj_L} {st' : List Value} {σ' : mj_H} (h : ∀ r, mj_Run X d y pc' ls' st' σ' r → mj_Run X d y pc ls st σ r) (k : mj_Wp X d y pc' ls' st' σ' Q) : mj_Wp X d y pc ls st σ Q := by
  obtain ⟨v, s2, h1, h2⟩ := k
  exact ⟨v, s2, h _ h1, h2⟩
theorem mj_wp_mono {Q' : Option Value → mj_H → Prop} (k : mj_Wp X d y pc ls st σ Q) (h : ∀ v σ', Q v σ' → Q' v σ') : mj_Wp X d y pc ls st σ Q' := by
  obtain ⟨v, s2, h1, h2⟩ := k
  exact ⟨v, s2, h1, h _ _ h2⟩
theorem mw_k {len : Nat} {v : Value} (p' : Nat) (h : mj_Kc y pc len v) (hp : pc + len = p') (k : mj_Wp X d y p' ls (v :: st) σ Q) : mj_Wp X d y pc ls st σ Q := by
  subst hp
  exact mj_lift (fun r hr => by cases d <;> exact fun P hP => hP 0 _ _ _ _ _ _ _ _ h (hr P hP)) k
theorem mw_ld {len i c : Nat} {v : Value} (p' : Nat) (h : mj_Ld y pc len i c) (hp : pc + len = p') (hl : ls[i]? = some (some v)) (hc : mj_cat c v = true) (k : mj_Wp X d y p' ls (v :: st) σ Q) : mj_Wp X d y pc ls st σ Q := by
  subst hp
  exact mj_lift (fun r hr => by cases d <;> exact fun P hP => hP 1 _ _ _ _ _ _ _ _ _ _ h hl hc (hr P hP)) k
theorem mw_st {len i c : Nat} {v : Value} {ls' : mj_L} (p' : Nat) (h : mj_St y pc len i c) (hp : pc + len = p') (hc : mj_cat c v = true) (ho : mj_ok ls i c = true) (hs : mj_set ls i v = ls') (k : mj_Wp X d y p' ls' st σ Q) : mj_Wp X d y pc ls (v :: st) σ Q := by
  subst hp; subst hs
  exact mj_lift (fun r hr => by cases d <;> exact fun P hP => hP 2 _ _ _ _ _ _ _ _ _ _ h hc ho (hr P hP)) k
theorem mw_inc {i : Nat} {n v : Int32} {ls' : mj_L} (p' : Nat) (w : Int32) (h : mj_In y pc i n) (hp : pc + 3 = p') (hl : ls[i]? = some (some (.int v))) (ho : mj_ok ls i 0 = true) (hw : v + n = w) (hs : ls.set i (some (.int w)) = ls') (k : mj_Wp X d y p' ls' st σ Q) : mj_Wp X d y pc ls st σ Q := by
  subst hp; subst hw; subst hs
  exact mj_lift (fun r hr => by cases d <;> exact fun P hP => hP 3 _ _ _ _ _ _ _ _ _ h hl ho (hr P hP)) k
theorem mw_b {op : Int32 → Int32 → Int32} {a b : Int32} (p' : Nat) (h : mj_B2 y pc op) (hp : pc + 1 = p') (k : mj_Wp X d y p' ls (.int (op a b) :: st) σ Q) : mj_Wp X d y pc ls (.int b :: .int a :: st) σ Q := by
  subst hp
  exact mj_lift (fun r hr => by cases d <;> exact fun P hP => hP 4 _ _ _ _ _ _ _ _ _ h (hr P hP)) k
theorem mw_d {op : Int32 → Int32 → Int32} {a b : Int32} (p' : Nat) (h : mj_D2 y pc op) (hp : pc + 1 = p') (hb : ¬ b = 0) (k : mj_Wp X d y p' ls (.int (op a b) :: st) σ Q) : mj_Wp X d y pc ls (.int b :: .int a :: st) σ Q := by
  subst hp
  exact mj_lift (fun r hr => by cases d <;> exact fun P hP => hP 5 _ _ _ _ _ _ _ _ _ h hb (hr P hP)) k
theorem mw_ineg {a : Int32} (p' : Nat) (h : decode y.2.1 pc = .ok (.ineg, 1)) (hp : pc + 1 = p') (k : mj_Wp X d y p' ls (.int (-a) :: st) σ Q) : mj_Wp X d y pc ls (.int a :: st) σ Q := by
  subst hp
  exact mj_lift (fun r hr => by cases d <;> exact fun P hP => hP 6 _ _ _ _ _ _ _ h (hr P hP)) k
theorem mw_bl {op : Int64 → Int64 → Int64} {a b : Int64} (p' : Nat) (h : mj_BL y pc op) (hp : pc + 1 = p') (k : mj_Wp X d y p' ls (.long (op a b) :: st) σ Q) : mj_Wp X d y pc ls (.long b :: .long a :: st) σ Q := by
  subst hp
  exact mj_lift (fun r hr => by cases d <;> exact fun P hP => hP 7 _ _ _ _ _ _ _ _ _ h (hr P hP)) k
theorem mw_lshl {a : Int64} {b : Int32} (p' : Nat) (h : decode y.2.1 pc = .ok (.lshl, 1)) (hp : pc + 1 = p') (k : mj_Wp X d y p' ls (.long (a <<< (b.toInt64 &&& 63)) :: st) σ Q) : mj_Wp X d y pc ls (.int b :: .long a :: st) σ Q := by
  subst hp
  exact mj_lift (fun r hr => by cases d <;> exact fun P hP => hP 8 _ _ _ _ _ _ _ _ h (hr P hP)) k
theorem mw_lcmp {a b : Int64} (p' : Nat) (h : decode y.2.1 pc = .ok (.lcmp, 1)) (hp : pc + 1 = p') (k : mj_Wp X d y p' ls (.int (lg_cmp a b) :: st) σ Q) : mj_Wp X d y pc ls (.long b :: .long a :: st) σ Q := by
  subst hp
  exact mj_lift (fun r hr => by cases d <;> exact fun P hP => hP 9 _ _ _ _ _ _ _ _ h (hr P hP)) k
theorem mw_dup {v : Value} (p' : Nat) (h : decode y.2.1 pc = .ok (.dup, 1)) (hp : pc + 1 = p') (hv : v.category = 1) (k : mj_Wp X d y p' ls (v :: v :: st) σ Q) : mj_Wp X d y pc ls (v :: st) σ Q := by
  subst hp
  exact mj_lift (fun r hr => by cases d <;> exact fun P hP => hP 10 _ _ _ _ _ _ _ h hv (hr P hP)) k
theorem mw_dup2 {v w : Value} (p' : Nat) (h : decode y.2.1 pc = .ok (.dup2, 1)) (hp : pc + 1 = p') (hv : v.category = 1) (hw : w.category = 1) (k : mj_Wp X d y p' ls (v :: w :: v :: w :: st) σ Q) : mj_Wp X d y pc ls (v :: w :: st) σ Q := by
  subst hp
  exact mj_lift (fun r hr => by cases d <;> exact fun P hP => hP 11 _ _ _ _ _ _ _ _ h hv hw (hr P hP)) k
theorem mw_if1 {tgt : Nat} {cn : Int32 → Prop} {a : Int32} (h : mj_If y pc tgt cn) (ha : cn a) (k : mj_Wp X d y tgt ls st σ Q) : mj_Wp X d y pc ls (.int a :: st) σ Q :=
  mj_lift (fun r hr => by cases d <;> exact fun P hP => hP 12 _ _ _ _ _ _ _ _ _ h ha (hr P hP)) k
theorem mw_if0 {tgt : Nat} {cn : Int32 → Prop} {a : Int32} (p' : Nat) (h : mj_If y pc tgt cn) (hp : pc + 3 = p') (ha : ¬ cn a) (k : mj_Wp X d y p' ls st σ Q) : mj_Wp X d y pc ls (.int a :: st) σ Q := by
  subst hp
  exact mj_lift (fun r hr => by cases d <;> exact fun P hP => hP 13 _ _ _ _ _ _ _ _ _ h ha (hr P hP)) k
theorem mw_if {tgt : Nat} {cn : Int32 → Prop} {a : Int32} (p' : Nat) (h : mj_If y pc tgt cn) (hp : pc + 3 = p') (kt : cn a → mj_Wp X d y tgt ls st σ Q) (kf : ¬ cn a → mj_Wp X d y p' ls st σ Q) : mj_Wp X d y pc ls (.int a :: st) σ Q := by
  by_cases ha : cn a
  · exact mw_if1 h ha (kt ha)
  · exact mw_if0 p' h hp ha (kf ha)
theorem mw_ic1 {tgt : Nat} {cn : Int32 → Int32 → Prop} {a b : Int32} (h : mj_Ic y pc tgt cn) (ha : cn a b) (k : mj_Wp X d y tgt ls st σ Q) : mj_Wp X d y pc ls (.int b :: .int a :: st) σ Q :=
  mj_lift (fun r hr => by cases d <;> exact fun P hP => hP 14 _ _ _ _ _ _ _ _ _ _ h ha (hr P hP)) k
theorem mw_ic0 {tgt : Nat} {cn : Int32 → Int32 → Prop} {a b : Int32} (p' : Nat) (h : mj_Ic y pc tgt cn) (hp : pc + 3 = p') (ha : ¬ cn a b) (k : mj_Wp X d y p' ls st σ Q) : mj_Wp X d y pc ls (.int b :: .int a :: st) σ Q := by
  subst hp
  exact mj_lift (fun r hr => by cases d <;> exact fun P hP => hP 15 _ _ _ _ _ _ _ _ _ _ h ha (hr P hP)) k
theorem mw_ic {tgt : Nat} {cn : Int32 → Int32 → Prop} {a b : Int32} (p' : Nat) (h : mj_Ic y pc tgt cn) (hp : pc + 3 = p') (kt : cn a b → mj_Wp X d y tgt ls st σ Q) (kf : ¬ cn a b → mj_Wp X d y p' ls st σ Q) : mj_Wp X d y pc ls (.int b :: .int a :: st) σ Q := by
  by_cases ha : cn a b
  · exact mw_ic1 h ha (kt ha)
  · exact mw_ic0 p' h hp ha (kf ha)
theorem mw_go {tgt : Nat} (h : mj_Go y pc tgt) (k : mj_Wp X d y tgt ls st σ Q) : mj_Wp X d y pc ls st σ Q :=
  mj_lift (fun r hr => by cases d <;> exact fun P hP => hP 16 _ _ _ _ _ _ _ h (hr P hP)) k
theorem mw_nuT {tgt : Nat} (h : mj_Nu y pc tgt true) (k : mj_Wp X d y tgt ls st σ Q) : mj_Wp X d y pc ls (.null :: st) σ Q :=
  mj_lift (fun r hr => by cases d <;> exact fun P hP => hP 17 _ _ _ _ none _ _ _ _ h (hr P hP)) k
theorem mw_nuF {tgt a : Nat} (p' : Nat) (h : mj_Nu y pc tgt true) (hp : pc + 3 = p') (k : mj_Wp X d y p' ls st σ Q) : mj_Wp X d y pc ls (.ref a :: st) σ Q := by
  subst hp
  exact mj_lift (fun r hr => by cases d <;> exact fun P hP => hP 17 _ _ _ _ (some a) _ _ _ _ h (hr P hP)) k
theorem mw_nnT {tgt a : Nat} (h : mj_Nu y pc tgt false) (k : mj_Wp X d y tgt ls st σ Q) : mj_Wp X d y pc ls (.ref a :: st) σ Q :=
  mj_lift (fun r hr => by cases d <;> exact fun P hP => hP 17 _ _ _ _ (some a) _ _ _ _ h (hr P hP)) k
theorem mw_nnF {tgt : Nat} (p' : Nat) (h : mj_Nu y pc tgt false) (hp : pc + 3 = p') (k : mj_Wp X d y p' ls st σ Q) : mj_Wp X d y pc ls (.null :: st) σ Q := by
  subst hp
  exact mj_lift (fun r hr => by cases d <;> exact fun P hP => hP 17 _ _ _ _ none _ _ _ _ h (hr P hP)) k
theorem mw_sw {k0 : Int32} {tgt : Nat} (h : mj_Sw y pc k0 tgt) (k : mj_Wp X d y tgt ls st σ Q) : mj_Wp X d y pc ls (.int k0 :: st) σ Q :=
  mj_lift (fun r hr => by cases d <;> exact fun P hP => hP 18 _ _ _ _ _ _ _ _ h (hr P hP)) k
theorem mw_get {ci k a : Nat} {fs : List Value} {v : Value} (p' : Nat) (h : mj_Gf y pc ci k) (hp : pc + 3 = p') (ho : σ.1 a = mj_O ci fs) (hv : fs[k]? = some v) (kk : mj_Wp X d y p' ls (v :: st) σ Q) : mj_Wp X d y pc ls (.ref a :: st) σ Q := by
  subst hp
  exact mj_lift (fun r hr => by cases d <;> exact fun P hP => hP 19 _ _ _ _ _ _ _ _ _ _ _ h ho hv (hr P hP)) kk
theorem mw_put {fz : Nat → mj_C} {qz : Nat × Nat} {ci k a : Nat} {ty : FieldType} {fs fs' : List Value} {v : Value} (p' : Nat) (h : mj_Pf y pc ci k ty) (hp : pc + 3 = p') (ho : fz a = mj_O ci fs) (hk : k < fs.length) (hn : narrow ty v = v) (hf : fits ty v = true) (hz : ∀ z, v ≠ .float z) (hs : fs.set k v = fs') (kk : mj_Wp X d y p' ls st (va_up fz a (mj_O ci fs'), qz) Q) : mj_Wp X d y pc ls (v :: .ref a :: st) (fz, qz) Q := by
  subst hp; subst hs
  exact mj_lift (fun r hr => by cases d <;> exact fun P hP => hP 20 _ _ _ _ _ _ _ _ _ _ _ _ h ho hk hn hf hz (hr P hP)) kk
theorem mj_vin {i : Int32} {k n : Nat} (hi : i = nI k) (hk : k < n) (hn : n < 2 ^ 31) : vp_in i n ∧ i.toNatClampNeg = k := by
  subst hi
  exact ⟨vp_in_nI hk hn, nI_clamp (by omega)⟩
theorem mw_iald {a n : Nat} {g : Nat → Int32} {i : Int32} (p' k : Nat) (h : decode y.2.1 pc = .ok (.iaload, 1)) (hp : pc + 1 = p') (ho : σ.1 a = mj_AI n g) (hi : i = nI k) (hk : k < n) (hn : n < 2 ^ 31) (kk : mj_Wp X d y p' ls (.int (g k) :: st) σ Q) : mj_Wp X d y pc ls (.int i :: .ref a :: st) σ Q := by
  subst hp
  obtain ⟨h1, rfl⟩ := mj_vin hi hk hn
  exact mj_lift (fun r hr => by cases d <;> exact fun P hP => hP 21 _ _ _ _ _ _ _ _ _ _ h ho h1 (hr P hP)) kk
theorem mw_iast {fz : Nat → mj_C} {qz : Nat × Nat} {a n : Nat} {g : Nat → Int32} {i w : Int32} (p' k : Nat) (h : decode y.2.1 pc = .ok (.iastore, 1)) (hp : pc + 1 = p') (ho : fz a = mj_AI n g) (hi : i = nI k) (hk : k < n) (hn : n < 2 ^ 31) (kk : mj_Wp X d y p' ls st (va_up fz a (mj_AI n (upd g k w)), qz) Q) : mj_Wp X d y pc ls (.int w :: .int i :: .ref a :: st) (fz, qz) Q := by
  subst hp
  obtain ⟨h1, rfl⟩ := mj_vin hi hk hn
  exact mj_lift (fun r hr => by cases d <;> exact fun P hP => hP 22 _ _ _ _ _ _ _ _ _ _ _ h ho h1 (hr P hP)) kk
theorem mw_zald {a n : Nat} {g : Nat → Int32} {i : Int32} (p' k : Nat) (h : decode y.2.1 pc = .ok (.baload, 1)) (hp : pc + 1 = p') (ho : σ.1 a = mj_AZ n g) (hi : i = nI k) (hk : k < n) (hn : n < 2 ^ 31) (kk : mj_Wp X d y p' ls (.int (g k) :: st) σ Q) : mj_Wp X d y pc ls (.int i :: .ref a :: st) σ Q := by
  subst hp
  obtain ⟨h1, rfl⟩ := mj_vin hi hk hn
  exact mj_lift (fun r hr => by cases d <;> exact fun P hP => hP 23 _ _ _ _ _ _ _ _ _ _ h ho h1 (hr P hP)) kk
theorem mw_zast {fz : Nat → mj_C} {qz : Nat × Nat} {a n : Nat} {g : Nat → Int32} {i w : Int32} (p' k : Nat) (h : decode y.2.1 pc = .ok (.bastore, 1)) (hp : pc + 1 = p') (ho : fz a = mj_AZ n g) (hi : i = nI k) (hk : k < n) (hn : n < 2 ^ 31) (hw : vp_nar .boolean w = w) (kk : mj_Wp X d y p' ls st (va_up fz a (mj_AZ n (upd g k w)), qz) Q) : mj_Wp X d y pc ls (.int w :: .int i :: .ref a :: st) (fz, qz) Q := by
  subst hp
  obtain ⟨h1, rfl⟩ := mj_vin hi hk hn
  exact mj_lift (fun r hr => by cases d <;> exact fun P hP => hP 24 _ _ _ _ _ _ _ _ _ _ _ h ho h1 hw (hr P hP)) kk
theorem mw_lald {a n : Nat} {g : Nat → Int64} {i : Int32} (p' k : Nat) (h : decode y.2.1 pc = .ok (.laload, 1)) (hp : pc + 1 = p') (ho : σ.1 a = mj_AJ n g) (hi : i = nI k) (hk : k < n) (hn : n < 2 ^ 31) (kk : mj_Wp X d y p' ls (.long (g k) :: st) σ Q) : mj_Wp X d y pc ls (.int i :: .ref a :: st) σ Q := by
  subst hp
  obtain ⟨h1, rfl⟩ := mj_vin hi hk hn
  exact mj_lift (fun r hr => by cases d <;> exact fun P hP => hP 25 _ _ _ _ _ _ _ _ _ _ h ho h1 (hr P hP)) kk
theorem mw_last {fz : Nat → mj_C} {qz : Nat × Nat} {a n : Nat} {g : Nat → Int64} {i : Int32} {w : Int64} (p' k : Nat) (h : decode y.2.1 pc = .ok (.lastore, 1)) (hp : pc + 1 = p') (ho : fz a = mj_AJ n g) (hi : i = nI k) (hk : k < n) (hn : n < 2 ^ 31) (kk : mj_Wp X d y p' ls st (va_up fz a (mj_AJ n (vp_updL g k w)), qz) Q) : mj_Wp X d y pc ls (.long w :: .int i :: .ref a :: st) (fz, qz) Q := by
  subst hp
  obtain ⟨h1, rfl⟩ := mj_vin hi hk hn
  exact mj_lift (fun r hr => by cases d <;> exact fun P hP => hP 26 _ _ _ _ _ _ _ _ _ _ _ h ho h1 (hr P hP)) kk
theorem mw_aald {a t n : Nat} {g : Nat → Option Nat} {i : Int32} (p' k : Nat) (h : decode y.2.1 pc = .ok (.aaload, 1)) (hp : pc + 1 = p') (ht : t = 3 ∨ t = 4) (ho : σ.1 a = mj_AR t n g) (hi : i = nI k) (hk : k < n) (hn : n < 2 ^ 31) (kk : mj_Wp X d y p' ls (va_rf (g k) :: st) σ Q) : mj_Wp X d y pc ls (.int i :: .ref a :: st) σ Q := by
  subst hp
  obtain ⟨h1, rfl⟩ := mj_vin hi hk hn
  exact mj_lift (fun r hr => by cases d <;> exact fun P hP => hP 27 _ _ _ _ _ _ _ _ _ _ _ h ht ho h1 (hr P hP)) kk
theorem mw_aast {fz : Nat → mj_C} {qz : Nat × Nat} {a t n : Nat} {g : Nat → Option Nat} {i : Int32} {v : Value} (p' k : Nat) (w : Option Nat) (h : decode y.2.1 pc = .ok (.aastore, 1)) (hp : pc + 1 = p') (ht : t = 3 ∨ t = 4) (ho : fz a = mj_AR t n g) (hi : i = nI k) (hk : k < n) (hn : n < 2 ^ 31) (hv : v = va_rf w) (hw : ∀ q, w = some q → ∃ fs, fz q = mj_O (mj_ct t) fs) (kk : mj_Wp X d y p' ls st (va_up fz a (mj_AR t n (va_up g k w)), qz) Q) : mj_Wp X d y pc ls (v :: .int i :: .ref a :: st) (fz, qz) Q := by
  subst hp; subst hv
  obtain ⟨h1, rfl⟩ := mj_vin hi hk hn
  exact mj_lift (fun r hr => by cases d <;> exact fun P hP => hP 28 _ _ _ _ _ _ _ _ _ _ _ _ h ht ho h1 hw (hr P hP)) kk
theorem mw_len {a t : Nat} {z : vp_A} (p' : Nat) (h : decode y.2.1 pc = .ok (.arraylength, 1)) (hp : pc + 1 = p') (ht : t < 5) (ho : σ.1 a = some (.inl (t, z))) (kk : mj_Wp X d y p' ls (.int (nI z.1) :: st) σ Q) : mj_Wp X d y pc ls (.ref a :: st) σ Q := by
  subst hp
  exact mj_lift (fun r hr => by cases d <;> exact fun P hP => hP 29 _ _ _ _ _ _ _ _ _ h ht ho (hr P hP)) kk
theorem mw_new {ci : Nat} {f : Nat → mj_C} {n q : Nat} (p' : Nat) (h : mj_Nw y pc ci) (hp : pc + 3 = p') (kk : mj_Wp X d y p' ls (.ref n :: st) (va_up f n (mj_O ci (mj_df.getD ci [])), n + 1, q + mj_nf ci) Q) : mj_Wp X d y pc ls st (f, n, q) Q := by
  subst hp
  exact mj_lift (fun r hr => by cases d <;> exact fun P hP => hP 30 _ _ _ _ _ _ _ h (hr P hP)) kk
theorem mw_newa {t : Nat} {f : Nat → mj_C} {n q : Nat} {i : Int32} (p' k : Nat) (h : mj_Na y pc t) (hp : pc + 2 = p') (hi : i = nI k) (hk : k ≤ 10000) (kk : mj_Wp X d y p' ls (.ref n :: st) (va_up f n (some (.inl (t, k, if t = 1 then .inr (.inl fun _ => 0) else .inl fun _ => 0))), n + 1, q + k) Q) : mj_Wp X d y pc ls (.int i :: st) (f, n, q) Q := by
  subst hp; subst hi
  have e : (nI k).toNatClampNeg = k := nI_clamp (by omega)
  exact mj_lift (fun r hr => by cases d <;> exact fun P hP => hP 31 _ _ _ _ _ _ _ _ h (nI_pos (by omega)) (by omega) (by rw [e]; exact hr P hP)) kk
theorem mw_newq {t : Nat} {f : Nat → mj_C} {n q : Nat} {i : Int32} (p' k : Nat) (h : mj_Nq y pc t) (hp : pc + 3 = p') (hi : i = nI k) (hk : k ≤ 10000) (kk : mj_Wp X d y p' ls (.ref n :: st) (va_up f n (mj_AR t k fun _ => none), n + 1, q + k) Q) : mj_Wp X d y pc ls (.int i :: st) (f, n, q) Q := by
  subst hp; subst hi
  have e : (nI k).toNatClampNeg = k := nI_clamp (by omega)
  exact mj_lift (fun r hr => by cases d <;> exact fun P hP => hP 32 _ _ _ _ _ _ _ _ h (nI_pos (by omega)) (by omega) (by rw [e]; exact hr P hP)) kk
theorem mw_gs (p' : Nat) (h : mj_Gs y pc) (hp : pc + 3 = p') (kk : mj_Wp X d y p' ls (.float 0 :: st) σ Q) : mj_Wp X d y pc ls st σ Q := by
  subst hp
  exact mj_lift (fun r hr => by cases d <;> exact fun P hP => hP 33 _ _ _ _ _ _ h (hr P hP)) kk
theorem mw_kald {i : Int32} (p' k : Nat) (h : decode y.2.1 pc = .ok (.iaload, 1)) (hp : pc + 1 = p') (hi : i = nI k) (hk : k < 5) (kk : mj_Wp X d y p' ls (.int (mj_kd k) :: st) σ Q) : mj_Wp X d y pc ls (.int i :: .float 0 :: st) σ Q := by
  subst hp
  obtain ⟨h1, rfl⟩ := mj_vin hi hk (by decide)
  exact mj_lift (fun r hr => by cases d <;> exact fun P hP => hP 34 _ _ _ _ _ _ _ h h1 (hr P hP)) kk
theorem mw_klen (p' : Nat) (h : decode y.2.1 pc = .ok (.arraylength, 1)) (hp : pc + 1 = p') (kk : mj_Wp X d y p' ls (.int 5 :: st) σ Q) : mj_Wp X d y pc ls (.float 0 :: st) σ Q := by
  subst hp
  exact mj_lift (fun r hr => by cases d <;> exact fun P hP => hP 35 _ _ _ _ _ _ h (hr P hP)) kk
theorem mw_sald {i : Int32} (p' k : Nat) (h : decode y.2.1 pc = .ok (.iaload, 1)) (hp : pc + 1 = p') (hi : i = nI k) (hk : k < X.1) (hX : X.1 < 2 ^ 31) (kk : mj_Wp X d y p' ls (.int (X.2 k) :: st) σ Q) : mj_Wp X d y pc ls (.int i :: .float 1 :: st) σ Q := by
  subst hp
  obtain ⟨h1, rfl⟩ := mj_vin hi hk hX
  exact mj_lift (fun r hr => by cases d <;> exact fun P hP => hP 36 _ _ _ _ _ _ _ h h1 (hr P hP)) kk
theorem mw_slen (p' : Nat) (h : decode y.2.1 pc = .ok (.arraylength, 1)) (hp : pc + 1 = p') (kk : mj_Wp X d y p' ls (.int (nI X.1) :: st) σ Q) : mj_Wp X d y pc ls (.float 1 :: st) σ Q := by
  subst hp
  exact mj_lift (fun r hr => by cases d <;> exact fun P hP => hP 37 _ _ _ _ _ _ h (hr P hP)) kk
theorem mw_oi {a : Nat} (p' : Nat) (h : mj_Oi y pc) (hp : pc + 3 = p') (h8 : mj_cs st ≤ 8) (kk : mj_Wp X d y p' ls st σ Q) : mj_Wp X d y pc ls (.ref a :: st) σ Q := by
  subst hp
  exact mj_lift (fun r hr => by cases d <;> exact fun P hP => hP 38 _ _ _ _ _ _ _ h h8 (hr P hP)) kk
theorem mw_cpi {fz : Nat → mj_C} {qz : Nat × Nat} {a0 a n0 n1 : Nat} {f g : Nat → Int32} {n : Int32} (p' k : Nat) (h : mj_Ac y pc) (hp : pc + 3 = p') (h8 : mj_cs st ≤ 8) (h0 : fz a0 = mj_AI n0 f) (h1 : fz a = mj_AI n1 g) (hn : n = nI k) (hk : k < 2 ^ 31) (l0 : k ≤ n0) (l1 : k ≤ n1) (kk : mj_Wp X d y p' ls st (va_up fz a (mj_AI n1 (va_cpy f g 0 0 k)), qz) Q) : mj_Wp X d y pc ls (.int n :: .int 0 :: .ref a :: .int 0 :: .ref a0 :: st) (fz, qz) Q := by
  subst hp; subst hn
  have e : (nI k).toNatClampNeg = k := nI_clamp hk
  have e0 : (0 : Int32).toNatClampNeg = 0 := rfl
  exact mj_lift (fun r hr => by cases d <;> exact fun P hP => hP 39 _ _ _ _ _ _ _ _ _ _ _ _ _ _ _ h h8 h0 h1 (by decide) (by decide) (nI_pos hk) (by rw [e, e0]; omega) (by rw [e, e0]; omega) (by rw [e]; exact hr P hP)) kk
theorem mw_cpq {fz : Nat → mj_C} {qz : Nat × Nat} {a0 a t n0 n1 : Nat} {f g : Nat → Option Nat} {n : Int32} (p' k : Nat) (h : mj_Ac y pc) (hp : pc + 3 = p') (h8 : mj_cs st ≤ 8) (ht : t = 3 ∨ t = 4) (h0 : fz a0 = mj_AR t n0 f) (h1 : fz a = mj_AR t n1 g) (hn : n = nI k) (hk : k < 2 ^ 31) (l0 : k ≤ n0) (l1 : k ≤ n1) (hel : ∀ i, i < k → ∀ q, f i = some q → ∃ fs, fz q = mj_O (mj_ct t) fs) (kk : mj_Wp X d y p' ls st (va_up fz a (mj_AR t n1 (va_cpy f g 0 0 k)), qz) Q) : mj_Wp X d y pc ls (.int n :: .int 0 :: .ref a :: .int 0 :: .ref a0 :: st) (fz, qz) Q := by
  subst hp; subst hn
  have e : (nI k).toNatClampNeg = k := nI_clamp hk
  have e0 : (0 : Int32).toNatClampNeg = 0 := rfl
  exact mj_lift (fun r hr => by cases d <;> exact fun P hP => hP 40 _ _ _ _ _ _ _ _ _ _ _ _ _ _ _ _ h h8 ht h0 h1 (by decide) (by decide) (nI_pos hk) (by rw [e, e0]; omega) (by rw [e, e0]; omega) (fun i hi q hq => hel i (by rw [e] at hi; exact hi) q (by rw [e0, Nat.zero_add] at hq; exact hq)) (by rw [e]; exact hr P hP)) kk
theorem mw_max {op : Int32 → Int32 → Int32} {a b : Int32} (p' : Nat) (h : mj_Mm y pc op) (hp : pc + 3 = p') (h8 : mj_cs st ≤ 8) (kk : mj_Wp X d y p' ls (.int (op a b) :: st) σ Q) : mj_Wp X d y pc ls (.int b :: .int a :: st) σ Q := by
  subst hp
  exact mj_lift (fun r hr => by cases d <;> exact fun P hP => hP 45 _ _ _ _ _ _ _ _ _ h h8 (hr P hP)) kk
theorem mw_abs {a : Int32} (p' : Nat) (h : mj_Ma y pc) (hp : pc + 3 = p') (h8 : mj_cs st ≤ 8) (kk : mj_Wp X d y p' ls (.int (if 0 ≤ a then a else 0 - a) :: st) σ Q) : mj_Wp X d y pc ls (.int a :: st) σ Q := by
  subst hp
  exact mj_lift (fun r hr => by cases d <;> exact fun P hP => hP 46 _ _ _ _ _ _ _ h h8 (hr P hP)) kk
theorem mj_ret {v : Option Value} (h : mj_Rt y pc v) (q : Q v σ) : mj_Wp X d y pc ls v.toList σ Q :=
  ⟨v, σ, by cases d <;> exact fun P hP => hP 41 _ _ _ _ _ h, q⟩
theorem mw_ri {k : Int32} {ty : FieldType} {Qv : Value → mj_H → Prop} (h : decode y.2.1 pc = .ok (.ireturn, 1)) (hr : y.2.2.2 = some ty) (hn : narrow ty (.int k) = .int k) (q : Qv (.int k) σ) : mj_Wp X d y pc ls [.int k] σ (mj_V Qv) :=
  mj_ret (v := some (.int k)) (.inl ⟨k, ty, rfl, h, hr, hn⟩) ⟨_, rfl, q⟩
theorem mw_rl {k : Int64} {Qv : Value → mj_H → Prop} (h : decode y.2.1 pc = .ok (.lreturn, 1)) (hr : y.2.2.2 = some .long) (q : Qv (.long k) σ) : mj_Wp X d y pc ls [.long k] σ (mj_V Qv) :=
  mj_ret (v := some (.long k)) (.inr (.inl ⟨k, rfl, h, hr⟩)) ⟨_, rfl, q⟩
theorem mw_ra {n : String} {v : Value} {Qv : Value → mj_H → Prop} (r : Option Nat) (h : decode y.2.1 pc = .ok (.areturn, 1)) (hr : y.2.2.2 = some (.object n)) (hv : v = va_rf r) (q : Qv v σ) : mj_Wp X d y pc ls [v] σ (mj_V Qv) := by
  subst hv
  exact mj_ret (v := some (va_rf r)) (.inr (.inr (.inl ⟨r, n, rfl, h, hr⟩))) ⟨_, rfl, q⟩
theorem mw_rv {Q0 : mj_H → Prop} (h : decode y.2.1 pc = .ok (.return_, 1)) (hr : y.2.2.2 = none) (q : Q0 σ) : mj_Wp X d y pc ls [] σ (mj_U Q0) :=
  mj_ret (v := none) (.inr (.inr (.inr ⟨rfl, h, hr⟩))) ⟨rfl, q⟩
theorem mj_cv0 {z : mj_Y} {ci n a : Nat} {fs as rest : List Value} {Q1 : Option Value → mj_H → Prop} (h : mj_Cv y pc z ci n) (ho : σ.1 a = mj_O ci fs) (hs : mj_M X d z (.ref a :: as) σ Q1) (hn : as.length = n) (hst : st = as.reverse ++ .ref a :: rest) (h8 : mj_cs rest ≤ 8) (hal : (mj_al (.ref a :: as)).length ≤ z.2.2.1)
    (k : ∀ v σ', Q1 v σ' → mj_Wp X (d + 1) y (pc + 3) ls (v.toList ++ rest) σ' Q) : mj_Wp X (d + 1) y pc ls st σ Q := by
  obtain ⟨v, s2, h1, h2⟩ := hs
  obtain ⟨v3, s3, h3, h4⟩ := k v s2 h2
  exact ⟨v3, s3, fun P hP => hP 42 _ _ _ _ _ _ _ _ _ _ _ _ _ _ _ h ho hn hst h8 hal h1 (h3 P hP), h4⟩
theorem mj_cs0 {z : mj_Y} {n : Nat} {as rest : List Value} {Q1 : Option Value → mj_H → Prop} (h : mj_Cs y pc z n) (hs : mj_M X d z as σ Q1) (hn : as.length = n) (hst : st = as.reverse ++ rest) (h8 : mj_cs rest ≤ 8) (hal : (mj_al as).length ≤ z.2.2.1)
    (k : ∀ v σ', Q1 v σ' → mj_Wp X (d + 1) y (pc + 3) ls (v.toList ++ rest) σ' Q) : mj_Wp X (d + 1) y pc ls st σ Q := by
  obtain ⟨v, s2, h1, h2⟩ := hs
  obtain ⟨v3, s3, h3, h4⟩ := k v s2 h2
  exact ⟨v3, s3, fun P hP => hP 43 _ _ _ _ _ _ _ _ _ _ _ _ h hn hst h8 hal h1 (h3 P hP), h4⟩
theorem mj_ci0 {z : mj_Y} {n a : Nat} {as rest : List Value} {Q1 : Option Value → mj_H → Prop} (h : mj_Ci y pc z n) (hs : mj_M X d z (.ref a :: as) σ Q1) (hn : as.length = n) (hst : st = as.reverse ++ .ref a :: rest) (h8 : mj_cs rest ≤ 8) (hal : (mj_al (.ref a :: as)).length ≤ z.2.2.1)
    (k : ∀ v σ', Q1 v σ' → mj_Wp X (d + 1) y (pc + 3) ls (v.toList ++ rest) σ' Q) : mj_Wp X (d + 1) y pc ls st σ Q := by
  obtain ⟨v, s2, h1, h2⟩ := hs
  obtain ⟨v3, s3, h3, h4⟩ := k v s2 h2
  exact ⟨v3, s3, fun P hP => hP 44 _ _ _ _ _ _ _ _ _ _ _ _ _ h hn hst h8 hal h1 (h3 P hP), h4⟩
theorem mw_cv1 {z : mj_Y} {ci n a : Nat} {fs as rest : List Value} (p' : Nat) (h : mj_Cv y pc z ci n) (hp : pc + 3 = p') (ho : σ.1 a = mj_O ci fs) (hs : mj_M X d z (.ref a :: as) σ (mj_V fun u σ' => mj_Wp X (d + 1) y p' ls (u :: rest) σ' Q)) (hn : as.length = n) (hst : st = as.reverse ++ .ref a :: rest) (h8 : mj_cs rest ≤ 8) (hal : (mj_al (.ref a :: as)).length ≤ z.2.2.1) : mj_Wp X (d + 1) y pc ls st σ Q := by
  subst hp
  exact mj_cv0 h ho hs hn hst h8 hal (fun v σ' hq => by obtain ⟨u, rfl, hq⟩ := hq; exact hq)
theorem mw_cv0 {z : mj_Y} {ci n a : Nat} {fs as rest : List Value} (p' : Nat) (h : mj_Cv y pc z ci n) (hp : pc + 3 = p') (ho : σ.1 a = mj_O ci fs) (hs : mj_M X d z (.ref a :: as) σ (mj_U fun σ' => mj_Wp X (d + 1) y p' ls rest σ' Q)) (hn : as.length = n) (hst : st = as.reverse ++ .ref a :: rest) (h8 : mj_cs rest ≤ 8) (hal : (mj_al (.ref a :: as)).length ≤ z.2.2.1) : mj_Wp X (d + 1) y pc ls st σ Q := by
  subst hp
  exact mj_cv0 h ho hs hn hst h8 hal (fun v σ' hq => by obtain ⟨rfl, hq⟩ := hq; exact hq)
theorem mw_cs1 {z : mj_Y} {n : Nat} {as rest : List Value} (p' : Nat) (h : mj_Cs y pc z n) (hp : pc + 3 = p') (hs : mj_M X d z as σ (mj_V fun u σ' => mj_Wp X (d + 1) y p' ls (u :: rest) σ' Q)) (hn : as.length = n) (hst : st = as.reverse ++ rest) (h8 : mj_cs rest ≤ 8) (hal : (mj_al as).length ≤ z.2.2.1) : mj_Wp X (d + 1) y pc ls st σ Q := by
  subst hp
  exact mj_cs0 h hs hn hst h8 hal (fun v σ' hq => by obtain ⟨u, rfl, hq⟩ := hq; exact hq)
theorem mw_cs0 {z : mj_Y} {n : Nat} {as rest : List Value} (p' : Nat) (h : mj_Cs y pc z n) (hp : pc + 3 = p') (hs : mj_M X d z as σ (mj_U fun σ' => mj_Wp X (d + 1) y p' ls rest σ' Q)) (hn : as.length = n) (hst : st = as.reverse ++ rest) (h8 : mj_cs rest ≤ 8) (hal : (mj_al as).length ≤ z.2.2.1) : mj_Wp X (d + 1) y pc ls st σ Q := by
  subst hp
  exact mj_cs0 h hs hn hst h8 hal (fun v σ' hq => by obtain ⟨rfl, hq⟩ := hq; exact hq)
theorem mw_ci {z : mj_Y} {n a : Nat} {as rest : List Value} (p' : Nat) (h : mj_Ci y pc z n) (hp : pc + 3 = p') (hs : mj_M X d z (.ref a :: as) σ (mj_U fun σ' => mj_Wp X (d + 1) y p' ls rest σ' Q)) (hn : as.length = n) (hst : st = as.reverse ++ .ref a :: rest) (h8 : mj_cs rest ≤ 8) (hal : (mj_al (.ref a :: as)).length ≤ z.2.2.1) : mj_Wp X (d + 1) y pc ls st σ Q := by
  subst hp
  exact mj_ci0 h hs hn hst h8 hal (fun v σ' hq => by obtain ⟨rfl, hq⟩ := hq; exact hq)
/-- a method's walk begins -/
theorem mw_in {z : mj_Y} {as : List Value} {l0 : mj_L} (he : mj_en z as = l0) (k : mj_Wp X d z 0 l0 [] σ Q) : mj_M X d z as σ Q := by
  subst he
  exact k
/-- a loop that counts up -/
theorem mj_for {S : Type} (W : Nat → S → Prop) (I : Nat → S → Prop) (N : Nat) (hx : ∀ s, I N s → W N s) (hs : ∀ i s, i < N → I i s → (∀ s', I (i + 1) s' → W (i + 1) s') → W i s) : ∀ i s, i ≤ N → I i s → W i s := by
  have key : ∀ n i s, i ≤ N → N - i ≤ n → I i s → W i s := by
    intro n
    induction n with
    | zero =>
      intro i s h1 h2 h3
      have : i = N := by omega
      subst this
      exact hx s h3
    | succ n ih =>
      intro i s h1 h2 h3
      rcases Nat.lt_or_ge i N with q | q
      · exact hs i s q h3 (fun s' h => ih (i + 1) s' (by omega) (by omega) h)
      · have : i = N := by omega
        subst this
        exact hx s h3
  exact fun i s h1 h3 => key (N - i) i s h1 (Nat.le_refl _) h3
end MW
