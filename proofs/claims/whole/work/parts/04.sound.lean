/-! WHAT A RUN OF THE SMALL MACHINE SAYS OF THE MACHINE -/
/-- where the cells lie: from b on; KINDS_OF, the script; the classes' numbers; the arrays' classes; the script's ints -/
abbrev mj_G : Type := Nat × Nat × Nat × va_G × (Nat → ClassId) × mj_X
def mj_cv (G : mj_G) : Value → Value
  | .ref k => .ref (G.1 + k)
  | .float z => if z = 0 then .ref G.2.1 else .ref G.2.2.1
  | v => v
def mj_cA (G : mj_G) (a : vp_A) : vp_A := match a with
  | (n, .inr (.inr (.inr (.inr g)))) => (n, .inr (.inr (.inr (.inr fun i => (g i).map (G.1 + ·)))))
  | a => a
def mj_ce (G : mj_G) : mj_C → va_E
  | none => .inr (0, [])
  | some (.inl (t, a)) => .inl (G.2.2.2.2.1 t, mj_cA G a)
  | some (.inr (ci, fs)) => .inr (ci, fs.map (mj_cv G))
def mj_ws (G : mj_G) (σ : mj_H) : va_W := (List.range σ.2.1).map fun k => (G.1 + k, mj_ce G (σ.1 k))
def mj_A (G : mj_G) : Nat → Prop := fun q => G.1 ≤ q
def mj_at : Nat → FieldType
  | 0 => .int
  | 1 => .long
  | 2 => .boolean
  | 3 => .object "GalleryWatch$Post"
  | _ => .object "GalleryWatch$Room"
def mj_tys (G : mj_G) : List (ClassId × FieldType) := (List.range 5).map fun t => (G.2.2.2.2.1 t, mj_at t)
def mj_Nn (U : State) : Prop := (∀ w ∈ mj_tb, mj_nest w = true → va_Nw w U) ∧ va_AO "GalleryWatch$Post" U ∧ va_AO "GalleryWatch$Room" U
def mj_Am (G : mj_G) (U : State) : Prop := va_K G.2.2.2.1 mj_cl (mj_tys G) U ∧ va_Z "GalleryWatch" "KINDS_OF" "[I" (.ref G.2.1) (mj_A G) U U.heap ∧
  va_T .int G.2.1 5 (fun j => .int (mj_kd j)) (mj_A G) U U.heap ∧ va_X G.2.2.1 G.2.2.2.2.2.1 G.2.2.2.2.2.2 U U.heap ∧ G.2.2.1 < G.1 ∧ mj_Nn U
def mj_lv (G : mj_G) (lsR : Array Slot) (nL : Nat) (ls : mj_L) : Prop := lsR.size = nL ∧ lv_wf lsR ∧ ls.length ≤ nL ∧ ∀ (i : Nat) (v : Value), ls[i]? = some (some v) → lsR[i]? = some (.val (mj_cv G v))
def mj_w (σ : mj_H) : Prop := ∀ k, σ.2.1 ≤ k → σ.1 k = none
def mj_Cx (G : mj_G) (y : mj_Y) (d : Nat) (p : Program) (R : Room) (s : State) (m : MethodId) (args : Array Value) (meth : Method) (c : Code) (n0 : Nat) : Prop :=
  p.tables.exec = Jvm.exec ∧ c.code = y.2.1 ∧ meth.sig.returnType = y.2.2.2 ∧ c.maxLocals = y.2.2.1 ∧ s.vm.findClass y.1.cls = some m.cls ∧ (∀ w ∈ mj_tb, w.before args s = true) ∧
  (y.1.name = "<init>" → meth.name = "<init>") ∧ meth.locks = false ∧ mj_Am G s ∧ s.heap.size = G.1 + n0 ∧ d + 1 ≤ R.frames ∧ 64 * d + 200 ≤ R.locals
abbrev mj_WW (l : Launch) (p : Program) (e : Env) (R : Room) (s : State) (m : MethodId) (args : Array Value) (below : List Frame) (meth : Method) (c : Code) (Q : State → Prop) (n0 q0 : Nat) (H : Heap) (locs : List Loc) (σ : mj_H) (g : JFrame) : Prop :=
  W p l e R s m args below meth c H locs (σ.2.1 - n0) (σ.2.2 - q0) Q g
def mj_So (l : Launch) (G : mj_G) (d : Nat) : mj_P := fun y pc ls st σ r =>
  (mj_w σ → σ.2.1 ≤ r.2.2.1 ∧ σ.2.2 ≤ r.2.2.2 ∧ mj_w r.2) ∧
  ∀ (p : Program) (e : Env) (R : Room) (s : State) (m : MethodId) (args : Array Value) (below : List Frame) (meth : Method) (c : Code) (Q : State → Prop) (n0 q0 : Nat),
    mj_Cx G y d p R s m args meth c n0 → mj_w σ → n0 ≤ σ.2.1 → q0 ≤ σ.2.2 → (r.2.2.1 - n0 ≤ R.cells ∧ r.2.2.2 - q0 ≤ R.slots) →
    (∀ (pcr : Nat) (lsR : Array Slot) (H : Heap) (locs : List Loc), mj_Rt y pcr r.1 → va_P G.2.2.2.1 mj_cl (mj_ws G r.2) H → va_S (mj_A G) s.heap H locs →
      mj_WW l p e R s m args below meth c Q n0 q0 H locs r.2 (F0 m pcr lsR (r.1.toList.map (mj_cv G)))) →
    ∀ (H : Heap) (locs : List Loc) (lsR : Array Slot), mj_lv G lsR y.2.2.1 ls → va_P G.2.2.2.1 mj_cl (mj_ws G σ) H → va_S (mj_A G) s.heap H locs →
      mj_WW l p e R s m args below meth c Q n0 q0 H locs σ (F0 m pc lsR (st.map (mj_cv G)))
/-! small facts -/
theorem mj_ws_at (G : mj_G) {σ : mj_H} (hw : mj_w σ) {k : Nat} {c : ((Nat × vp_A) ⊕ (Nat × List Value))} (h : σ.1 k = some c) : (mj_ws G σ)[k]? = some (G.1 + k, mj_ce G (some c)) := by
  have hk : k < σ.2.1 := by
    rcases Nat.lt_or_ge k σ.2.1 with q | q
    · exact q
    · rw [hw k q] at h; cases h
  simp [mj_ws, List.getElem?_map, List.getElem?_range hk, h]
theorem mj_ws_D (G : mj_G) (σ : mj_H) : va_D (mj_A G) (mj_ws G σ) := by
  have key : ∀ (k : Nat) (q : Nat × va_E), (mj_ws G σ)[k]? = some q → q.1 = G.1 + k := by
    intro k q hk
    simp only [mj_ws, List.getElem?_map] at hk
    rcases Nat.lt_or_ge k σ.2.1 with h | h
    · rw [List.getElem?_range h] at hk
      cases hk
      rfl
    · rw [List.getElem?_eq_none (by simpa using h)] at hk
      cases hk
  refine ⟨fun i j x y hi hj hxy => ?_, fun k q hk => ?_⟩
  · have h1 := key i x hi
    have h2 := key j y hj
    omega
  · show G.1 ≤ q.1
    rw [key k q hk]
    omega
theorem mj_ws_len (G : mj_G) (σ : mj_H) : (mj_ws G σ).length = σ.2.1 := by simp [mj_ws]
theorem mj_ws_set (G : mj_G) {σ : mj_H} {a : Nat} (c : mj_C) : mj_ws G (va_up σ.1 a c, σ.2) = (mj_ws G σ).set a (G.1 + a, mj_ce G c) := by
  apply List.ext_getElem?
  intro i
  simp only [mj_ws, List.getElem?_map, List.getElem?_set, List.length_map, List.length_range]
  rcases Nat.lt_or_ge i σ.2.1 with h | h
  · rw [List.getElem?_range h]
    by_cases e : a = i
    · subst e
      simp [h, va_up]
    · rw [if_neg e]
      have e2 : ¬ i = a := fun q => e q.symm
      simp [va_up, e2]
  · rw [List.getElem?_eq_none (by simpa using h)]
    by_cases e : a = i
    · subst e
      simp; omega
    · rw [if_neg e]; rfl
theorem mj_ws_push (G : mj_G) {σ : mj_H} (c : mj_C) (q : Nat) : mj_ws G (va_up σ.1 σ.2.1 c, σ.2.1 + 1, q) = mj_ws G σ ++ [(G.1 + σ.2.1, mj_ce G c)] := by
  simp only [mj_ws, List.range_succ, List.map_append, List.map_cons, List.map_nil]
  congr 1
  · apply List.map_congr_left
    intro k hk
    have : k ≠ σ.2.1 := Nat.ne_of_lt (List.mem_range.mp hk)
    simp [va_up, this]
  · simp [va_up]
theorem mj_w_set {σ : mj_H} (hw : mj_w σ) {a : Nat} {c0 : ((Nat × vp_A) ⊕ (Nat × List Value))} (h : σ.1 a = some c0) (c : mj_C) : mj_w (va_up σ.1 a c, σ.2) := by
  intro k hk
  have hne : k ≠ a := fun e => by subst e; rw [hw k hk] at h; cases h
  show va_up σ.1 a c k = none
  rw [va_up_ne _ _ hne]
  exact hw k hk
theorem mj_w_push {σ : mj_H} (hw : mj_w σ) (c : mj_C) (q : Nat) : mj_w (va_up σ.1 σ.2.1 c, σ.2.1 + 1, q) := by
  intro k hk
  have hk : σ.2.1 + 1 ≤ k := hk
  show va_up σ.1 σ.2.1 c k = none
  rw [va_up_ne _ _ (by omega)]
  exact hw k (by omega)
theorem mj_cv_cat (G : mj_G) (v : Value) : (mj_cv G v).category = v.category := by
  cases v with
  | float z =>
    show (if z = 0 then Value.ref G.2.1 else Value.ref G.2.2.1).category = 1
    split <;> rfl
  | _ => rfl
theorem mj_cs_map (G : mj_G) (st : List Value) : ((st.map (mj_cv G)).map fun v => v.category).sum = mj_cs st := by
  simp only [mj_cs, List.map_map]
  congr 1
  apply List.map_congr_left
  intro v _
  exact mj_cv_cat G v
theorem mj_cv_rf (G : mj_G) (r : Option Nat) : mj_cv G (va_rf r) = va_rf (r.map (G.1 + ·)) := by
  cases r <;> rfl
theorem mj_size {p : Program} {l : Launch} {e : Env} {R : Room} {s : State} {m : MethodId} {args : Array Value} {below : List Frame} {meth : Method} {c : Code} {H : Heap} {locs : List Loc} {cells slots : Nat} {Q : State → Prop} {g : JFrame}
    (h : H.size ≤ s.heap.size + cells → W p l e R s m args below meth c H locs cells slots Q g) : W p l e R s m args below meth c H locs cells slots Q g := by
  intro T hT X
  exact h (by have := X.same.2.2.1; rw [← hT]; exact this) T hT X
theorem mj_size_eq {G : mj_G} {σ : mj_H} {H H0 : Heap} {locs : List Loc} {n0 cells : Nat} (hP : va_P G.2.2.2.1 mj_cl (mj_ws G σ) H) (hS : va_S (mj_A G) H0 H locs) (h0 : H0.size = G.1 + n0) (hn : n0 ≤ σ.2.1) (hc : cells = σ.2.1 - n0) (h : H.size ≤ H0.size + cells) : H.size = G.1 + σ.2.1 := by
  rcases Nat.eq_zero_or_pos σ.2.1 with q | q
  · have := hS.1
    omega
  · have hl : σ.2.1 - 1 < σ.2.1 := by omega
    have hk : (mj_ws G σ)[σ.2.1 - 1]? = some (G.1 + (σ.2.1 - 1), mj_ce G (σ.1 (σ.2.1 - 1))) := by
      simp [mj_ws, List.getElem?_map, List.getElem?_range hl]
    have := (hP _ _ hk).lt
    have h2 : G.1 + (σ.2.1 - 1) < H.size := this
    omega
theorem mj_Nn_warm {s U : State} (hW : s.WarmedH U.vm) (h : mj_Nn s) : mj_Nn U := by
  refine ⟨fun w hw hn => ?_, h.2.1.moved hW.alike, h.2.2.moved hW.alike⟩
  have h1 := h.1 w hw hn
  cases w <;> first | exact va_Nw.warmF hW h1 | exact va_Nw.warmM hW h1 | (simp [mj_nest] at hn)
theorem mj_Nn_same {s U : State} (hW : s.vm = U.vm) (h : mj_Nn s) : mj_Nn U := by
  refine ⟨fun w hw hn => ?_, h.2.1.moved (by rw [hW]; exact Vm.Alike.refl _), h.2.2.moved (by rw [hW]; exact Vm.Alike.refl _)⟩
  have h1 := h.1 w hw hn
  cases w <;> first | exact va_Nw.same rfl hW h1 | (simp [mj_nest] at hn)
theorem mj_Am_moved {G : mj_G} {s U : State} {locs : List Loc} (h : mj_Am G s) (hvm : s.vm.Alike U.vm) (hN : mj_Nn U) (hS : va_S (mj_A G) s.heap U.heap locs) : mj_Am G U := by
  obtain ⟨h1, h2, h3, h4, h5, -⟩ := h
  have hb : G.2.2.1 < s.heap.size := by
    obtain ⟨scr, q, -⟩ := h4
    exact (Array.getElem?_eq_some_iff.mp q).1
  exact ⟨h1.moved hvm, (h2.moved hvm).kept hS.2.1, (h3.moved hvm).kept hS.2.1, (h4.moved hvm).kept (hS.2.1 _ hb (by show ¬ G.1 ≤ _; omega)), h5, hN⟩
/-- a step that changes the stack alone -/
theorem mj_up {l : Launch} {G : mj_G} {d : Nat} {y : mj_Y} {pc pc' : Nat} {ls : mj_L} {st st' : List Value} {σ : mj_H} {r : mj_R}
    (h : ∀ (p : Program) (e : Env) (R : Room) (s : State) (m : MethodId) (args : Array Value) (below : List Frame) (meth : Method) (c : Code) (Q : State → Prop) (n0 : Nat) (cells slots : Nat) (H : Heap) (locs : List Loc) (lsR : Array Slot),
      mj_Cx G y d p R s m args meth c n0 → mj_w σ → mj_lv G lsR y.2.2.1 ls → va_P G.2.2.2.1 mj_cl (mj_ws G σ) H → va_S (mj_A G) s.heap H locs →
      W p l e R s m args below meth c H locs cells slots Q (F0 m pc' lsR (st'.map (mj_cv G))) → W p l e R s m args below meth c H locs cells slots Q (F0 m pc lsR (st.map (mj_cv G))))
    (k : mj_So l G d y pc' ls st' σ r) : mj_So l G d y pc ls st σ r :=
  ⟨k.1, fun p e R s m args below meth c Q n0 q0 hc hw h1 h2 h3 hret H locs lsR hl hP hS => h p e R s m args below meth c Q n0 _ _ H locs lsR hc hw hl hP hS (k.2 p e R s m args below meth c Q n0 q0 hc hw h1 h2 h3 hret H locs lsR hl hP hS)⟩
