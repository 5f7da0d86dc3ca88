/-! calls, and the induction: a run of the small machine is a run of the machine -/
theorem mj_good {w : Cond} (h : w ∈ mj_tb) (hg : goodWord w = true) : w ∈ mj_tb ∧ ((w.onTables && w.keeps) = true ∨ ∃ ty, w = .arrayClass ty) := ⟨h, good_of_word hg⟩
theorem mj_goodC {z : mj_Y} {re : Option FieldType} (h : Cond.code z.1 z.2.1 z.2.2.1 re ∈ mj_tb) : GoodIn mj_tb (Cond.code z.1 z.2.1 z.2.2.1 re :: mj_gt) := by
  intro w hw
  rcases List.mem_cons.mp hw with rfl | q
  · exact mj_good h rfl
  · exact mj_good (List.mem_filter.mp q).1 (List.mem_filter.mp q).2
def mj_Qc (G : mj_G) (v : Option Value) (σ : mj_H) : Array Value → State → Outcome → State → Prop := fun _ st oc t => oc = .returned (v.map (mj_cv G)) ∧ va_P G.2.2.2.1 mj_cl (mj_ws G σ) t.heap ∧ va_F (mj_A G) st t
def mj_Pc (G : mj_G) (as : List Value) (σ : mj_H) : Array Value → State → Prop := va_Pc (as.map (mj_cv G)) (fun U => mj_Am G U ∧ U.heap.size = G.1 + σ.2.1 ∧ va_P G.2.2.2.1 mj_cl (mj_ws G σ) U.heap)
theorem mj_al_len (G : mj_G) : ∀ as : List Value, (lg_sl (as.map (mj_cv G))).length = (mj_al as).length
  | [] => rfl
  | v :: r => by
    have ih := mj_al_len G r
    simp only [lg_sl, List.map_cons, List.flatMap_cons, List.length_append, mj_cv_cat, mj_al] at ih ⊢
    rw [ih]
    split <;> simp <;> omega
theorem mj_al_at (G : mj_G) : ∀ (as : List Value) (j i : Nat) (v : Value), (mj_al as)[i]? = some (some v) → (j + i, mj_cv G v) ∈ lv_args j (as.map (mj_cv G))
  | [], j, i, v, h => by simp [mj_al] at h
  | u :: r, j, i, v, h => by
    simp only [mj_al] at h
    simp only [List.map_cons, lv_args, mj_cv_cat]
    by_cases e : u.category = 2
    · rw [if_pos e] at h ⊢
      match i, h with
      | 0, h => cases h; exact List.mem_cons_self
      | 1, h => cases h
      | i + 2, h =>
        have := mj_al_at G r (j + 2) i v (by simpa using h)
        rw [show j + (i + 2) = j + 2 + i by omega]
        exact List.mem_cons_of_mem _ this
    · rw [if_neg e] at h ⊢
      match i, h with
      | 0, h => cases h; exact List.mem_cons_self
      | i + 1, h =>
        have := mj_al_at G r (j + 1) i v (by simpa using h)
        rw [show j + (i + 1) = j + 1 + i by omega]
        exact List.mem_cons_of_mem _ this
theorem mj_en_lv (G : mj_G) {z : mj_Y} {as : List Value} (h : (mj_al as).length ≤ z.2.2.1) : mj_lv G ((lg_sl (as.map (mj_cv G)) ++ List.replicate (z.2.2.1 - (lg_sl (as.map (mj_cv G))).length) Slot.unset).toArray) z.2.2.1 (mj_en z as) := by
  have h2 : (lg_sl (as.map (mj_cv G))).length ≤ z.2.2.1 := by rw [mj_al_len]; exact h
  have hh := lv_entry (as.map (mj_cv G)) h2
  refine ⟨hh.1, hh.2.1, by simp [mj_en]; omega, fun i v hi => ?_⟩
  have hi2 : (mj_al as)[i]? = some (some v) := by
    rw [mj_en] at hi
    rcases Nat.lt_or_ge i (mj_al as).length with q | q
    · rwa [List.getElem?_append_left q] at hi
    · rw [List.getElem?_append_right q] at hi
      rcases Nat.lt_or_ge (i - (mj_al as).length) (z.2.2.1 - (mj_al as).length) with q2 | q2
      · rw [List.getElem?_replicate_of_lt q2] at hi; cases hi
      · rw [List.getElem?_eq_none (by simpa using q2)] at hi; cases hi
  have := hh.2.2 _ (mj_al_at G as 0 i v hi2)
  simpa using this
theorem mj_met {l : Launch} {G : mj_G} {d n : Nat} {z : mj_Y} {as : List Value} {σ σ' : mj_H} {v : Option Value} (hz : mj_Mt z n) (hal : (mj_al as).length ≤ z.2.2.1) (hw : mj_w σ) (h : mj_So l G d z 0 (mj_en z as) [] σ (v, σ')) :
    Met l z.1 (Cond.code z.1 z.2.1 z.2.2.1 z.2.2.2 :: mj_gt) ({ frames := d + 1, cells := σ'.2.1 - σ.2.1, slots := σ'.2.2 - σ.2.2, locals := 64 * d + 200 }) (mj_Pc G as σ) (mj_Qc G v σ') (σ'.2.1 - σ.2.1) (σ'.2.2 - σ.2.2) (mj_A G) := by
  refine Met.ofW (cc := z.2.1) (maxL := z.2.2.1) (ret := z.2.2.2) hz.2.2.1 rfl ?_
  intro p e s m args below meth c s₁ B hml hv
  obtain ⟨rfl, hAm, hsz, hP⟩ := hv
  have hts : ∀ w ∈ mj_tb, w.before (as.map (mj_cv G)).toArray s = true := by
    intro w hw'
    have hk := (List.mem_filter.mp hw').2
    by_cases hg : goodWord w = true
    · exact atoms_spec (ws := Cond.code z.1 z.2.1 z.2.2.1 z.2.2.2 :: mj_gt) B.pre w (List.mem_cons_of_mem _ (List.mem_filter.mpr ⟨hw', hg⟩))
    · by_cases hn : mj_nest w = true
      · have h1 := hAm.2.2.2.2.2.1 w hw' hn
        cases w <;> first | exact va_Nw.use rfl h1 | (simp [mj_nest] at hn)
      · have hv : mj_over w = true := by
          simp only [mj_kw, Bool.or_eq_true] at hk
          rcases hk with q | q | q
          · exact absurd q hg
          · exact absurd q hn
          · exact q
        have hall : ∀ w ∈ mj_tb, mj_over w = true → w = .arrayOver (.object "GalleryWatch$Post") ∨ w = .arrayOver (.object "GalleryWatch$Room") := by decide +kernel
        rcases hall w hw' hv with rfl | rfl
        · exact va_AO.use hAm.2.2.2.2.2.2.1
        · exact va_AO.use hAm.2.2.2.2.2.2.2
  have hown : s.vm.findClass z.1.cls = some m.cls := findClass_of_methodNamed B.named
  have hname : z.1.name = "<init>" → meth.name = "<init>" := fun e => ((name_of_methodNamed B.named B.method).1).trans e
  rw [lg_entry_eq]
  refine W.cs (Nat.sub_self σ.2.1).symm (Nat.sub_self σ.2.2).symm ?_
  refine h.2 p e _ s m _ below meth c _ σ.2.1 σ.2.2 ⟨B.exec, B.bytes, B.returns, hml, hown, hts, hname, B.notSynchronized, hAm, hsz, Nat.le_refl _, Nat.le_refl _⟩ hw (Nat.le_refl _) (Nat.le_refl _) ⟨Nat.le_refl _, Nat.le_refl _⟩ ?_ s.heap [] _ (mj_en_lv G hal) hP va_S.rf
  intro pcr lsR H locs hR hP1 hS1
  have hx := B.exec
  have hb := B.bytes
  have hr := B.returns
  have hlocks := B.notSynchronized
  rcases hR with ⟨k, ty, rfl, hd, e1, e2⟩ | ⟨k, rfl, hd, e1⟩ | ⟨k, nn, rfl, hd, e1⟩ | ⟨rfl, hd, e1⟩
  · exact W.zret hx hb (hr.trans e1) e2 (fun t ht _ => ⟨rfl, by rw [ht]; exact hP1, hS1.F ht⟩) (fun q hq => hS1.2.2 q hq) hd
  · exact W.lret hx hb (hr.trans e1) (fun t ht _ => ⟨rfl, by rw [ht]; exact hP1, hS1.F ht⟩) (fun q hq => hS1.2.2 q hq) hd
  · have hv2 : mj_cv G (va_rf k) = .null ∨ ∃ a, mj_cv G (va_rf k) = .ref a := by
      cases k with
      | none => exact .inl rfl
      | some a => exact .inr ⟨_, rfl⟩
    exact W.aret hx hb (hr.trans e1) (.inl ⟨nn, rfl⟩) hv2 (fun t ht _ => ⟨rfl, by rw [ht]; exact hP1, hS1.F ht⟩) (fun q hq => hS1.2.2 q hq) hd
  · exact W.vret hx hb (hr.trans e1) (fun t ht _ => ⟨rfl, by rw [ht]; exact hP1, hS1.F ht⟩) (fun q hq => hS1.2.2 q hq) hd
theorem mj_blind (G : mj_G) (as : List Value) (σ : mj_H) : FrameBlind (mj_Pc G as σ) := by
  intro a U g mk h
  obtain ⟨h0, h1, h2, h3⟩ := h
  exact ⟨h0, mj_Am_moved (U := U.calling g mk a) (locs := []) h1 (Vm.Alike.refl U.vm) (mj_Nn_same (s := U) (U := U.calling g mk a) rfl h1.2.2.2.2.2) va_S.rf, h2, h3⟩
theorem mj_call {p : Program} {l : Launch} {e : Env} {R : Room} {s : State} {m : MethodId} {args : Array Value} {below : List Frame} {meth : Method} {c : Code} {H : Heap} {locs : List Loc} {cells slots mc ms pc : Nat} {Q : State → Prop} {G : mj_G} {v : Option Value} {σ' : mj_H} {lsR : Array Slot} {st0 rest : List Value} {a : Array Value}
    (hr : va_Run p l e R s m args below meth c H locs cells slots mc ms (F0 m pc lsR st0) rest (mj_Qc G v σ' a) (mj_A G)) (hS : va_S (mj_A G) s.heap H locs)
    (kk : ∀ (H1 : Heap) (locs1 : List Loc), va_P G.2.2.2.1 mj_cl (mj_ws G σ') H1 → va_S (mj_A G) s.heap H1 locs1 → W p l e R s m args below meth c H1 locs1 (cells + mc) (slots + ms) Q (F0 m (pc + 3) lsR ((v.map (mj_cv G)).toList ++ rest))) : W p l e R s m args below meth c H locs cells slots Q (F0 m pc lsR st0) := by
  intro T hT X
  obtain ⟨v', st₀, t, T', L, h0, X', hL, e1, e2, ⟨hv, hp, hz, hk⟩, st⟩ := hr T hT X
  cases hv
  rw [h0] at hz hk
  obtain ⟨t2, a1, b1⟩ := kk T'.heap (locs ++ L) (by rw [e1]; exact hp)
    ⟨Nat.le_trans hS.1 (by rw [e1]; exact hz), fun q h1 h2 => by rw [e1, hk q (Nat.lt_of_lt_of_le h1 hS.1) h2]; exact hS.2.1 q h1 h2, fun q hq => by
      rcases List.mem_append.mp hq with h | h
      · exact hS.2.2 q h
      · exact hL q h⟩ T' rfl X'
  exact ⟨t2, st t2 a1, b1⟩
section MS4
variable {l : Launch} {G : mj_G} {d : Nat}
/-- what all kinds of calls share -/
theorem mj_calls {y z : mj_Y} {pc n : Nat} {as : List Value} {ls : mj_L} {st rest : List Value} {σ σ' : mj_H} {v : Option Value} {r : mj_R} (hz : mj_Mt z n) (hal : (mj_al as).length ≤ z.2.2.1) (h : mj_So l G d z 0 (mj_en z as) [] σ (v, σ')) (kk : mj_So l G (d + 1) y (pc + 3) ls (v.toList ++ rest) σ' r)
    (hrun : ∀ (p : Program) (e : Env) (R : Room) (s : State) (m : MethodId) (args : Array Value) (below : List Frame) (meth : Method) (c : Code) (n0 cells slots : Nat) (H : Heap) (locs : List Loc) (lsR : Array Slot) (rm : Room), mj_Cx G y (d + 1) p R s m args meth c n0 → mj_w σ → mj_lv G lsR y.2.2.1 ls → va_P G.2.2.2.1 mj_cl (mj_ws G σ) H → va_S (mj_A G) s.heap H locs → H.size = G.1 + σ.2.1 →
      rm = { frames := d + 1, cells := σ'.2.1 - σ.2.1, slots := σ'.2.2 - σ.2.2, locals := 64 * d + 200 } →
      Met l z.1 (Cond.code z.1 z.2.1 z.2.2.1 z.2.2.2 :: mj_gt) rm (mj_Pc G as σ) (mj_Qc G v σ') (σ'.2.1 - σ.2.1) (σ'.2.2 - σ.2.2) (mj_A G) → PreS s H (mj_Pc G as σ) (as.map (mj_cv G)) → (rm.frames + 1 ≤ R.frames ∧ 8 + (z.2.2.1 + 11) + rm.locals ≤ R.locals) → (cells + (σ'.2.1 - σ.2.1) ≤ R.cells ∧ slots + (σ'.2.2 - σ.2.2) ≤ R.slots) →
      ∃ a, va_Run p l e R s m args below meth c H locs cells slots (σ'.2.1 - σ.2.1) (σ'.2.2 - σ.2.2) (F0 m pc lsR (st.map (mj_cv G))) (rest.map (mj_cv G)) (mj_Qc G v σ' a) (mj_A G)) : mj_So l G (d + 1) y pc ls st σ r := by
  have hm1 := h.1
  have hm2 := kk.1
  refine ⟨fun hw => ?_, fun p e R s m args below meth c Q n0 q0 hc hw h1 h2 h3 hret H locs lsR hl hP hS => ?_⟩
  · obtain ⟨a1, a2, a3⟩ := hm1 hw
    obtain ⟨b1, b2, b3⟩ := hm2 a3
    exact ⟨Nat.le_trans a1 b1, Nat.le_trans a2 b2, b3⟩
  · obtain ⟨a1, a2, a3⟩ := hm1 hw
    obtain ⟨b1, b2, b3⟩ := hm2 a3
    have a1 : σ.2.1 ≤ σ'.2.1 := a1
    have a2 : σ.2.2 ≤ σ'.2.2 := a2
    refine mj_size fun hsz => ?_
    have hsz2 : H.size = G.1 + σ.2.1 := mj_size_eq hP hS hc.2.2.2.2.2.2.2.2.2.1 h1 rfl hsz
    have hAm := hc.2.2.2.2.2.2.2.2.1
    have hfr := hc.2.2.2.2.2.2.2.2.2.2.1
    have hlo := hc.2.2.2.2.2.2.2.2.2.2.2
    have h45 := hz.2.2.2.2
    obtain ⟨a, hr⟩ := hrun p e R s m args below meth c n0 (σ.2.1 - n0) (σ.2.2 - q0) H locs lsR _ hc hw hl hP hS hsz2 rfl (mj_met hz hal hw h)
      ⟨mj_blind G as σ, fun U hU hW => ⟨rfl, mj_Am_moved (locs := locs) hAm hW.alike (mj_Nn_warm hW hAm.2.2.2.2.2) (by rw [hU]; exact hS), by rw [hU]; exact hsz2, by rw [hU]; exact hP⟩⟩ ⟨hfr, by show 8 + (z.2.2.1 + 11) + (64 * d + 200) ≤ R.locals; omega⟩ ⟨by omega, by omega⟩
    refine mj_call hr hS fun H1 locs1 hP1 hS1 => ?_
    have k3 := kk.2 p e R s m args below meth c Q n0 q0 hc a3 (Nat.le_trans h1 a1) (Nat.le_trans h2 a2) h3 hret H1 locs1 lsR hl hP1 hS1
    have e3 : (v.map (mj_cv G)).toList ++ rest.map (mj_cv G) = (v.toList ++ rest).map (mj_cv G) := by cases v <;> simp
    rw [e3]
    refine W.cs ?_ ?_ k3 <;> omega
theorem mj_s42 (IH : ∀ (z : mj_Y) (as : List Value) (σ : mj_H) (r : mj_R), mj_Run G.2.2.2.2.2 d z 0 (mj_en z as) [] σ r → mj_So l G d z 0 (mj_en z as) [] σ r) : ∀ y pc z ci n a fs as ls st rest (σ σ' : mj_H) v r, mj_Cv y pc z ci n → σ.1 a = mj_O ci fs → as.length = n → st = as.reverse ++ .ref a :: rest → mj_cs rest ≤ 8 → (mj_al (.ref a :: as)).length ≤ z.2.2.1 → mj_Run G.2.2.2.2.2 d z 0 (mj_en z (.ref a :: as)) [] σ (v, σ') → mj_So l G (d + 1) y (pc + 3) ls (v.toList ++ rest) σ' r → mj_So l G (d + 1) y pc ls st σ r := by
  rintro y pc z ci n a fs as ls st rest σ σ' v r ⟨hci, hnm, hz, i, hd, w1, w2, w3⟩ hcell hlen rfl h8 hal hrun kk
  refine mj_calls hz hal (IH _ _ _ _ hrun) kk (fun p e R s m args below meth c n0 cells slots H locs lsR rm hc hw hl hP hS hsz hrm hM hpre hR hf => ?_)
  subst hrm
  obtain ⟨hx, hb, hr, hml, hown, hts, -, -, hAm, -⟩ := hc
  obtain ⟨T, N, ty0, c1, -⟩ := mj_cls hci
  refine ⟨_, va_runV (C := z.1.cls) (As := as.map (mj_cv G)) (b := G.1 + a) (rest := rest.map (mj_cv G)) ⟨hx, hb, hml, hown, hts⟩ hM ⟨callB_of n hts (mj_goodC hz.1) rfl rfl rfl (hts _ hz.2.1) (hts _ w1) hz.2.2.2.1 hR, hts _ w2, hts _ w3⟩ ⟨hpre.1, ?_, hpre.2⟩ rfl (by rw [List.length_map]; exact hlen) hl.1 ?_ (lv_room (by rw [mj_cs_map]; exact h8)) hd hf⟩
  · have := va_recv hAm.1 hP c1 (mj_ws_at G hw hcell)
    rw [← hnm]
    exact this
  · show (as.reverse ++ .ref a :: rest).map (mj_cv G) = _
    rw [List.map_append, List.map_reverse]
    rfl
theorem mj_s43 (IH : ∀ (z : mj_Y) (as : List Value) (σ : mj_H) (r : mj_R), mj_Run G.2.2.2.2.2 d z 0 (mj_en z as) [] σ r → mj_So l G d z 0 (mj_en z as) [] σ r) : ∀ y pc z n as ls st rest (σ σ' : mj_H) v r, mj_Cs y pc z n → as.length = n → st = as.reverse ++ rest → mj_cs rest ≤ 8 → (mj_al as).length ≤ z.2.2.1 → mj_Run G.2.2.2.2.2 d z 0 (mj_en z as) [] σ (v, σ') → mj_So l G (d + 1) y (pc + 3) ls (v.toList ++ rest) σ' r → mj_So l G (d + 1) y pc ls st σ r := by
  rintro y pc z n as ls st rest σ σ' v r ⟨hz, i, hd, w1, w2⟩ hlen rfl h8 hal hrun kk
  refine mj_calls hz hal (IH _ _ _ _ hrun) kk (fun p e R s m args below meth c n0 cells slots H locs lsR rm hc hw hl hP hS hsz hrm hM hpre hR hf => ?_)
  subst hrm
  obtain ⟨hx, hb, hr, hml, hown, hts, -⟩ := hc
  have hgood : GoodIn mj_tb (Cond.code z.1 z.2.1 z.2.2.1 z.2.2.2 :: mj_gt) := mj_goodC hz.1
  have hst : (as.reverse ++ rest).map (mj_cv G) = (as.map (mj_cv G)).reverse ++ rest.map (mj_cv G) := by
    rw [List.map_append, List.map_reverse]
  rcases w2 with w2 | ⟨hh, w2⟩
  · exact ⟨_, va_runS (As := as.map (mj_cv G)) (rest := rest.map (mj_cv G)) ⟨hx, hb, hml, hown, hts⟩ hM ⟨callB_of n hts hgood rfl rfl rfl (hts _ hz.2.1) (hts _ w2) hz.2.2.2.1 hR, hts _ w1⟩ hpre rfl (by rw [List.length_map]; exact hlen) hl.1 hst (lv_room (by rw [mj_cs_map]; exact h8)) hd hf⟩
  · exact ⟨_, va_runSN (As := as.map (mj_cv G)) (rest := rest.map (mj_cv G)) ⟨hx, hb, hml, hown, hts⟩ hM ⟨va_cnB n hts hgood rfl rfl rfl (va_Nw.of rfl (hts _ w2)) (hts _ hz.2.1) hz.2.2.2.1 hR, hts _ w1, trivial⟩ hpre rfl (by rw [List.length_map]; exact hlen) hl.1 hst (lv_room (by rw [mj_cs_map]; exact h8)) hd hf⟩
theorem mj_s44 (IH : ∀ (z : mj_Y) (as : List Value) (σ : mj_H) (r : mj_R), mj_Run G.2.2.2.2.2 d z 0 (mj_en z as) [] σ r → mj_So l G d z 0 (mj_en z as) [] σ r) : ∀ y pc z n a as ls st rest (σ σ' : mj_H) v r, mj_Ci y pc z n → as.length = n → st = as.reverse ++ .ref a :: rest → mj_cs rest ≤ 8 → (mj_al (.ref a :: as)).length ≤ z.2.2.1 → mj_Run G.2.2.2.2.2 d z 0 (mj_en z (.ref a :: as)) [] σ (v, σ') → mj_So l G (d + 1) y (pc + 3) ls (v.toList ++ rest) σ' r → mj_So l G (d + 1) y pc ls st σ r := by
  rintro y pc z n a as ls st rest σ σ' v r ⟨hz, hnm, hret, i, hd, w1, w2⟩ hlen rfl h8 hal hrun kk
  refine mj_calls hz hal (IH _ _ _ _ hrun) kk (fun p e R s m args below meth c n0 cells slots H locs lsR rm hc hw hl hP hS hsz hrm hM hpre hR hf => ?_)
  subst hrm
  obtain ⟨hx, hb, hr, hml, hown, hts, -⟩ := hc
  have hgood : GoodIn mj_tb (Cond.code z.1 z.2.1 z.2.2.1 none :: mj_gt) := mj_goodC (by rw [← hret]; exact hz.1)
  have hst : (as.reverse ++ .ref a :: rest).map (mj_cv G) = (as.map (mj_cv G)).reverse ++ .ref (G.1 + a) :: rest.map (mj_cv G) := by
    rw [List.map_append, List.map_reverse]
    rfl
  rw [hret] at hM
  rcases w2 with w2 | ⟨hh, w2⟩
  · exact ⟨_, va_runI (As := as.map (mj_cv G)) (b := G.1 + a) (rest := rest.map (mj_cv G)) ⟨hx, hb, hml, hown, hts⟩ hM ⟨callB_of n hts hgood rfl rfl rfl (hts _ hz.2.1) (hts _ w2) hz.2.2.2.1 hR, hnm, hts _ w1⟩ hpre rfl (by rw [List.length_map]; exact hlen) hl.1 hst (lv_room (by rw [mj_cs_map]; exact h8)) hd hf⟩
  · exact ⟨_, va_runIN (As := as.map (mj_cv G)) (b := G.1 + a) (rest := rest.map (mj_cv G)) ⟨hx, hb, hml, hown, hts⟩ hM ⟨va_cnB n hts hgood rfl rfl rfl (va_Nw.of rfl (hts _ w2)) (hts _ hz.2.1) hz.2.2.2.1 hR, hnm, hts _ w1⟩ hpre rfl (by rw [List.length_map]; exact hlen) hl.1 hst (lv_room (by rw [mj_cs_map]; exact h8)) hd hf⟩
end MS4
