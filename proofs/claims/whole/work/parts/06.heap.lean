/-! the rules of the heap, one by one -/
theorem mj_cls {ci : Nat} (h : ci < 9) : ∃ (T : u_T) (N : Nat) (ty : Nat → FieldType), mj_cl[ci]? = some (mj_nmC ci, T, N) ∧ N = mj_nf ci ∧ (∀ k, T k = mj_fld ci k) ∧ (∀ w ∈ u_ws (mj_nmC ci) T N, w ∈ mj_tb) ∧ (∀ k, k < N → parseFieldDescriptor (T k).2.2.1 = some (ty k)) ∧
    (∀ a, a < N → ∀ b, b < N → a ≠ b → (T a).2.1 ≠ (T b).2.1) ∧ (∀ k, k < N → (T k).1 = mj_nmC ci) ∧ (∀ j, j < N → defaultValue (ty j) = vp_V (mj_df.getD ci []) j) ∧ ∀ v ∈ mj_df.getD ci [], v = .int 0 ∨ v = .long 0 ∨ v = .null := by
  match ci, h with
  | 0, _ => exact ⟨mj_T0, _, mj_t0, rfl, rfl, fun _ => rfl, mj_in0, mj_ty0, mj_nm0, mj_ow0, by decide +kernel, by decide +kernel⟩
  | 1, _ => exact ⟨mj_T1, _, mj_t1, rfl, rfl, fun _ => rfl, mj_in1, mj_ty1, mj_nm1, mj_ow1, by decide +kernel, by decide +kernel⟩
  | 2, _ => exact ⟨mj_T2, _, mj_t2, rfl, rfl, fun _ => rfl, mj_in2, mj_ty2, mj_nm2, mj_ow2, by decide +kernel, by decide +kernel⟩
  | 3, _ => exact ⟨mj_T3, _, mj_t3, rfl, rfl, fun _ => rfl, mj_in3, mj_ty3, mj_nm3, mj_ow3, by decide +kernel, by decide +kernel⟩
  | 4, _ => exact ⟨mj_T4, _, mj_t4, rfl, rfl, fun _ => rfl, mj_in4, mj_ty4, mj_nm4, mj_ow4, by decide +kernel, by decide +kernel⟩
  | 5, _ => exact ⟨mj_T5, _, mj_t5, rfl, rfl, fun _ => rfl, mj_in5, mj_ty5, mj_nm5, mj_ow5, by decide +kernel, by decide +kernel⟩
  | 6, _ => exact ⟨mj_T6, _, mj_t6, rfl, rfl, fun _ => rfl, mj_in6, mj_ty6, mj_nm6, mj_ow6, by decide +kernel, by decide +kernel⟩
  | 7, _ => exact ⟨mj_T7, _, mj_t7, rfl, rfl, fun _ => rfl, mj_in7, mj_ty7, mj_nm7, mj_ow7, by decide +kernel, by decide +kernel⟩
  | 8, _ => exact ⟨mj_T8, _, mj_t8, rfl, rfl, fun _ => rfl, mj_in8, mj_ty8, mj_nm8, mj_ow8, by decide +kernel, by decide +kernel⟩
theorem mj_narrow (G : mj_G) {ty : FieldType} {v : Value} (h : narrow ty v = v) (hf : ∀ z, v ≠ .float z) : narrow ty (mj_cv G v) = mj_cv G v := by
  cases v with
  | ref a => show narrow ty (.ref (G.1 + a)) = .ref (G.1 + a); cases ty <;> rfl
  | float z => exact absurd rfl (hf z)
  | _ => exact h
theorem mj_fits (G : mj_G) {ty : FieldType} {v : Value} (h : fits ty v = true) (hf : ∀ z, v ≠ .float z) : fits ty (mj_cv G v) = true := by
  cases v with
  | ref a => show fits ty (.ref (G.1 + a)) = true; cases ty <;> first | rfl | exact h
  | float z => exact absurd rfl (hf z)
  | _ => exact h
theorem mj_cA1 (G : mj_G) (a : vp_A) : (mj_cA G a).1 = a.1 := by
  obtain ⟨n, f⟩ := a
  rcases f with f | f | f | f | f <;> rfl
section MS2
variable {l : Launch} {G : mj_G} {d : Nat}
theorem mj_s19 : ∀ y pc ci k a fs v ls st (σ : mj_H) r, mj_Gf y pc ci k → σ.1 a = mj_O ci fs → fs[k]? = some v → mj_So l G d y (pc + 3) ls (v :: st) σ r → mj_So l G d y pc ls (.ref a :: st) σ r := by
  rintro y pc ci k a fs v ls st σ r ⟨hci, hk, i, hd, hw1⟩ hcell hv kk
  refine mj_up (fun p e R s m args below meth c Q n0 cells slots H locs lsR hc hw hl hP hS w => ?_) kk
  obtain ⟨hx, hb, hr, hml, hown, hts, hin, hlk, hAm, -⟩ := hc
  obtain ⟨T, N, ty, c1, rfl, c3, c4, c5, c6, c7, -⟩ := mj_cls hci
  have hat := mj_ws_at G hw hcell
  have hv2 : (fs.map (mj_cv G))[k]? = some (mj_cv G v) := by rw [List.getElem?_map, hv]; rfl
  have hsame : ∀ z, s.fieldFound? (T k).1 (T k).2.1 (T k).2.2.1 = some z → s.fieldFound? (mj_nmC ci) (T k).2.1 (T k).2.2.1 = some z := fun z h => by rw [c7 k hk] at h; exact h
  rw [← c3 k] at hw1
  rcases hw1 with hw1 | ⟨hh, hw1⟩
  · exact va_get hx hb hts c4 hown hAm.1 hP a hat c1 k hk (hts _ hw1) hsame hv2 hd w
  · exact va_getN hx hb hts c4 hown hAm.1 hP a hat c1 k hk (hts _ hw1) hsame hv2 hd w
theorem mj_s20 : ∀ y pc ci k ty a fs v ls st (σ : mj_H) r, mj_Pf y pc ci k ty → σ.1 a = mj_O ci fs → k < fs.length → narrow ty v = v → fits ty v = true → (∀ z, v ≠ .float z) → mj_So l G d y (pc + 3) ls st (va_up σ.1 a (mj_O ci (fs.set k v)), σ.2) r → mj_So l G d y pc ls (v :: .ref a :: st) σ r := by
  rintro y pc ci k ty a fs v ls st σ r ⟨hci, hk, i, hd, hw1, hty, hfin⟩ hcell hlen hn hf hnf kk
  refine ⟨fun hw => kk.1 (mj_w_set hw hcell _), fun p e R s m args below meth c Q n0 q0 hc hw h1 h2 h3 hret H locs lsR hl hP hS => ?_⟩
  have k2 := fun H locs hP hS => kk.2 p e R s m args below meth c Q n0 q0 hc (mj_w_set hw hcell _) h1 h2 h3 hret H locs lsR hl hP hS
  rw [mj_ws_set] at k2
  obtain ⟨hx, hb, hr, hml, hown, hts, hin, hlk, hAm, -⟩ := hc
  obtain ⟨T, N, ty0, c1, rfl, c3, c4, c5, c6, c7, -⟩ := mj_cls hci
  have hat := mj_ws_at G hw hcell
  have hsame : ∀ z, s.fieldFound? (T k).1 (T k).2.1 (T k).2.2.1 = some z → s.fieldFound? (mj_nmC ci) (T k).2.1 (T k).2.2.1 = some z := fun z h => by rw [c7 k hk] at h; exact h
  rw [← c3 k] at hw1 hty hfin
  have k3 : ∀ (H1 : Heap) (locs1 : List Loc), va_P G.2.2.2.1 mj_cl ((mj_ws G σ).set a (G.1 + a, .inr (ci, (fs.map (mj_cv G)).set k (mj_cv G v)))) H1 → va_D (mj_A G) ((mj_ws G σ).set a (G.1 + a, .inr (ci, (fs.map (mj_cv G)).set k (mj_cv G v)))) → va_S (mj_A G) s.heap H1 locs1 → mj_WW l p e R s m args below meth c Q n0 q0 H1 locs1 σ (F0 m (pc + 3) lsR (st.map (mj_cv G))) := by
    intro H1 locs1 hP1 _ hS1
    refine k2 H1 locs1 ?_ hS1
    show va_P _ _ ((mj_ws G σ).set a (G.1 + a, .inr (ci, (fs.set k v).map (mj_cv G)))) H1
    rw [List.map_set]
    exact hP1
  rcases hfin with hfin | ⟨hfin, hi1, hi2⟩
  · exact va_put hx hb hts c4 ty0 c5 c6 hown hAm.1 hP (mj_ws_D G σ) hS a hat c1 k hk (hts _ hw1) hsame hfin hty (mj_narrow G hn hnf) (mj_fits G hf hnf) (by rw [List.length_map]; exact hlen) hd k3
  · exact va_putF hx hb hts c4 ty0 c5 c6 hown hAm.1 hP (mj_ws_D G σ) hS a hat c1 k hk (hts _ hw1) hsame hfin (hin hi1) ((c7 k hk).trans hi2) hty (mj_narrow G hn hnf) (mj_fits G hf hnf) (by rw [List.length_map]; exact hlen) hd k3
theorem mj_s21 : ∀ y pc a n g (i : Int32) ls st (σ : mj_H) r, decode y.2.1 pc = .ok (.iaload, 1) → σ.1 a = mj_AI n g → vp_in i n → mj_So l G d y (pc + 1) ls (.int (g i.toNatClampNeg) :: st) σ r → mj_So l G d y pc ls (.int i :: .ref a :: st) σ r := by
  intro y pc a n g i ls st σ r hd hcell hin kk
  refine mj_up (fun p e R s m args below meth c Q n0 cells slots H locs lsR hc hw hl hP hS w => ?_) kk
  obtain ⟨hx, hb, hr, hml, hown, hts, -, hlk, hAm, -⟩ := hc
  exact va_iald hx hb hAm.1 hP a 0 (mj_ws_at G hw hcell) rfl hin hd w
theorem mj_s22 : ∀ y pc a n g (i w : Int32) ls st (σ : mj_H) r, decode y.2.1 pc = .ok (.iastore, 1) → σ.1 a = mj_AI n g → vp_in i n → mj_So l G d y (pc + 1) ls st (va_up σ.1 a (mj_AI n (upd g i.toNatClampNeg w)), σ.2) r → mj_So l G d y pc ls (.int w :: .int i :: .ref a :: st) σ r := by
  intro y pc a n g i w ls st σ r hd hcell hin kk
  refine ⟨fun hw => kk.1 (mj_w_set hw hcell _), fun p e R s m args below meth c Q n0 q0 hc hw h1 h2 h3 hret H locs lsR hl hP hS => ?_⟩
  have k2 := fun H locs hP hS => kk.2 p e R s m args below meth c Q n0 q0 hc (mj_w_set hw hcell _) h1 h2 h3 hret H locs lsR hl hP hS
  rw [mj_ws_set] at k2
  obtain ⟨hx, hb, hr, hml, hown, hts, -, hlk, hAm, -⟩ := hc
  exact va_iast hx hb hAm.1 hP (mj_ws_D G σ) hS a 0 (mj_ws_at G hw hcell) rfl hin hd (fun H1 locs1 hP1 _ hS1 => k2 H1 locs1 hP1 hS1)
theorem mj_s23 : ∀ y pc a n g (i : Int32) ls st (σ : mj_H) r, decode y.2.1 pc = .ok (.baload, 1) → σ.1 a = mj_AZ n g → vp_in i n → mj_So l G d y (pc + 1) ls (.int (g i.toNatClampNeg) :: st) σ r → mj_So l G d y pc ls (.int i :: .ref a :: st) σ r := by
  intro y pc a n g i ls st σ r hd hcell hin kk
  refine mj_up (fun p e R s m args below meth c Q n0 cells slots H locs lsR hc hw hl hP hS w => ?_) kk
  obtain ⟨hx, hb, hr, hml, hown, hts, -, hlk, hAm, -⟩ := hc
  exact va_zald hx hb hAm.1 hP a 2 (mj_ws_at G hw hcell) rfl hin hd w
theorem mj_s24 : ∀ y pc a n g (i w : Int32) ls st (σ : mj_H) r, decode y.2.1 pc = .ok (.bastore, 1) → σ.1 a = mj_AZ n g → vp_in i n → vp_nar .boolean w = w → mj_So l G d y (pc + 1) ls st (va_up σ.1 a (mj_AZ n (upd g i.toNatClampNeg w)), σ.2) r → mj_So l G d y pc ls (.int w :: .int i :: .ref a :: st) σ r := by
  intro y pc a n g i w ls st σ r hd hcell hin hnar kk
  refine ⟨fun hw => kk.1 (mj_w_set hw hcell _), fun p e R s m args below meth c Q n0 q0 hc hw h1 h2 h3 hret H locs lsR hl hP hS => ?_⟩
  have k2 := fun H locs hP hS => kk.2 p e R s m args below meth c Q n0 q0 hc (mj_w_set hw hcell _) h1 h2 h3 hret H locs lsR hl hP hS
  rw [mj_ws_set] at k2
  obtain ⟨hx, hb, hr, hml, hown, hts, -, hlk, hAm, -⟩ := hc
  exact va_zast hx hb hAm.1 hP (mj_ws_D G σ) hS a 2 (mj_ws_at G hw hcell) rfl hin hd (fun H1 locs1 hP1 _ hS1 => k2 H1 locs1 (by rw [hnar] at hP1; exact hP1) hS1)
theorem mj_s25 : ∀ y pc a n g (i : Int32) ls st (σ : mj_H) r, decode y.2.1 pc = .ok (.laload, 1) → σ.1 a = mj_AJ n g → vp_in i n → mj_So l G d y (pc + 1) ls (.long (g i.toNatClampNeg) :: st) σ r → mj_So l G d y pc ls (.int i :: .ref a :: st) σ r := by
  intro y pc a n g i ls st σ r hd hcell hin kk
  refine mj_up (fun p e R s m args below meth c Q n0 cells slots H locs lsR hc hw hl hP hS w => ?_) kk
  obtain ⟨hx, hb, hr, hml, hown, hts, -, hlk, hAm, -⟩ := hc
  exact va_lald hx hb hAm.1 hP a 1 (mj_ws_at G hw hcell) rfl hin hd w
theorem mj_s26 : ∀ y pc a n g (i : Int32) (w : Int64) ls st (σ : mj_H) r, decode y.2.1 pc = .ok (.lastore, 1) → σ.1 a = mj_AJ n g → vp_in i n → mj_So l G d y (pc + 1) ls st (va_up σ.1 a (mj_AJ n (vp_updL g i.toNatClampNeg w)), σ.2) r → mj_So l G d y pc ls (.long w :: .int i :: .ref a :: st) σ r := by
  intro y pc a n g i w ls st σ r hd hcell hin kk
  refine ⟨fun hw => kk.1 (mj_w_set hw hcell _), fun p e R s m args below meth c Q n0 q0 hc hw h1 h2 h3 hret H locs lsR hl hP hS => ?_⟩
  have k2 := fun H locs hP hS => kk.2 p e R s m args below meth c Q n0 q0 hc (mj_w_set hw hcell _) h1 h2 h3 hret H locs lsR hl hP hS
  rw [mj_ws_set] at k2
  obtain ⟨hx, hb, hr, hml, hown, hts, -, hlk, hAm, -⟩ := hc
  exact va_last hx hb hAm.1 hP (mj_ws_D G σ) hS a 1 (mj_ws_at G hw hcell) rfl hin hd (fun H1 locs1 hP1 _ hS1 => k2 H1 locs1 hP1 hS1)
theorem mj_s27 : ∀ y pc a t n g (i : Int32) ls st (σ : mj_H) r, decode y.2.1 pc = .ok (.aaload, 1) → (t = 3 ∨ t = 4) → σ.1 a = mj_AR t n g → vp_in i n → mj_So l G d y (pc + 1) ls (va_rf (g i.toNatClampNeg) :: st) σ r → mj_So l G d y pc ls (.int i :: .ref a :: st) σ r := by
  intro y pc a t n g i ls st σ r hd ht hcell hin kk
  refine mj_up (fun p e R s m args below meth c Q n0 cells slots H locs lsR hc hw hl hP hS w => ?_) kk
  obtain ⟨hx, hb, hr, hml, hown, hts, -, hlk, hAm, -⟩ := hc
  have w : W p l e R s m args below meth c H locs cells slots Q (F0 m (pc + 1) lsR (mj_cv G (va_rf (g i.toNatClampNeg)) :: st.map (mj_cv G))) := w
  rw [mj_cv_rf] at w
  rcases ht with rfl | rfl
  · exact va_aldq hx hb hAm.1 hP a 3 (mj_ws_at G hw hcell) rfl hin hd w
  · exact va_aldq hx hb hAm.1 hP a 4 (mj_ws_at G hw hcell) rfl hin hd w
theorem mj_upmap {g : Nat → Option Nat} {b i : Nat} {w : Option Nat} : (fun j => (va_up g i w j).map (b + ·)) = va_up (fun j => (g j).map (b + ·)) i (w.map (b + ·)) := by
  funext j
  by_cases e : j = i
  · subst e; simp [va_up]
  · simp [va_up, e]
theorem mj_s28 : ∀ y pc a t n g (i : Int32) (w : Option Nat) ls st (σ : mj_H) r, decode y.2.1 pc = .ok (.aastore, 1) → (t = 3 ∨ t = 4) → σ.1 a = mj_AR t n g → vp_in i n → (∀ k, w = some k → ∃ fs, σ.1 k = mj_O (mj_ct t) fs) → mj_So l G d y (pc + 1) ls st (va_up σ.1 a (mj_AR t n (va_up g i.toNatClampNeg w)), σ.2) r → mj_So l G d y pc ls (va_rf w :: .int i :: .ref a :: st) σ r := by
  intro y pc a t n g i w ls st σ r hd ht hcell hin hv kk
  refine ⟨fun hw => kk.1 (mj_w_set hw hcell _), fun p e R s m args below meth c Q n0 q0 hc hw h1 h2 h3 hret H locs lsR hl hP hS => ?_⟩
  have k2 := fun H locs hP hS => kk.2 p e R s m args below meth c Q n0 q0 hc (mj_w_set hw hcell _) h1 h2 h3 hret H locs lsR hl hP hS
  rw [mj_ws_set] at k2
  have k3 : ∀ (H1 : Heap) (locs1 : List Loc), va_P G.2.2.2.1 mj_cl ((mj_ws G σ).set a (G.1 + a, .inl (G.2.2.2.2.1 t, n, .inr (.inr (.inr (.inr (va_up (fun j => (g j).map (G.1 + ·)) i.toNatClampNeg (w.map (G.1 + ·))))))))) H1 → va_S (mj_A G) s.heap H1 locs1 → mj_WW l p e R s m args below meth c Q n0 q0 H1 locs1 σ (F0 m (pc + 1) lsR (st.map (mj_cv G))) := by
    intro H1 locs1 hP1 hS1
    refine k2 H1 locs1 ?_ hS1
    show va_P _ _ ((mj_ws G σ).set a (G.1 + a, .inl (G.2.2.2.2.1 t, n, .inr (.inr (.inr (.inr fun j => (va_up g i.toNatClampNeg w j).map (G.1 + ·))))))) H1
    rw [mj_upmap]
    exact hP1
  obtain ⟨hx, hb, hr, hml, hown, hts, -, hlk, hAm, -⟩ := hc
  cases w with
  | none =>
    rcases ht with rfl | rfl
    · exact va_astqN hx hb hAm.1 hP (mj_ws_D G σ) hS a 3 (mj_ws_at G hw hcell) rfl hin hd (fun H1 locs1 hP1 _ hS1 => k3 H1 locs1 hP1 hS1)
    · exact va_astqN hx hb hAm.1 hP (mj_ws_D G σ) hS a 4 (mj_ws_at G hw hcell) rfl hin hd (fun H1 locs1 hP1 _ hS1 => k3 H1 locs1 hP1 hS1)
  | some q =>
    obtain ⟨fs, hq⟩ := hv q rfl
    rcases ht with rfl | rfl
    · exact va_astq hx hb hAm.1 hP (mj_ws_D G σ) hS a 3 q 2 (r := ("GalleryWatch$Post", mj_T2, 6)) (mj_ws_at G hw hcell) rfl (mj_ws_at G hw hq) rfl hin hd (fun H1 locs1 hP1 _ hS1 => k3 H1 locs1 hP1 hS1)
    · exact va_astq hx hb hAm.1 hP (mj_ws_D G σ) hS a 4 q 4 (r := ("GalleryWatch$Room", mj_T4, 5)) (mj_ws_at G hw hcell) rfl (mj_ws_at G hw hq) rfl hin hd (fun H1 locs1 hP1 _ hS1 => k3 H1 locs1 hP1 hS1)
theorem mj_s29 : ∀ y pc a t (x : vp_A) ls st (σ : mj_H) r, decode y.2.1 pc = .ok (.arraylength, 1) → t < 5 → σ.1 a = some (.inl (t, x)) → mj_So l G d y (pc + 1) ls (.int (Int32.ofNat x.1) :: st) σ r → mj_So l G d y pc ls (.ref a :: st) σ r := by
  intro y pc a t x ls st σ r hd ht hcell kk
  refine mj_up (fun p e R s m args below meth c Q n0 cells slots H locs lsR hc hw hl hP hS w => ?_) kk
  obtain ⟨hx, hb, hr, hml, hown, hts, -, hlk, hAm, -⟩ := hc
  have h5 : (mj_tys G)[t]? = some (G.2.2.2.2.1 t, mj_at t) := by simp [mj_tys, List.getElem?_map, List.getElem?_range ht]
  exact va_alen hx hb hAm.1 hP a t (mj_ws_at G hw hcell) h5 (by rw [mj_cA1]) hd w
end MS2
