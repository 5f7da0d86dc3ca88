/-! the rules that make cells, that read KINDS_OF and the script, that copy, that return -/
theorem mj_cv_f0 (G : mj_G) : mj_cv G (.float 0) = .ref G.2.1 := by simp [mj_cv]
theorem mj_cv_f1 (G : mj_G) : mj_cv G (.float 1) = .ref G.2.2.1 := by simp [mj_cv]
theorem mj_new_at {G : mj_G} {σ : mj_H} {q n0 : Nat} {en : va_E} {H H0 H1 : Heap} {locs : List Loc} (hS : va_S (mj_A G) H0 H locs) (h0 : H0.size = G.1 + n0) (hn : n0 ≤ σ.2.1)
    (hP1 : va_P G.2.2.2.1 mj_cl (mj_ws G σ ++ [(q, en)]) H1) (hD1 : va_D (mj_A G) (mj_ws G σ ++ [(q, en)])) (hz : H1.size ≤ H0.size + (σ.2.1 - n0 + 1)) : q = G.1 + σ.2.1 := by
  have hl : (mj_ws G σ ++ [(q, en)])[σ.2.1]? = some (q, en) := by
    rw [List.getElem?_append_right (by rw [mj_ws_len]; exact Nat.le_refl _), mj_ws_len, Nat.sub_self]
    rfl
  have h1 : q < H1.size := (hP1 _ _ hl).lt
  have h2 : G.1 ≤ q := hD1.2 _ _ hl
  rcases Nat.lt_or_ge q (G.1 + σ.2.1) with h | h
  · have hk : q - G.1 < σ.2.1 := by omega
    have h3 : (mj_ws G σ ++ [(q, en)])[q - G.1]? = some (G.1 + (q - G.1), mj_ce G (σ.1 (q - G.1))) := by
      rw [List.getElem?_append_left (by rw [mj_ws_len]; exact hk)]
      simp [mj_ws, List.getElem?_map, List.getElem?_range hk]
    have := hD1.1 _ _ _ _ h3 hl (by show G.1 + (q - G.1) = q; omega)
    omega
  · omega
section MS3
variable {l : Launch} {G : mj_G} {d : Nat}
theorem mj_s30 : ∀ y pc ci ls st (σ : mj_H) r, mj_Nw y pc ci → mj_So l G d y (pc + 3) ls (.ref σ.2.1 :: st) (va_up σ.1 σ.2.1 (mj_O ci (mj_df.getD ci [])), σ.2.1 + 1, σ.2.2 + mj_nf ci) r → mj_So l G d y pc ls st σ r := by
  rintro y pc ci ls st σ r ⟨hci, i, hd, w1, w2, w3⟩ kk
  have hmono : mj_w σ → σ.2.1 + 1 ≤ r.2.2.1 ∧ σ.2.2 + mj_nf ci ≤ r.2.2.2 ∧ mj_w r.2 := fun hw => kk.1 (mj_w_push hw _ _)
  refine ⟨fun hw => ⟨by have := (hmono hw).1; omega, by have := (hmono hw).2.1; omega, (hmono hw).2.2⟩, fun p e R s m args below meth c Q n0 q0 hc hw h1 h2 h3 hret H locs lsR hl hP hS => ?_⟩
  have k2 := fun H locs hP hS => kk.2 p e R s m args below meth c Q n0 q0 hc (mj_w_push hw _ _) (Nat.le_succ_of_le h1) (Nat.le_add_right_of_le h2) h3 hret H locs lsR hl hP hS
  rw [mj_ws_push] at k2
  have hm := hmono hw
  obtain ⟨hx, hb, hr, hml, hown, hts, hin, hlk, hAm, hsz, -⟩ := hc
  obtain ⟨T, N, ty0, c1, rfl, c3, c4, c5, c6, c7, c8, c9⟩ := mj_cls hci
  have hdf : (mj_df.getD ci []).map (mj_cv G) = mj_df.getD ci [] := by
    refine (List.map_congr_left (g := id) fun v hv => ?_).trans (List.map_id _)
    rcases c9 v hv with rfl | rfl | rfl <;> rfl
  refine va_new (ci := ci) (fs := mj_df.getD ci []) hx hb hts c4 ty0 c5 hown (hts _ w1) (hts _ w2) (hts _ w3) hAm.1 hP (mj_ws_D G σ) hS (fun q hq => by show G.1 ≤ q; omega) c1 c8 (by omega) (by omega) hd (fun q H1 hP1 hD1 hS1 => ?_)
  refine mj_size fun hz => ?_
  have hq := mj_new_at hS hsz h1 hP1 hD1 hz
  subst hq
  have k3 := k2 H1 locs (by show va_P _ _ (mj_ws G σ ++ [(G.1 + σ.2.1, .inr (ci, (mj_df.getD ci []).map (mj_cv G)))]) H1; rw [hdf]; exact hP1) hS1
  refine W.cs ?_ ?_ k3
  · show σ.2.1 - n0 + 1 = σ.2.1 + 1 - n0
    omega
  · show σ.2.2 - q0 + mj_nf ci = σ.2.2 + mj_nf ci - q0
    omega
theorem mj_RA_inj {U : State} {c1 c2 : ClassId} {ty : FieldType} (h1 : va_RA U c1 ty) (h2 : va_RA U c2 ty) : c1 = c2 := by
  cases ty with
  | object C =>
    obtain ⟨_, _, _, _, _, b1⟩ := h1
    obtain ⟨_, _, _, _, _, b2⟩ := h2
    exact Option.some.inj (b1.symm.trans b2)
  | _ =>
    simp only [va_RA] at h1 h2
    exact Option.some.inj (h1.symm.trans h2)
theorem mj_RA_one {G : mj_G} {s : State} {cA : ClassId} {t : Nat} (ht : t < 5) (hK : va_K G.2.2.2.1 mj_cl (mj_tys G ++ [(cA, mj_at t)]) s) : cA = G.2.2.2.2.1 t := by
  have h5 : (mj_tys G ++ [(cA, mj_at t)])[t]? = some (G.2.2.2.2.1 t, mj_at t) := by
    rw [List.getElem?_append_left (by simp [mj_tys]; omega)]
    simp [mj_tys, List.getElem?_map, List.getElem?_range ht]
  have h6 : (mj_tys G ++ [(cA, mj_at t)])[5]? = some (cA, mj_at t) := by
    rw [List.getElem?_append_right (by simp [mj_tys])]
    simp [mj_tys]
  have a1 := (hK.2 _ _ h5).2
  have a2 := (hK.2 _ _ h6).2
  exact (mj_RA_inj a1 a2).symm
theorem mj_s31 : ∀ y pc t (n : Int32) ls st (σ : mj_H) r, mj_Na y pc t → ¬ n < 0 → n.toNatClampNeg ≤ 10000 → mj_So l G d y (pc + 2) ls (.ref σ.2.1 :: st) (va_up σ.1 σ.2.1 (some (.inl (t, n.toNatClampNeg, if t = 1 then .inr (.inl fun _ => 0) else .inl fun _ => 0))), σ.2.1 + 1, σ.2.2 + n.toNatClampNeg) r → mj_So l G d y pc ls (.int n :: st) σ r := by
  intro y pc t n ls st σ r hna hn hN kk
  have hmono : mj_w σ → σ.2.1 + 1 ≤ r.2.2.1 ∧ σ.2.2 + n.toNatClampNeg ≤ r.2.2.2 ∧ mj_w r.2 := fun hw => kk.1 (mj_w_push hw _ _)
  refine ⟨fun hw => ⟨by have := (hmono hw).1; omega, by have := (hmono hw).2.1; omega, (hmono hw).2.2⟩, fun p e R s m args below meth c Q n0 q0 hc hw h1 h2 h3 hret H locs lsR hl hP hS => ?_⟩
  have k2 := fun H locs hP hS => kk.2 p e R s m args below meth c Q n0 q0 hc (mj_w_push hw _ _) (Nat.le_succ_of_le h1) (Nat.le_add_right_of_le h2) h3 hret H locs lsR hl hP hS
  rw [mj_ws_push] at k2
  have hm := hmono hw
  obtain ⟨hx, hb, hr, hml, hown, hts, hin, hlk, hAm, hsz, -⟩ := hc
  have key : ∀ (at0 : ArrayType) (a0 : vp_A), decode y.2.1 pc = .ok (.newarray at0, 2) → Cond.arrayClass (newarray.typeOf at0) ∈ mj_tb → newarray.typeOf at0 = mj_at t → t < 5 → (∀ cA : ClassId, vp_cell cA a0 = arrV cA n.toNatClampNeg (fun _ => defaultValue (mj_at t))) → n.toNatClampNeg * componentBytes (mj_at t) ≤ 536870912 →
      mj_ce G (some (.inl (t, n.toNatClampNeg, if t = 1 then .inr (.inl fun _ => 0) else .inl fun _ => 0))) = .inl (G.2.2.2.2.1 t, a0) → mj_WW l p e R s m args below meth c Q n0 q0 H locs σ (F0 m pc lsR ((Value.int n :: st).map (mj_cv G))) := by
    intro at0 a0 hd hw1 hty ht ha hbytes hce
    rw [hce] at k2
    refine va_newa hx hb (hts _ hw1) hty hAm.1 hP (mj_ws_D G σ) hS (fun q hq => by show G.1 ≤ q; omega) ha hn rfl hbytes (by omega) (by omega) hd (fun q cA H1 hK1 hP1 hD1 hS1 => ?_)
    refine mj_size fun hz => ?_
    have hq := mj_new_at hS hsz h1 hP1 hD1 hz
    subst hq
    have hcA := mj_RA_one ht hK1
    subst hcA
    refine W.cs ?_ ?_ (k2 H1 locs hP1 hS1)
    · show σ.2.1 - n0 + 1 = σ.2.1 + 1 - n0
      omega
    · show σ.2.2 - q0 + n.toNatClampNeg = σ.2.2 + n.toNatClampNeg - q0
      omega
  rcases hna with ⟨rfl, hd⟩ | ⟨rfl, hd⟩ | ⟨rfl, hd⟩
  · exact key .int (n.toNatClampNeg, .inl fun _ => 0) hd (by decide +kernel) rfl (by decide) (fun cA => rfl) (by show _ * 4 ≤ _; omega) rfl
  · exact key .long (n.toNatClampNeg, .inr (.inl fun _ => 0)) hd (by decide +kernel) rfl (by decide) (fun cA => rfl) (by show _ * 8 ≤ _; omega) rfl
  · exact key .boolean (n.toNatClampNeg, .inl fun _ => 0) hd (by decide +kernel) rfl (by decide) (fun cA => rfl) (by show _ * 1 ≤ _; omega) rfl
theorem mj_s32 : ∀ y pc t (n : Int32) ls st (σ : mj_H) r, mj_Nq y pc t → ¬ n < 0 → n.toNatClampNeg ≤ 10000 → mj_So l G d y (pc + 3) ls (.ref σ.2.1 :: st) (va_up σ.1 σ.2.1 (mj_AR t n.toNatClampNeg fun _ => none), σ.2.1 + 1, σ.2.2 + n.toNatClampNeg) r → mj_So l G d y pc ls (.int n :: st) σ r := by
  rintro y pc t n ls st σ r ⟨ht, i, hd, hcl⟩ hn hN kk
  have hmono : mj_w σ → σ.2.1 + 1 ≤ r.2.2.1 ∧ σ.2.2 + n.toNatClampNeg ≤ r.2.2.2 ∧ mj_w r.2 := fun hw => kk.1 (mj_w_push hw _ _)
  refine ⟨fun hw => ⟨by have := (hmono hw).1; omega, by have := (hmono hw).2.1; omega, (hmono hw).2.2⟩, fun p e R s m args below meth c Q n0 q0 hc hw h1 h2 h3 hret H locs lsR hl hP hS => ?_⟩
  have k2 := fun H locs hP hS => kk.2 p e R s m args below meth c Q n0 q0 hc (mj_w_push hw _ _) (Nat.le_succ_of_le h1) (Nat.le_add_right_of_le h2) h3 hret H locs lsR hl hP hS
  rw [mj_ws_push] at k2
  have hm := hmono hw
  obtain ⟨hx, hb, hr, hml, hown, hts, hin, hlk, hAm, hsz, -⟩ := hc
  have key : ∀ (C : String), Cond.classLink y.1.cls i C ∈ mj_tb → Cond.arrayOver (.object C) ∈ mj_tb → mj_at t = .object C → t < 5 → mj_WW l p e R s m args below meth c Q n0 q0 H locs σ (F0 m pc lsR ((Value.int n :: st).map (mj_cv G))) := by
    intro C w1 w2 hat ht5
    refine va_newq hx hb hown (hts _ w1) (va_AO.moved (Vm.Alike.refl s.vm) (va_AO.of (hts _ w2))) hAm.1 hP (mj_ws_D G σ) hS (fun q hq => by show G.1 ≤ q; omega) hn rfl (by omega) (by omega) (by omega) hd (fun q cA H1 hK1 hP1 hD1 hS1 => ?_)
    refine mj_size fun hz => ?_
    have hq := mj_new_at hS hsz h1 hP1 hD1 hz
    subst hq
    rw [← hat] at hK1
    have hcA := mj_RA_one ht5 hK1
    subst hcA
    refine W.cs ?_ ?_ (k2 H1 locs hP1 hS1)
    · show σ.2.1 - n0 + 1 = σ.2.1 + 1 - n0
      omega
    · show σ.2.2 - q0 + n.toNatClampNeg = σ.2.2 + n.toNatClampNeg - q0
      omega
  rcases ht with rfl | rfl
  · exact key _ hcl (by decide +kernel) rfl (by decide)
  · exact key _ hcl (by decide +kernel) rfl (by decide)
theorem mj_s33 : ∀ y pc ls st σ r, mj_Gs y pc → mj_So l G d y (pc + 3) ls (.float 0 :: st) σ r → mj_So l G d y pc ls st σ r := by
  rintro y pc ls st σ r ⟨i, hd, w1⟩ kk
  refine mj_up (fun p e R s m args below meth c Q n0 cells slots H locs lsR hc hw hl hP hS w => ?_) kk
  obtain ⟨hx, hb, hr, hml, hown, hts, -, hlk, hAm, -⟩ := hc
  have w : W p l e R s m args below meth c H locs cells slots Q (F0 m (pc + 3) lsR (mj_cv G (.float 0) :: st.map (mj_cv G))) := w
  rw [mj_cv_f0] at w
  exact va_gets hx hb hAm.2.1 hS hown (hts _ w1) (fun z h => h) hd w
theorem mj_s34 : ∀ y pc (i : Int32) ls st σ r, decode y.2.1 pc = .ok (.iaload, 1) → vp_in i 5 → mj_So l G d y (pc + 1) ls (.int (mj_kd i.toNatClampNeg) :: st) σ r → mj_So l G d y pc ls (.int i :: .float 0 :: st) σ r := by
  intro y pc i ls st σ r hd hin kk
  refine mj_up (fun p e R s m args below meth c Q n0 cells slots H locs lsR hc hw hl hP hS w => ?_) kk
  obtain ⟨hx, hb, hr, hml, hown, hts, -, hlk, hAm, -⟩ := hc
  show W p l e R s m args below meth c H locs cells slots Q (F0 m pc lsR (.int i :: mj_cv G (.float 0) :: st.map (mj_cv G)))
  rw [mj_cv_f0]
  exact va_ti hx hb hAm.2.2.1 hS hin rfl hd w
theorem mj_s35 : ∀ y pc ls st σ r, decode y.2.1 pc = .ok (.arraylength, 1) → mj_So l G d y (pc + 1) ls (.int 5 :: st) σ r → mj_So l G d y pc ls (.float 0 :: st) σ r := by
  intro y pc ls st σ r hd kk
  refine mj_up (fun p e R s m args below meth c Q n0 cells slots H locs lsR hc hw hl hP hS w => ?_) kk
  obtain ⟨hx, hb, hr, hml, hown, hts, -, hlk, hAm, -⟩ := hc
  show W p l e R s m args below meth c H locs cells slots Q (F0 m pc lsR (mj_cv G (.float 0) :: st.map (mj_cv G)))
  rw [mj_cv_f0]
  exact va_tlen hx hb hAm.2.2.1 hS rfl hd w
theorem mj_s36 : ∀ y pc (i : Int32) ls st σ r, decode y.2.1 pc = .ok (.iaload, 1) → vp_in i G.2.2.2.2.2.1 → mj_So l G d y (pc + 1) ls (.int (G.2.2.2.2.2.2 i.toNatClampNeg) :: st) σ r → mj_So l G d y pc ls (.int i :: .float 1 :: st) σ r := by
  intro y pc i ls st σ r hd hin kk
  refine mj_up (fun p e R s m args below meth c Q n0 cells slots H locs lsR hc hw hl hP hS w => ?_) kk
  obtain ⟨hx, hb, hr, hml, hown, hts, -, hlk, hAm, hsz, -⟩ := hc
  show W p l e R s m args below meth c H locs cells slots Q (F0 m pc lsR (.int i :: mj_cv G (.float 1) :: st.map (mj_cv G)))
  rw [mj_cv_f1]
  have hA5 := hAm.2.2.2.2.1
  exact va_sld hx hb hAm.2.2.2.1 (by omega) (by show ¬ G.1 ≤ _; omega) hS hin hd w
theorem mj_s37 : ∀ y pc ls st σ r, decode y.2.1 pc = .ok (.arraylength, 1) → mj_So l G d y (pc + 1) ls (.int (Int32.ofNat G.2.2.2.2.2.1) :: st) σ r → mj_So l G d y pc ls (.float 1 :: st) σ r := by
  intro y pc ls st σ r hd kk
  refine mj_up (fun p e R s m args below meth c Q n0 cells slots H locs lsR hc hw hl hP hS w => ?_) kk
  obtain ⟨hx, hb, hr, hml, hown, hts, -, hlk, hAm, hsz, -⟩ := hc
  show W p l e R s m args below meth c H locs cells slots Q (F0 m pc lsR (mj_cv G (.float 1) :: st.map (mj_cv G)))
  rw [mj_cv_f1]
  have hA5 := hAm.2.2.2.2.1
  exact va_slen hx hb hAm.2.2.2.1 (by omega) (by show ¬ G.1 ≤ _; omega) hS hd w
theorem mj_s38 : ∀ y pc a ls st σ r, mj_Oi y pc → mj_cs st ≤ 8 → mj_So l G d y (pc + 3) ls st σ r → mj_So l G d y pc ls (.ref a :: st) σ r := by
  rintro y pc a ls st σ r ⟨i, hd, w1⟩ h8 kk
  refine mj_up (fun p e R s m args below meth c Q n0 cells slots H locs lsR hc hw hl hP hS w => ?_) kk
  obtain ⟨hx, hb, hr, hml, hown, hts, -, hlk, hAm, hsz, hf1, hf2⟩ := hc
  refine W.objInit hx hb hown (hts _ w1) (hts _ (by decide +kernel)) (hts _ (by decide +kernel)) rfl (hl.1.trans hml.symm) (a := G.1 + a) (rest := st.map (mj_cv G)) rfl hd (by omega) ?_ w
  have := lv_room (m := m) (pc := pc) (ls := lsR) (rest := []) (st := st.map (mj_cv G)) (by rw [mj_cs_map]; exact h8)
  refine Nat.le_trans (Nat.add_le_add_right this 12) (by omega)
theorem mj_s39 : ∀ y pc a0 a n0 n1 f g (sp dp n : Int32) ls st (σ : mj_H) r, mj_Ac y pc → mj_cs st ≤ 8 → σ.1 a0 = mj_AI n0 f → σ.1 a = mj_AI n1 g → ¬ sp < 0 → ¬ dp < 0 → ¬ n < 0 → sp.toNatClampNeg + n.toNatClampNeg ≤ n0 → dp.toNatClampNeg + n.toNatClampNeg ≤ n1 →
      mj_So l G d y (pc + 3) ls st (va_up σ.1 a (mj_AI n1 (va_cpy f g sp.toNatClampNeg dp.toNatClampNeg n.toNatClampNeg)), σ.2) r → mj_So l G d y pc ls (.int n :: .int dp :: .ref a :: .int sp :: .ref a0 :: st) σ r := by
  rintro y pc a0 a na nb f g sp dp n ls st σ r ⟨i, hd, w1⟩ h8 hc0 hcell g1 g2 g3 g4 g5 kk
  refine ⟨fun hw => kk.1 (mj_w_set hw hcell _), fun p e R s m args below meth c Q n0 q0 hc hw h1 h2 h3 hret H locs lsR hl hP hS => ?_⟩
  have k2 := fun H locs hP hS => kk.2 p e R s m args below meth c Q n0 q0 hc (mj_w_set hw hcell _) h1 h2 h3 hret H locs lsR hl hP hS
  rw [mj_ws_set] at k2
  obtain ⟨hx, hb, hr, hml, hown, hts, -, hlk, hAm, hsz, hf1, hf2⟩ := hc
  have hnf : nativeFrameWords "java/lang/System" "arraycopy" 5 ≤ 150 := by decide +kernel
  exact va_copyi hx hb (hml.trans hl.1.symm) hown (hts _ w1) (hts _ (by decide +kernel)) (hts _ (by decide +kernel)) (hts _ (by decide +kernel)) hAm.1 hP (mj_ws_D G σ) hS a0 a 0 0 (ty := .int) (mj_ws_at G hw hc0) (mj_ws_at G hw hcell) rfl rfl rfl g1 g2 g3 g4 g5 (fun j _ => rfl) (by omega) (by rw [mj_cs_map]; omega) hd (fun H1 locs1 hP1 _ hS1 => k2 H1 locs1 hP1 hS1)
theorem mj_s40 : ∀ y pc a0 a t n0 n1 f g (sp dp n : Int32) ls st (σ : mj_H) r, mj_Ac y pc → mj_cs st ≤ 8 → (t = 3 ∨ t = 4) → σ.1 a0 = mj_AR t n0 f → σ.1 a = mj_AR t n1 g → ¬ sp < 0 → ¬ dp < 0 → ¬ n < 0 → sp.toNatClampNeg + n.toNatClampNeg ≤ n0 → dp.toNatClampNeg + n.toNatClampNeg ≤ n1 →
      (∀ i : Nat, i < n.toNatClampNeg → ∀ k : Nat, f (sp.toNatClampNeg + i) = some k → ∃ fs, σ.1 k = mj_O (mj_ct t) fs) → mj_So l G d y (pc + 3) ls st (va_up σ.1 a (mj_AR t n1 (va_cpy f g sp.toNatClampNeg dp.toNatClampNeg n.toNatClampNeg)), σ.2) r → mj_So l G d y pc ls (.int n :: .int dp :: .ref a :: .int sp :: .ref a0 :: st) σ r := by
  rintro y pc a0 a t na nb f g sp dp n ls st σ r ⟨i, hd, w1⟩ h8 ht hc0 hcell g1 g2 g3 g4 g5 hel kk
  refine ⟨fun hw => kk.1 (mj_w_set hw hcell _), fun p e R s m args below meth c Q n0 q0 hc hw h1 h2 h3 hret H locs lsR hl hP hS => ?_⟩
  have k2 := fun H locs hP hS => kk.2 p e R s m args below meth c Q n0 q0 hc (mj_w_set hw hcell _) h1 h2 h3 hret H locs lsR hl hP hS
  rw [mj_ws_set] at k2
  obtain ⟨hx, hb, hr, hml, hown, hts, -, hlk, hAm, hsz, hf1, hf2⟩ := hc
  have hnf : nativeFrameWords "java/lang/System" "arraycopy" 5 ≤ 150 := by decide +kernel
  have hmap : (fun j => (va_cpy f g sp.toNatClampNeg dp.toNatClampNeg n.toNatClampNeg j).map (G.1 + ·)) = va_cpy (fun j => (f j).map (G.1 + ·)) (fun j => (g j).map (G.1 + ·)) sp.toNatClampNeg dp.toNatClampNeg n.toNatClampNeg := by
    funext j
    simp only [va_cpy]
    split <;> rfl
  have k3 : ∀ (H1 : Heap) (locs1 : List Loc), va_P G.2.2.2.1 mj_cl ((mj_ws G σ).set a (G.1 + a, .inl (G.2.2.2.2.1 t, nb, .inr (.inr (.inr (.inr (va_cpy (fun j => (f j).map (G.1 + ·)) (fun j => (g j).map (G.1 + ·)) sp.toNatClampNeg dp.toNatClampNeg n.toNatClampNeg))))))) H1 → va_S (mj_A G) s.heap H1 locs1 → mj_WW l p e R s m args below meth c Q n0 q0 H1 locs1 σ (F0 m (pc + 3) lsR (st.map (mj_cv G))) := by
    intro H1 locs1 hP1 hS1
    refine k2 H1 locs1 ?_ hS1
    show va_P _ _ ((mj_ws G σ).set a (G.1 + a, .inl (G.2.2.2.2.1 t, nb, .inr (.inr (.inr (.inr fun j => (va_cpy f g sp.toNatClampNeg dp.toNatClampNeg n.toNatClampNeg j).map (G.1 + ·))))))) H1
    rw [hmap]
    exact hP1
  have key : ∀ (C : String) (cc : vw_C), mj_at t = .object C → mj_cl[mj_ct t]? = some cc → cc.1 = C → (mj_tys G)[t]? = some (G.2.2.2.2.1 t, mj_at t) → mj_WW l p e R s m args below meth c Q n0 q0 H locs σ (F0 m pc lsR ((Value.int n :: .int dp :: .ref a :: .int sp :: .ref a0 :: st).map (mj_cv G))) := by
    intro C cc hat hcc hC hty
    rw [hat] at hty
    refine va_copyq hx hb (hml.trans hl.1.symm) hown (hts _ w1) (hts _ (by decide +kernel)) (hts _ (by decide +kernel)) (hts _ (by decide +kernel)) hAm.1 hP (mj_ws_D G σ) hS a0 a t t (C := C) (mj_ws_at G hw hc0) (mj_ws_at G hw hcell) hty hty g1 g2 g3 g4 g5 (fun j hj q hq => ?_) (fun comp c0 e1 e2 => ?_) (by omega) (by rw [mj_cs_map]; omega) hd (fun H1 locs1 hP1 _ hS1 => k3 H1 locs1 hP1 hS1)
    · cases hfj : f (sp.toNatClampNeg + j) with
      | none => rw [hfj] at hq; cases hq
      | some z =>
        rw [hfj] at hq
        cases hq
        obtain ⟨fs, hz⟩ := hel j hj z hfj
        have := va_recv hAm.1 hP hcc (mj_ws_at G hw hz)
        rw [hC] at this
        exact this
    · cases e1.symm.trans e2
      exact va_asg _ _
  rcases ht with rfl | rfl
  · exact key _ ("GalleryWatch$Post", mj_T2, 6) rfl rfl rfl rfl
  · exact key _ ("GalleryWatch$Room", mj_T4, 5) rfl rfl rfl rfl
theorem mj_s45 : ∀ y pc op (a b : Int32) ls st σ r, mj_Mm y pc op → mj_cs st ≤ 8 → mj_So l G d y (pc + 3) ls (.int (op a b) :: st) σ r → mj_So l G d y pc ls (.int b :: .int a :: st) σ r := by
  rintro y pc op a b ls st σ r ⟨i, hd, hk⟩ h8 kk
  refine ⟨kk.1, fun p e R s m args below meth c Q n0 q0 hc hw h1 h2 h3 hret H locs lsR hl hP hS => ?_⟩
  have w := kk.2 p e R s m args below meth c Q n0 q0 hc hw h1 h2 h3 hret H locs lsR hl hP hS
  have hm := kk.1 hw
  obtain ⟨hx, hb, hr, hml, hown, hts, -, hlk, hAm, hsz, hf1, hf2⟩ := hc
  have hl8 : ((st.map (mj_cv G)).map fun v => v.category).sum + 13 ≤ R.locals := by rw [mj_cs_map]; omega
  have q1 : σ.2.1 - n0 ≤ R.cells := by omega
  have q2 : σ.2.2 - q0 ≤ R.slots := by omega
  rcases hk with ⟨w1, rfl⟩ | ⟨w1, rfl⟩
  · exact va_mmax hx hb (hml.trans hl.1.symm) hown (hts _ w1) (hts _ (by decide +kernel)) (hts _ (by decide +kernel)) (hts _ (by decide +kernel)) (by omega) hl8 q1 q2 hd w
  · exact va_mmin hx hb (hml.trans hl.1.symm) hown (hts _ w1) (hts _ (by decide +kernel)) (hts _ (by decide +kernel)) (hts _ (by decide +kernel)) (by omega) hl8 q1 q2 hd w
theorem mj_s46 : ∀ y pc (a : Int32) ls st σ r, mj_Ma y pc → mj_cs st ≤ 8 → mj_So l G d y (pc + 3) ls (.int (if 0 ≤ a then a else 0 - a) :: st) σ r → mj_So l G d y pc ls (.int a :: st) σ r := by
  rintro y pc a ls st σ r ⟨i, hd, w1⟩ h8 kk
  refine ⟨kk.1, fun p e R s m args below meth c Q n0 q0 hc hw h1 h2 h3 hret H locs lsR hl hP hS => ?_⟩
  have w := kk.2 p e R s m args below meth c Q n0 q0 hc hw h1 h2 h3 hret H locs lsR hl hP hS
  have hm := kk.1 hw
  obtain ⟨hx, hb, hr, hml, hown, hts, -, hlk, hAm, hsz, hf1, hf2⟩ := hc
  have hl8 : ((st.map (mj_cv G)).map fun v => v.category).sum + 13 ≤ R.locals := by rw [mj_cs_map]; omega
  have q1 : σ.2.1 - n0 ≤ R.cells := by omega
  have q2 : σ.2.2 - q0 ≤ R.slots := by omega
  exact va_mabs hx hb (hml.trans hl.1.symm) hown (hts _ w1) (hts _ (by decide +kernel)) (hts _ (by decide +kernel)) (hts _ (by decide +kernel)) (by omega) hl8 q1 q2 hd w
theorem mj_s41 : ∀ y pc ls (v : Option Value) σ, mj_Rt y pc v → mj_So l G d y pc ls v.toList σ (v, σ) := by
  intro y pc ls v σ hR
  exact ⟨fun hw => ⟨Nat.le_refl _, Nat.le_refl _, hw⟩, fun p e R s m args below meth c Q n0 q0 hc hw h1 h2 h3 hret H locs lsR hl hP hS => hret pc lsR H locs hR hP hS⟩
end MS3
