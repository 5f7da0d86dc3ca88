-- ===== end of PART A; then your names; then what follows =====
/-! THE CLAIM OUT OF ONE WALK OF THE LAW'S BODY. Your part is whole_start (and what it stands on); all else here is the same for every law, but numbers. -/
def R_law : String := "GalleryWatchLaw"
def lw_P (b : Addr) (xs : List Int32) (args : Array Value) (s : State) : Prop := args = #[.ref b] ∧ s.IntsAt b xs ∧ xs.length ≤ 2048 ∧ (Jvm.Cond.and given_1 narrow_1).before args s = true
def lw_Q (_ : Array Value) (s : State) (o : Outcome) (t : State) : Prop := o = .returned (some (.int 1)) ∧ Framed s o t [] 600000 7302250
def lw_Z (below : List Frame) (a : Array Value) (s : State) : State → Prop := fun t => ∃ o, t.status = .running ∧ Ended t below o ∧ lw_Q a s o t
/-- the law's own end, with 1 on the stack, nothing written that was there before, its room as the claim has it -/
theorem lw_ret {p : Program} {l : Launch} {e : Env} {s : State} {m : MethodId} {below : List Frame} {meth : Method} {c : Code} {b : Nat} (hx : p.tables.exec = Jvm.exec) (hb : c.code = code) (hr : meth.sig.returnType = ret) (hlocks : meth.locks = false) {pc : Nat} {H : Heap} {ls : Array Slot} (hdg : decode code pc = .ok (.ireturn, 1)) : W p l e room_1 s m #[Value.ref b] below meth c H [] 600000 7302250 (lw_Z below #[Value.ref b] s) (F0 m pc ls [.int 1]) := by
  intro T hT X
  obtain ⟨fs, hret, hrun, hended, hW, hframe⟩ := X.leave (v := some (.int 1)) (hlocks := hlocks) (fun h => by rw [hr] at h; cases h)
  have hmeth' : T.vm.method? m = some meth := X.method'
  refine ⟨T.setFrames fs, ?_, .returned (some (.int 1)), hrun, hended, rfl, ⟨_, rfl⟩, hW, hframe⟩
  jvm_step X.here [X.here.top, hx, hb, hdg, hmeth', hr, ret, narrow_b1]
  (try refine ⟨rfl, ?_⟩); (try refine ⟨rfl, ?_⟩)
  first | (intro acts; rw [hret _ acts rfl rfl rfl]) | rw [hret _ _ rfl rfl rfl]
  exact Steps.refl _
/-- what holds at the law's entry: the machine, the code, the tables' words (any of lw_tbl by 'hts w (by decide +kernel)'), the script of L ints xs at the cell b, what the Statement gives of the start (any of its parts by flat_of_before) -/
def lw_At (p : Program) (s : State) (m : MethodId) (meth : Method) (c : Code) (b L : Nat) (xs : Nat → Int32) : Prop :=
  p.tables.exec = Jvm.exec ∧ c.code = code ∧ meth.sig.returnType = ret ∧ c.maxLocals = 4 ∧ s.vm.findClass R_law = some m.cls ∧ (∀ w ∈ lw_tbl, w.before #[Value.ref b] s = true) ∧ va_X b L xs s s.heap ∧ b < s.heap.size ∧ meth.locks = false ∧ (Jvm.Cond.and given_1 narrow_1).before #[Value.ref b] s = true

theorem mj_arr_prim {s : State} {args : Array Value} {ty : FieldType} (hty : ∀ C, ty ≠ .object C) (h : (Cond.arrayClass ty).before args s = true) : ∃ cA, ArrOfT s cA ty ∧ va_RA s cA ty := by
  obtain ⟨c, k, comp, h1, h2, h3⟩ := Cond.arrayClass_spec h
  refine ⟨c, fun N z => ⟨(fun k h => by cases h), k, h2, comp, h3⟩, ?_⟩
  cases ty with
  | object C => exact absurd rfl (hty C)
  | _ => exact h1
theorem mj_arr_ref {s : State} {args : Array Value} {C : String} (h : (Cond.arrayOver (.object C)).before args s = true) : ∃ cA, ArrOfT s cA (.object C) ∧ va_RA s cA (.object C) := by
  obtain ⟨comp, c, k, h0, -, h2, h3, h1⟩ := Cond.arrayOver_spec h
  exact ⟨c, fun N z => ⟨(fun k h => by cases h), k, h2, comp, h3⟩, k, comp, h2, h3, h0, h1⟩
set_option maxHeartbeats 4000000 in
set_option maxRecDepth 100000 in
/-- THE LAW, from its entry -/
theorem whole_start {p : Program} {e : Env} {s : State} {m : MethodId} {below : List Frame} {meth : Method} {c : Code} (l : Launch) {b L : Nat} {xs : Nat → Int32} (hL : L ≤ 2048) (C0 : lw_At p s m meth c b L xs) : W p l e room_1 s m #[Value.ref b] below meth c s.heap [] 0 0 (lw_Z below #[Value.ref b] s) (entryFrame m ([Value.ref b] : List Value).toArray 4) := by
  obtain ⟨hx, hb, hr, hml, hown, hts0, hX, hbl, hlocks, hgv⟩ := id C0
  have hts : ∀ w ∈ mj_tb, w.before #[Value.ref b] s = true := fun w hw => hts0 w (List.mem_filter.mp hw).1
  obtain ⟨c0, i0, K0⟩ := u_known (C := "GalleryWatch$Choice") (T := mj_T0) (N := 11) (n := 11) hts mj_in0 (hts _ (by decide +kernel))
  obtain ⟨c1, i1, K1⟩ := u_known (C := "GalleryWatch$Past") (T := mj_T1) (N := 3) (n := 3) hts mj_in1 (hts _ (by decide +kernel))
  obtain ⟨c2, i2, K2⟩ := u_known (C := "GalleryWatch$Post") (T := mj_T2) (N := 6) (n := 6) hts mj_in2 (hts _ (by decide +kernel))
  obtain ⟨c3, i3, K3⟩ := u_known (C := "GalleryWatch$Proof") (T := mj_T3) (N := 8) (n := 8) hts mj_in3 (hts _ (by decide +kernel))
  obtain ⟨c4, i4, K4⟩ := u_known (C := "GalleryWatch$Room") (T := mj_T4) (N := 5) (n := 5) hts mj_in4 (hts _ (by decide +kernel))
  obtain ⟨c5, i5, K5⟩ := u_known (C := "GalleryWatch$Shade") (T := mj_T5) (N := 3) (n := 3) hts mj_in5 (hts _ (by decide +kernel))
  obtain ⟨c6, i6, K6⟩ := u_known (C := "GalleryWatch$View") (T := mj_T6) (N := 3) (n := 3) hts mj_in6 (hts _ (by decide +kernel))
  obtain ⟨c7, i7, K7⟩ := u_known (C := "GalleryWatch") (T := mj_T7) (N := 7) (n := 7) hts mj_in7 (hts _ (by decide +kernel))
  obtain ⟨c8, i8, K8⟩ := u_known (C := "GalleryWatchModel") (T := mj_T8) (N := 25) (n := 25) hts mj_in8 (hts _ (by decide +kernel))
  obtain ⟨a0, A0⟩ := mj_arr_prim (ty := .int) (fun C h => by cases h) (hts _ (by decide +kernel))
  obtain ⟨a1, A1⟩ := mj_arr_prim (ty := .long) (fun C h => by cases h) (hts _ (by decide +kernel))
  obtain ⟨a2, A2⟩ := mj_arr_prim (ty := .boolean) (fun C h => by cases h) (hts _ (by decide +kernel))
  obtain ⟨a3, A3⟩ := mj_arr_ref (C := "GalleryWatch$Post") (hts _ (by decide +kernel))
  obtain ⟨a4, A4⟩ := mj_arr_ref (C := "GalleryWatch$Room") (hts _ (by decide +kernel))
  have hs := flat_of_before _ hgv
  have hA : ∀ a : Nat, a < s.heap.size → ¬ (s.heap.size ≤ a) := fun a h => Nat.not_le.mpr h
  have helem : ∀ j : Nat, j < 5 → (Term.elem (.static "GalleryWatch" "KINDS_OF" "[I") (.int (Int32.ofNat j))).eval #[Value.ref b] s none [] s = some (.int (mj_kd j)) := by
    intro j hj
    match j, hj with
    | 0, _ => exact va_eqt (hs _ (by decide +kernel))
    | 1, _ => exact va_eqt (hs _ (by decide +kernel))
    | 2, _ => exact va_eqt (hs _ (by decide +kernel))
    | 3, _ => exact va_eqt (hs _ (by decide +kernel))
    | 4, _ => exact va_eqt (hs _ (by decide +kernel))
  obtain ⟨kA, hkA, hT⟩ := va_Tof (A := fun q => s.heap.size ≤ q) (tm := .static "GalleryWatch" "KINDS_OF" "[I") (ty := .int) (N := 5) (f := fun j => .int (mj_kd j)) (by decide) (hs _ (by decide +kernel)) (va_eqt (z := 5) (hs _ (by decide +kernel))) helem hA
  have hZ := va_Zof (A := fun q => s.heap.size ≤ q) (C := "GalleryWatch") (n := "KINDS_OF") (d := "[I") (hts0 _ (by decide +kernel)) (hts _ (by decide +kernel)) hkA hA
  obtain ⟨dC, hdC⟩ : ∃ dC : Nat → ClassId, dC 0 = c0 ∧ dC 1 = c1 ∧ dC 2 = c2 ∧ dC 3 = c3 ∧ dC 4 = c4 ∧ dC 5 = c5 ∧ dC 6 = c6 ∧ dC 7 = c7 ∧ dC 8 = c8 := ⟨fun k => match k with | 0 => c0 | 1 => c1 | 2 => c2 | 3 => c3 | 4 => c4 | 5 => c5 | 6 => c6 | 7 => c7 | _ => c8, rfl, rfl, rfl, rfl, rfl, rfl, rfl, rfl, rfl⟩
  obtain ⟨dI, hdI⟩ : ∃ dI : Nat → Nat → Nat, dI 0 = i0 ∧ dI 1 = i1 ∧ dI 2 = i2 ∧ dI 3 = i3 ∧ dI 4 = i4 ∧ dI 5 = i5 ∧ dI 6 = i6 ∧ dI 7 = i7 ∧ dI 8 = i8 := ⟨fun k => match k with | 0 => i0 | 1 => i1 | 2 => i2 | 3 => i3 | 4 => i4 | 5 => i5 | 6 => i6 | 7 => i7 | _ => i8, rfl, rfl, rfl, rfl, rfl, rfl, rfl, rfl, rfl⟩
  obtain ⟨cA, hcA⟩ : ∃ cA : Nat → ClassId, cA 0 = a0 ∧ cA 1 = a1 ∧ cA 2 = a2 ∧ cA 3 = a3 ∧ cA 4 = a4 := ⟨fun k => match k with | 0 => a0 | 1 => a1 | 2 => a2 | 3 => a3 | _ => a4, rfl, rfl, rfl, rfl, rfl⟩
  obtain ⟨d0, d1, d2, d3, d4, d5, d6, d7, d8⟩ := hdC
  obtain ⟨f0, f1, f2, f3, f4, f5, f6, f7, f8⟩ := hdI
  obtain ⟨g0, g1, g2, g3, g4⟩ := hcA
  obtain ⟨σ', hrun, hn, hq⟩ := mj_law (L, xs) hL
  have hso := mj_sound l (s.heap.size, kA, b, (dC, dI), cA, (L, xs)) 900 _ _ _ _ _ _ hrun
  have hK : va_K (dC, dI) mj_cl (mj_tys (s.heap.size, kA, b, (dC, dI), cA, (L, xs))) s := by
    refine ⟨fun k q h => ?_, fun k q h => ?_⟩
    · match k, h with
      | 0, h => cases h; show u_Kn s _ _ _ (dC 0) (dI 0); rw [d0, f0]; exact K0
      | 1, h => cases h; show u_Kn s _ _ _ (dC 1) (dI 1); rw [d1, f1]; exact K1
      | 2, h => cases h; show u_Kn s _ _ _ (dC 2) (dI 2); rw [d2, f2]; exact K2
      | 3, h => cases h; show u_Kn s _ _ _ (dC 3) (dI 3); rw [d3, f3]; exact K3
      | 4, h => cases h; show u_Kn s _ _ _ (dC 4) (dI 4); rw [d4, f4]; exact K4
      | 5, h => cases h; show u_Kn s _ _ _ (dC 5) (dI 5); rw [d5, f5]; exact K5
      | 6, h => cases h; show u_Kn s _ _ _ (dC 6) (dI 6); rw [d6, f6]; exact K6
      | 7, h => cases h; show u_Kn s _ _ _ (dC 7) (dI 7); rw [d7, f7]; exact K7
      | 8, h => cases h; show u_Kn s _ _ _ (dC 8) (dI 8); rw [d8, f8]; exact K8
      | k + 9, h => simp [mj_cl] at h
    · match k, h with
      | 0, h => cases h; show ArrOfT s (cA 0) .int ∧ va_RA s (cA 0) .int; rw [g0]; exact A0
      | 1, h => cases h; show ArrOfT s (cA 1) .long ∧ va_RA s (cA 1) .long; rw [g1]; exact A1
      | 2, h => cases h; show ArrOfT s (cA 2) .boolean ∧ va_RA s (cA 2) .boolean; rw [g2]; exact A2
      | 3, h => cases h; show ArrOfT s (cA 3) (.object "GalleryWatch$Post") ∧ va_RA s (cA 3) (.object "GalleryWatch$Post"); rw [g3]; exact A3
      | 4, h => cases h; show ArrOfT s (cA 4) (.object "GalleryWatch$Room") ∧ va_RA s (cA 4) (.object "GalleryWatch$Room"); rw [g4]; exact A4
      | k + 5, h => rw [List.getElem?_eq_none (by simp [mj_tys])] at h; cases h
  have hNn : mj_Nn s := by
    refine ⟨fun w hw hn => ?_, va_AO.moved (Vm.Alike.refl s.vm) (va_AO.of (A := #[Value.ref b]) (hts _ (by decide +kernel))), va_AO.moved (Vm.Alike.refl s.vm) (va_AO.of (A := #[Value.ref b]) (hts _ (by decide +kernel)))⟩
    have h1 := hts w hw
    cases w <;> first | exact va_Nw.of rfl h1 | (simp [mj_nest] at hn)
  have hw0 : mj_w ((fun _ => none, 0, 0) : mj_H) := fun _ _ => rfl
  have hent := mj_en_lv (s.heap.size, kA, b, (dC, dI), cA, (L, xs)) (z := y_Law_law) (as := [.float 1]) (by decide)
  have hmap : ([.float 1] : List Value).map (mj_cv (s.heap.size, kA, b, (dC, dI), cA, (L, xs))) = [.ref b] := by
    show [mj_cv _ (.float 1)] = _
    rw [mj_cv_f1]
  rw [hmap] at hent
  rw [lg_entry_eq]
  refine hso.2 p e room_1 s m #[Value.ref b] below meth c _ 0 0 ⟨hx, hb, hr, hml, hown, hts, fun h => absurd h (by decide), hlocks, ⟨hK, hZ, hT, hX, hbl, hNn⟩, rfl, by decide, by decide⟩ hw0 (Nat.le_refl _) (Nat.le_refl _) ⟨by show σ'.2.1 - 0 ≤ 600000; omega, by show σ'.2.2 - 0 ≤ 7302250; omega⟩ ?_ s.heap [] _ hent (fun k q h => by simp [mj_ws] at h) va_S.rf
  intro pcr lsR H locs hR hP hS
  rcases hR with ⟨k, ty, e1, hd, -⟩ | ⟨k, e1, -⟩ | ⟨k, nn, e1, -⟩ | ⟨e1, -⟩
  · refine va_forget (fun q hq => hS.2.2 q hq) ?_
    refine W.widen (k := 600000) (n := 7302250) (by show σ'.2.1 - 0 ≤ 600000; omega) (by show σ'.2.2 - 0 ≤ 7302250; omega) ?_
    exact lw_ret hx hb hr hlocks hd
  · cases e1
  · cases k <;> cases e1
  · cases e1
-- ===== YOUR PART ENDS =====
set_option maxHeartbeats 4000000 in
theorem lw_walk (l : Launch) (b : Addr) (xs : List Int32) : MetFree l x (headSpec (Jvm.Cond.code x code maxLocals ret :: tables_1) room_1) (lw_P b xs) (fun _ _ _ _ _ => True) lw_Q := by
  refine MetFree.of_bodyS (code := code) (maxLocals := maxLocals) (ret := ret) (by decide) ?_ ?_
  · intro args s m h hn
    obtain ⟨meth, c, h1, h2, h3, h4, h5, h6, -, -⟩ := Cond.code_spec hn (atoms_spec (ws := Jvm.Cond.code x code maxLocals ret :: tables_1) h _ List.mem_cons_self)
    exact ⟨meth, c, h1, h2, h3, h4, h5, h6⟩
  · intro p e s m args below meth c s₁ B hml0 hP _
    obtain ⟨rfl, hx, hbd, hgv⟩ := hP
    obtain ⟨scr, harrAt, hlist, hof, hsmall⟩ := hx
    obtain ⟨hcb, hkn, -, -⟩ := State.arrayAt?_spec harrAt
    have hown : s.vm.findClass R_law = some m.cls := findClass_of_methodNamed B.named
    have hts0 : ∀ c ∈ (Jvm.Cond.code x code maxLocals ret :: tables_1), c.before #[Value.ref b] s = true := atoms_spec (ws := Jvm.Cond.code x code maxLocals ret :: tables_1) B.pre
    have hts : ∀ w ∈ lw_tbl, w.before #[Value.ref b] s = true := k2_hts_sels lw_privs (fun w hw => hts0 w (List.mem_cons_of_mem _ hw)) lw_privs_ok
    have hml : c.maxLocals = 4 := B.maxLocals_eq (hts0 _ List.mem_cons_self)
    have X₀ : Stand p l e room_1 s m #[Value.ref b] below meth c s₁ [] 0 0 := Stand.of_body B
    have hh0 : s₁.heap = s.heap := by rw [B.state]; rfl
    have hsz : scr.slots.size = xs.length := by rw [← Array.length_toList, hlist, List.length_map]
    have hval : ∀ j : Nat, j < xs.length → scr.slots[j]? = some (.int (xs.getD j 0)) := fun j hj => by
      rw [← Array.getElem?_toList, hlist]
      simp [hj]
    have hbl : b < s.heap.size := (Array.getElem?_eq_some_iff.mp hcb).1
    have hX : va_X b xs.length (fun j => xs.getD j 0) s s.heap := ⟨scr, hcb, hof, hkn, hsz, hval⟩
    have K : W p l e room_1 s m #[Value.ref b] below meth c s₁.heap [] 0 0 (lw_Z below #[Value.ref b] s) (entryFrame m ([Value.ref b] : List Value).toArray 4) := by
      rw [hh0]
      exact whole_start l hbd ⟨B.exec, B.bytes, B.returns, hml, hown, hts, hX, hbl, B.notSynchronized, hgv⟩
    obtain ⟨t, a1, o, b1, b2, b3⟩ := K s₁ rfl X₀
    exact ⟨t, o, a1, b1, b2, b3⟩
theorem lw_pre_spec {args : Array Value} {s : State} (h : (Jvm.Cond.and given_1 narrow_1).before args s = true) (hr : rest_1_c.before args s = true) : ∃ (b : Addr) (xs : List Int32), lw_P b xs args s := by
  have hs := flat_of_before _ h
  have hq := flat_of_before _ hr
  have hc : (Cond.count 1).before args s = true := hs _ (by decide +kernel)
  have harr : (Cond.arrayOf (.arg 0) .int).before args s = true := hs _ (by decide +kernel)
  have hle : (Cond.le (.length (.arg 0)) (.int 2048)).before args s = true := hs _ (by decide +kernel)
  have hlen : (Cond.isInt (.length (.arg 0))).before args s = true := hq _ (by decide +kernel)
  have hall : (Cond.all (.arg 0) (.isInt (.elem (.arg 0) (.index 0)))).before args s = true := hq _ (by decide +kernel)
  obtain ⟨b, xs, hb, hx⟩ := State.ints_of_pre rfl harr hlen hall
  have hsm : xs.length < 2 ^ 31 := hx.choose_spec.2.2.2
  have hev : (Term.length (.arg 0)).eval args s none [] s = some (.int xs.length.toInt32) := hx.length_eval hb
  have hv := Cond.le_ints hev (show (Term.int 2048).eval args s none [] s = some (.int 2048) from rfl)
  have hd : xs.length.toInt32 ≤ 2048 := by
    simpa [Cond.before, Cond.holds, hv] using hle
  have hN : xs.length ≤ 2048 := (Int32.ofNat_le_ofNat hsm (by decide)).mp (show Int32.ofNat xs.length ≤ Int32.ofNat 2048 from hd)
  exact ⟨b, xs, Cond.one_arg hc (show args[0]? = some (.ref b) from hb), hx, hN, h⟩
theorem lw_comes (l : Launch) : Comes l x (Jvm.Cond.code x code maxLocals ret :: tables_1) room_1 (fun tb e args s => Calls_1 tb e args s ∧ rest_1 tb e args s ∧ Pre_1 tb e args s)
    (fun _ _ args s o t => lw_Q args s o t) := by
  intro p e ha hc hk s m args below hf hfit hheap happ hpre
  obtain ⟨b, xs, hP⟩ := lw_pre_spec hpre.2.2 hpre.2.1
  obtain ⟨k, o, h1, h2, h3, hQ⟩ := lw_walk l b xs p e ha hc hk s m args below hf ((Spec.applies_iff_loose hf).mp happ).1 hP trivial
  exact ⟨k, o, h1, h2, h3, hQ⟩
theorem lw_frame {s t : State} {o : Outcome} {args : Array Value} (h : Framed s o t [] 600000 7302250) :
    Framed s o t (fieldLocs frame_1_writes args s ++ arrayLocs frame_1_arrays args s ++ staticLocs frame_1_statics s) 600000 7302250 := h
theorem lw_limb (L : Cond) (hL : ∀ (args : Array Value) (s t : State), L.after args s (.returned (some (.int 1))) t = true) :
    ArmFor flags0 classFile x code maxLocals ret World_1 tables_1 room_1 Calls_1 rest_1 Pre_1
      (fun tb e a s o t => postC L tb e a s o t ∧ Framed s o t (fieldLocs frame_1_writes a s ++ arrayLocs frame_1_arrays a s ++ staticLocs frame_1_statics s) 600000 7302250) := by
  intro l _ _ _ p e ha hc hk s m args below hf hfit hheap happ hpre
  obtain ⟨k, o, h1, h2, h3, rfl, hF⟩ := lw_comes l p e ha hc hk s m args below hf hfit hheap happ hpre
  exact ⟨k, _, h1, h2, h3, hL args s _, lw_frame hF⟩
theorem i_vc : Claimed_1_1 ∧ Claimed_1_2 := ⟨lw_limb limb_1_1 (fun args s t => by simp [limb_1_1, Cond.after, Cond.holds, Cond.value]), lw_limb limb_1_2 (fun args s t => Cond.after_iff.mpr (by
  first | (rw [show limb_1_2 = Cond.eq .result (.int 1) from rfl, Cond.eq_ints (x := 1) (y := 1) rfl rfl]; simp; done) | (simp [limb_1_2, Cond.value, Term.eval]; done)))⟩
