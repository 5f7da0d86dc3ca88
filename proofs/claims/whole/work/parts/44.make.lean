/-! Proof.make; the class as a whole; a change begins -/
abbrev gw_BAD : Int32 := -2000000001
abbrev gw_NO : Int32 := -2000000002
abbrev gw_FULL : Int32 := -2000000003
theorem sp_Proof_rowsNeeded {X : mj_X} {w h n : Nat} {s : Nat → Int32} {σ : mj_H} {rows : Nat} {sz : Int32} {ce ab co wy bl : Nat → Int32} (hF : gw_pf σ.1 rows sz ce ab co wy bl) (hd : gw_dim w h) (hR : gw_rm σ.1 1 w h n s) (hU : gw_vup σ.1 w h n s) {m : Nat} (hm : m ≤ 6) {d : Nat} {z : Int32} {Q : Value → mj_H → Prop} (k : Q (.int (nI (gw_rn w h n s m z))) σ) : mj_M X (d + 9) y_Proof_rowsNeeded [.ref 49, .int z, .int (nI m)] σ (mj_V Q) := by
  have h := sp_Proof_rowsNeeded_all (X := X) hF hd hR hU m hm (d := d + (7 - m)) (z := z) (Q := Q) k
  rwa [show d + (7 - m) + m + 2 = d + 9 by omega] at h
theorem sp_Proof_grow {X : mj_X} {w h n : Nat} {s : Nat → Int32} {sz : Int32} (hd : gw_dim w h) {m : Nat} (hm : m ≤ 6) {d : Nat} {P : List gw_Row} {a c z : Int32} {ce ab co wy bl : Nat → Int32} {σ : mj_H} {Q : mj_H → Prop} (h1 : gw_rm σ.1 1 w h n s) (h2 : gw_vup σ.1 w h n s) (h3 : gw_pf σ.1 P.length sz ce ab co wy bl) (h4 : gw_hl P ce ab co wy bl) (h5 : P.length + gw_tl w h n s m z ≤ 600) (k : ∀ f ce ab co wy bl, gw_fr [50, 51, 52, 53, 54, 49] σ.1 f → gw_pf f (gw_g w h n s m P a c z).length sz ce ab co wy bl → gw_hl (gw_g w h n s m P a c z) ce ab co wy bl → Q (f, σ.2)) : mj_M X (d + 9) y_Proof_grow [.ref 49, .int a, .int c, .int z, .int (nI m)] σ (mj_U Q) := by
  have h := sp_Proof_grow_all (X := X) hd m hm (d := d + (6 - m)) (a := a) (c := c) (z := z) h1 h2 h3 h4 h5 k
  rwa [show d + (6 - m) + m + 3 = d + 9 by omega] at h
abbrev gw_T (w h n : Nat) (s : Nat → Int32) (m : Nat) : List gw_Row := gw_g w h n s m [] gw_NONE gw_NONE 0
theorem gw_T_len {w h n : Nat} {s : Nat → Int32} {m : Nat} : (gw_T w h n s m).length = gw_tl w h n s m 0 := by
  rw [gw_g_len]; exact Nat.zero_add _
theorem sp_Proof_make {X : mj_X} {d : Nat} {σ : mj_H} {Q : Value → mj_H → Prop} {w h n : Nat} {s : Nat → Int32} {rows : Nat} {sz : Int32} {ce ab co wy bl : Nat → Int32} (hF : gw_pf σ.1 rows sz ce ab co wy bl) (hd : gw_dim w h) (hR : gw_rm σ.1 1 w h n s) (hU : gw_vup σ.1 w h n s) {m : Nat} (hm : m ≤ 6) (k1 : 600 < gw_tl w h n s m 0 → Q (.int gw_FULL) σ) (k2 : gw_tl w h n s m 0 ≤ 600 → ∀ f ce ab co wy bl, gw_fr [50, 51, 52, 53, 54, 49] σ.1 f → gw_pf f (gw_T w h n s m).length (nI m) ce ab co wy bl → gw_hl (gw_T w h n s m) ce ab co wy bl → Q (.int (nI (gw_T w h n s m).length)) (f, σ.2)) : mj_M X (d + 10) y_Proof_make [.ref 49, .int (nI m)] σ (mj_V Q) := by
  obtain ⟨t1, t2, t3, t4, t5, t6, t7⟩ := id hF
  have hrt := gw_rn_tl (w := w) (h := h) (n := n) (s := s) m 0
  refine mw_in (l0 := [some (.ref 49), some (.int (nI m))]) rfl ?_
  by_cases hq : gw_rn w h n s m 0 ≤ 600
  · have ht : gw_tl w h n s m 0 ≤ 600 := by rw [← hrt.1 hq]; exact hq
    have hf2 : gw_fr [50, 51, 52, 53, 54, 49] σ.1 (va_up (va_up σ.1 49 (mj_O 3 [.ref 4, .ref 50, .ref 51, .ref 52, .ref 53, .ref 54, .int 0, .int sz])) 49 (mj_O 3 [.ref 4, .ref 50, .ref 51, .ref 52, .ref 53, .ref 54, .int 0, .int (nI m)])) := gw_fr_up (gw_fr_up (gw_fr_rf _ _) (by simp)) (by simp)
    have hR2 := gw_rm_fr hf2 (by decide) (by decide) (by decide) (by decide) hR
    have hU2 := gw_vup_fr hf2 (by decide) (by decide) hU
    have hF2 : gw_pf (va_up (va_up σ.1 49 (mj_O 3 [.ref 4, .ref 50, .ref 51, .ref 52, .ref 53, .ref 54, .int 0, .int sz])) 49 (mj_O 3 [.ref 4, .ref 50, .ref 51, .ref 52, .ref 53, .ref 54, .int 0, .int (nI m)])) ([] : List gw_Row).length (nI m) ce ab co wy bl := ⟨mj_hs, mj_hn (by decide) (mj_hn (by decide) t2), mj_hn (by decide) (mj_hn (by decide) t3), mj_hn (by decide) (mj_hn (by decide) t4), mj_hn (by decide) (mj_hn (by decide) t5), mj_hn (by decide) (mj_hn (by decide) t6), Nat.zero_le _⟩
    refine mw_ld 1 i_Proof_make_0 rfl rfl rfl ?_
    refine mw_k 2 i_Proof_make_1 rfl ?_
    refine mw_ld 3 i_Proof_make_2 rfl rfl rfl ?_
    refine mw_cv1 6 i_Proof_make_3 rfl (by repeat (first | exact mj_hs2 | exact mj_hs | assumption | refine mj_hn2 (by omega) ?_ | refine mj_hn (by omega) ?_)) (sp_Proof_rowsNeeded (d := d) hF hd hR hU hm ?_) rfl rfl (Nat.le_of_ble_eq_true rfl) (Nat.le_of_ble_eq_true rfl)
    refine mw_k 9 i_Proof_make_6 rfl ?_
    refine mw_ic1 i_Proof_make_9 (nI_le (b := 600) hq (by decide)) ?_
    refine mw_ld 16 i_Proof_make_15 rfl rfl rfl ?_
    refine mw_k 17 i_Proof_make_16 rfl ?_
    refine mw_put (fs' := [_, _, _, _, _, _, _, _]) 20 i_Proof_make_17 rfl (by repeat (first | exact mj_hs2 | exact mj_hs | assumption | refine mj_hn2 (by omega) ?_ | refine mj_hn (by omega) ?_)) (Nat.le_of_ble_eq_true rfl) rfl rfl (fun _ h => by cases h) (by rfl) ?_
    refine mw_ld 21 i_Proof_make_20 rfl rfl rfl ?_
    refine mw_ld 22 i_Proof_make_21 rfl rfl rfl ?_
    refine mw_put (fs' := [_, _, _, _, _, _, _, _]) 25 i_Proof_make_22 rfl (by repeat (first | exact mj_hs2 | exact mj_hs | assumption | refine mj_hn2 (by omega) ?_ | refine mj_hn (by omega) ?_)) (Nat.le_of_ble_eq_true rfl) rfl rfl (fun _ h => by cases h) (by rfl) ?_
    refine mw_ld 26 i_Proof_make_25 rfl rfl rfl ?_
    refine mw_k 28 i_Proof_make_26 rfl ?_
    refine mw_k 30 i_Proof_make_28 rfl ?_
    refine mw_k 31 i_Proof_make_30 rfl ?_
    refine mw_ld 32 i_Proof_make_31 rfl rfl rfl ?_
    refine mw_cv0 35 i_Proof_make_32 rfl (by repeat (first | exact mj_hs2 | exact mj_hs | assumption | refine mj_hn2 (by omega) ?_ | refine mj_hn (by omega) ?_)) (sp_Proof_grow (d := d) (σ := (_, σ.2)) (P := []) hd hm hR2 hU2 hF2 (by intro j hj; cases hj) (by simpa using ht) (fun f ce3 ab3 co3 wy3 bl3 g1 g2 g3 => ?_)) rfl rfl (Nat.le_of_ble_eq_true rfl) (Nat.le_of_ble_eq_true rfl)
    obtain ⟨y1, -⟩ := id g2
    refine mw_ld 36 i_Proof_make_35 rfl rfl rfl ?_
    refine mw_get 39 i_Proof_make_36 rfl (by repeat (first | exact mj_hs2 | exact mj_hs | assumption | refine mj_hn2 (by omega) ?_ | refine mj_hn (by omega) ?_)) (by rfl) ?_
    refine mw_ri i_Proof_make_39 rfl rfl ?_
    exact k2 ht f ce3 ab3 co3 wy3 bl3 (gw_fr_tr hf2 g1) g2 g3
  · have ht : 600 < gw_tl w h n s m 0 := hrt.2.1 (by omega)
    have hb := hrt.2.2
    refine mw_ld 1 i_Proof_make_0 rfl rfl rfl ?_
    refine mw_k 2 i_Proof_make_1 rfl ?_
    refine mw_ld 3 i_Proof_make_2 rfl rfl rfl ?_
    refine mw_cv1 6 i_Proof_make_3 rfl (by repeat (first | exact mj_hs2 | exact mj_hs | assumption | refine mj_hn2 (by omega) ?_ | refine mj_hn (by omega) ?_)) (sp_Proof_rowsNeeded (d := d) hF hd hR hU hm ?_) rfl rfl (Nat.le_of_ble_eq_true rfl) (Nat.le_of_ble_eq_true rfl)
    refine mw_k 9 i_Proof_make_6 rfl ?_
    refine mw_ic0 12 i_Proof_make_9 rfl (nI_ge (a := 600) (b := gw_rn w h n s m 0) (by omega) (by omega)) ?_
    refine mw_k 14 i_Proof_make_12 rfl ?_
    refine mw_ri i_Proof_make_14 rfl rfl ?_
    exact k1 ht
theorem gw_cok_fr {L : List Nat} {f f' : Nat → mj_C} {w h n : Nat} {s : Nat → Int32} (hf : gw_fr L f f') (hL : ∀ a, 41 ≤ a → a ≤ 45 → a ∉ L) (hC : gw_cok f w h n s) : gw_cok f' w h n s := by
  have e : ∀ {ol oh : Int64} {up sz fi fo : Int32} {lo hi rl rh : Nat → Int64}, gw_ch f ol oh up sz fi fo lo hi rl rh → gw_ch f' ol oh up sz fi fo lo hi rl rh := fun ⟨h1, h2, h3, h4, h5⟩ =>
    ⟨(hf _ (hL 41 (by decide) (by decide))).trans h1, (hf _ (hL 42 (by decide) (by decide))).trans h2, (hf _ (hL 43 (by decide) (by decide))).trans h3, (hf _ (hL 44 (by decide) (by decide))).trans h4, (hf _ (hL 45 (by decide) (by decide))).trans h5⟩
  rcases hC with ⟨ol, oh, lo, hi, rl, rh, hC⟩ | ⟨ol, oh, sz, fi, fo, lo, hi, rl, rh, hC⟩
  · exact .inl ⟨ol, oh, lo, hi, rl, rh, e hC⟩
  · exact .inr ⟨ol, oh, sz, fi, fo, lo, hi, rl, rh, e hC⟩
theorem gw_sh_fr {L : List Nat} {f f' : Nat → mj_C} {st qu : Nat → Int32} (hf : gw_fr L f f') (hL : ∀ a, 46 ≤ a → a ≤ 48 → a ∉ L) (hS : gw_sh f st qu) : gw_sh f' st qu :=
  ⟨(hf _ (hL 46 (by decide) (by decide))).trans hS.1, (hf _ (hL 47 (by decide) (by decide))).trans hS.2.1, (hf _ (hL 48 (by decide) (by decide))).trans hS.2.2⟩
theorem gw_pf_fr {L : List Nat} {f f' : Nat → mj_C} {rows : Nat} {sz : Int32} {ce ab co wy bl : Nat → Int32} (hf : gw_fr L f f') (hL : ∀ a, 49 ≤ a → a ≤ 54 → a ∉ L) (hF : gw_pf f rows sz ce ab co wy bl) : gw_pf f' rows sz ce ab co wy bl := by
  obtain ⟨t1, t2, t3, t4, t5, t6, t7⟩ := hF
  exact ⟨(hf _ (hL 49 (by decide) (by decide))).trans t1, (hf _ (hL 50 (by decide) (by decide))).trans t2, (hf _ (hL 51 (by decide) (by decide))).trans t3, (hf _ (hL 52 (by decide) (by decide))).trans t4, (hf _ (hL 53 (by decide) (by decide))).trans t5, (hf _ (hL 54 (by decide) (by decide))).trans t6, t7⟩
abbrev gw_c0 : mj_C := mj_O 7 [.ref 1, .ref 6, .ref 9, .ref 4, .ref 41, .ref 46, .ref 49]
/-- the class's whole picture: a room of w by h, n posts, the state s; kp states kept; the tree's rows -/
def gw_CI (f : Nat → mj_C) (w h n : Nat) (s : Nat → Int32) (kp : Nat) (hn : Nat → Nat) (hs : Nat → Nat → Int32) (P : List gw_Row) (sz : Int32) : Prop :=
  f 0 = gw_c0 ∧ gw_rm f 1 w h n s ∧ (∃ w' h' n' s', gw_rm f 6 w' h' n' s') ∧ (∃ nx, gw_pa f w h kp nx hn hs) ∧ gw_vok f w h n s ∧ gw_cok f w h n s ∧ (∃ st qu, gw_sh f st qu) ∧ ∃ ce ab co wy bl, gw_pf f P.length sz ce ab co wy bl ∧ gw_hl P ce ab co wy bl
/-- while a change goes on: what isn't the room itself, outdated -/
def gw_CX (f : Nat → mj_C) (w h : Nat) (kp : Nat) (hn : Nat → Nat) (hs : Nat → Nat → Int32) (sz : Int32) : Prop :=
  f 0 = gw_c0 ∧ (∃ nx, gw_pa f w h kp nx hn hs) ∧ (∃ wt, gw_vw f 0 wt) ∧ (∃ ol oh sz fi fo lo hi rl rh, gw_ch f ol oh 0 sz fi fo lo hi rl rh) ∧ (∃ st qu, gw_sh f st qu) ∧ ∃ ce ab co wy bl, gw_pf f 0 sz ce ab co wy bl
theorem gw_CX_CI {f : Nat → mj_C} {w h n : Nat} {s : Nat → Int32} {kp : Nat} {hn : Nat → Nat} {hs : Nat → Nat → Int32} {sz : Int32} {w' h' n' : Nat} {s' : Nat → Int32} (hX : gw_CX f w h kp hn hs sz) (h1 : gw_rm f 1 w h n s) (h2 : gw_rm f 6 w' h' n' s') : gw_CI f w h n s kp hn hs [] sz := by
  obtain ⟨x1, x2, x3, x4, x5, ce, ab, co, wy, bl, x6⟩ := hX
  exact ⟨x1, h1, ⟨_, _, _, _, h2⟩, x2, .inr x3, .inr x4, x5, ce, ab, co, wy, bl, x6, fun j hj => by cases hj⟩
theorem gw_CX_fr {L : List Nat} {f f' : Nat → mj_C} {w h : Nat} {kp : Nat} {hn : Nat → Nat} {hs : Nat → Nat → Int32} {sz : Int32} (hf : gw_fr L f f') (hL : ∀ a ∈ L, a ∈ [1, 2, 3, 6, 7, 8]) (hX : gw_CX f w h kp hn hs sz) : gw_CX f' w h kp hn hs sz := by
  have hno : ∀ a, a ∉ [1, 2, 3, 6, 7, 8] → a ∉ L := fun a h1 h2 => h1 (hL a h2)
  have h8 : ∀ a ∈ L, a < 9 := fun a ha => by have := hL a ha; simp at this; omega
  obtain ⟨x1, ⟨nx, x2⟩, ⟨wt, x3, x3'⟩, ⟨ol, oh, sz1, fi, fo, lo, hi, rl, rh, c1, c2, c3, c4, c5⟩, ⟨st, qu, x5⟩, ce, ab, co, wy, bl, x6⟩ := hX
  have hh : ∀ a, 9 ≤ a → a ∉ L := fun a h1 h2 => by have := h8 a h2; omega
  exact ⟨(hf 0 (hno 0 (by decide))).trans x1, ⟨nx, gw_pa_fr hf (fun a ha => .inl (h8 a ha)) x2⟩, ⟨wt, (hf 4 (hno 4 (by decide))).trans x3, (hf 5 (hno 5 (by decide))).trans x3'⟩,
    ⟨ol, oh, sz1, fi, fo, lo, hi, rl, rh, (hf _ (hh _ (by decide))).trans c1, (hf _ (hh _ (by decide))).trans c2, (hf _ (hh _ (by decide))).trans c3, (hf _ (hh _ (by decide))).trans c4, (hf _ (hh _ (by decide))).trans c5⟩,
    ⟨st, qu, gw_sh_fr hf (fun a h1 _ => hh a (by omega)) x5⟩, ce, ab, co, wy, bl, gw_pf_fr hf (fun a h1 _ => hh a (by omega)) x6⟩
/-- what is made anew changes nothing that was there -/
def gw_ext (f f' : Nat → mj_C) : Prop := ∀ a, f a ≠ none → f' a = f a
theorem gw_ext_e {f f' : Nat → mj_C} (he : gw_ext f f') {a : Nat} {c : (Nat × vp_A) ⊕ (Nat × List Value)} (h : f a = some c) : f' a = some c := by rw [he a (by rw [h]; simp)]; exact h
theorem gw_rm_ext {f f' : Nat → mj_C} {r w h n : Nat} {s : Nat → Int32} (he : gw_ext f f') (hR : gw_rm f r w h n s) : gw_rm f' r w h n s := by
  obtain ⟨wl, ps, c1, c2, c3, c4, c5⟩ := hR
  refine ⟨wl, ps, gw_ext_e he c1, gw_ext_e he c2, gw_ext_e he c3, c4, fun k hk => ⟨fun hkn => ?_, (c5 k hk).2⟩⟩
  obtain ⟨p, h0, h1, h2⟩ := (c5 k hk).1 hkn
  exact ⟨p, h0, h1, gw_ext_e he h2⟩
theorem gw_CX_ext {f f' : Nat → mj_C} {w h : Nat} {kp : Nat} {hn : Nat → Nat} {hs : Nat → Nat → Int32} {sz : Int32} (he : gw_ext f f') (hX : gw_CX f w h kp hn hs sz) : gw_CX f' w h kp hn hs sz := by
  obtain ⟨x1, ⟨nx, rs, p1, p2, p3, p4, p5, p6, p7⟩, ⟨wt, x3, x3'⟩, ⟨ol, oh, sz1, fi, fo, lo, hi, rl, rh, c1, c2, c3, c4, c5⟩, ⟨st, qu, z1, z2, z3⟩, ce, ab, co, wy, bl, t1, t2, t3, t4, t5, t6, t7⟩ := hX
  refine ⟨gw_ext_e he x1, ⟨nx, rs, gw_ext_e he p1, gw_ext_e he p2, p3, p4, p5, fun i hi => ?_, fun j hj => ⟨(p7 j hj).1, gw_rm_ext he (p7 j hj).2⟩⟩, ⟨wt, gw_ext_e he x3, gw_ext_e he x3'⟩,
    ⟨ol, oh, sz1, fi, fo, lo, hi, rl, rh, gw_ext_e he c1, gw_ext_e he c2, gw_ext_e he c3, gw_ext_e he c4, gw_ext_e he c5⟩, ⟨st, qu, gw_ext_e he z1, gw_ext_e he z2, gw_ext_e he z3⟩, ce, ab, co, wy, bl, gw_ext_e he t1, gw_ext_e he t2, gw_ext_e he t3, gw_ext_e he t4, gw_ext_e he t5, gw_ext_e he t6, t7⟩
  obtain ⟨w', h', n', s', q⟩ := p6 i hi
  exact ⟨w', h', n', s', gw_rm_ext he q⟩
theorem gw_CI_fr {L : List Nat} {f f' : Nat → mj_C} {w h n : Nat} {s : Nat → Int32} {kp : Nat} {hn : Nat → Nat} {hs : Nat → Nat → Int32} {P : List gw_Row} {sz : Int32} (hf : gw_fr L f f') (hL : ∀ a ∈ L, 55 ≤ a ∧ a < 71) (hI : gw_CI f w h n s kp hn hs P sz) : gw_CI f' w h n s kp hn hs P sz := by
  have hh : ∀ a, a < 55 → a ∉ L := fun a h1 h2 => by have := hL a h2; omega
  have h7 : ∀ a ∈ L, a < 71 := fun a ha => (hL a ha).2
  obtain ⟨x1, x2, ⟨w', h', n', s', x3⟩, ⟨nx, x4⟩, x5, x6, ⟨st, qu, x7⟩, ce, ab, co, wy, bl, x8, x9⟩ := hI
  exact ⟨(hf 0 (hh 0 (by decide))).trans x1, gw_rm_fr hf h7 (hh _ (by decide)) (hh _ (by decide)) (hh _ (by decide)) x2, ⟨w', h', n', s', gw_rm_fr hf h7 (hh _ (by decide)) (hh _ (by decide)) (hh _ (by decide)) x3⟩, ⟨nx, gw_pa_fr hf (fun a ha => .inr (by have := hL a ha; omega)) x4⟩,
    gw_vok_fr hf (hh _ (by decide)) (hh _ (by decide)) x5, gw_cok_fr hf (fun a _ _ => hh a (by omega)) x6, ⟨st, qu, gw_sh_fr hf (fun a _ _ => hh a (by omega)) x7⟩, ce, ab, co, wy, bl, gw_pf_fr hf (fun a _ _ => hh a (by omega)) x8, x9⟩
theorem gw_CI_v {f f' : Nat → mj_C} {w h n : Nat} {s : Nat → Int32} {kp : Nat} {hn : Nat → Nat} {hs : Nat → Nat → Int32} {P : List gw_Row} {sz : Int32} (hf : gw_fr [4, 5] f f') (hU : gw_vup f' w h n s) (hI : gw_CI f w h n s kp hn hs P sz) : gw_CI f' w h n s kp hn hs P sz := by
  obtain ⟨x1, x2, ⟨w', h', n', s', x3⟩, ⟨nx, x4⟩, x5, x6, ⟨st, qu, x7⟩, ce, ab, co, wy, bl, x8, x9⟩ := hI
  exact ⟨(hf 0 (by decide)).trans x1, gw_rm_fr hf (by decide) (by decide) (by decide) (by decide) x2, ⟨w', h', n', s', gw_rm_fr hf (by decide) (by decide) (by decide) (by decide) x3⟩, ⟨nx, gw_pa_fr hf (by decide) x4⟩,
    .inl hU, gw_cok_fr hf (fun a _ _ => by simp; omega) x6, ⟨st, qu, gw_sh_fr hf (fun a _ _ => by simp; omega) x7⟩, ce, ab, co, wy, bl, gw_pf_fr hf (fun a _ _ => by simp; omega) x8, x9⟩
theorem gw_CI_c {f f' : Nat → mj_C} {w h n : Nat} {s : Nat → Int32} {kp : Nat} {hn : Nat → Nat} {hs : Nat → Nat → Int32} {P : List gw_Row} {sz : Int32} (hf : gw_fr [41, 42, 43, 44, 45] f f') (hU : gw_cup f' w h n s) (hI : gw_CI f w h n s kp hn hs P sz) : gw_CI f' w h n s kp hn hs P sz := by
  obtain ⟨x1, x2, ⟨w', h', n', s', x3⟩, ⟨nx, x4⟩, x5, x6, ⟨st, qu, x7⟩, ce, ab, co, wy, bl, x8, x9⟩ := hI
  exact ⟨(hf 0 (by decide)).trans x1, gw_rm_fr hf (by decide) (by decide) (by decide) (by decide) x2, ⟨w', h', n', s', gw_rm_fr hf (by decide) (by decide) (by decide) (by decide) x3⟩, ⟨nx, gw_pa_fr hf (by decide) x4⟩,
    gw_vok_fr hf (by decide) (by decide) x5, .inl hU, ⟨st, qu, gw_sh_fr hf (fun a _ _ => by simp; omega) x7⟩, ce, ab, co, wy, bl, gw_pf_fr hf (fun a _ _ => by simp; omega) x8, x9⟩
theorem gw_CI_s {f f' : Nat → mj_C} {w h n : Nat} {s : Nat → Int32} {kp : Nat} {hn : Nat → Nat} {hs : Nat → Nat → Int32} {P : List gw_Row} {sz : Int32} (hf : gw_fr [47, 48] f f') (hU : ∃ st qu, gw_sh f' st qu) (hI : gw_CI f w h n s kp hn hs P sz) : gw_CI f' w h n s kp hn hs P sz := by
  obtain ⟨x1, x2, ⟨w', h', n', s', x3⟩, ⟨nx, x4⟩, x5, x6, ⟨st, qu, x7⟩, ce, ab, co, wy, bl, x8, x9⟩ := hI
  exact ⟨(hf 0 (by decide)).trans x1, gw_rm_fr hf (by decide) (by decide) (by decide) (by decide) x2, ⟨w', h', n', s', gw_rm_fr hf (by decide) (by decide) (by decide) (by decide) x3⟩, ⟨nx, gw_pa_fr hf (by decide) x4⟩,
    gw_vok_fr hf (by decide) (by decide) x5, gw_cok_fr hf (fun a _ _ => by simp; omega) x6, hU, ce, ab, co, wy, bl, gw_pf_fr hf (fun a _ _ => by simp; omega) x8, x9⟩
theorem gw_CI_p {f f' : Nat → mj_C} {w h n : Nat} {s : Nat → Int32} {kp : Nat} {hn : Nat → Nat} {hs : Nat → Nat → Int32} {P P' : List gw_Row} {sz sz' : Int32} {ce ab co wy bl : Nat → Int32} (hf : gw_fr [50, 51, 52, 53, 54, 49] f f') (h1 : gw_pf f' P'.length sz' ce ab co wy bl) (h2 : gw_hl P' ce ab co wy bl) (hI : gw_CI f w h n s kp hn hs P sz) : gw_CI f' w h n s kp hn hs P' sz' := by
  obtain ⟨x1, x2, ⟨w', h', n', s', x3⟩, ⟨nx, x4⟩, x5, x6, ⟨st, qu, x7⟩, x8⟩ := hI
  exact ⟨(hf 0 (by decide)).trans x1, gw_rm_fr hf (by decide) (by decide) (by decide) (by decide) x2, ⟨w', h', n', s', gw_rm_fr hf (by decide) (by decide) (by decide) (by decide) x3⟩, ⟨nx, gw_pa_fr hf (by decide) x4⟩,
    gw_vok_fr hf (by decide) (by decide) x5, gw_cok_fr hf (fun a _ _ => by simp; omega) x6, ⟨st, qu, gw_sh_fr hf (fun a _ _ => by simp; omega) x7⟩, ce, ab, co, wy, bl, h1, h2⟩
theorem sp_GW_outdate {X : mj_X} {d : Nat} {σ : mj_H} {Q : mj_H → Prop} {u : Int32} {wt : Nat → Int32} {ol oh : Int64} {up sz1 fi fo : Int32} {lo hi rl rh : Nat → Int64} (hC : gw_ch σ.1 ol oh up sz1 fi fo lo hi rl rh) {rows : Nat} {sz : Int32} {ce ab co wy bl : Nat → Int32} (hF : gw_pf σ.1 rows sz ce ab co wy bl) (h0 : σ.1 0 = gw_c0) (hV : gw_vw σ.1 u wt) (k : ∀ f, gw_fr [4, 41, 49] σ.1 f → (∃ wt, gw_vw f 0 wt) → (∃ ol oh sz fi fo lo hi rl rh, gw_ch f ol oh 0 sz fi fo lo hi rl rh) → (∃ ce ab co wy bl, gw_pf f 0 sz ce ab co wy bl) → Q (f, σ.2)) : mj_M X (d + 1) y_GW_outdate [.ref 0] σ (mj_U Q) := by
  obtain ⟨v1, v2⟩ := id hV
  obtain ⟨b1, -⟩ := id hC
  obtain ⟨t1, -⟩ := id hF
  have hf1 : gw_fr [4, 41, 49] σ.1 (va_up σ.1 4 (mj_O 6 [.ref 1, .ref 5, .int 0])) := gw_fr_up (gw_fr_rf _ _) (by simp)
  have hf1' : gw_fr [4] σ.1 (va_up σ.1 4 (mj_O 6 [.ref 1, .ref 5, .int 0])) := gw_fr_up (gw_fr_rf _ _) (by simp)
  have hC1 : gw_ch (va_up σ.1 4 (mj_O 6 [.ref 1, .ref 5, .int 0])) ol oh up sz1 fi fo lo hi rl rh := ⟨mj_hn (by decide) hC.1, mj_hn (by decide) hC.2.1, mj_hn (by decide) hC.2.2.1, mj_hn (by decide) hC.2.2.2.1, mj_hn (by decide) hC.2.2.2.2⟩
  refine mw_in (l0 := [some (.ref 0)]) rfl ?_
  refine mw_ld 1 i_GW_outdate_0 rfl rfl rfl ?_
  refine mw_get 4 i_GW_outdate_1 rfl (by repeat (first | exact mj_hs2 | exact mj_hs | assumption | refine mj_hn2 (by omega) ?_ | refine mj_hn (by omega) ?_)) (by rfl) ?_
  refine mw_cv0 7 i_GW_outdate_4 rfl (by repeat (first | exact mj_hs2 | exact mj_hs | assumption | refine mj_hn2 (by omega) ?_ | refine mj_hn (by omega) ?_)) (sp_View_outdate hV ?_) rfl rfl (Nat.le_of_ble_eq_true rfl) (Nat.le_of_ble_eq_true rfl)
  refine mw_ld 8 i_GW_outdate_7 rfl rfl rfl ?_
  refine mw_get 11 i_GW_outdate_8 rfl (by repeat (first | exact mj_hs2 | exact mj_hs | assumption | refine mj_hn2 (by omega) ?_ | refine mj_hn (by omega) ?_)) (by rfl) ?_
  refine mw_cv0 14 i_GW_outdate_11 rfl (by repeat (first | exact mj_hs2 | exact mj_hs | assumption | refine mj_hn2 (by omega) ?_ | refine mj_hn (by omega) ?_)) (sp_Choice_outdate (σ := (_, σ.2)) hC1 (fun f2 g1 g2 => ?_)) rfl rfl (Nat.le_of_ble_eq_true rfl) (Nat.le_of_ble_eq_true rfl)
  have h02 : f2 0 = gw_c0 := (g1 0 (by decide)).trans (mj_hn2 (by decide) h0)
  have hF2 : gw_pf f2 rows sz ce ab co wy bl := gw_pf_fr g1 (fun a _ _ => by simp; omega) (gw_pf_fr hf1' (fun a _ _ => by simp; omega) hF)
  obtain ⟨y1, -⟩ := id hF2
  refine mw_ld 15 i_GW_outdate_14 rfl rfl rfl ?_
  refine mw_get 18 i_GW_outdate_15 rfl (by repeat (first | exact mj_hs2 | exact mj_hs | assumption | refine mj_hn2 (by omega) ?_ | refine mj_hn (by omega) ?_)) (by rfl) ?_
  refine mw_cv0 21 i_GW_outdate_18 rfl (by repeat (first | exact mj_hs2 | exact mj_hs | assumption | refine mj_hn2 (by omega) ?_ | refine mj_hn (by omega) ?_)) (sp_Proof_end (σ := (f2, σ.2)) hF2 (fun f3 g3 g4 => ?_)) rfl rfl (Nat.le_of_ble_eq_true rfl) (Nat.le_of_ble_eq_true rfl)
  refine mw_rv i_GW_outdate_21 rfl ?_
  refine k f3 (gw_fr_tr hf1 (gw_fr_tr (gw_fr_sub g1 (by simp)) (gw_fr_sub g3 (by simp)))) ⟨wt, ?_, ?_⟩ ⟨ol, oh, sz1, fi, fo, lo, hi, rl, rh, ?_⟩ ⟨ce, ab, co, wy, bl, g4⟩
  · exact (g3 4 (by decide)).trans ((g1 4 (by decide)).trans mj_hs2)
  · exact (g3 5 (by decide)).trans ((g1 5 (by decide)).trans (mj_hn2 (by decide) v2))
  · exact ⟨(g3 _ (by decide)).trans g2.1, (g3 _ (by decide)).trans g2.2.1, (g3 _ (by decide)).trans g2.2.2.1, (g3 _ (by decide)).trans g2.2.2.2.1, (g3 _ (by decide)).trans g2.2.2.2.2⟩
theorem gw_PL40 : ∀ b ∈ gw_PL, b ≤ 40 := by decide
theorem gw_vok_w {f : Nat → mj_C} {w h n : Nat} {s : Nat → Int32} (h : gw_vok f w h n s) : ∃ u wt, gw_vw f u wt := by
  rcases h with ⟨wt, h, -⟩ | ⟨wt, h⟩
  · exact ⟨_, wt, h⟩
  · exact ⟨_, wt, h⟩
theorem gw_cok_w {f : Nat → mj_C} {w h n : Nat} {s : Nat → Int32} (h : gw_cok f w h n s) : ∃ ol oh up sz fi fo lo hi rl rh, gw_ch f ol oh up sz fi fo lo hi rl rh := by
  rcases h with ⟨ol, oh, lo, hi, rl, rh, hC⟩ | ⟨ol, oh, sz, fi, fo, lo, hi, rl, rh, hC⟩
  · exact ⟨_, _, _, _, _, _, _, _, _, _, hC⟩
  · exact ⟨_, _, _, _, _, _, _, _, _, _, hC⟩
theorem sp_GW_beginChange {X : mj_X} {d : Nat} {σ : mj_H} {Q : mj_H → Prop} {w h n : Nat} {s : Nat → Int32} {kp : Nat} {hn : Nat → Nat} {hs : Nat → Nat → Int32} {P : List gw_Row} {sz : Int32} (hI : gw_CI σ.1 w h n s kp hn hs P sz) (hn14 : n ≤ 14) (k : ∀ f, gw_fr (4 :: 41 :: 49 :: gw_PL) σ.1 f → gw_CX f w h (min (kp + 1) 10) (gw_push kp hn n) (gw_push kp hs s) sz → Q (f, σ.2)) : mj_M X (d + 2) y_GW_beginChange [.ref 0] σ (mj_U Q) := by
  obtain ⟨x1, x2, ⟨w6, h6, n6, s6, x3⟩, ⟨nx, x4⟩, x5, x6, ⟨st, qu, x7⟩, ce, ab, co, wy, bl, x8, x9⟩ := id hI
  obtain ⟨wl1, ps1, r1, -⟩ := id x2
  obtain ⟨u, wt, hV⟩ := gw_vok_w x5
  obtain ⟨ol, oh, up, sz1, fi, fo, lo, hi, rl, rh, hC⟩ := gw_cok_w x6
  obtain ⟨rs, p1, -⟩ := id x4
  refine mw_in (l0 := [some (.ref 0)]) rfl ?_
  refine mw_ld 1 i_GW_beginChange_0 rfl rfl rfl ?_
  refine mw_get 4 i_GW_beginChange_1 rfl (by repeat (first | exact mj_hs2 | exact mj_hs | assumption | refine mj_hn2 (by omega) ?_ | refine mj_hn (by omega) ?_)) (by rfl) ?_
  refine mw_ld 5 i_GW_beginChange_4 rfl rfl rfl ?_
  refine mw_get 8 i_GW_beginChange_5 rfl (by repeat (first | exact mj_hs2 | exact mj_hs | assumption | refine mj_hn2 (by omega) ?_ | refine mj_hn (by omega) ?_)) (by rfl) ?_
  refine mw_cv0 11 i_GW_beginChange_8 rfl (by repeat (first | exact mj_hs2 | exact mj_hs | assumption | refine mj_hn2 (by omega) ?_ | refine mj_hn (by omega) ?_)) (sp_Past_keep x4 hn14 x2 (fun f g1 g2 => ?_)) rfl rfl (Nat.le_of_ble_eq_true rfl) (Nat.le_of_ble_eq_true rfl)
  have hb : ∀ a, 40 < a → a ∉ gw_PL := fun a h1 h2 => by have := gw_PL40 a h2; omega
  have h02 : f 0 = gw_c0 := (g1 0 (by decide)).trans x1
  have hV2 : gw_vw f u wt := ⟨(g1 4 (by decide)).trans hV.1, (g1 5 (by decide)).trans hV.2⟩
  have hC2 : gw_ch f ol oh up sz1 fi fo lo hi rl rh := ⟨(g1 _ (hb _ (by decide))).trans hC.1, (g1 _ (hb _ (by decide))).trans hC.2.1, (g1 _ (hb _ (by decide))).trans hC.2.2.1, (g1 _ (hb _ (by decide))).trans hC.2.2.2.1, (g1 _ (hb _ (by decide))).trans hC.2.2.2.2⟩
  have hF2 : gw_pf f P.length sz ce ab co wy bl := gw_pf_fr g1 (fun a _ _ => hb a (by omega)) x8
  refine mw_ld 12 i_GW_beginChange_11 rfl rfl rfl ?_
  refine mw_cv0 15 i_GW_beginChange_12 rfl (by repeat (first | exact mj_hs2 | exact mj_hs | assumption | refine mj_hn2 (by omega) ?_ | refine mj_hn (by omega) ?_)) (sp_GW_outdate (σ := (f, σ.2)) hC2 hF2 h02 hV2 (fun f3 g3 g4 g5 g6 => ?_)) rfl rfl (Nat.le_of_ble_eq_true rfl) (Nat.le_of_ble_eq_true rfl)
  refine mw_rv i_GW_beginChange_15 rfl ?_
  refine k f3 (gw_fr_tr (gw_fr_sub g1 (by intro a ha; simp only [List.mem_cons]; exact .inr (.inr (.inr (by simpa using ha))))) (gw_fr_sub g3 (by intro a ha; simp only [List.mem_cons, List.not_mem_nil, or_false] at ha ⊢; rcases ha with q | q | q <;> simp [q]))) ⟨?_, ⟨_, gw_pa_fr g3 (by decide) g2⟩, g4, g5, ⟨st, qu, ?_⟩, g6⟩
  · exact (g3 0 (by decide)).trans h02
  · exact gw_sh_fr g3 (fun a _ _ => by simp; omega) (gw_sh_fr g1 (fun a _ _ => hb a (by omega)) x7)
