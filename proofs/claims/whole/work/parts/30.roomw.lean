/-! Room: what is written -/
theorem mj_hs {f : Nat → mj_C} {a : Nat} {c : mj_C} : va_up f a c a = c := va_up_self _ _ _
theorem mj_hn {f : Nat → mj_C} {a b : Nat} {c c' : mj_C} (hne : b ≠ a) (h : f b = c') : va_up f a c b = c' := (va_up_ne _ _ hne).trans h
theorem mj_hs2 {f : Nat → mj_C} {a : Nat} {c : mj_C} {q : Nat × Nat} : ((va_up f a c, q) : mj_H).1 a = c := va_up_self _ _ _
theorem mj_hn2 {f : Nat → mj_C} {a b : Nat} {c c' : mj_C} {q : Nat × Nat} (hne : b ≠ a) (h : f b = c') : ((va_up f a c, q) : mj_H).1 b = c' := (va_up_ne _ _ hne).trans h
theorem va_up_eta {f : Nat → mj_C} {a : Nat} {c : mj_C} (h : f a = c) : va_up f a c = f := by
  funext q
  by_cases e : q = a
  · subst e; rw [va_up_self]; exact h.symm
  · rw [va_up_ne _ _ e]
theorem sp_Arrays_fill {X : mj_X} {d : Nat} {σ : mj_H} {Q : mj_H → Prop} {a N : Nat} {v : Int32} {g : Nat → Int32} (ha : σ.1 a = mj_AI N g) (hN : N < 2 ^ 31) (k : ∀ g', (∀ j, j < N → g' j = v) → Q (va_up σ.1 a (mj_AI N g'), σ.2)) : mj_M X d y_Arrays_fill [.ref a, .int v] σ (mj_U Q) := by
  refine mw_in (l0 := [some (.ref a), some (.int v), none, none]) rfl ?_
  refine mw_k 1 i_Arrays_fill_0 rfl ?_
  refine mw_st (ls' := [_, _, _, _]) 2 i_Arrays_fill_1 rfl rfl rfl rfl ?_
  refine mw_ld 3 i_Arrays_fill_2 rfl rfl rfl ?_
  refine mw_len (t := 0) 4 i_Arrays_fill_3 rfl (by decide) (by assumption) ?_
  refine mw_st (ls' := [_, _, _, _]) 5 i_Arrays_fill_4 rfl rfl rfl rfl ?_
  have e : σ = (va_up σ.1 a (mj_AI N g), σ.2) := by rw [va_up_eta ha]
  rw [e]
  refine mj_for (S := Nat → Int32) (fun i g => mj_Wp X d y_Arrays_fill 5 [some (.ref a), some (.int v), some (.int (nI i)), some (.int (nI N))] [] (va_up σ.1 a (mj_AI N g), σ.2) (mj_U Q)) (fun i g => ∀ j, j < i → g j = v) N ?_ ?_ 0 g (Nat.zero_le _) (fun j hj => absurd hj (Nat.not_lt_zero j))
  · intro g hg
    refine mw_ld 6 i_Arrays_fill_5 rfl rfl rfl ?_
    refine mw_ld 7 i_Arrays_fill_6 rfl rfl rfl ?_
    refine mw_ic1 i_Arrays_fill_7 (nI_le (Nat.le_refl _) hN) ?_
    refine mw_rv i_Arrays_fill_20 rfl ?_
    exact k g hg
  · intro i g hi hg ih
    refine mw_ld 6 i_Arrays_fill_5 rfl rfl rfl ?_
    refine mw_ld 7 i_Arrays_fill_6 rfl rfl rfl ?_
    refine mw_ic0 10 i_Arrays_fill_7 rfl (nI_ge hi hN) ?_
    refine mw_ld 11 i_Arrays_fill_10 rfl rfl rfl ?_
    refine mw_ld 12 i_Arrays_fill_11 rfl rfl rfl ?_
    refine mw_ld 13 i_Arrays_fill_12 rfl rfl rfl ?_
    refine mw_iast 14 i i_Arrays_fill_13 rfl mj_hs rfl hi hN ?_
    rw [bx_uu]
    refine mw_inc (ls' := [_, _, _, _]) 17 (nI (i + 1)) i_Arrays_fill_14 rfl rfl rfl (nI_1 i) rfl ?_
    refine mw_go i_Arrays_fill_17 ?_
    refine ih _ (fun j hj => ?_)
    rcases Nat.lt_succ_iff_lt_or_eq.mp hj with q | q
    · rw [pk_un (by omega)]; exact hg j q
    · subst q; exact pk_us
theorem sp_Room_begin {X : mj_X} {d : Nat} {σ : mj_H} {Q : mj_H → Prop} {r w h n w2 h2 : Nat} {s : Nat → Int32} (hr : r + 2 < 71) (hR : gw_rm σ.1 r w h n s) (k : ∀ f, gw_fr [r, r + 1, r + 2] σ.1 f → gw_rm f r w2 h2 0 (fun _ => 0) → Q (f, σ.2)) : mj_M X (d + 1) y_Room_begin [.ref r, .int (nI w2), .int (nI h2)] σ (mj_U Q) := by
  obtain ⟨wl, ps, c1, c2, c3, c4, c5⟩ := id hR
  refine mw_in (l0 := [some (.ref r), some (.int (nI w2)), some (.int (nI h2)), none]) rfl ?_
  refine mw_ld 1 i_Room_begin_0 rfl rfl rfl ?_
  refine mw_ld 2 i_Room_begin_1 rfl rfl rfl ?_
  refine mw_put (fs' := [_, _, _, _, _]) 5 i_Room_begin_2 rfl (by repeat (first | exact mj_hs2 | exact mj_hs | assumption | refine mj_hn2 (by omega) ?_ | refine mj_hn (by omega) ?_)) (Nat.le_of_ble_eq_true rfl) rfl rfl (fun _ h => by cases h) (by rfl) ?_
  refine mw_ld 6 i_Room_begin_5 rfl rfl rfl ?_
  refine mw_ld 7 i_Room_begin_6 rfl rfl rfl ?_
  refine mw_put (fs' := [_, _, _, _, _]) 10 i_Room_begin_7 rfl (by repeat (first | exact mj_hs2 | exact mj_hs | assumption | refine mj_hn2 (by omega) ?_ | refine mj_hn (by omega) ?_)) (Nat.le_of_ble_eq_true rfl) rfl rfl (fun _ h => by cases h) (by rfl) ?_
  refine mw_ld 11 i_Room_begin_10 rfl rfl rfl ?_
  refine mw_k 12 i_Room_begin_11 rfl ?_
  refine mw_put (fs' := [_, _, _, _, _]) 15 i_Room_begin_12 rfl (by repeat (first | exact mj_hs2 | exact mj_hs | assumption | refine mj_hn2 (by omega) ?_ | refine mj_hn (by omega) ?_)) (Nat.le_of_ble_eq_true rfl) rfl rfl (fun _ h => by cases h) (by rfl) ?_
  refine mw_ld 16 i_Room_begin_15 rfl rfl rfl ?_
  refine mw_get 19 i_Room_begin_16 rfl (by repeat (first | exact mj_hs2 | exact mj_hs | assumption | refine mj_hn2 (by omega) ?_ | refine mj_hn (by omega) ?_)) (by rfl) ?_
  refine mw_k 20 i_Room_begin_19 rfl ?_
  refine mw_cs0 23 i_Room_begin_20 rfl (sp_Arrays_fill (by repeat (first | exact mj_hs2 | exact mj_hs | assumption | refine mj_hn2 (by omega) ?_ | refine mj_hn (by omega) ?_)) (by decide) (fun g hg => ?_)) rfl rfl (Nat.le_of_ble_eq_true rfl) (Nat.le_of_ble_eq_true rfl)
  refine mw_k 24 i_Room_begin_23 rfl ?_
  refine mw_st (ls' := [_, _, _, _]) 25 i_Room_begin_24 rfl rfl rfl rfl ?_
  refine mj_for (S := Nat → mj_C) (fun i f => mj_Wp X (d + 1) y_Room_begin 25 [some (.ref r), some (.int (nI w2)), some (.int (nI h2)), some (.int (nI i))] [] (f, σ.2) (mj_U Q)) (fun i f => gw_fr [r, r + 1, r + 2] σ.1 f ∧ f r = mj_O 4 [.int (nI w2), .int (nI h2), .int (nI 0), .ref (r + 1), .ref (r + 2)] ∧ f (r + 1) = mj_AI 100 g ∧ ∃ ps, f (r + 2) = mj_AR 3 14 ps ∧ ∀ j, j < i → ps j = none) 14 ?_ ?_ 0 _ (Nat.zero_le _) ⟨gw_fr_up (gw_fr_up (gw_fr_up (gw_fr_up (gw_fr_rf _ _) (by simp)) (by simp)) (by simp)) (by simp), mj_hn (by omega) mj_hs, mj_hs, ps, (by repeat (first | exact mj_hs2 | exact mj_hs | assumption | refine mj_hn2 (by omega) ?_ | refine mj_hn (by omega) ?_)), fun j hj => absurd hj (Nat.not_lt_zero j)⟩
  · rintro f ⟨f1, f2, f3, ps, f4, f5⟩
    refine mw_ld 26 i_Room_begin_25 rfl rfl rfl ?_
    refine mw_k 28 i_Room_begin_26 rfl ?_
    refine mw_ic1 i_Room_begin_28 (by decide) ?_
    refine mw_rv i_Room_begin_44 rfl ?_
    exact k f f1 ⟨g, ps, f2, f3, f4, fun c hc => hg c hc, fun j hj => ⟨fun q => absurd q (Nat.not_lt_zero _), fun _ => f5 j hj⟩⟩
  · rintro i f hi ⟨f1, f2, f3, ps, f4, f5⟩ ih
    refine mw_ld 26 i_Room_begin_25 rfl rfl rfl ?_
    refine mw_k 28 i_Room_begin_26 rfl ?_
    refine mw_ic0 31 i_Room_begin_28 rfl (nI_ge (b := 14) hi (by decide)) ?_
    refine mw_ld 32 i_Room_begin_31 rfl rfl rfl ?_
    refine mw_get 35 i_Room_begin_32 rfl (by assumption) (by rfl) ?_
    refine mw_ld 36 i_Room_begin_35 rfl rfl rfl ?_
    refine mw_k 37 i_Room_begin_36 rfl ?_
    refine mw_aast 38 i none i_Room_begin_37 rfl (by decide) f4 rfl hi (by decide) rfl (fun _ h => by cases h) ?_
    refine mw_inc (ls' := [_, _, _, _]) 41 (nI (i + 1)) i_Room_begin_38 rfl rfl rfl (nI_1 i) rfl ?_
    refine mw_go i_Room_begin_41 ?_
    refine ih _ ⟨gw_fr_up f1 (by simp), (va_up_ne _ _ (by omega)).trans f2, (va_up_ne _ _ (by omega)).trans f3, _, va_up_self _ _ _, fun j hj => ?_⟩
    rcases Nat.lt_succ_iff_lt_or_eq.mp hj with q | q
    · rw [va_up_ne _ _ (by omega)]; exact f5 j q
    · subst q; exact va_up_self _ _ _
theorem sp_Room_copyFrom {X : mj_X} {d : Nat} {σ : mj_H} {Q : mj_H → Prop} {r o w h n w2 h2 n2 : Nat} {s s2 : Nat → Int32} (hr : r + 2 < 71) (ho : o + 2 < 71) (hro : r + 2 < o ∨ o + 2 < r) (hn : n2 ≤ 14) (hR : gw_rm σ.1 r w h n s) (hO : gw_rm σ.1 o w2 h2 n2 s2) (k : ∀ f, gw_fr [r, r + 1, r + 2] σ.1 f → gw_rm f r w2 h2 n2 s2 → Q (f, σ.2)) : mj_M X d y_Room_copyFrom [.ref r, .ref o] σ (mj_U Q) := by
  obtain ⟨wl, ps, c1, c2, c3, c4, c5⟩ := id hR
  obtain ⟨wl2, ps2, o1, o2, o3, o4, o5⟩ := id hO
  refine mw_in (l0 := [some (.ref r), some (.ref o)]) rfl ?_
  refine mw_ld 1 i_Room_copyFrom_0 rfl rfl rfl ?_
  refine mw_ld 2 i_Room_copyFrom_1 rfl rfl rfl ?_
  refine mw_get 5 i_Room_copyFrom_2 rfl (by repeat (first | exact mj_hs2 | exact mj_hs | assumption | refine mj_hn2 (by omega) ?_ | refine mj_hn (by omega) ?_)) (by rfl) ?_
  refine mw_put (fs' := [_, _, _, _, _]) 8 i_Room_copyFrom_5 rfl (by repeat (first | exact mj_hs2 | exact mj_hs | assumption | refine mj_hn2 (by omega) ?_ | refine mj_hn (by omega) ?_)) (Nat.le_of_ble_eq_true rfl) rfl rfl (fun _ h => by cases h) (by rfl) ?_
  refine mw_ld 9 i_Room_copyFrom_8 rfl rfl rfl ?_
  refine mw_ld 10 i_Room_copyFrom_9 rfl rfl rfl ?_
  refine mw_get 13 i_Room_copyFrom_10 rfl (by repeat (first | exact mj_hs2 | exact mj_hs | assumption | refine mj_hn2 (by omega) ?_ | refine mj_hn (by omega) ?_)) (by rfl) ?_
  refine mw_put (fs' := [_, _, _, _, _]) 16 i_Room_copyFrom_13 rfl (by repeat (first | exact mj_hs2 | exact mj_hs | assumption | refine mj_hn2 (by omega) ?_ | refine mj_hn (by omega) ?_)) (Nat.le_of_ble_eq_true rfl) rfl rfl (fun _ h => by cases h) (by rfl) ?_
  refine mw_ld 17 i_Room_copyFrom_16 rfl rfl rfl ?_
  refine mw_ld 18 i_Room_copyFrom_17 rfl rfl rfl ?_
  refine mw_get 21 i_Room_copyFrom_18 rfl (by repeat (first | exact mj_hs2 | exact mj_hs | assumption | refine mj_hn2 (by omega) ?_ | refine mj_hn (by omega) ?_)) (by rfl) ?_
  refine mw_put (fs' := [_, _, _, _, _]) 24 i_Room_copyFrom_21 rfl (by repeat (first | exact mj_hs2 | exact mj_hs | assumption | refine mj_hn2 (by omega) ?_ | refine mj_hn (by omega) ?_)) (Nat.le_of_ble_eq_true rfl) rfl rfl (fun _ h => by cases h) (by rfl) ?_
  refine mw_ld 25 i_Room_copyFrom_24 rfl rfl rfl ?_
  refine mw_get 28 i_Room_copyFrom_25 rfl (by repeat (first | exact mj_hs2 | exact mj_hs | assumption | refine mj_hn2 (by omega) ?_ | refine mj_hn (by omega) ?_)) (by rfl) ?_
  refine mw_k 29 i_Room_copyFrom_28 rfl ?_
  refine mw_ld 30 i_Room_copyFrom_29 rfl rfl rfl ?_
  refine mw_get 33 i_Room_copyFrom_30 rfl (by repeat (first | exact mj_hs2 | exact mj_hs | assumption | refine mj_hn2 (by omega) ?_ | refine mj_hn (by omega) ?_)) (by rfl) ?_
  refine mw_k 34 i_Room_copyFrom_33 rfl ?_
  refine mw_k 36 i_Room_copyFrom_34 rfl ?_
  refine mw_cpi 39 100 i_Room_copyFrom_36 rfl (Nat.le_of_ble_eq_true rfl) (by repeat (first | exact mj_hs2 | exact mj_hs | assumption | refine mj_hn2 (by omega) ?_ | refine mj_hn (by omega) ?_)) (by repeat (first | exact mj_hs2 | exact mj_hs | assumption | refine mj_hn2 (by omega) ?_ | refine mj_hn (by omega) ?_)) rfl (by decide) (by decide) (by decide) ?_
  refine mw_ld 40 i_Room_copyFrom_39 rfl rfl rfl ?_
  refine mw_get 43 i_Room_copyFrom_40 rfl (by repeat (first | exact mj_hs2 | exact mj_hs | assumption | refine mj_hn2 (by omega) ?_ | refine mj_hn (by omega) ?_)) (by rfl) ?_
  refine mw_k 44 i_Room_copyFrom_43 rfl ?_
  refine mw_ld 45 i_Room_copyFrom_44 rfl rfl rfl ?_
  refine mw_get 48 i_Room_copyFrom_45 rfl (by repeat (first | exact mj_hs2 | exact mj_hs | assumption | refine mj_hn2 (by omega) ?_ | refine mj_hn (by omega) ?_)) (by rfl) ?_
  refine mw_k 49 i_Room_copyFrom_48 rfl ?_
  refine mw_k 51 i_Room_copyFrom_49 rfl ?_
  refine mw_cpq (t := 3) 54 14 i_Room_copyFrom_51 rfl (Nat.le_of_ble_eq_true rfl) (by decide) (by repeat (first | exact mj_hs2 | exact mj_hs | assumption | refine mj_hn2 (by omega) ?_ | refine mj_hn (by omega) ?_)) (by repeat (first | exact mj_hs2 | exact mj_hs | assumption | refine mj_hn2 (by omega) ?_ | refine mj_hn (by omega) ?_)) rfl (by decide) (by decide) (by decide) (fun i hi q hq => ?_) ?_
  · rcases Nat.lt_or_ge i n2 with hin | hin
    · obtain ⟨p, hp0, hp1, hp2⟩ := (o5 i (by omega)).1 hin
      rw [hp1] at hq
      cases hq
      exact ⟨gw_po s2 i, (by repeat (first | exact mj_hs2 | exact mj_hs | assumption | refine mj_hn2 (by omega) ?_ | refine mj_hn (by omega) ?_))⟩
    · rw [(o5 i (by omega)).2 hin] at hq
      cases hq
  refine mw_rv i_Room_copyFrom_54 rfl ?_
  refine k _ (gw_fr_up (gw_fr_up (gw_fr_up (gw_fr_up (gw_fr_up (gw_fr_rf _ _) (by simp)) (by simp)) (by simp)) (by simp)) (by simp)) ⟨va_cpy wl2 wl 0 0 100, va_cpy ps2 ps 0 0 14, mj_hn (by omega) (mj_hn (by omega) mj_hs), mj_hn (by omega) mj_hs, mj_hs, fun c hc => ?_, fun j hj => ⟨fun hjn => ?_, fun hjn => ?_⟩⟩
  · rw [pk_cpy_in (by omega) (by omega), Nat.sub_zero, Nat.zero_add]; exact o4 c hc
  · obtain ⟨p, hp0, hp1, hp2⟩ := (o5 j hj).1 hjn
    refine ⟨p, hp0, by rw [pk_cpy_in (by omega) (by omega), Nat.sub_zero, Nat.zero_add]; exact hp1, ?_⟩
    repeat (first | assumption | refine mj_hn (by omega) ?_)
  · rw [pk_cpy_in (by omega) (by omega), Nat.sub_zero, Nat.zero_add]; exact (o5 j hj).2 hjn
theorem sp_Room_setPost {X : mj_X} {d : Nat} {σ : mj_H} {Q : mj_H → Prop} {r w h n z p : Nat} {s s2 : Nat → Int32} (hr : r + 2 < 71) (hn : n ≤ 14) (hz : z < n) (hp : 71 ≤ p) (hR : gw_rm σ.1 r w h n s) (hpo : σ.1 p = mj_O 2 (gw_po s2 z)) (hwl : ∀ c, c < 100 → s2 c = s c) (hps : ∀ j, j < n → j ≠ z → gw_po s2 j = gw_po s j) (k : ∀ f, gw_fr [r + 2] σ.1 f → gw_rm f r w h n s2 → Q (f, σ.2)) : mj_M X d y_Room_setPost [.ref r, .int (nI z), .ref p] σ (mj_U Q) := by
  obtain ⟨wl, ps, c1, c2, c3, c4, c5⟩ := id hR
  refine mw_in (l0 := [some (.ref r), some (.int (nI z)), some (.ref p)]) rfl ?_
  refine mw_ld 1 i_Room_setPost_0 rfl rfl rfl ?_
  refine mw_if0 4 i_Room_setPost_1 rfl (nI_pos (by omega)) ?_
  refine mw_ld 5 i_Room_setPost_4 rfl rfl rfl ?_
  refine mw_k 7 i_Room_setPost_5 rfl ?_
  refine mw_ic0 10 i_Room_setPost_7 rfl (nI_ge (a := z) (b := 14) (by omega) (by decide)) ?_
  refine mw_ld 11 i_Room_setPost_10 rfl rfl rfl ?_
  refine mw_get 14 i_Room_setPost_11 rfl (by assumption) (by rfl) ?_
  refine mw_ld 15 i_Room_setPost_14 rfl rfl rfl ?_
  refine mw_ld 16 i_Room_setPost_15 rfl rfl rfl ?_
  refine mw_aast 17 z (some p) i_Room_setPost_16 rfl (by decide) c3 rfl (by omega) (by decide) rfl (fun q hq => by cases hq; exact ⟨_, hpo⟩) ?_
  refine mw_rv i_Room_setPost_17 rfl ?_
  refine k _ (gw_fr_up (gw_fr_rf _ _) (by simp)) ⟨wl, va_up ps z (some p), (va_up_ne _ _ (by omega)).trans c1, (va_up_ne _ _ (by omega)).trans c2, va_up_self _ _ _, fun c hc => by rw [hwl c hc]; exact c4 c hc, fun j hj => ⟨fun hjn => ?_, fun hjn => ?_⟩⟩
  · by_cases e : j = z
    · subst e
      exact ⟨p, hp, va_up_self _ _ _, (va_up_ne _ _ (by omega)).trans hpo⟩
    · obtain ⟨p1, g0, g1, g2⟩ := (c5 j hj).1 hjn
      exact ⟨p1, g0, by rw [va_up_ne _ _ e]; exact g1, (va_up_ne _ _ (by omega)).trans (by rw [hps j hjn e]; exact g2)⟩
  · rw [va_up_ne _ _ (by omega)]; exact (c5 j hj).2 hjn
theorem sp_Room_addPost {X : mj_X} {d : Nat} {σ : mj_H} {Q : mj_H → Prop} {r w h n p : Nat} {s s2 : Nat → Int32} (hr : r + 2 < 71) (hn : n < 14) (hp : 71 ≤ p) (hR : gw_rm σ.1 r w h n s) (hpo : σ.1 p = mj_O 2 (gw_po s2 n)) (hwl : ∀ c, c < 100 → s2 c = s c) (hps : ∀ j, j < n → gw_po s2 j = gw_po s j) (k : ∀ f, gw_fr [r, r + 2] σ.1 f → gw_rm f r w h (n + 1) s2 → Q (f, σ.2)) : mj_M X d y_Room_addPost [.ref r, .ref p] σ (mj_U Q) := by
  obtain ⟨wl, ps, c1, c2, c3, c4, c5⟩ := id hR
  refine mw_in (l0 := [some (.ref r), some (.ref p)]) rfl ?_
  refine mw_ld 1 i_Room_addPost_0 rfl rfl rfl ?_
  refine mw_get 4 i_Room_addPost_1 rfl (by repeat (first | exact mj_hs2 | exact mj_hs | assumption | refine mj_hn2 (by omega) ?_ | refine mj_hn (by omega) ?_)) (by rfl) ?_
  refine mw_k 6 i_Room_addPost_4 rfl ?_
  refine mw_ic0 9 i_Room_addPost_6 rfl (nI_ge (a := n) (b := 14) (by omega) (by decide)) ?_
  refine mw_ld 10 i_Room_addPost_9 rfl rfl rfl ?_
  refine mw_get 13 i_Room_addPost_10 rfl (by repeat (first | exact mj_hs2 | exact mj_hs | assumption | refine mj_hn2 (by omega) ?_ | refine mj_hn (by omega) ?_)) (by rfl) ?_
  refine mw_ld 14 i_Room_addPost_13 rfl rfl rfl ?_
  refine mw_get 17 i_Room_addPost_14 rfl (by repeat (first | exact mj_hs2 | exact mj_hs | assumption | refine mj_hn2 (by omega) ?_ | refine mj_hn (by omega) ?_)) (by rfl) ?_
  refine mw_ld 18 i_Room_addPost_17 rfl rfl rfl ?_
  refine mw_aast 19 n (some p) i_Room_addPost_18 rfl (by decide) c3 rfl (by omega) (by decide) rfl (fun q hq => by cases hq; exact ⟨_, hpo⟩) ?_
  refine mw_ld 20 i_Room_addPost_19 rfl rfl rfl ?_
  refine mw_dup 21 i_Room_addPost_20 rfl rfl ?_
  refine mw_get 24 i_Room_addPost_21 rfl (by repeat (first | exact mj_hs2 | exact mj_hs | assumption | refine mj_hn2 (by omega) ?_ | refine mj_hn (by omega) ?_)) (by rfl) ?_
  refine mw_k 25 i_Room_addPost_24 rfl ?_
  refine mw_b 26 i_Room_addPost_25 rfl ?_
  rw [nI_1]
  refine mw_put (fs' := [_, _, _, _, _]) 29 i_Room_addPost_26 rfl (by repeat (first | exact mj_hs2 | exact mj_hs | assumption | refine mj_hn2 (by omega) ?_ | refine mj_hn (by omega) ?_)) (Nat.le_of_ble_eq_true rfl) rfl rfl (fun _ h => by cases h) (by rfl) ?_
  refine mw_rv i_Room_addPost_29 rfl ?_
  refine k _ (gw_fr_up (gw_fr_up (gw_fr_rf _ _) (by simp)) (by simp)) ⟨wl, va_up ps n (some p), mj_hs, mj_hn (by omega) (mj_hn (by omega) c2), mj_hn (by omega) mj_hs, fun c hc => by rw [hwl c hc]; exact c4 c hc, fun j hj => ⟨fun hjn => ?_, fun hjn => ?_⟩⟩
  · by_cases e : j = n
    · subst e
      exact ⟨p, hp, va_up_self _ _ _, mj_hn (by omega) (mj_hn (by omega) hpo)⟩
    · obtain ⟨p1, g0, g1, g2⟩ := (c5 j hj).1 (by omega)
      exact ⟨p1, g0, by rw [va_up_ne _ _ e]; exact g1, mj_hn (by omega) (mj_hn (by omega) (by rw [hps j (by omega)]; exact g2))⟩
  · rw [va_up_ne _ _ (by omega)]; exact (c5 j hj).2 (by omega)
