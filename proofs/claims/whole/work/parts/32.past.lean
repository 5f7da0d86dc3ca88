/-! Past -/
/-- the cells of the rooms that are kept, and of what keeps them (9; the array, 10, stays) -/
abbrev gw_PL : List Nat := [9, 11, 12, 13, 14, 15, 16, 17, 18, 19, 20, 21, 22, 23, 24, 25, 26, 27, 28, 29, 30, 31, 32, 33, 34, 35, 36, 37, 38, 39, 40]
theorem gw_PL_in : ∀ i, i < 10 → (11 + 3 * i ∈ gw_PL) ∧ (11 + 3 * i + 1 ∈ gw_PL) ∧ (11 + 3 * i + 2 ∈ gw_PL) := by decide
def gw_push {α : Type} (kp : Nat) (H : Nat → α) (x : α) : Nat → α := if kp = 10 then fun j => if j < 9 then H (j + 1) else x else fun j => if j < kp then H j else x
def gw_pa (f : Nat → mj_C) (w h kp nx : Nat) (hn : Nat → Nat) (hs : Nat → Nat → Int32) : Prop := ∃ rs : Nat → Option Nat, f 9 = mj_O 1 [.ref 10, .int (nI kp), .int (nI nx)] ∧ f 10 = mj_AR 4 10 rs ∧ (∀ i, i < 10 → rs i = some (11 + 3 * i)) ∧ kp ≤ 10 ∧ nx < 10 ∧
  (∀ i, i < 10 → ∃ w' h' n' s', gw_rm f (11 + 3 * i) w' h' n' s') ∧ ∀ j, j < kp → hn j ≤ 14 ∧ gw_rm f (11 + 3 * ((nx + 10 - kp + j) % 10)) w h (hn j) (hs j)
theorem gw_pa_fr {L : List Nat} {f f' : Nat → mj_C} {w h kp nx : Nat} {hn : Nat → Nat} {hs : Nat → Nat → Int32} (hf : gw_fr L f f') (hL : ∀ a ∈ L, a < 9 ∨ (40 < a ∧ a < 71)) (hp : gw_pa f w h kp nx hn hs) : gw_pa f' w h kp nx hn hs := by
  obtain ⟨rs, p1, p2, p3, p4, p5, p6, p7⟩ := hp
  have hne : ∀ a, 9 ≤ a → a ≤ 40 → a ∉ L := fun a h1 h2 q => by have := hL a q; omega
  have hlt : ∀ a ∈ L, a < 71 := fun a q => by have := hL a q; omega
  refine ⟨rs, by rw [hf _ (hne 9 (by omega) (by omega))]; exact p1, by rw [hf _ (hne 10 (by omega) (by omega))]; exact p2, p3, p4, p5, fun i hi => ?_, fun j hj => ⟨(p7 j hj).1, ?_⟩⟩
  · obtain ⟨w', h', n', s', q⟩ := p6 i hi
    exact ⟨w', h', n', s', gw_rm_fr hf hlt (hne _ (by omega) (by omega)) (hne _ (by omega) (by omega)) (hne _ (by omega) (by omega)) q⟩
  · exact gw_rm_fr hf hlt (hne _ (by omega) (by omega)) (hne _ (by omega) (by omega)) (hne _ (by omega) (by omega)) (p7 j hj).2
theorem sp_Past_kept {X : mj_X} {d : Nat} {σ : mj_H} {Q : Value → mj_H → Prop} {w h kp nx : Nat} {hn : Nat → Nat} {hs : Nat → Nat → Int32} (hP : gw_pa σ.1 w h kp nx hn hs) (k : Q (.int (nI kp)) σ) : mj_M X d y_Past_kept [.ref 9] σ (mj_V Q) := by
  obtain ⟨rs, p1, p2, p3, p4, p5, p6, p7⟩ := id hP
  refine mw_in (l0 := [some (.ref 9)]) rfl ?_
  refine mw_ld 1 i_Past_kept_0 rfl rfl rfl ?_
  refine mw_get 4 i_Past_kept_1 rfl (by assumption) (by rfl) ?_
  refine mw_ri i_Past_kept_4 rfl rfl ?_
  exact k
theorem sp_Past_nextSlot {X : mj_X} {d : Nat} {σ : mj_H} {Q : Value → mj_H → Prop} {v : Value} {rs : Nat → Option Nat} {nx : Nat} (p1 : σ.1 9 = mj_O 1 [.ref 10, v, .int (nI nx)]) (p2 : σ.1 10 = mj_AR 4 10 rs) (p3 : ∀ i, i < 10 → rs i = some (11 + 3 * i)) (p5 : nx < 10) (k : Q (.ref (11 + 3 * nx)) σ) : mj_M X d y_Past_nextSlot [.ref 9] σ (mj_V Q) := by
  refine mw_in (l0 := [some (.ref 9)]) rfl ?_
  refine mw_ld 1 i_Past_nextSlot_0 rfl rfl rfl ?_
  refine mw_get 4 i_Past_nextSlot_1 rfl (by assumption) (by rfl) ?_
  refine mw_if0 7 i_Past_nextSlot_4 rfl (nI_pos (by omega)) ?_
  refine mw_ld 8 i_Past_nextSlot_7 rfl rfl rfl ?_
  refine mw_get 11 i_Past_nextSlot_8 rfl (by assumption) (by rfl) ?_
  refine mw_k 13 i_Past_nextSlot_11 rfl ?_
  refine mw_ic0 16 i_Past_nextSlot_13 rfl (nI_ge (b := 10) p5 (by decide)) ?_
  refine mw_ld 17 i_Past_nextSlot_16 rfl rfl rfl ?_
  refine mw_get 20 i_Past_nextSlot_17 rfl (by assumption) (by rfl) ?_
  refine mw_ld 21 i_Past_nextSlot_20 rfl rfl rfl ?_
  refine mw_get 24 i_Past_nextSlot_21 rfl (by assumption) (by rfl) ?_
  refine mw_aald 25 nx i_Past_nextSlot_24 rfl (by decide) p2 rfl (by omega) (by decide) ?_
  rw [p3 nx p5]
  refine mw_go i_Past_nextSlot_25 ?_
  refine mw_ra (some (11 + 3 * nx)) i_Past_nextSlot_29 rfl rfl ?_
  exact k
theorem sp_Past_forget {X : mj_X} {d : Nat} {σ : mj_H} {Q : mj_H → Prop} {w h kp nx : Nat} {hn : Nat → Nat} {hs : Nat → Nat → Int32} (hP : gw_pa σ.1 w h kp nx hn hs) {w2 h2 : Nat} {hn2 : Nat → Nat} {hs2 : Nat → Nat → Int32} (k : ∀ f, gw_fr [9] σ.1 f → gw_pa f w2 h2 0 0 hn2 hs2 → Q (f, σ.2)) : mj_M X d y_Past_forget [.ref 9] σ (mj_U Q) := by
  obtain ⟨rs, p1, p2, p3, p4, p5, p6, p7⟩ := id hP
  refine mw_in (l0 := [some (.ref 9)]) rfl ?_
  refine mw_ld 1 i_Past_forget_0 rfl rfl rfl ?_
  refine mw_k 2 i_Past_forget_1 rfl ?_
  refine mw_put (fs' := [_, _, _]) 5 i_Past_forget_2 rfl (by repeat (first | exact mj_hs2 | exact mj_hs | assumption | refine mj_hn2 (by omega) ?_ | refine mj_hn (by omega) ?_)) (Nat.le_of_ble_eq_true rfl) rfl rfl (fun _ h => by cases h) (by rfl) ?_
  refine mw_ld 6 i_Past_forget_5 rfl rfl rfl ?_
  refine mw_k 7 i_Past_forget_6 rfl ?_
  refine mw_put (fs' := [_, _, _]) 10 i_Past_forget_7 rfl (by repeat (first | exact mj_hs2 | exact mj_hs | assumption | refine mj_hn2 (by omega) ?_ | refine mj_hn (by omega) ?_)) (Nat.le_of_ble_eq_true rfl) rfl rfl (fun _ h => by cases h) (by rfl) ?_
  refine mw_rv i_Past_forget_10 rfl ?_
  refine k _ (gw_fr_up (gw_fr_up (gw_fr_rf _ _) (by simp)) (by simp)) ⟨rs, mj_hs, mj_hn (by decide) (mj_hn (by decide) p2), p3, by omega, by omega, fun i hi => ?_, fun j hj => absurd hj (Nat.not_lt_zero j)⟩
  obtain ⟨w', h', n', s', q⟩ := p6 i hi
  exact ⟨w', h', n', s', gw_rm_fr (L := [9]) (f := σ.1) (gw_fr_up (gw_fr_up (gw_fr_rf _ _) (by simp)) (by simp)) (by decide) (by simp; omega) (by simp; omega) (by simp; omega) q⟩
theorem sp_Past_keep {X : mj_X} {d : Nat} {σ : mj_H} {Q : mj_H → Prop} {w h kp nx : Nat} {hn : Nat → Nat} {hs : Nat → Nat → Int32} (hP : gw_pa σ.1 w h kp nx hn hs) {n : Nat} {s : Nat → Int32} (hnn : n ≤ 14) (hR : gw_rm σ.1 1 w h n s) (k : ∀ f, gw_fr gw_PL σ.1 f → gw_pa f w h (min (kp + 1) 10) (if nx < 9 then nx + 1 else 0) (gw_push kp hn n) (gw_push kp hs s) → Q (f, σ.2)) : mj_M X (d + 1) y_Past_keep [.ref 9, .ref 1] σ (mj_U Q) := by
  obtain ⟨rs, p1, p2, p3, p4, p5, p6, p7⟩ := id hP
  refine mw_in (l0 := [some (.ref 9), some (.ref 1), none]) rfl ?_
  refine mw_ld 1 i_Past_keep_0 rfl rfl rfl ?_
  refine mw_cv1 4 i_Past_keep_1 rfl (by repeat (first | exact mj_hs2 | exact mj_hs | assumption | refine mj_hn2 (by omega) ?_ | refine mj_hn (by omega) ?_)) (sp_Past_nextSlot p1 p2 p3 p5 ?_) rfl rfl (Nat.le_of_ble_eq_true rfl) (Nat.le_of_ble_eq_true rfl)
  refine mw_st (ls' := [_, _, _]) 5 i_Past_keep_4 rfl rfl rfl rfl ?_
  refine mw_ld 6 i_Past_keep_5 rfl rfl rfl ?_
  refine mw_nuF 9 i_Past_keep_6 rfl ?_
  obtain ⟨w0, h0, n0, s0, hR0⟩ := p6 nx p5
  obtain ⟨wl0, ps0, z1, -⟩ := id hR0
  refine mw_ld 10 i_Past_keep_9 rfl rfl rfl ?_
  refine mw_ld 11 i_Past_keep_10 rfl rfl rfl ?_
  refine mw_cv0 14 i_Past_keep_11 rfl (by repeat (first | exact mj_hs2 | exact mj_hs | assumption | refine mj_hn2 (by omega) ?_ | refine mj_hn (by omega) ?_)) (sp_Room_copyFrom (w := w0) (h := h0) (n := n0) (s := s0) (by omega) (by decide) (by omega) hnn hR0 hR (fun f hf hRf => ?_)) rfl rfl (Nat.le_of_ble_eq_true rfl) (Nat.le_of_ble_eq_true rfl)
  have q1 : f 9 = _ := (hf 9 (by simp; omega)).trans p1
  have q2 : f 10 = _ := (hf 10 (by simp; omega)).trans p2
  refine mw_ld 15 i_Past_keep_14 rfl rfl rfl ?_
  refine mw_ld 16 i_Past_keep_15 rfl rfl rfl ?_
  refine mw_get 19 i_Past_keep_16 rfl (by repeat (first | exact mj_hs2 | exact mj_hs | assumption | refine mj_hn2 (by omega) ?_ | refine mj_hn (by omega) ?_)) (by rfl) ?_
  refine mw_k 21 i_Past_keep_19 rfl ?_
  refine mw_ic 24 i_Past_keep_21 rfl (fun h21 => ?_) (fun h21 => ?_)
  · refine mw_k 34 i_Past_keep_33 rfl ?_
    refine mw_put (fs' := [_, _, _]) 37 i_Past_keep_34 rfl (by repeat (first | exact mj_hs2 | exact mj_hs | assumption | refine mj_hn2 (by omega) ?_ | refine mj_hn (by omega) ?_)) (Nat.le_of_ble_eq_true rfl) rfl rfl (fun _ h => by cases h) (by rfl) ?_
    refine mw_ld 38 i_Past_keep_37 rfl rfl rfl ?_
    refine mw_ld 39 i_Past_keep_38 rfl rfl rfl ?_
    refine mw_get 42 i_Past_keep_39 rfl (by repeat (first | exact mj_hs2 | exact mj_hs | assumption | refine mj_hn2 (by omega) ?_ | refine mj_hn (by omega) ?_)) (by rfl) ?_
    refine mw_k 43 i_Past_keep_42 rfl ?_
    refine mw_b 44 i_Past_keep_43 rfl ?_
    rw [nI_1]
    refine mw_k 46 i_Past_keep_44 rfl ?_
    refine mw_max 49 i_Past_keep_46 rfl (Nat.le_of_ble_eq_true rfl) ?_
    rw [show (10 : Int32) = nI 10 from rfl, nI_min (by omega) (by decide)]
    refine mw_put (fs' := [_, _, _]) 52 i_Past_keep_49 rfl (by repeat (first | exact mj_hs2 | exact mj_hs | assumption | refine mj_hn2 (by omega) ?_ | refine mj_hn (by omega) ?_)) (Nat.le_of_ble_eq_true rfl) rfl rfl (fun _ h => by cases h) (by rfl) ?_
    refine mw_rv i_Past_keep_52 rfl ?_
    first
    | (have h9 : nx < 9 := by simp only [mj_le, mj_nI nx (by omega), mj_lit 9 (by decide)] at h21; omega
       rw [if_pos h9] at k
       have hf3 : gw_fr [9] f (va_up (va_up f 9 (mj_O 1 [.ref 10, .int (nI kp), .int (nI (nx + 1))])) 9 (mj_O 1 [.ref 10, .int (nI (min (kp + 1) 10)), .int (nI (nx + 1))])) := gw_fr_up (gw_fr_up (gw_fr_rf _ _) (by simp)) (by simp)
       have hf4 : gw_fr [9, 11 + 3 * nx, 11 + 3 * nx + 1, 11 + 3 * nx + 2] σ.1 (va_up (va_up f 9 (mj_O 1 [.ref 10, .int (nI kp), .int (nI (nx + 1))])) 9 (mj_O 1 [.ref 10, .int (nI (min (kp + 1) 10)), .int (nI (nx + 1))])) := gw_fr_tr (gw_fr_sub hf (by intro a ha; simp at ha ⊢; omega)) (gw_fr_sub hf3 (by simp))
       have hg : ∀ i, i < 10 → i ≠ nx → ∀ {w' h' n' : Nat} {s' : Nat → Int32}, gw_rm σ.1 (11 + 3 * i) w' h' n' s' → gw_rm (va_up (va_up f 9 (mj_O 1 [.ref 10, .int (nI kp), .int (nI (nx + 1))])) 9 (mj_O 1 [.ref 10, .int (nI (min (kp + 1) 10)), .int (nI (nx + 1))])) (11 + 3 * i) w' h' n' s' :=
         fun i hi hne w' h' n' s' q => gw_rm_fr hf4 (by intro a ha; simp at ha; omega) (by simp; omega) (by simp; omega) (by simp; omega) q
       have hg2 := gw_rm_fr hf3 (by decide) (by simp; omega) (by simp; omega) (by simp; omega) hRf
       refine k _ (gw_fr_sub hf4 ?_) ⟨rs, mj_hs, mj_hn (by decide) (mj_hn (by decide) q2), p3, by omega, by omega, fun i hi => ?_, fun j hj => ?_⟩
       · intro a ha
         have hin := gw_PL_in nx p5
         simp only [List.mem_cons, List.not_mem_nil, or_false] at ha
         rcases ha with rfl | rfl | rfl | rfl
         · decide
         · exact hin.1
         · exact hin.2.1
         · exact hin.2.2
       · by_cases e : i = nx
         · subst e; exact ⟨_, _, _, _, hg2⟩
         · obtain ⟨w', h', n', s', q⟩ := p6 i hi
           exact ⟨w', h', n', s', hg i hi e q⟩
       · simp only [gw_push]
         by_cases e10 : kp = 10
         · rw [if_pos e10, if_pos e10]
           by_cases e9 : j < 9
           · rw [if_pos e9, if_pos e9]
             have hq := p7 (j + 1) (by omega)
             refine ⟨hq.1, ?_⟩
             have e : ((nx + 1) + 10 - min (kp + 1) 10 + j) % 10 = (nx + 10 - kp + (j + 1)) % 10 := by omega
             rw [e]
             exact hg _ (by omega) (by omega) hq.2
           · rw [if_neg e9, if_neg e9]
             have e : ((nx + 1) + 10 - min (kp + 1) 10 + j) % 10 = nx := by omega
             rw [e]
             exact ⟨hnn, hg2⟩
         · rw [if_neg e10, if_neg e10]
           by_cases e9 : j < kp
           · rw [if_pos e9, if_pos e9]
             have hq := p7 j e9
             refine ⟨hq.1, ?_⟩
             have e : ((nx + 1) + 10 - min (kp + 1) 10 + j) % 10 = (nx + 10 - kp + j) % 10 := by omega
             rw [e]
             exact hg _ (by omega) (by omega) hq.2
           · rw [if_neg e9, if_neg e9]
             have e : ((nx + 1) + 10 - min (kp + 1) 10 + j) % 10 = nx := by omega
             rw [e]
             exact ⟨hnn, hg2⟩)
    | (have h9 : ¬ nx < 9 := by simp only [mj_le, mj_nI nx (by omega), mj_lit 9 (by decide)] at h21; omega
       rw [if_neg h9] at k
       have hf3 : gw_fr [9] f (va_up (va_up f 9 (mj_O 1 [.ref 10, .int (nI kp), .int (nI 0)])) 9 (mj_O 1 [.ref 10, .int (nI (min (kp + 1) 10)), .int (nI 0)])) := gw_fr_up (gw_fr_up (gw_fr_rf _ _) (by simp)) (by simp)
       have hf4 : gw_fr [9, 11 + 3 * nx, 11 + 3 * nx + 1, 11 + 3 * nx + 2] σ.1 (va_up (va_up f 9 (mj_O 1 [.ref 10, .int (nI kp), .int (nI 0)])) 9 (mj_O 1 [.ref 10, .int (nI (min (kp + 1) 10)), .int (nI 0)])) := gw_fr_tr (gw_fr_sub hf (by intro a ha; simp at ha ⊢; omega)) (gw_fr_sub hf3 (by simp))
       have hg : ∀ i, i < 10 → i ≠ nx → ∀ {w' h' n' : Nat} {s' : Nat → Int32}, gw_rm σ.1 (11 + 3 * i) w' h' n' s' → gw_rm (va_up (va_up f 9 (mj_O 1 [.ref 10, .int (nI kp), .int (nI 0)])) 9 (mj_O 1 [.ref 10, .int (nI (min (kp + 1) 10)), .int (nI 0)])) (11 + 3 * i) w' h' n' s' :=
         fun i hi hne w' h' n' s' q => gw_rm_fr hf4 (by intro a ha; simp at ha; omega) (by simp; omega) (by simp; omega) (by simp; omega) q
       have hg2 := gw_rm_fr hf3 (by decide) (by simp; omega) (by simp; omega) (by simp; omega) hRf
       refine k _ (gw_fr_sub hf4 ?_) ⟨rs, mj_hs, mj_hn (by decide) (mj_hn (by decide) q2), p3, by omega, by omega, fun i hi => ?_, fun j hj => ?_⟩
       · intro a ha
         have hin := gw_PL_in nx p5
         simp only [List.mem_cons, List.not_mem_nil, or_false] at ha
         rcases ha with rfl | rfl | rfl | rfl
         · decide
         · exact hin.1
         · exact hin.2.1
         · exact hin.2.2
       · by_cases e : i = nx
         · subst e; exact ⟨_, _, _, _, hg2⟩
         · obtain ⟨w', h', n', s', q⟩ := p6 i hi
           exact ⟨w', h', n', s', hg i hi e q⟩
       · simp only [gw_push]
         by_cases e10 : kp = 10
         · rw [if_pos e10, if_pos e10]
           by_cases e9 : j < 9
           · rw [if_pos e9, if_pos e9]
             have hq := p7 (j + 1) (by omega)
             refine ⟨hq.1, ?_⟩
             have e : (0 + 10 - min (kp + 1) 10 + j) % 10 = (nx + 10 - kp + (j + 1)) % 10 := by omega
             rw [e]
             exact hg _ (by omega) (by omega) hq.2
           · rw [if_neg e9, if_neg e9]
             have e : (0 + 10 - min (kp + 1) 10 + j) % 10 = nx := by omega
             rw [e]
             exact ⟨hnn, hg2⟩
         · rw [if_neg e10, if_neg e10]
           by_cases e9 : j < kp
           · rw [if_pos e9, if_pos e9]
             have hq := p7 j e9
             refine ⟨hq.1, ?_⟩
             have e : (0 + 10 - min (kp + 1) 10 + j) % 10 = (nx + 10 - kp + j) % 10 := by omega
             rw [e]
             exact hg _ (by omega) (by omega) hq.2
           · rw [if_neg e9, if_neg e9]
             have e : (0 + 10 - min (kp + 1) 10 + j) % 10 = nx := by omega
             rw [e]
             exact ⟨hnn, hg2⟩)
  · refine mw_ld 25 i_Past_keep_24 rfl rfl rfl ?_
    refine mw_get 28 i_Past_keep_25 rfl (by repeat (first | exact mj_hs2 | exact mj_hs | assumption | refine mj_hn2 (by omega) ?_ | refine mj_hn (by omega) ?_)) (by rfl) ?_
    refine mw_k 29 i_Past_keep_28 rfl ?_
    refine mw_b 30 i_Past_keep_29 rfl ?_
    rw [nI_1]
    refine mw_go i_Past_keep_30 ?_
    refine mw_put (fs' := [_, _, _]) 37 i_Past_keep_34 rfl (by repeat (first | exact mj_hs2 | exact mj_hs | assumption | refine mj_hn2 (by omega) ?_ | refine mj_hn (by omega) ?_)) (Nat.le_of_ble_eq_true rfl) rfl rfl (fun _ h => by cases h) (by rfl) ?_
    refine mw_ld 38 i_Past_keep_37 rfl rfl rfl ?_
    refine mw_ld 39 i_Past_keep_38 rfl rfl rfl ?_
    refine mw_get 42 i_Past_keep_39 rfl (by repeat (first | exact mj_hs2 | exact mj_hs | assumption | refine mj_hn2 (by omega) ?_ | refine mj_hn (by omega) ?_)) (by rfl) ?_
    refine mw_k 43 i_Past_keep_42 rfl ?_
    refine mw_b 44 i_Past_keep_43 rfl ?_
    rw [nI_1]
    refine mw_k 46 i_Past_keep_44 rfl ?_
    refine mw_max 49 i_Past_keep_46 rfl (Nat.le_of_ble_eq_true rfl) ?_
    rw [show (10 : Int32) = nI 10 from rfl, nI_min (by omega) (by decide)]
    refine mw_put (fs' := [_, _, _]) 52 i_Past_keep_49 rfl (by repeat (first | exact mj_hs2 | exact mj_hs | assumption | refine mj_hn2 (by omega) ?_ | refine mj_hn (by omega) ?_)) (Nat.le_of_ble_eq_true rfl) rfl rfl (fun _ h => by cases h) (by rfl) ?_
    refine mw_rv i_Past_keep_52 rfl ?_
    first
    | (have h9 : nx < 9 := by simp only [mj_le, mj_nI nx (by omega), mj_lit 9 (by decide)] at h21; omega
       rw [if_pos h9] at k
       have hf3 : gw_fr [9] f (va_up (va_up f 9 (mj_O 1 [.ref 10, .int (nI kp), .int (nI (nx + 1))])) 9 (mj_O 1 [.ref 10, .int (nI (min (kp + 1) 10)), .int (nI (nx + 1))])) := gw_fr_up (gw_fr_up (gw_fr_rf _ _) (by simp)) (by simp)
       have hf4 : gw_fr [9, 11 + 3 * nx, 11 + 3 * nx + 1, 11 + 3 * nx + 2] σ.1 (va_up (va_up f 9 (mj_O 1 [.ref 10, .int (nI kp), .int (nI (nx + 1))])) 9 (mj_O 1 [.ref 10, .int (nI (min (kp + 1) 10)), .int (nI (nx + 1))])) := gw_fr_tr (gw_fr_sub hf (by intro a ha; simp at ha ⊢; omega)) (gw_fr_sub hf3 (by simp))
       have hg : ∀ i, i < 10 → i ≠ nx → ∀ {w' h' n' : Nat} {s' : Nat → Int32}, gw_rm σ.1 (11 + 3 * i) w' h' n' s' → gw_rm (va_up (va_up f 9 (mj_O 1 [.ref 10, .int (nI kp), .int (nI (nx + 1))])) 9 (mj_O 1 [.ref 10, .int (nI (min (kp + 1) 10)), .int (nI (nx + 1))])) (11 + 3 * i) w' h' n' s' :=
         fun i hi hne w' h' n' s' q => gw_rm_fr hf4 (by intro a ha; simp at ha; omega) (by simp; omega) (by simp; omega) (by simp; omega) q
       have hg2 := gw_rm_fr hf3 (by decide) (by simp; omega) (by simp; omega) (by simp; omega) hRf
       refine k _ (gw_fr_sub hf4 ?_) ⟨rs, mj_hs, mj_hn (by decide) (mj_hn (by decide) q2), p3, by omega, by omega, fun i hi => ?_, fun j hj => ?_⟩
       · intro a ha
         have hin := gw_PL_in nx p5
         simp only [List.mem_cons, List.not_mem_nil, or_false] at ha
         rcases ha with rfl | rfl | rfl | rfl
         · decide
         · exact hin.1
         · exact hin.2.1
         · exact hin.2.2
       · by_cases e : i = nx
         · subst e; exact ⟨_, _, _, _, hg2⟩
         · obtain ⟨w', h', n', s', q⟩ := p6 i hi
           exact ⟨w', h', n', s', hg i hi e q⟩
       · simp only [gw_push]
         by_cases e10 : kp = 10
         · rw [if_pos e10, if_pos e10]
           by_cases e9 : j < 9
           · rw [if_pos e9, if_pos e9]
             have hq := p7 (j + 1) (by omega)
             refine ⟨hq.1, ?_⟩
             have e : ((nx + 1) + 10 - min (kp + 1) 10 + j) % 10 = (nx + 10 - kp + (j + 1)) % 10 := by omega
             rw [e]
             exact hg _ (by omega) (by omega) hq.2
           · rw [if_neg e9, if_neg e9]
             have e : ((nx + 1) + 10 - min (kp + 1) 10 + j) % 10 = nx := by omega
             rw [e]
             exact ⟨hnn, hg2⟩
         · rw [if_neg e10, if_neg e10]
           by_cases e9 : j < kp
           · rw [if_pos e9, if_pos e9]
             have hq := p7 j e9
             refine ⟨hq.1, ?_⟩
             have e : ((nx + 1) + 10 - min (kp + 1) 10 + j) % 10 = (nx + 10 - kp + j) % 10 := by omega
             rw [e]
             exact hg _ (by omega) (by omega) hq.2
           · rw [if_neg e9, if_neg e9]
             have e : ((nx + 1) + 10 - min (kp + 1) 10 + j) % 10 = nx := by omega
             rw [e]
             exact ⟨hnn, hg2⟩)
    | (have h9 : ¬ nx < 9 := by simp only [mj_le, mj_nI nx (by omega), mj_lit 9 (by decide)] at h21; omega
       rw [if_neg h9] at k
       have hf3 : gw_fr [9] f (va_up (va_up f 9 (mj_O 1 [.ref 10, .int (nI kp), .int (nI 0)])) 9 (mj_O 1 [.ref 10, .int (nI (min (kp + 1) 10)), .int (nI 0)])) := gw_fr_up (gw_fr_up (gw_fr_rf _ _) (by simp)) (by simp)
       have hf4 : gw_fr [9, 11 + 3 * nx, 11 + 3 * nx + 1, 11 + 3 * nx + 2] σ.1 (va_up (va_up f 9 (mj_O 1 [.ref 10, .int (nI kp), .int (nI 0)])) 9 (mj_O 1 [.ref 10, .int (nI (min (kp + 1) 10)), .int (nI 0)])) := gw_fr_tr (gw_fr_sub hf (by intro a ha; simp at ha ⊢; omega)) (gw_fr_sub hf3 (by simp))
       have hg : ∀ i, i < 10 → i ≠ nx → ∀ {w' h' n' : Nat} {s' : Nat → Int32}, gw_rm σ.1 (11 + 3 * i) w' h' n' s' → gw_rm (va_up (va_up f 9 (mj_O 1 [.ref 10, .int (nI kp), .int (nI 0)])) 9 (mj_O 1 [.ref 10, .int (nI (min (kp + 1) 10)), .int (nI 0)])) (11 + 3 * i) w' h' n' s' :=
         fun i hi hne w' h' n' s' q => gw_rm_fr hf4 (by intro a ha; simp at ha; omega) (by simp; omega) (by simp; omega) (by simp; omega) q
       have hg2 := gw_rm_fr hf3 (by decide) (by simp; omega) (by simp; omega) (by simp; omega) hRf
       refine k _ (gw_fr_sub hf4 ?_) ⟨rs, mj_hs, mj_hn (by decide) (mj_hn (by decide) q2), p3, by omega, by omega, fun i hi => ?_, fun j hj => ?_⟩
       · intro a ha
         have hin := gw_PL_in nx p5
         simp only [List.mem_cons, List.not_mem_nil, or_false] at ha
         rcases ha with rfl | rfl | rfl | rfl
         · decide
         · exact hin.1
         · exact hin.2.1
         · exact hin.2.2
       · by_cases e : i = nx
         · subst e; exact ⟨_, _, _, _, hg2⟩
         · obtain ⟨w', h', n', s', q⟩ := p6 i hi
           exact ⟨w', h', n', s', hg i hi e q⟩
       · simp only [gw_push]
         by_cases e10 : kp = 10
         · rw [if_pos e10, if_pos e10]
           by_cases e9 : j < 9
           · rw [if_pos e9, if_pos e9]
             have hq := p7 (j + 1) (by omega)
             refine ⟨hq.1, ?_⟩
             have e : (0 + 10 - min (kp + 1) 10 + j) % 10 = (nx + 10 - kp + (j + 1)) % 10 := by omega
             rw [e]
             exact hg _ (by omega) (by omega) hq.2
           · rw [if_neg e9, if_neg e9]
             have e : (0 + 10 - min (kp + 1) 10 + j) % 10 = nx := by omega
             rw [e]
             exact ⟨hnn, hg2⟩
         · rw [if_neg e10, if_neg e10]
           by_cases e9 : j < kp
           · rw [if_pos e9, if_pos e9]
             have hq := p7 j e9
             refine ⟨hq.1, ?_⟩
             have e : (0 + 10 - min (kp + 1) 10 + j) % 10 = (nx + 10 - kp + j) % 10 := by omega
             rw [e]
             exact hg _ (by omega) (by omega) hq.2
           · rw [if_neg e9, if_neg e9]
             have e : (0 + 10 - min (kp + 1) 10 + j) % 10 = nx := by omega
             rw [e]
             exact ⟨hnn, hg2⟩)
theorem sp_Past_takeBack {X : mj_X} {d : Nat} {σ : mj_H} {Q : mj_H → Prop} {w h kp nx : Nat} {hn : Nat → Nat} {hs : Nat → Nat → Int32} (hP : gw_pa σ.1 w h (kp + 1) nx hn hs) {w0 h0 n0 : Nat} {s0 : Nat → Int32} (hR : gw_rm σ.1 1 w0 h0 n0 s0) (k : ∀ f, gw_fr [1, 2, 3, 9] σ.1 f → gw_rm f 1 w h (hn kp) (hs kp) → gw_pa f w h kp (if 0 < nx then nx - 1 else 9) hn hs → Q (f, σ.2)) : mj_M X (d + 1) y_Past_takeBack [.ref 9, .ref 1] σ (mj_U Q) := by
  obtain ⟨rs, p1, p2, p3, p4, p5, p6, p7⟩ := id hP
  refine mw_in (l0 := [some (.ref 9), some (.ref 1), none]) rfl ?_
  by_cases hx : 0 < nx
  · rw [if_pos hx] at k
    refine mw_ld 1 i_Past_takeBack_0 rfl rfl rfl ?_
    refine mw_get 4 i_Past_takeBack_1 rfl (by repeat (first | exact mj_hs2 | exact mj_hs | assumption | refine mj_hn2 (by omega) ?_ | refine mj_hn (by omega) ?_)) (by rfl) ?_
    refine mw_if0 7 i_Past_takeBack_4 rfl (nI_nle (by omega) (by omega)) ?_
    refine mw_ld 8 i_Past_takeBack_7 rfl rfl rfl ?_
    refine mw_ld 9 i_Past_takeBack_8 rfl rfl rfl ?_
    refine mw_get 12 i_Past_takeBack_9 rfl (by repeat (first | exact mj_hs2 | exact mj_hs | assumption | refine mj_hn2 (by omega) ?_ | refine mj_hn (by omega) ?_)) (by rfl) ?_
    refine mw_if0 15 i_Past_takeBack_12 rfl (nI_nle (by omega) (by omega)) ?_
    refine mw_ld 16 i_Past_takeBack_15 rfl rfl rfl ?_
    refine mw_get 19 i_Past_takeBack_16 rfl (by repeat (first | exact mj_hs2 | exact mj_hs | assumption | refine mj_hn2 (by omega) ?_ | refine mj_hn (by omega) ?_)) (by rfl) ?_
    refine mw_k 20 i_Past_takeBack_19 rfl ?_
    refine mw_b 21 i_Past_takeBack_20 rfl ?_
    rw [show (1 : Int32) = nI 1 from rfl, pk_sub (by omega)]
    refine mw_go i_Past_takeBack_21 ?_
    refine mw_put (fs' := [_, _, _]) 29 i_Past_takeBack_26 rfl (by repeat (first | exact mj_hs2 | exact mj_hs | assumption | refine mj_hn2 (by omega) ?_ | refine mj_hn (by omega) ?_)) (Nat.le_of_ble_eq_true rfl) rfl rfl (fun _ h => by cases h) (by rfl) ?_
    refine mw_ld 30 i_Past_takeBack_29 rfl rfl rfl ?_
    refine mw_dup 31 i_Past_takeBack_30 rfl rfl ?_
    refine mw_get 34 i_Past_takeBack_31 rfl (by repeat (first | exact mj_hs2 | exact mj_hs | assumption | refine mj_hn2 (by omega) ?_ | refine mj_hn (by omega) ?_)) (by rfl) ?_
    refine mw_k 35 i_Past_takeBack_34 rfl ?_
    refine mw_b 36 i_Past_takeBack_35 rfl ?_
    rw [nI_pred]
    refine mw_put (fs' := [_, _, _]) 39 i_Past_takeBack_36 rfl (by repeat (first | exact mj_hs2 | exact mj_hs | assumption | refine mj_hn2 (by omega) ?_ | refine mj_hn (by omega) ?_)) (Nat.le_of_ble_eq_true rfl) rfl rfl (fun _ h => by cases h) (by rfl) ?_
    refine mw_ld 40 i_Past_takeBack_39 rfl rfl rfl ?_
    refine mw_cv1 43 i_Past_takeBack_40 rfl (by repeat (first | exact mj_hs2 | exact mj_hs | assumption | refine mj_hn2 (by omega) ?_ | refine mj_hn (by omega) ?_)) (sp_Past_nextSlot (rs := rs) (nx := (nx - 1)) (by repeat (first | exact mj_hs2 | exact mj_hs | assumption | refine mj_hn2 (by omega) ?_ | refine mj_hn (by omega) ?_)) (by repeat (first | exact mj_hs2 | exact mj_hs | assumption | refine mj_hn2 (by omega) ?_ | refine mj_hn (by omega) ?_)) p3 (by omega) ?_) rfl rfl (Nat.le_of_ble_eq_true rfl) (Nat.le_of_ble_eq_true rfl)
    refine mw_st (ls' := [_, _, _]) 44 i_Past_takeBack_43 rfl rfl rfl rfl ?_
    refine mw_ld 45 i_Past_takeBack_44 rfl rfl rfl ?_
    refine mw_nuF 48 i_Past_takeBack_45 rfl ?_
    have hq := p7 kp (by omega)
    have e0 : (nx + 10 - (kp + 1) + kp) % 10 = (nx - 1) := by omega
    rw [e0] at hq
    have hf0 : gw_fr [9] σ.1 (va_up (va_up σ.1 9 (mj_O 1 [.ref 10, .int (nI (kp + 1)), .int (nI (nx - 1))])) 9 (mj_O 1 [.ref 10, .int (nI kp), .int (nI (nx - 1))])) := gw_fr_up (gw_fr_up (gw_fr_rf _ _) (by simp)) (by simp)
    have hR1 := gw_rm_fr hf0 (by decide) (by decide) (by decide) (by decide) hR
    have hR2 := gw_rm_fr hf0 (by decide) (by first | (simp; done) | (simp; omega)) (by first | (simp; done) | (simp; omega)) (by first | (simp; done) | (simp; omega)) hq.2
    obtain ⟨wl0, ps0, z1, -⟩ := id hR1
    refine mw_ld 49 i_Past_takeBack_48 rfl rfl rfl ?_
    refine mw_ld 50 i_Past_takeBack_49 rfl rfl rfl ?_
    refine mw_cv0 53 i_Past_takeBack_50 rfl (by repeat (first | exact mj_hs2 | exact mj_hs | assumption | refine mj_hn2 (by omega) ?_ | refine mj_hn (by omega) ?_)) (sp_Room_copyFrom (by decide) (by omega) (by omega) hq.1 hR1 hR2 (fun f hf hRf => ?_)) rfl rfl (Nat.le_of_ble_eq_true rfl) (Nat.le_of_ble_eq_true rfl)
    refine mw_rv i_Past_takeBack_53 rfl ?_
    have hf0 : gw_fr [9] σ.1 (va_up (va_up σ.1 9 (mj_O 1 [.ref 10, .int (nI (kp + 1)), .int (nI (nx - 1))])) 9 (mj_O 1 [.ref 10, .int (nI kp), .int (nI (nx - 1))])) := gw_fr_up (gw_fr_up (gw_fr_rf _ _) (by simp)) (by simp)
    have hf4 : gw_fr [1, 2, 3, 9] σ.1 f := gw_fr_tr (gw_fr_sub hf0 (by simp)) (gw_fr_sub hf (by simp))
    refine k f hf4 ?_ ?_
    · exact hRf
    · refine ⟨rs, (hf 9 (by decide)).trans mj_hs2, (hf4 10 (by decide)).trans p2, p3, by omega, by omega, fun i hi => ?_, fun j hj => ?_⟩
      · obtain ⟨w', h', n', s', q⟩ := p6 i hi
        exact ⟨w', h', n', s', gw_rm_fr hf4 (by decide) (by simp; omega) (by simp; omega) (by simp; omega) q⟩
      · have hq := p7 j (by omega)
        refine ⟨hq.1, ?_⟩
        have e : ((nx - 1) + 10 - kp + j) % 10 = (nx + 10 - (kp + 1) + j) % 10 := by omega
        rw [e]
        exact gw_rm_fr hf4 (by decide) (by simp; omega) (by simp; omega) (by simp; omega) hq.2
  · have hx0 : nx = 0 := by omega
    rw [if_neg hx] at k
    refine mw_ld 1 i_Past_takeBack_0 rfl rfl rfl ?_
    refine mw_get 4 i_Past_takeBack_1 rfl (by repeat (first | exact mj_hs2 | exact mj_hs | assumption | refine mj_hn2 (by omega) ?_ | refine mj_hn (by omega) ?_)) (by rfl) ?_
    refine mw_if0 7 i_Past_takeBack_4 rfl (nI_nle (by omega) (by omega)) ?_
    refine mw_ld 8 i_Past_takeBack_7 rfl rfl rfl ?_
    refine mw_ld 9 i_Past_takeBack_8 rfl rfl rfl ?_
    refine mw_get 12 i_Past_takeBack_9 rfl (by repeat (first | exact mj_hs2 | exact mj_hs | assumption | refine mj_hn2 (by omega) ?_ | refine mj_hn (by omega) ?_)) (by rfl) ?_
    refine mw_if1 i_Past_takeBack_12 (by rw [hx0]; decide) ?_
    refine mw_k 26 i_Past_takeBack_24 rfl ?_
    refine mw_put (fs' := [_, _, _]) 29 i_Past_takeBack_26 rfl (by repeat (first | exact mj_hs2 | exact mj_hs | assumption | refine mj_hn2 (by omega) ?_ | refine mj_hn (by omega) ?_)) (Nat.le_of_ble_eq_true rfl) rfl rfl (fun _ h => by cases h) (by rfl) ?_
    refine mw_ld 30 i_Past_takeBack_29 rfl rfl rfl ?_
    refine mw_dup 31 i_Past_takeBack_30 rfl rfl ?_
    refine mw_get 34 i_Past_takeBack_31 rfl (by repeat (first | exact mj_hs2 | exact mj_hs | assumption | refine mj_hn2 (by omega) ?_ | refine mj_hn (by omega) ?_)) (by rfl) ?_
    refine mw_k 35 i_Past_takeBack_34 rfl ?_
    refine mw_b 36 i_Past_takeBack_35 rfl ?_
    rw [nI_pred]
    refine mw_put (fs' := [_, _, _]) 39 i_Past_takeBack_36 rfl (by repeat (first | exact mj_hs2 | exact mj_hs | assumption | refine mj_hn2 (by omega) ?_ | refine mj_hn (by omega) ?_)) (Nat.le_of_ble_eq_true rfl) rfl rfl (fun _ h => by cases h) (by rfl) ?_
    refine mw_ld 40 i_Past_takeBack_39 rfl rfl rfl ?_
    refine mw_cv1 43 i_Past_takeBack_40 rfl (by repeat (first | exact mj_hs2 | exact mj_hs | assumption | refine mj_hn2 (by omega) ?_ | refine mj_hn (by omega) ?_)) (sp_Past_nextSlot (rs := rs) (nx := 9) (by repeat (first | exact mj_hs2 | exact mj_hs | assumption | refine mj_hn2 (by omega) ?_ | refine mj_hn (by omega) ?_)) (by repeat (first | exact mj_hs2 | exact mj_hs | assumption | refine mj_hn2 (by omega) ?_ | refine mj_hn (by omega) ?_)) p3 (by omega) ?_) rfl rfl (Nat.le_of_ble_eq_true rfl) (Nat.le_of_ble_eq_true rfl)
    refine mw_st (ls' := [_, _, _]) 44 i_Past_takeBack_43 rfl rfl rfl rfl ?_
    refine mw_ld 45 i_Past_takeBack_44 rfl rfl rfl ?_
    refine mw_nuF 48 i_Past_takeBack_45 rfl ?_
    have hq := p7 kp (by omega)
    have e0 : (nx + 10 - (kp + 1) + kp) % 10 = 9 := by omega
    rw [e0] at hq
    have hf0 : gw_fr [9] σ.1 (va_up (va_up σ.1 9 (mj_O 1 [.ref 10, .int (nI (kp + 1)), .int (nI 9)])) 9 (mj_O 1 [.ref 10, .int (nI kp), .int (nI 9)])) := gw_fr_up (gw_fr_up (gw_fr_rf _ _) (by simp)) (by simp)
    have hR1 := gw_rm_fr hf0 (by decide) (by decide) (by decide) (by decide) hR
    have hR2 := gw_rm_fr hf0 (by decide) (by first | (simp; done) | (simp; omega)) (by first | (simp; done) | (simp; omega)) (by first | (simp; done) | (simp; omega)) hq.2
    obtain ⟨wl0, ps0, z1, -⟩ := id hR1
    refine mw_ld 49 i_Past_takeBack_48 rfl rfl rfl ?_
    refine mw_ld 50 i_Past_takeBack_49 rfl rfl rfl ?_
    refine mw_cv0 53 i_Past_takeBack_50 rfl (by repeat (first | exact mj_hs2 | exact mj_hs | assumption | refine mj_hn2 (by omega) ?_ | refine mj_hn (by omega) ?_)) (sp_Room_copyFrom (by decide) (by omega) (by omega) hq.1 hR1 hR2 (fun f hf hRf => ?_)) rfl rfl (Nat.le_of_ble_eq_true rfl) (Nat.le_of_ble_eq_true rfl)
    refine mw_rv i_Past_takeBack_53 rfl ?_
    have hf0 : gw_fr [9] σ.1 (va_up (va_up σ.1 9 (mj_O 1 [.ref 10, .int (nI (kp + 1)), .int (nI 9)])) 9 (mj_O 1 [.ref 10, .int (nI kp), .int (nI 9)])) := gw_fr_up (gw_fr_up (gw_fr_rf _ _) (by simp)) (by simp)
    have hf4 : gw_fr [1, 2, 3, 9] σ.1 f := gw_fr_tr (gw_fr_sub hf0 (by simp)) (gw_fr_sub hf (by simp))
    refine k f hf4 ?_ ?_
    · exact hRf
    · refine ⟨rs, (hf 9 (by decide)).trans mj_hs2, (hf4 10 (by decide)).trans p2, p3, by omega, by omega, fun i hi => ?_, fun j hj => ?_⟩
      · obtain ⟨w', h', n', s', q⟩ := p6 i hi
        exact ⟨w', h', n', s', gw_rm_fr hf4 (by decide) (by simp; omega) (by simp; omega) (by simp; omega) q⟩
      · have hq := p7 j (by omega)
        refine ⟨hq.1, ?_⟩
        have e : (9 + 10 - kp + j) % 10 = (nx + 10 - (kp + 1) + j) % 10 := by omega
        rw [e]
        exact gw_rm_fr hf4 (by decide) (by simp; omega) (by simp; omega) (by simp; omega) hq.2
