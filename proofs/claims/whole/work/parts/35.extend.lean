/-! Choice: the sets -/
/-! sets of posts in their order; which watch -/
def gw_wa (w h n : Nat) (s : Nat → Int32) (z : Int32) : Bool := (gw_lo w h n s z).isNone
def gw_ss (w h n : Nat) (s : Nat → Int32) (z : Int32) (c : Nat) : Bool := (List.range 14).any fun k => bt z k && gw_pk w h n s k c
theorem gw_wa_iff {w h n : Nat} {s : Nat → Int32} {z : Int32} : gw_wa w h n s z = true ↔ ∀ c, c < w * h → s c = 0 → ¬ gw_wt w h n s c &&& z = 0 := by
  rw [gw_wa, Option.isNone_iff_eq_none, gw_lo, gw_ff_none]
  simp only [gw_up, Bool.and_eq_false_iff]
  constructor
  · intro h c hc h0
    rcases h c hc with q | q
    · simp [h0] at q
    · simpa using q
  · intro h c hc
    by_cases h0 : s c = 0
    · exact .inr (by simpa using h c hc h0)
    · exact .inl (by simpa using h0)
theorem gw_ss_iff {w h n : Nat} {s : Nat → Int32} {z : Int32} {c : Nat} (hn : n ≤ 14) (hc : c < w * h) : gw_ss w h n s z c = true ↔ ¬ gw_wt w h n s c &&& z = 0 := by
  rw [gw_and0]
  simp only [gw_ss, List.any_eq_true, List.mem_range, Bool.and_eq_true, gw_pk, decide_eq_true_eq]
  constructor
  · rintro ⟨k, hk, h1, -, h2⟩ hq
    exact hq k (by omega) ⟨h2, h1⟩
  · intro hq
    apply Classical.byContradiction
    intro h
    refine hq (fun k hk ⟨h1, h2⟩ => h ⟨k, ?_, h2, hc, h1⟩)
    rw [gw_wt_bt hn] at h1
    simp only [Bool.and_eq_true, decide_eq_true_eq] at h1
    omega
theorem gw_cov_wa {w h n : Nat} {s : Nat → Int32} {z : Int32} (hd : gw_dim w h) (hn : n ≤ 14) : gw_cov (gw_opn w h s) (gw_ss w h n s z) = gw_wa w h n s z := by
  have hwh := gw_dim_le hd
  rw [Bool.eq_iff_iff, gw_wa_iff]
  simp only [gw_cov, List.all_eq_true, List.mem_range, Bool.or_eq_true, Bool.not_eq_true', gw_opn, Bool.and_eq_false_iff, decide_eq_false_iff_not]
  constructor
  · intro h c hc h0
    rcases h c (by omega) with (q | q) | q
    · exact absurd hc q
    · simp [h0] at q
    · exact (gw_ss_iff hn hc).mp q
  · intro hq c _
    by_cases hc : c < w * h
    · by_cases h0 : s c = 0
      · exact .inr ((gw_ss_iff hn hc).mpr (hq c hc h0))
      · exact .inl (.inr (by simpa using h0))
    · exact .inl (.inl hc)
def gw_E : Nat → Nat → Nat → List Int32
  | 0, _, m => if m = 0 then [0] else []
  | j + 1, i, m => if m = 0 then [0] else (gw_E j (i + 1) (m - 1)).map (fun t => gw_bit i ||| t) ++ gw_E j (i + 1) m
theorem gw_E_0 (j i : Nat) : gw_E j i 0 = [0] := by cases j <;> simp [gw_E]
theorem gw_E_s (j i m : Nat) : gw_E (j + 1) i (m + 1) = (gw_E j (i + 1) m).map (fun t => gw_bit i ||| t) ++ gw_E j (i + 1) (m + 1) := by simp [gw_E]
theorem gw_E_none : ∀ {j i m : Nat}, j < m → gw_E j i m = []
  | 0, i, m, h => by simp [gw_E]; omega
  | j + 1, i, m, h => by
    cases m with
    | zero => omega
    | succ m => rw [gw_E_s, gw_E_none (by omega), gw_E_none (by omega)]; rfl
theorem gw_E_bt : ∀ {j i m : Nat} {t : Int32}, i + j ≤ 14 → t ∈ gw_E j i m → ∀ x, bt t x = true → i ≤ x ∧ x < i + j
  | 0, i, m, t, _, h, x, hx => by
    simp only [gw_E] at h
    split at h
    · simp at h; subst h; rw [b_0] at hx; cases hx
    · cases h
  | j + 1, i, 0, t, _, h, x, hx => by
    rw [gw_E_0] at h
    simp at h; subst h; rw [b_0] at hx; cases hx
  | j + 1, i, m + 1, t, hij, h, x, hx => by
    rw [gw_E_s] at h
    rcases List.mem_append.mp h with q | q
    · obtain ⟨u, hu, rfl⟩ := List.mem_map.mp q
      rw [b_or, gw_bt_bit (by omega), Bool.or_eq_true] at hx
      rcases hx with hx | hx
      · simp at hx; omega
      · have := gw_E_bt (by omega) hu x hx; omega
    · have := gw_E_bt (by omega) q x hx; omega
/-- one more set is tried -/
def gw_s1 (w h n : Nat) (s : Nat → Int32) (q : Int32 × Nat) (z : Int32) : Int32 × Nat := if gw_wa w h n s z then (if q.2 = 0 then z else q.1, q.2 + 1) else q
def gw_pr (w h n : Nat) (s : Nat → Int32) (z : Int32) (L : List Int32) (q : Int32 × Nat) : Int32 × Nat := L.foldl (fun q t => gw_s1 w h n s q (z ||| t)) q
theorem gw_pr_app {w h n : Nat} {s : Nat → Int32} {z : Int32} {L1 L2 : List Int32} {q : Int32 × Nat} : gw_pr w h n s z (L1 ++ L2) q = gw_pr w h n s z L2 (gw_pr w h n s z L1 q) := by simp [gw_pr, List.foldl_append]
theorem gw_or_assoc (a b c : Int32) : a ||| (b ||| c) = (a ||| b) ||| c := b_ext (fun i _ => by simp [b_or, Bool.or_assoc])
theorem gw_pr_map {w h n : Nat} {s : Nat → Int32} {z b : Int32} : ∀ {L : List Int32} {q : Int32 × Nat}, gw_pr w h n s z (L.map (fun t => b ||| t)) q = gw_pr w h n s (z ||| b) L q
  | [], _ => rfl
  | t :: L, q => by
    simp only [gw_pr, List.map_cons, List.foldl_cons]
    rw [gw_or_assoc]
    exact gw_pr_map (L := L)
theorem gw_pr_no {w h n : Nat} {s : Nat → Int32} {z : Int32} : ∀ {L : List Int32} {q : Int32 × Nat}, (∀ t ∈ L, gw_wa w h n s (z ||| t) = false) → gw_pr w h n s z L q = q
  | [], _, _ => rfl
  | t :: L, q, hh => by
    simp only [gw_pr, List.foldl_cons]
    have e : gw_s1 w h n s q (z ||| t) = q := by rw [gw_s1, hh t List.mem_cons_self]; rfl
    rw [e]
    exact gw_pr_no (fun u hu => hh u (List.mem_cons_of_mem _ hu))
theorem gw_pr_le {w h n : Nat} {s : Nat → Int32} {z : Int32} : ∀ {L : List Int32} {q : Int32 × Nat}, (gw_pr w h n s z L q).2 ≤ q.2 + L.length
  | [], _ => Nat.le_refl _
  | t :: L, q => by
    simp only [gw_pr, List.foldl_cons, List.length_cons]
    have h1 := gw_pr_le (w := w) (h := h) (n := n) (s := s) (z := z) (L := L) (q := gw_s1 w h n s q (z ||| t))
    have h2 : (gw_s1 w h n s q (z ||| t)).2 ≤ q.2 + 1 := by rw [gw_s1]; split <;> simp
    simp only [gw_pr] at h1
    omega
theorem gw_E_len : ∀ {j i m : Nat}, (gw_E j i m).length ≤ 2 ^ j
  | 0, i, m => by simp only [gw_E]; split <;> simp
  | j + 1, i, 0 => by rw [gw_E_0]; exact Nat.one_le_two_pow
  | j + 1, i, m + 1 => by
    rw [gw_E_s, List.length_append, List.length_map]
    have h1 := gw_E_len (j := j) (i := i + 1) (m := m)
    have h2 := gw_E_len (j := j) (i := i + 1) (m := m + 1)
    rw [Nat.pow_succ]; omega
theorem gw_bt_orb {z : Int32} {k j : Nat} (hk : k < 32) : bt (z ||| gw_bit k) j = (bt z j || decide (j = k)) := by rw [b_or, gw_bt_bit hk]
theorem gw_ss_or {w h n : Nat} {s : Nat → Int32} {z : Int32} {k c : Nat} (hk : k < 14) : gw_ss w h n s (z ||| gw_bit k) c = (gw_ss w h n s z c || gw_pk w h n s k c) := by
  rw [Bool.eq_iff_iff, Bool.or_eq_true]
  simp only [gw_ss, List.any_eq_true, List.mem_range, Bool.and_eq_true, gw_bt_orb (show k < 32 by omega), Bool.or_eq_true, decide_eq_true_eq]
  constructor
  · rintro ⟨j, hj, h1 | h1, h2⟩
    · exact .inl ⟨j, hj, h1, h2⟩
    · subst h1; exact .inr h2
  · rintro (⟨j, hj, h1, h2⟩ | h2)
    · exact ⟨j, hj, .inl h1, h2⟩
    · exact ⟨k, hk, .inr rfl, h2⟩
/-- more never see less: a set within another one's reach -/
theorem gw_prune {w h n : Nat} {s : Nat → Int32} {z : Int32} {k : Nat} (hd : gw_dim w h) (hn : n ≤ 14) (hc : gw_cov (gw_opn w h s) (fun c => gw_ss w h n s z c || gw_rk w h n s k c) = false) {t : Int32} (ht : ∀ x, bt t x = true → k ≤ x ∧ x < 14) : gw_wa w h n s (z ||| t) = false := by
  rw [← gw_cov_wa hd hn, Bool.eq_false_iff]
  intro h2
  rw [Bool.eq_false_iff] at hc
  apply hc
  simp only [gw_cov, List.all_eq_true, List.mem_range, Bool.or_eq_true, Bool.not_eq_true'] at h2 ⊢
  intro c hc2
  rcases h2 c hc2 with q | q
  · exact .inl q
  · right
    simp only [gw_ss, List.any_eq_true, List.mem_range, Bool.and_eq_true, b_or, Bool.or_eq_true] at q
    obtain ⟨j, hj, h1 | h1, h3⟩ := q
    · left
      simp only [gw_ss, List.any_eq_true, List.mem_range, Bool.and_eq_true]
      exact ⟨j, hj, h1, h3⟩
    · right
      simp only [gw_rk, List.any_eq_true, List.mem_range, Bool.and_eq_true, decide_eq_true_eq]
      exact ⟨j, hj, (ht j h1).1, h3⟩
theorem gw_or0 (z : Int32) : z ||| 0 = z := b_ext (fun i _ => by rw [b_or, b_0, Bool.or_false])
theorem sp_Choice_extend_all {X : mj_X} {w h n : Nat} {s : Nat → Int32} {ol oh : Int64} {up sz : Int32} {lo hi rl rh : Nat → Int64} (hd : gw_dim w h) (hn : n ≤ 14) (hO : gw_rp ol oh (gw_opn w h s)) (hG : ∀ q, q < 14 → gw_gs w h n s lo hi rl rh q) : ∀ (m : Nat), m ≤ 14 → ∀ {d i : Nat} {z fi : Int32} {fo : Nat} {sl sh : Int64} {σ : mj_H} {Q : mj_H → Prop}, i ≤ n → gw_ch σ.1 ol oh up sz fi (nI fo) lo hi rl rh → (∃ u, σ.1 4 = mj_O 6 [.ref 1, .ref 5, .int u]) → (∃ s', gw_rm σ.1 1 w h n s') → gw_rp sl sh (gw_ss w h n s z) → fo + (gw_E (n - i) i m).length < 2 ^ 31 → (∀ f, gw_fr [41] σ.1 f → gw_ch f ol oh up sz (gw_pr w h n s z (gw_E (n - i) i m) (fi, fo)).1 (nI (gw_pr w h n s z (gw_E (n - i) i m) (fi, fo)).2) lo hi rl rh → Q (f, σ.2)) → mj_M X (d + m + 1) y_Choice_extend [.ref 41, .int (nI m), .int (nI i), .int z, .long sl, .long sh] σ (mj_U Q) := by
  intro m
  induction m with
  | zero =>
    intro _ d i z fi fo sl sh σ Q hile hC hV hRx r2 hb k
    obtain ⟨b1, b2, b3, b4, b5⟩ := id hC
    refine mw_in (l0 := [some (.ref 41), some (.int (nI 0)), some (.int (nI i)), some (.int z), some (.long sl), none, some (.long sh), none, none]) rfl ?_
    refine mw_ld 1 i_Choice_extend_0 rfl rfl rfl ?_
    refine mw_if0 4 i_Choice_extend_1 rfl (by decide) ?_
    refine mw_ld 5 i_Choice_extend_4 rfl rfl rfl ?_
    refine mw_ld 7 i_Choice_extend_5 rfl rfl rfl ?_
    refine mw_ld 9 i_Choice_extend_7 rfl rfl rfl ?_
    refine mw_cv1 12 i_Choice_extend_9 rfl (by repeat (first | exact mj_hs2 | exact mj_hs | assumption | refine mj_hn2 (by omega) ?_ | refine mj_hn (by omega) ?_)) (sp_Choice_isAll hC hO r2 ?_) rfl rfl (Nat.le_of_ble_eq_true rfl) (Nat.le_of_ble_eq_true rfl)
    refine mw_if 15 i_Choice_extend_12 rfl (fun h12 => ?_) (fun h12 => ?_)
    · refine mw_rv i_Choice_extend_44 rfl ?_
      first
      | (rw [gw_cov_wa hd hn] at h12
         have hw := mj_bI0.mp h12
         rw [gw_E_0] at k
         have e : gw_pr w h n s z [0] (fi, fo) = (fi, fo) := gw_pr_no (fun t ht => by simp at ht; subst ht; rw [gw_or0]; exact hw)
         rw [e] at k
         exact k σ.1 (gw_fr_rf _ _) hC)
      | (rw [gw_cov_wa hd hn] at h12
         have hw := mj_bI1.mp h12
         rw [gw_E_0] at k
         have e : gw_pr w h n s z [0] (fi, fo) = (if fo = 0 then z else fi, fo + 1) := by simp [gw_pr, gw_s1, gw_or0, hw]
         rw [e] at k
         have e0 : (nI fo = 0) ↔ fo = 0 := by
           constructor
           · intro q; apply Classical.byContradiction; intro q2; exact nI_ne0 (by omega) (by omega) q
           · intro q; subst q; rfl
         simp only [e0, Classical.not_not] at h20
         first
         | (rw [if_pos h20] at k
            exact k _ (gw_fr_up (gw_fr_up (gw_fr_rf _ _) (by simp)) (by simp)) ⟨mj_hs, mj_hn (by decide) (mj_hn (by decide) b2), mj_hn (by decide) (mj_hn (by decide) b3), mj_hn (by decide) (mj_hn (by decide) b4), mj_hn (by decide) (mj_hn (by decide) b5)⟩)
         | (rw [if_neg h20] at k
            exact k _ (gw_fr_up (gw_fr_up (gw_fr_rf _ _) (by simp)) (by simp)) ⟨mj_hs, mj_hn (by decide) (mj_hn (by decide) b2), mj_hn (by decide) (mj_hn (by decide) b3), mj_hn (by decide) (mj_hn (by decide) b4), mj_hn (by decide) (mj_hn (by decide) b5)⟩))
    · refine mw_ld 16 i_Choice_extend_15 rfl rfl rfl ?_
      refine mw_ld 17 i_Choice_extend_16 rfl rfl rfl ?_
      refine mw_get 20 i_Choice_extend_17 rfl (by repeat (first | exact mj_hs2 | exact mj_hs | assumption | refine mj_hn2 (by omega) ?_ | refine mj_hn (by omega) ?_)) (by rfl) ?_
      refine mw_if 23 i_Choice_extend_20 rfl (fun h20 => ?_) (fun h20 => ?_)
      · refine mw_ld 28 i_Choice_extend_27 rfl rfl rfl ?_
        refine mw_get 31 i_Choice_extend_28 rfl (by repeat (first | exact mj_hs2 | exact mj_hs | assumption | refine mj_hn2 (by omega) ?_ | refine mj_hn (by omega) ?_)) (by rfl) ?_
        refine mw_put (fs' := [_, _, _, _, _, _, _, _, _, _, _]) 34 i_Choice_extend_31 rfl (by repeat (first | exact mj_hs2 | exact mj_hs | assumption | refine mj_hn2 (by omega) ?_ | refine mj_hn (by omega) ?_)) (Nat.le_of_ble_eq_true rfl) rfl rfl (fun _ h => by cases h) (by rfl) ?_
        refine mw_ld 35 i_Choice_extend_34 rfl rfl rfl ?_
        refine mw_dup 36 i_Choice_extend_35 rfl rfl ?_
        refine mw_get 39 i_Choice_extend_36 rfl (by repeat (first | exact mj_hs2 | exact mj_hs | assumption | refine mj_hn2 (by omega) ?_ | refine mj_hn (by omega) ?_)) (by rfl) ?_
        refine mw_k 40 i_Choice_extend_39 rfl ?_
        refine mw_b 41 i_Choice_extend_40 rfl ?_
        rw [nI_1]
        refine mw_put (fs' := [_, _, _, _, _, _, _, _, _, _, _]) 44 i_Choice_extend_41 rfl (by repeat (first | exact mj_hs2 | exact mj_hs | assumption | refine mj_hn2 (by omega) ?_ | refine mj_hn (by omega) ?_)) (Nat.le_of_ble_eq_true rfl) rfl rfl (fun _ h => by cases h) (by rfl) ?_
        refine mw_rv i_Choice_extend_44 rfl ?_
        first
        | (rw [gw_cov_wa hd hn] at h12
           have hw := mj_bI0.mp h12
           rw [gw_E_0] at k
           have e : gw_pr w h n s z [0] (fi, fo) = (fi, fo) := gw_pr_no (fun t ht => by simp at ht; subst ht; rw [gw_or0]; exact hw)
           rw [e] at k
           exact k σ.1 (gw_fr_rf _ _) hC)
        | (rw [gw_cov_wa hd hn] at h12
           have hw := mj_bI1.mp h12
           rw [gw_E_0] at k
           have e : gw_pr w h n s z [0] (fi, fo) = (if fo = 0 then z else fi, fo + 1) := by simp [gw_pr, gw_s1, gw_or0, hw]
           rw [e] at k
           have e0 : (nI fo = 0) ↔ fo = 0 := by
             constructor
             · intro q; apply Classical.byContradiction; intro q2; exact nI_ne0 (by omega) (by omega) q
             · intro q; subst q; rfl
           simp only [e0, Classical.not_not] at h20
           first
           | (rw [if_pos h20] at k
              exact k _ (gw_fr_up (gw_fr_up (gw_fr_rf _ _) (by simp)) (by simp)) ⟨mj_hs, mj_hn (by decide) (mj_hn (by decide) b2), mj_hn (by decide) (mj_hn (by decide) b3), mj_hn (by decide) (mj_hn (by decide) b4), mj_hn (by decide) (mj_hn (by decide) b5)⟩)
           | (rw [if_neg h20] at k
              exact k _ (gw_fr_up (gw_fr_up (gw_fr_rf _ _) (by simp)) (by simp)) ⟨mj_hs, mj_hn (by decide) (mj_hn (by decide) b2), mj_hn (by decide) (mj_hn (by decide) b3), mj_hn (by decide) (mj_hn (by decide) b4), mj_hn (by decide) (mj_hn (by decide) b5)⟩))
      · refine mw_ld 24 i_Choice_extend_23 rfl rfl rfl ?_
        refine mw_go i_Choice_extend_24 ?_
        refine mw_put (fs' := [_, _, _, _, _, _, _, _, _, _, _]) 34 i_Choice_extend_31 rfl (by repeat (first | exact mj_hs2 | exact mj_hs | assumption | refine mj_hn2 (by omega) ?_ | refine mj_hn (by omega) ?_)) (Nat.le_of_ble_eq_true rfl) rfl rfl (fun _ h => by cases h) (by rfl) ?_
        refine mw_ld 35 i_Choice_extend_34 rfl rfl rfl ?_
        refine mw_dup 36 i_Choice_extend_35 rfl rfl ?_
        refine mw_get 39 i_Choice_extend_36 rfl (by repeat (first | exact mj_hs2 | exact mj_hs | assumption | refine mj_hn2 (by omega) ?_ | refine mj_hn (by omega) ?_)) (by rfl) ?_
        refine mw_k 40 i_Choice_extend_39 rfl ?_
        refine mw_b 41 i_Choice_extend_40 rfl ?_
        rw [nI_1]
        refine mw_put (fs' := [_, _, _, _, _, _, _, _, _, _, _]) 44 i_Choice_extend_41 rfl (by repeat (first | exact mj_hs2 | exact mj_hs | assumption | refine mj_hn2 (by omega) ?_ | refine mj_hn (by omega) ?_)) (Nat.le_of_ble_eq_true rfl) rfl rfl (fun _ h => by cases h) (by rfl) ?_
        refine mw_rv i_Choice_extend_44 rfl ?_
        first
        | (rw [gw_cov_wa hd hn] at h12
           have hw := mj_bI0.mp h12
           rw [gw_E_0] at k
           have e : gw_pr w h n s z [0] (fi, fo) = (fi, fo) := gw_pr_no (fun t ht => by simp at ht; subst ht; rw [gw_or0]; exact hw)
           rw [e] at k
           exact k σ.1 (gw_fr_rf _ _) hC)
        | (rw [gw_cov_wa hd hn] at h12
           have hw := mj_bI1.mp h12
           rw [gw_E_0] at k
           have e : gw_pr w h n s z [0] (fi, fo) = (if fo = 0 then z else fi, fo + 1) := by simp [gw_pr, gw_s1, gw_or0, hw]
           rw [e] at k
           have e0 : (nI fo = 0) ↔ fo = 0 := by
             constructor
             · intro q; apply Classical.byContradiction; intro q2; exact nI_ne0 (by omega) (by omega) q
             · intro q; subst q; rfl
           simp only [e0, Classical.not_not] at h20
           first
           | (rw [if_pos h20] at k
              exact k _ (gw_fr_up (gw_fr_up (gw_fr_rf _ _) (by simp)) (by simp)) ⟨mj_hs, mj_hn (by decide) (mj_hn (by decide) b2), mj_hn (by decide) (mj_hn (by decide) b3), mj_hn (by decide) (mj_hn (by decide) b4), mj_hn (by decide) (mj_hn (by decide) b5)⟩)
           | (rw [if_neg h20] at k
              exact k _ (gw_fr_up (gw_fr_up (gw_fr_rf _ _) (by simp)) (by simp)) ⟨mj_hs, mj_hn (by decide) (mj_hn (by decide) b2), mj_hn (by decide) (mj_hn (by decide) b3), mj_hn (by decide) (mj_hn (by decide) b4), mj_hn (by decide) (mj_hn (by decide) b5)⟩))
  | succ m ih =>
    intro hm14 d i z fi fo sl sh σ Q hile hC hV hRx r2 hb k
    have ih := @ih (by omega)
    obtain ⟨u, u1⟩ := hV
    obtain ⟨s2, hR⟩ := hRx
    have loop : ∀ (j q : Nat) (f : Nat → mj_C) (fi2 : Int32) (fo2 : Nat), q + j = n → gw_fr [41] σ.1 f → gw_ch f ol oh up sz fi2 (nI fo2) lo hi rl rh → fo2 + (gw_E j q (m + 1)).length < 2 ^ 31 →
        (∀ f', gw_fr [41] σ.1 f' → gw_ch f' ol oh up sz (gw_pr w h n s z (gw_E j q (m + 1)) (fi2, fo2)).1 (nI (gw_pr w h n s z (gw_E j q (m + 1)) (fi2, fo2)).2) lo hi rl rh → Q (f', σ.2)) → mj_Wp X (d + (m + 1) + 1) y_Choice_extend 48 [some (.ref 41), some (.int (nI (m + 1))), some (.int (nI i)), some (.int z), some (.long sl), none, some (.long sh), none, some (.int (nI q))] [] (f, σ.2) (mj_U Q) := by
      intro j
      induction j with
      | zero =>
        intro q f fi2 fo2 hq f1 f2 hb2 kk
        obtain ⟨b1, b2, b3, b4, b5⟩ := id f2
        have u1f : f 4 = _ := (f1 4 (by decide)).trans u1
        have hRf := gw_rm_fr f1 (by decide) (by decide) (by decide) (by decide) hR
        obtain ⟨wl, ps, c1, -⟩ := id hRf
        refine mw_ld 50 i_Choice_extend_48 rfl rfl rfl ?_
        refine mw_if0 53 i_Choice_extend_50 rfl (nI_pos (by omega)) ?_
        refine mw_ld 55 i_Choice_extend_53 rfl rfl rfl ?_
        refine mw_ld 56 i_Choice_extend_55 rfl rfl rfl ?_
        refine mw_b 57 i_Choice_extend_56 rfl ?_
        refine mw_ld 58 i_Choice_extend_57 rfl rfl rfl ?_
        refine mw_get 61 i_Choice_extend_58 rfl (by repeat (first | exact mj_hs2 | exact mj_hs | assumption | refine mj_hn2 (by omega) ?_ | refine mj_hn (by omega) ?_)) (by rfl) ?_
        refine mw_get 64 i_Choice_extend_61 rfl (by repeat (first | exact mj_hs2 | exact mj_hs | assumption | refine mj_hn2 (by omega) ?_ | refine mj_hn (by omega) ?_)) (by rfl) ?_
        refine mw_cv1 67 i_Choice_extend_64 rfl (by repeat (first | exact mj_hs2 | exact mj_hs | assumption | refine mj_hn2 (by omega) ?_ | refine mj_hn (by omega) ?_)) (sp_Room_posts (σ := (f, σ.2)) hRf ?_) rfl rfl (Nat.le_of_ble_eq_true rfl) (Nat.le_of_ble_eq_true rfl)
        refine mw_ic1 i_Choice_extend_67 (by rw [nI_add]; exact nI_lt (by omega) (by omega)) ?_
        refine mw_rv i_Choice_extend_148 rfl ?_
        rw [gw_E_none (by omega)] at kk
        exact kk f f1 f2
      | succ j IH =>
        intro q f fi2 fo2 hq f1 f2 hb2 kk
        obtain ⟨b1, b2, b3, b4, b5⟩ := id f2
        have u1f : f 4 = _ := (f1 4 (by decide)).trans u1
        have hRf := gw_rm_fr f1 (by decide) (by decide) (by decide) (by decide) hR
        obtain ⟨wl, ps, c1, -⟩ := id hRf
        have ej : n - (q + 1) = j := by omega
        have elen : (gw_E (j + 1) q (m + 1)).length = (gw_E j (q + 1) m).length + (gw_E j (q + 1) (m + 1)).length := by rw [gw_E_s, List.length_append, List.length_map]
        rcases Nat.lt_or_ge (j + 1) (m + 1) with hjm | hjm
        · skip
          refine mw_ld 50 i_Choice_extend_48 rfl rfl rfl ?_
          refine mw_if0 53 i_Choice_extend_50 rfl (nI_pos (by omega)) ?_
          refine mw_ld 55 i_Choice_extend_53 rfl rfl rfl ?_
          refine mw_ld 56 i_Choice_extend_55 rfl rfl rfl ?_
          refine mw_b 57 i_Choice_extend_56 rfl ?_
          refine mw_ld 58 i_Choice_extend_57 rfl rfl rfl ?_
          refine mw_get 61 i_Choice_extend_58 rfl (by repeat (first | exact mj_hs2 | exact mj_hs | assumption | refine mj_hn2 (by omega) ?_ | refine mj_hn (by omega) ?_)) (by rfl) ?_
          refine mw_get 64 i_Choice_extend_61 rfl (by repeat (first | exact mj_hs2 | exact mj_hs | assumption | refine mj_hn2 (by omega) ?_ | refine mj_hn (by omega) ?_)) (by rfl) ?_
          refine mw_cv1 67 i_Choice_extend_64 rfl (by repeat (first | exact mj_hs2 | exact mj_hs | assumption | refine mj_hn2 (by omega) ?_ | refine mj_hn (by omega) ?_)) (sp_Room_posts (σ := (f, σ.2)) hRf ?_) rfl rfl (Nat.le_of_ble_eq_true rfl) (Nat.le_of_ble_eq_true rfl)
          refine mw_ic1 i_Choice_extend_67 (by rw [nI_add]; exact nI_lt (by omega) (by omega)) ?_
          refine mw_rv i_Choice_extend_148 rfl ?_
          rw [gw_E_none (by omega)] at kk
          exact kk f f1 f2
        · skip
          refine mw_ld 50 i_Choice_extend_48 rfl rfl rfl ?_
          refine mw_if0 53 i_Choice_extend_50 rfl (nI_pos (by omega)) ?_
          refine mw_ld 55 i_Choice_extend_53 rfl rfl rfl ?_
          refine mw_ld 56 i_Choice_extend_55 rfl rfl rfl ?_
          refine mw_b 57 i_Choice_extend_56 rfl ?_
          refine mw_ld 58 i_Choice_extend_57 rfl rfl rfl ?_
          refine mw_get 61 i_Choice_extend_58 rfl (by repeat (first | exact mj_hs2 | exact mj_hs | assumption | refine mj_hn2 (by omega) ?_ | refine mj_hn (by omega) ?_)) (by rfl) ?_
          refine mw_get 64 i_Choice_extend_61 rfl (by repeat (first | exact mj_hs2 | exact mj_hs | assumption | refine mj_hn2 (by omega) ?_ | refine mj_hn (by omega) ?_)) (by rfl) ?_
          refine mw_cv1 67 i_Choice_extend_64 rfl (by repeat (first | exact mj_hs2 | exact mj_hs | assumption | refine mj_hn2 (by omega) ?_ | refine mj_hn (by omega) ?_)) (sp_Room_posts (σ := (f, σ.2)) hRf ?_) rfl rfl (Nat.le_of_ble_eq_true rfl) (Nat.le_of_ble_eq_true rfl)
          refine mw_ic0 70 i_Choice_extend_67 rfl (by rw [nI_add]; exact nI_nlt (by omega) (by omega)) ?_
          refine mw_ld 72 i_Choice_extend_70 rfl rfl rfl ?_
          refine mw_k 74 i_Choice_extend_72 rfl ?_
          refine mw_ic0 77 i_Choice_extend_74 rfl (nI_ge (a := q) (b := 14) (by omega) (by decide)) ?_
          refine mw_ld 78 i_Choice_extend_77 rfl rfl rfl ?_
          refine mw_ld 80 i_Choice_extend_78 rfl rfl rfl ?_
          refine mw_ld 81 i_Choice_extend_80 rfl rfl rfl ?_
          refine mw_get 84 i_Choice_extend_81 rfl (by repeat (first | exact mj_hs2 | exact mj_hs | assumption | refine mj_hn2 (by omega) ?_ | refine mj_hn (by omega) ?_)) (by rfl) ?_
          refine mw_ld 86 i_Choice_extend_84 rfl rfl rfl ?_
          refine mw_lald 87 q i_Choice_extend_86 rfl (by repeat (first | exact mj_hs2 | exact mj_hs | assumption | refine mj_hn2 (by omega) ?_ | refine mj_hn (by omega) ?_)) rfl (by omega) (by decide) ?_
          refine mw_bl 88 i_Choice_extend_87 rfl ?_
          refine mw_ld 90 i_Choice_extend_88 rfl rfl rfl ?_
          refine mw_ld 91 i_Choice_extend_90 rfl rfl rfl ?_
          refine mw_get 94 i_Choice_extend_91 rfl (by repeat (first | exact mj_hs2 | exact mj_hs | assumption | refine mj_hn2 (by omega) ?_ | refine mj_hn (by omega) ?_)) (by rfl) ?_
          refine mw_ld 96 i_Choice_extend_94 rfl rfl rfl ?_
          refine mw_lald 97 q i_Choice_extend_96 rfl (by repeat (first | exact mj_hs2 | exact mj_hs | assumption | refine mj_hn2 (by omega) ?_ | refine mj_hn (by omega) ?_)) rfl (by omega) (by decide) ?_
          refine mw_bl 98 i_Choice_extend_97 rfl ?_
          refine mw_cv1 101 i_Choice_extend_98 rfl (by repeat (first | exact mj_hs2 | exact mj_hs | assumption | refine mj_hn2 (by omega) ?_ | refine mj_hn (by omega) ?_)) (sp_Choice_isAll (σ := (f, σ.2)) f2 hO (gw_rp_or r2 (hG q (by omega)).2) ?_) rfl rfl (Nat.le_of_ble_eq_true rfl) (Nat.le_of_ble_eq_true rfl)
          refine mw_if 104 i_Choice_extend_101 rfl (fun h101 => ?_) (fun h101 => ?_)
          · refine mw_ld 106 i_Choice_extend_105 rfl rfl rfl ?_
            refine mw_ld 107 i_Choice_extend_106 rfl rfl rfl ?_
            refine mw_k 108 i_Choice_extend_107 rfl ?_
            refine mw_b 109 i_Choice_extend_108 rfl ?_
            rw [nI_pred]
            refine mw_ld 111 i_Choice_extend_109 rfl rfl rfl ?_
            refine mw_k 112 i_Choice_extend_111 rfl ?_
            refine mw_b 113 i_Choice_extend_112 rfl ?_
            rw [nI_1]
            refine mw_ld 114 i_Choice_extend_113 rfl rfl rfl ?_
            refine mw_k 115 i_Choice_extend_114 rfl ?_
            refine mw_ld 117 i_Choice_extend_115 rfl rfl rfl ?_
            refine mw_b 118 i_Choice_extend_117 rfl ?_
            refine mw_b 119 i_Choice_extend_118 rfl ?_
            refine mw_ld 121 i_Choice_extend_119 rfl rfl rfl ?_
            refine mw_ld 122 i_Choice_extend_121 rfl rfl rfl ?_
            refine mw_get 125 i_Choice_extend_122 rfl (by repeat (first | exact mj_hs2 | exact mj_hs | assumption | refine mj_hn2 (by omega) ?_ | refine mj_hn (by omega) ?_)) (by rfl) ?_
            refine mw_ld 127 i_Choice_extend_125 rfl rfl rfl ?_
            refine mw_lald 128 q i_Choice_extend_127 rfl (by repeat (first | exact mj_hs2 | exact mj_hs | assumption | refine mj_hn2 (by omega) ?_ | refine mj_hn (by omega) ?_)) rfl (by omega) (by decide) ?_
            refine mw_bl 129 i_Choice_extend_128 rfl ?_
            refine mw_ld 131 i_Choice_extend_129 rfl rfl rfl ?_
            refine mw_ld 132 i_Choice_extend_131 rfl rfl rfl ?_
            refine mw_get 135 i_Choice_extend_132 rfl (by repeat (first | exact mj_hs2 | exact mj_hs | assumption | refine mj_hn2 (by omega) ?_ | refine mj_hn (by omega) ?_)) (by rfl) ?_
            refine mw_ld 137 i_Choice_extend_135 rfl rfl rfl ?_
            refine mw_lald 138 q i_Choice_extend_137 rfl (by repeat (first | exact mj_hs2 | exact mj_hs | assumption | refine mj_hn2 (by omega) ?_ | refine mj_hn (by omega) ?_)) rfl (by omega) (by decide) ?_
            refine mw_bl 139 i_Choice_extend_138 rfl ?_
            refine mw_cv0 142 i_Choice_extend_139 rfl (by repeat (first | exact mj_hs2 | exact mj_hs | assumption | refine mj_hn2 (by omega) ?_ | refine mj_hn (by omega) ?_)) (ih (d := d) (σ := (f, σ.2)) (z := z ||| gw_bit q) (fi := fi2) (fo := fo2) (i := q + 1) (by omega) f2 ⟨u, u1f⟩ ⟨s2, hRf⟩ (gw_rp_cg (fun c _ => (gw_ss_or (by omega)).symm) (gw_rp_or r2 (hG q (by omega)).1)) (by rw [ej]; omega) (fun f3 f4 f5 => ?_)) rfl rfl (Nat.le_of_ble_eq_true rfl) (Nat.le_of_ble_eq_true rfl)
            refine mw_inc (ls' := [_, _, _, _, _, _, _, _, _]) 145 (nI (q + 1)) i_Choice_extend_142 rfl rfl rfl (nI_1 q) rfl ?_
            refine mw_go i_Choice_extend_145 ?_
            rw [ej] at f5
            refine IH (q + 1) f3 _ _ (by omega) (gw_fr_tr f1 f4) f5 ?_ ?_
            · have := gw_pr_le (w := w) (h := h) (n := n) (s := s) (z := z ||| gw_bit q) (L := gw_E j (q + 1) m) (q := (fi2, fo2))
              have e2 : ((fi2, fo2) : Int32 × Nat).2 = fo2 := rfl
              omega
            · rw [gw_E_s, gw_pr_app, gw_pr_map] at kk
              exact kk
          · refine mw_rv i_Choice_extend_104 rfl ?_
            have hcv := mj_bI0.mp (Classical.not_not.mp h101)
            have e : gw_pr w h n s z (gw_E (j + 1) q (m + 1)) (fi2, fo2) = (fi2, fo2) := gw_pr_no (fun t ht => gw_prune hd hn hcv (fun x hx => by
              have := gw_E_bt (by omega) ht x hx
              omega))
            rw [e] at kk
            exact kk f f1 f2
    refine mw_in (l0 := [some (.ref 41), some (.int (nI (m + 1))), some (.int (nI i)), some (.int z), some (.long sl), none, some (.long sh), none, none]) rfl ?_
    refine mw_ld 1 i_Choice_extend_0 rfl rfl rfl ?_
    refine mw_if1 i_Choice_extend_1 (by show (0 : Int32) < nI (m + 1); exact nI_lt (a := 0) (by omega) (by omega)) ?_
    refine mw_ld 46 i_Choice_extend_45 rfl rfl rfl ?_
    refine mw_st (ls' := [_, _, _, _, _, _, _, _, _]) 48 i_Choice_extend_46 rfl rfl rfl rfl ?_
    exact loop (n - i) i σ.1 fi fo (by omega) (gw_fr_rf _ _) hC hb k
