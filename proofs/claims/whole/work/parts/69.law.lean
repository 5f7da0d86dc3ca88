/-! the law: a call -/
theorem gw_LI_s {t : Nat} {σ : mj_H} {f f2 : Nat → mj_C} {w h n : Nat} {s : Nat → Int32} {kp : Nat} {hn : Nat → Nat} {hs : Nat → Nat → Int32} {P : List gw_Row} {sz : Int32} (hd : gw_dim w h) (hv : gw_va w h n s) (hk : kp ≤ 10) (hh : ∀ j, j < kp → gw_va w h (hn j) (hs j)) (ht : gw_tr w h n P) (hkp : gw_keep σ.1 f) (hC : gw_CI f w h n s kp hn hs P sz) (hf : gw_fr gw_ML f f2) (hM : gw_MI f2 w h n s kp hs P sz) (hN : 71 ≤ σ.2.1) (hno : ∀ a, σ.2.1 ≤ a → σ.1 a = none) (h1 : σ.2.1 ≤ 71 + t) (h2 : σ.2.2 ≤ 12505 + 6 * t) : gw_LI (t + 1) (f2, σ.2) :=
  gw_LI_mk (N := σ.2.1) (q := σ.2.2) hd hv hk hh ht hC hf hM hN (fun a ha => (hkp a (by omega)).trans (hno a ha)) (by omega) (by omega)
theorem gw_LI_n {t : Nat} {σ : mj_H} {f f2 : Nat → mj_C} {w h n : Nat} {s : Nat → Int32} {kp : Nat} {hn : Nat → Nat} {hs : Nat → Nat → Int32} {P : List gw_Row} {sz : Int32} (hd : gw_dim w h) (hv : gw_va w h n s) (hk : kp ≤ 10) (hh : ∀ j, j < kp → gw_va w h (hn j) (hs j)) (ht : gw_tr w h n P) (hkp : gw_keep1 σ.2.1 σ.1 f) (hC : gw_CI f w h n s kp hn hs P sz) (hf : gw_fr gw_ML f f2) (hM : gw_MI f2 w h n s kp hs P sz) (hN : 71 ≤ σ.2.1) (hno : ∀ a, σ.2.1 ≤ a → σ.1 a = none) (h1 : σ.2.1 ≤ 71 + t) (h2 : σ.2.2 ≤ 12505 + 6 * t) : gw_LI (t + 1) (f2, σ.2.1 + 1, σ.2.2 + 6) :=
  gw_LI_mk hd hv hk hh ht hC hf hM (by omega) (fun a ha => (hkp a (by omega) (by omega)).trans (hno a (by omega))) (by omega) (by omega)
theorem gw_tr_ok {w h n : Nat} {s : Nat → Int32} {z : Int32} (hd : gw_dim w h) (hn : n ≤ 14) (hok : gw_okTree w h n s z = true) : gw_tr w h n (gw_T w h n s z.toInt.toNat) := by
  simp only [gw_okTree, Bool.and_eq_true, Bool.or_eq_true, beq_iff_eq, Bool.not_eq_true', decide_eq_false_iff_not, decide_eq_true_eq] at hok
  obtain ⟨⟨h1, h2⟩, h3⟩ := hok
  obtain ⟨N, hN, rfl⟩ := gw_in_of (k := 6) (by decide) h1
  rw [gw_tn (by omega)] at h3 ⊢
  exact gw_tr_T hd hn hN h2 (by rw [gw_T_len]; exact h3)
theorem lw_case_0 {X : mj_X} (hL : X.1 ≤ 2048) {d : Nat} {Q : Value → mj_H → Prop} {t : Nat} (ht : 4 * t + 4 ≤ X.1) {σ : mj_H} (hLI : gw_LI t σ) (ih : ∀ σ, gw_LI (t + 1) σ → mj_Wp X (d + 21) y_Law_law 18 [some (.float 1), some (.ref 0), some (.ref 55), some (.int (nI (4 * (t + 1))))] [] σ (mj_V Q)) : mj_Wp X (d + 21) y_Law_law 172 [some (.float 1), some (.ref 0), some (.ref 55), some (.int (nI (4 * t)))] [] σ (mj_V Q) := by
  obtain ⟨w, h, n, s, kp, hn, hs, P, sz, hd, hva, hkp, hhi, htr, hC, hM, hN, hno, hb1, hb2⟩ := id hLI
  have hN0 : σ.1 σ.2.1 = none := hno _ (Nat.le_refl _)
  have hCx : σ.1 0 = gw_c0 := hC.1
  have hCxx := hCx
  obtain ⟨_, _, _, _, _, _, hMx, -⟩ := id hM
  cases hok : (gw_in (X.2 (4 * t + 1)) 1 10 && gw_in (X.2 (4 * t + 2)) 1 10) with
  | false =>
    refine mw_ld 173 i_Law_law_172 rfl rfl rfl ?_
    refine mw_ld 174 i_Law_law_173 rfl rfl rfl ?_
    refine mw_ld 175 i_Law_law_174 rfl rfl rfl ?_
    refine mw_k 176 i_Law_law_175 rfl ?_
    refine mw_b 177 i_Law_law_176 rfl ?_
    rw [show (1 : Int32) = nI 1 from rfl, nI_add]
    refine mw_sald 178 (4 * t + 1) i_Law_law_177 rfl rfl (by omega) (by omega) ?_
    refine mw_ld 179 i_Law_law_178 rfl rfl rfl ?_
    refine mw_ld 180 i_Law_law_179 rfl rfl rfl ?_
    refine mw_k 181 i_Law_law_180 rfl ?_
    refine mw_b 182 i_Law_law_181 rfl ?_
    rw [show (2 : Int32) = nI 2 from rfl, nI_add]
    refine mw_sald 183 (4 * t + 2) i_Law_law_182 rfl rfl (by omega) (by omega) ?_
    refine mw_cv1 186 i_Law_law_183 rfl hCx (sp_GW_room hC hd hva.1 hva.2.1 (hn2 := hn) (hs2 := hs) (fun _ => ?_) (fun w2 h2 hd2 e1 e2 => by rw [e1, e2, gw_in_dim hd2] at hok; cases hok)) rfl rfl (Nat.le_of_ble_eq_true rfl) (Nat.le_of_ble_eq_true rfl)
    skip
    refine mw_ld 187 i_Law_law_186 rfl rfl rfl ?_
    refine mw_ld 188 i_Law_law_187 rfl rfl rfl ?_
    refine mw_ld 189 i_Law_law_188 rfl rfl rfl ?_
    refine mw_k 190 i_Law_law_189 rfl ?_
    refine mw_b 191 i_Law_law_190 rfl ?_
    rw [show (1 : Int32) = nI 1 from rfl, nI_add]
    refine mw_sald 192 (4 * t + 1) i_Law_law_191 rfl rfl (by omega) (by omega) ?_
    refine mw_ld 193 i_Law_law_192 rfl rfl rfl ?_
    refine mw_ld 194 i_Law_law_193 rfl rfl rfl ?_
    refine mw_k 195 i_Law_law_194 rfl ?_
    refine mw_b 196 i_Law_law_195 rfl ?_
    rw [show (2 : Int32) = nI 2 from rfl, nI_add]
    refine mw_sald 197 (4 * t + 2) i_Law_law_196 rfl rfl (by omega) (by omega) ?_
    refine mw_cv1 200 i_Law_law_197 rfl hMx (sp_Model_roomI hM (hs2 := hs) (fun _ => ?_) (fun w2 h2 hd2 e1 e2 => by rw [e1, e2, gw_in_dim hd2] at hok; cases hok)) rfl rfl (Nat.le_of_ble_eq_true rfl) (Nat.le_of_ble_eq_true rfl)
    refine mw_ic1 i_Law_law_200 rfl ?_
    refine mw_inc (ls' := [_, _, _, _]) 988 (nI (4 * (t + 1))) i_Law_law_985 rfl rfl rfl (by rw [show (4 : Int32) = nI 4 from rfl, nI_add]; rfl) rfl ?_
    refine mw_go i_Law_law_988 ?_
    exact ih σ (gw_LI_up hLI)
  | true =>
    refine mw_ld 173 i_Law_law_172 rfl rfl rfl ?_
    refine mw_ld 174 i_Law_law_173 rfl rfl rfl ?_
    refine mw_ld 175 i_Law_law_174 rfl rfl rfl ?_
    refine mw_k 176 i_Law_law_175 rfl ?_
    refine mw_b 177 i_Law_law_176 rfl ?_
    rw [show (1 : Int32) = nI 1 from rfl, nI_add]
    refine mw_sald 178 (4 * t + 1) i_Law_law_177 rfl rfl (by omega) (by omega) ?_
    refine mw_ld 179 i_Law_law_178 rfl rfl rfl ?_
    refine mw_ld 180 i_Law_law_179 rfl rfl rfl ?_
    refine mw_k 181 i_Law_law_180 rfl ?_
    refine mw_b 182 i_Law_law_181 rfl ?_
    rw [show (2 : Int32) = nI 2 from rfl, nI_add]
    refine mw_sald 183 (4 * t + 2) i_Law_law_182 rfl rfl (by omega) (by omega) ?_
    refine mw_cv1 186 i_Law_law_183 rfl hCx (sp_GW_room hC hd hva.1 hva.2.1 (hn2 := hn) (hs2 := hs) (fun q => absurd (hok.symm.trans q) (by decide)) (fun w2 h2 hd2 e1 e2 f hk hC2 => ?_)) rfl rfl (Nat.le_of_ble_eq_true rfl) (Nat.le_of_ble_eq_true rfl)
    have hM1 := gw_MI_keep (fun a h1 _ => hk a h1) hM
    obtain ⟨_, _, _, _, _, _, hMx, -⟩ := id hM1
    refine mw_ld 187 i_Law_law_186 rfl rfl rfl ?_
    refine mw_ld 188 i_Law_law_187 rfl rfl rfl ?_
    refine mw_ld 189 i_Law_law_188 rfl rfl rfl ?_
    refine mw_k 190 i_Law_law_189 rfl ?_
    refine mw_b 191 i_Law_law_190 rfl ?_
    rw [show (1 : Int32) = nI 1 from rfl, nI_add]
    refine mw_sald 192 (4 * t + 1) i_Law_law_191 rfl rfl (by omega) (by omega) ?_
    refine mw_ld 193 i_Law_law_192 rfl rfl rfl ?_
    refine mw_ld 194 i_Law_law_193 rfl rfl rfl ?_
    refine mw_k 195 i_Law_law_194 rfl ?_
    refine mw_b 196 i_Law_law_195 rfl ?_
    rw [show (2 : Int32) = nI 2 from rfl, nI_add]
    refine mw_sald 197 (4 * t + 2) i_Law_law_196 rfl rfl (by omega) (by omega) ?_
    refine mw_cv1 200 i_Law_law_197 rfl hMx (sp_Model_roomI (σ := (f, σ.2)) hM1 (hs2 := hs) (fun q => absurd (hok.symm.trans q) (by decide)) (fun w3 h3 hd3 e3 e4 f2 s2 hm hz hM2 => ?_)) rfl rfl (Nat.le_of_ble_eq_true rfl) (Nat.le_of_ble_eq_true rfl)
    have ew : w3 = w2 := by obtain ⟨_, p1, _, _⟩ := hd2; obtain ⟨_, p2, _, _⟩ := hd3; exact (nI_inj (by omega) (by omega)).mp (e3.symm.trans e1)
    have eh : h3 = h2 := by obtain ⟨_, _, _, p1⟩ := hd2; obtain ⟨_, _, _, p2⟩ := hd3; exact (nI_inj (by omega) (by omega)).mp (e4.symm.trans e2)
    subst ew; subst eh
    refine mw_ic1 i_Law_law_200 rfl ?_
    refine mw_inc (ls' := [_, _, _, _]) 988 (nI (4 * (t + 1))) i_Law_law_985 rfl rfl rfl (by rw [show (4 : Int32) = nI 4 from rfl, nI_add]; rfl) rfl ?_
    refine mw_go i_Law_law_988 ?_
    exact ih (f2, σ.2) (gw_LI_s hd3 (gw_va_0 hz) (Nat.zero_le _) (fun j hj => absurd hj (Nat.not_lt_zero j)) gw_tr_0 hk (hC2 s2 hz) hm hM2 hN hno hb1 hb2)
theorem lw_case_1 {X : mj_X} (hL : X.1 ≤ 2048) {d : Nat} {Q : Value → mj_H → Prop} {t : Nat} (ht : 4 * t + 4 ≤ X.1) {σ : mj_H} (hLI : gw_LI t σ) (ih : ∀ σ, gw_LI (t + 1) σ → mj_Wp X (d + 21) y_Law_law 18 [some (.float 1), some (.ref 0), some (.ref 55), some (.int (nI (4 * (t + 1))))] [] σ (mj_V Q)) : mj_Wp X (d + 21) y_Law_law 205 [some (.float 1), some (.ref 0), some (.ref 55), some (.int (nI (4 * t)))] [] σ (mj_V Q) := by
  obtain ⟨w, h, n, s, kp, hn, hs, P, sz, hd, hva, hkp, hhi, htr, hC, hM, hN, hno, hb1, hb2⟩ := id hLI
  have hN0 : σ.1 σ.2.1 = none := hno _ (Nat.le_refl _)
  have hCx : σ.1 0 = gw_c0 := hC.1
  have hCxx := hCx
  obtain ⟨_, _, _, _, _, _, hMx, -⟩ := id hM
  cases hok : gw_okWall w h n s (X.2 (4 * t + 1)) (X.2 (4 * t + 2)) (X.2 (4 * t + 3)) with
  | false =>
    refine mw_ld 206 i_Law_law_205 rfl rfl rfl ?_
    refine mw_ld 207 i_Law_law_206 rfl rfl rfl ?_
    refine mw_ld 208 i_Law_law_207 rfl rfl rfl ?_
    refine mw_k 209 i_Law_law_208 rfl ?_
    refine mw_b 210 i_Law_law_209 rfl ?_
    rw [show (1 : Int32) = nI 1 from rfl, nI_add]
    refine mw_sald 211 (4 * t + 1) i_Law_law_210 rfl rfl (by omega) (by omega) ?_
    refine mw_ld 212 i_Law_law_211 rfl rfl rfl ?_
    refine mw_ld 213 i_Law_law_212 rfl rfl rfl ?_
    refine mw_k 214 i_Law_law_213 rfl ?_
    refine mw_b 215 i_Law_law_214 rfl ?_
    rw [show (2 : Int32) = nI 2 from rfl, nI_add]
    refine mw_sald 216 (4 * t + 2) i_Law_law_215 rfl rfl (by omega) (by omega) ?_
    refine mw_ld 217 i_Law_law_216 rfl rfl rfl ?_
    refine mw_ld 218 i_Law_law_217 rfl rfl rfl ?_
    refine mw_k 219 i_Law_law_218 rfl ?_
    refine mw_b 220 i_Law_law_219 rfl ?_
    rw [show (3 : Int32) = nI 3 from rfl, nI_add]
    refine mw_sald 221 (4 * t + 3) i_Law_law_220 rfl rfl (by omega) (by omega) ?_
    refine mw_cv1 224 i_Law_law_221 rfl hCx (sp_GW_wall hC hd hva.1 hva.2.1 (fun _ f hk hC2 => ?_) (fun q => absurd (hok.symm.trans q) (by decide))) rfl rfl (Nat.le_of_ble_eq_true rfl) (Nat.le_of_ble_eq_true rfl)
    have hM1 := gw_MI_keep (fun a h1 _ => hk a h1) hM
    obtain ⟨_, _, _, _, _, _, hMx, -⟩ := id hM1
    refine mw_ld 225 i_Law_law_224 rfl rfl rfl ?_
    refine mw_ld 226 i_Law_law_225 rfl rfl rfl ?_
    refine mw_ld 227 i_Law_law_226 rfl rfl rfl ?_
    refine mw_k 228 i_Law_law_227 rfl ?_
    refine mw_b 229 i_Law_law_228 rfl ?_
    rw [show (1 : Int32) = nI 1 from rfl, nI_add]
    refine mw_sald 230 (4 * t + 1) i_Law_law_229 rfl rfl (by omega) (by omega) ?_
    refine mw_ld 231 i_Law_law_230 rfl rfl rfl ?_
    refine mw_ld 232 i_Law_law_231 rfl rfl rfl ?_
    refine mw_k 233 i_Law_law_232 rfl ?_
    refine mw_b 234 i_Law_law_233 rfl ?_
    rw [show (2 : Int32) = nI 2 from rfl, nI_add]
    refine mw_sald 235 (4 * t + 2) i_Law_law_234 rfl rfl (by omega) (by omega) ?_
    refine mw_ld 236 i_Law_law_235 rfl rfl rfl ?_
    refine mw_ld 237 i_Law_law_236 rfl rfl rfl ?_
    refine mw_k 238 i_Law_law_237 rfl ?_
    refine mw_b 239 i_Law_law_238 rfl ?_
    rw [show (3 : Int32) = nI 3 from rfl, nI_add]
    refine mw_sald 240 (4 * t + 3) i_Law_law_239 rfl rfl (by omega) (by omega) ?_
    refine mw_cv1 243 i_Law_law_240 rfl hMx (sp_Model_wall (σ := (f, σ.2)) hM1 hd hva.1 hva.2.2.1 hva.2.1 hkp (fun _ f2 hm hM2 => ?_) (fun q => absurd (hok.symm.trans q) (by decide))) rfl rfl (Nat.le_of_ble_eq_true rfl) (Nat.le_of_ble_eq_true rfl)
    refine mw_ic1 i_Law_law_243 rfl ?_
    refine mw_inc (ls' := [_, _, _, _]) 988 (nI (4 * (t + 1))) i_Law_law_985 rfl rfl rfl (by rw [show (4 : Int32) = nI 4 from rfl, nI_add]; rfl) rfl ?_
    refine mw_go i_Law_law_988 ?_
    exact ih (f2, σ.2) (gw_LI_s hd hva hkp hhi htr hk hC2 hm hM2 hN hno hb1 hb2)
  | true =>
    have hok2 := hok
    simp only [gw_okWall, Bool.and_eq_true] at hok2
    have hva2 := gw_va_wall (a := (X.2 (4 * t + 1)).toInt.toNat) (b := (X.2 (4 * t + 2)).toInt.toNat) hd hok2.1.2 hva
    refine mw_ld 206 i_Law_law_205 rfl rfl rfl ?_
    refine mw_ld 207 i_Law_law_206 rfl rfl rfl ?_
    refine mw_ld 208 i_Law_law_207 rfl rfl rfl ?_
    refine mw_k 209 i_Law_law_208 rfl ?_
    refine mw_b 210 i_Law_law_209 rfl ?_
    rw [show (1 : Int32) = nI 1 from rfl, nI_add]
    refine mw_sald 211 (4 * t + 1) i_Law_law_210 rfl rfl (by omega) (by omega) ?_
    refine mw_ld 212 i_Law_law_211 rfl rfl rfl ?_
    refine mw_ld 213 i_Law_law_212 rfl rfl rfl ?_
    refine mw_k 214 i_Law_law_213 rfl ?_
    refine mw_b 215 i_Law_law_214 rfl ?_
    rw [show (2 : Int32) = nI 2 from rfl, nI_add]
    refine mw_sald 216 (4 * t + 2) i_Law_law_215 rfl rfl (by omega) (by omega) ?_
    refine mw_ld 217 i_Law_law_216 rfl rfl rfl ?_
    refine mw_ld 218 i_Law_law_217 rfl rfl rfl ?_
    refine mw_k 219 i_Law_law_218 rfl ?_
    refine mw_b 220 i_Law_law_219 rfl ?_
    rw [show (3 : Int32) = nI 3 from rfl, nI_add]
    refine mw_sald 221 (4 * t + 3) i_Law_law_220 rfl rfl (by omega) (by omega) ?_
    refine mw_cv1 224 i_Law_law_221 rfl hCx (sp_GW_wall hC hd hva.1 hva.2.1 (fun q => absurd (hok.symm.trans q) (by decide)) (fun _ f hk hC2 => ?_)) rfl rfl (Nat.le_of_ble_eq_true rfl) (Nat.le_of_ble_eq_true rfl)
    have hM1 := gw_MI_keep (fun a h1 _ => hk a h1) hM
    obtain ⟨_, _, _, _, _, _, hMx, -⟩ := id hM1
    refine mw_ld 225 i_Law_law_224 rfl rfl rfl ?_
    refine mw_ld 226 i_Law_law_225 rfl rfl rfl ?_
    refine mw_ld 227 i_Law_law_226 rfl rfl rfl ?_
    refine mw_k 228 i_Law_law_227 rfl ?_
    refine mw_b 229 i_Law_law_228 rfl ?_
    rw [show (1 : Int32) = nI 1 from rfl, nI_add]
    refine mw_sald 230 (4 * t + 1) i_Law_law_229 rfl rfl (by omega) (by omega) ?_
    refine mw_ld 231 i_Law_law_230 rfl rfl rfl ?_
    refine mw_ld 232 i_Law_law_231 rfl rfl rfl ?_
    refine mw_k 233 i_Law_law_232 rfl ?_
    refine mw_b 234 i_Law_law_233 rfl ?_
    rw [show (2 : Int32) = nI 2 from rfl, nI_add]
    refine mw_sald 235 (4 * t + 2) i_Law_law_234 rfl rfl (by omega) (by omega) ?_
    refine mw_ld 236 i_Law_law_235 rfl rfl rfl ?_
    refine mw_ld 237 i_Law_law_236 rfl rfl rfl ?_
    refine mw_k 238 i_Law_law_237 rfl ?_
    refine mw_b 239 i_Law_law_238 rfl ?_
    rw [show (3 : Int32) = nI 3 from rfl, nI_add]
    refine mw_sald 240 (4 * t + 3) i_Law_law_239 rfl rfl (by omega) (by omega) ?_
    refine mw_cv1 243 i_Law_law_240 rfl hMx (sp_Model_wall (σ := (f, σ.2)) hM1 hd hva.1 hva.2.2.1 hva.2.1 hkp (fun q => absurd (hok.symm.trans q) (by decide)) (fun _ f2 hm hM2 => ?_)) rfl rfl (Nat.le_of_ble_eq_true rfl) (Nat.le_of_ble_eq_true rfl)
    refine mw_ic1 i_Law_law_243 rfl ?_
    refine mw_inc (ls' := [_, _, _, _]) 988 (nI (4 * (t + 1))) i_Law_law_985 rfl rfl rfl (by rw [show (4 : Int32) = nI 4 from rfl, nI_add]; rfl) rfl ?_
    refine mw_go i_Law_law_988 ?_
    exact ih (f2, σ.2) (gw_LI_s hd hva2 (by omega) (gw_va_push hkp hva hhi) gw_tr_0 hk hC2 hm hM2 hN hno hb1 hb2)
theorem lw_case_2 {X : mj_X} (hL : X.1 ≤ 2048) {d : Nat} {Q : Value → mj_H → Prop} {t : Nat} (ht : 4 * t + 4 ≤ X.1) {σ : mj_H} (hLI : gw_LI t σ) (ih : ∀ σ, gw_LI (t + 1) σ → mj_Wp X (d + 21) y_Law_law 18 [some (.float 1), some (.ref 0), some (.ref 55), some (.int (nI (4 * (t + 1))))] [] σ (mj_V Q)) : mj_Wp X (d + 21) y_Law_law 248 [some (.float 1), some (.ref 0), some (.ref 55), some (.int (nI (4 * t)))] [] σ (mj_V Q) := by
  obtain ⟨w, h, n, s, kp, hn, hs, P, sz, hd, hva, hkp, hhi, htr, hC, hM, hN, hno, hb1, hb2⟩ := id hLI
  have hN0 : σ.1 σ.2.1 = none := hno _ (Nat.le_refl _)
  have hCx : σ.1 0 = gw_c0 := hC.1
  have hCxx := hCx
  obtain ⟨_, _, _, _, _, _, hMx, -⟩ := id hM
  refine mw_ld 249 i_Law_law_248 rfl rfl rfl ?_
  refine mw_ld 250 i_Law_law_249 rfl rfl rfl ?_
  refine mw_ld 251 i_Law_law_250 rfl rfl rfl ?_
  refine mw_k 252 i_Law_law_251 rfl ?_
  refine mw_b 253 i_Law_law_252 rfl ?_
  rw [show (1 : Int32) = nI 1 from rfl, nI_add]
  refine mw_sald 254 (4 * t + 1) i_Law_law_253 rfl rfl (by omega) (by omega) ?_
  refine mw_cv1 257 i_Law_law_254 rfl hCx (sp_GW_isWall hC hd hva.1 hva.2.1 ?_) rfl rfl (Nat.le_of_ble_eq_true rfl) (Nat.le_of_ble_eq_true rfl)
  skip
  refine mw_ld 258 i_Law_law_257 rfl rfl rfl ?_
  refine mw_ld 259 i_Law_law_258 rfl rfl rfl ?_
  refine mw_ld 260 i_Law_law_259 rfl rfl rfl ?_
  refine mw_k 261 i_Law_law_260 rfl ?_
  refine mw_b 262 i_Law_law_261 rfl ?_
  rw [show (1 : Int32) = nI 1 from rfl, nI_add]
  refine mw_sald 263 (4 * t + 1) i_Law_law_262 rfl rfl (by omega) (by omega) ?_
  refine mw_cv1 266 i_Law_law_263 rfl hMx (sp_Model_isWall hM hd hva.1 hva.2.2.1 hva.2.1 hva.2.2.2 ?_) rfl rfl (Nat.le_of_ble_eq_true rfl) (Nat.le_of_ble_eq_true rfl)
  refine mw_ic1 i_Law_law_266 rfl ?_
  refine mw_inc (ls' := [_, _, _, _]) 988 (nI (4 * (t + 1))) i_Law_law_985 rfl rfl rfl (by rw [show (4 : Int32) = nI 4 from rfl, nI_add]; rfl) rfl ?_
  refine mw_go i_Law_law_988 ?_
  exact ih σ (gw_LI_up hLI)
theorem lw_case_3 {X : mj_X} (hL : X.1 ≤ 2048) {d : Nat} {Q : Value → mj_H → Prop} {t : Nat} (ht : 4 * t + 4 ≤ X.1) {σ : mj_H} (hLI : gw_LI t σ) (ih : ∀ σ, gw_LI (t + 1) σ → mj_Wp X (d + 21) y_Law_law 18 [some (.float 1), some (.ref 0), some (.ref 55), some (.int (nI (4 * (t + 1))))] [] σ (mj_V Q)) : mj_Wp X (d + 21) y_Law_law 271 [some (.float 1), some (.ref 0), some (.ref 55), some (.int (nI (4 * t)))] [] σ (mj_V Q) := by
  obtain ⟨w, h, n, s, kp, hn, hs, P, sz, hd, hva, hkp, hhi, htr, hC, hM, hN, hno, hb1, hb2⟩ := id hLI
  have hN0 : σ.1 σ.2.1 = none := hno _ (Nat.le_refl _)
  have hCx : σ.1 0 = gw_c0 := hC.1
  have hCxx := hCx
  obtain ⟨_, _, _, _, _, _, hMx, -⟩ := id hM
  refine mw_ld 272 i_Law_law_271 rfl rfl rfl ?_
  refine mw_ld 273 i_Law_law_272 rfl rfl rfl ?_
  refine mw_ld 274 i_Law_law_273 rfl rfl rfl ?_
  refine mw_k 275 i_Law_law_274 rfl ?_
  refine mw_b 276 i_Law_law_275 rfl ?_
  rw [show (1 : Int32) = nI 1 from rfl, nI_add]
  refine mw_sald 277 (4 * t + 1) i_Law_law_276 rfl rfl (by omega) (by omega) ?_
  refine mw_ld 278 i_Law_law_277 rfl rfl rfl ?_
  refine mw_ld 279 i_Law_law_278 rfl rfl rfl ?_
  refine mw_k 280 i_Law_law_279 rfl ?_
  refine mw_b 281 i_Law_law_280 rfl ?_
  rw [show (2 : Int32) = nI 2 from rfl, nI_add]
  refine mw_sald 282 (4 * t + 2) i_Law_law_281 rfl rfl (by omega) (by omega) ?_
  refine mw_cv1 285 i_Law_law_282 rfl hCx (sp_GW_sight hC hd hva.1 hva.2.1 ?_) rfl rfl (Nat.le_of_ble_eq_true rfl) (Nat.le_of_ble_eq_true rfl)
  skip
  refine mw_ld 286 i_Law_law_285 rfl rfl rfl ?_
  refine mw_ld 287 i_Law_law_286 rfl rfl rfl ?_
  refine mw_ld 288 i_Law_law_287 rfl rfl rfl ?_
  refine mw_k 289 i_Law_law_288 rfl ?_
  refine mw_b 290 i_Law_law_289 rfl ?_
  rw [show (1 : Int32) = nI 1 from rfl, nI_add]
  refine mw_sald 291 (4 * t + 1) i_Law_law_290 rfl rfl (by omega) (by omega) ?_
  refine mw_ld 292 i_Law_law_291 rfl rfl rfl ?_
  refine mw_ld 293 i_Law_law_292 rfl rfl rfl ?_
  refine mw_k 294 i_Law_law_293 rfl ?_
  refine mw_b 295 i_Law_law_294 rfl ?_
  rw [show (2 : Int32) = nI 2 from rfl, nI_add]
  refine mw_sald 296 (4 * t + 2) i_Law_law_295 rfl rfl (by omega) (by omega) ?_
  refine mw_cv1 299 i_Law_law_296 rfl hMx (sp_Model_sight hM hd hva.1 hva.2.2.1 hva.2.1 ?_) rfl rfl (Nat.le_of_ble_eq_true rfl) (Nat.le_of_ble_eq_true rfl)
  refine mw_ic1 i_Law_law_299 rfl ?_
  refine mw_inc (ls' := [_, _, _, _]) 988 (nI (4 * (t + 1))) i_Law_law_985 rfl rfl rfl (by rw [show (4 : Int32) = nI 4 from rfl, nI_add]; rfl) rfl ?_
  refine mw_go i_Law_law_988 ?_
  exact ih σ (gw_LI_up hLI)
theorem lw_case_4 {X : mj_X} (hL : X.1 ≤ 2048) {d : Nat} {Q : Value → mj_H → Prop} {t : Nat} (ht : 4 * t + 4 ≤ X.1) {σ : mj_H} (hLI : gw_LI t σ) (ih : ∀ σ, gw_LI (t + 1) σ → mj_Wp X (d + 21) y_Law_law 18 [some (.float 1), some (.ref 0), some (.ref 55), some (.int (nI (4 * (t + 1))))] [] σ (mj_V Q)) : mj_Wp X (d + 21) y_Law_law 304 [some (.float 1), some (.ref 0), some (.ref 55), some (.int (nI (4 * t)))] [] σ (mj_V Q) := by
  obtain ⟨w, h, n, s, kp, hn, hs, P, sz, hd, hva, hkp, hhi, htr, hC, hM, hN, hno, hb1, hb2⟩ := id hLI
  have hN0 : σ.1 σ.2.1 = none := hno _ (Nat.le_refl _)
  have hCx : σ.1 0 = gw_c0 := hC.1
  have hCxx := hCx
  obtain ⟨_, _, _, _, _, _, hMx, -⟩ := id hM
  cases hok : gw_okPost w h n s (X.2 (4 * t + 1)) (X.2 (4 * t + 2)) with
  | false =>
    refine mw_ld 305 i_Law_law_304 rfl rfl rfl ?_
    refine mw_ld 306 i_Law_law_305 rfl rfl rfl ?_
    refine mw_ld 307 i_Law_law_306 rfl rfl rfl ?_
    refine mw_k 308 i_Law_law_307 rfl ?_
    refine mw_b 309 i_Law_law_308 rfl ?_
    rw [show (1 : Int32) = nI 1 from rfl, nI_add]
    refine mw_sald 310 (4 * t + 1) i_Law_law_309 rfl rfl (by omega) (by omega) ?_
    refine mw_ld 311 i_Law_law_310 rfl rfl rfl ?_
    refine mw_ld 312 i_Law_law_311 rfl rfl rfl ?_
    refine mw_k 313 i_Law_law_312 rfl ?_
    refine mw_b 314 i_Law_law_313 rfl ?_
    rw [show (2 : Int32) = nI 2 from rfl, nI_add]
    refine mw_sald 315 (4 * t + 2) i_Law_law_314 rfl rfl (by omega) (by omega) ?_
    refine mw_cv1 318 i_Law_law_315 rfl hCx (sp_GW_post hC hd hva.1 hva.2.1 hN hN0 (fun _ => ?_) (fun q => absurd (hok.symm.trans q) (by decide))) rfl rfl (Nat.le_of_ble_eq_true rfl) (Nat.le_of_ble_eq_true rfl)
    skip
    refine mw_ld 319 i_Law_law_318 rfl rfl rfl ?_
    refine mw_ld 320 i_Law_law_319 rfl rfl rfl ?_
    refine mw_ld 321 i_Law_law_320 rfl rfl rfl ?_
    refine mw_k 322 i_Law_law_321 rfl ?_
    refine mw_b 323 i_Law_law_322 rfl ?_
    rw [show (1 : Int32) = nI 1 from rfl, nI_add]
    refine mw_sald 324 (4 * t + 1) i_Law_law_323 rfl rfl (by omega) (by omega) ?_
    refine mw_ld 325 i_Law_law_324 rfl rfl rfl ?_
    refine mw_ld 326 i_Law_law_325 rfl rfl rfl ?_
    refine mw_k 327 i_Law_law_326 rfl ?_
    refine mw_b 328 i_Law_law_327 rfl ?_
    rw [show (2 : Int32) = nI 2 from rfl, nI_add]
    refine mw_sald 329 (4 * t + 2) i_Law_law_328 rfl rfl (by omega) (by omega) ?_
    refine mw_cv1 332 i_Law_law_329 rfl hMx (sp_Model_post hM hd hva.1 hva.2.2.1 hva.2.1 hkp (fun _ => ?_) (fun q => absurd (hok.symm.trans q) (by decide))) rfl rfl (Nat.le_of_ble_eq_true rfl) (Nat.le_of_ble_eq_true rfl)
    refine mw_ic1 i_Law_law_332 rfl ?_
    refine mw_inc (ls' := [_, _, _, _]) 988 (nI (4 * (t + 1))) i_Law_law_985 rfl rfl rfl (by rw [show (4 : Int32) = nI 4 from rfl, nI_add]; rfl) rfl ?_
    refine mw_go i_Law_law_988 ?_
    exact ih σ (gw_LI_up hLI)
  | true =>
    have hok2 := hok
    simp only [gw_okPost, Bool.and_eq_true, decide_eq_true_eq] at hok2
    have hva2 := gw_va_post hd hok2.2 hok2.1.1.1 hok2.1.1.2 hva
    refine mw_ld 305 i_Law_law_304 rfl rfl rfl ?_
    refine mw_ld 306 i_Law_law_305 rfl rfl rfl ?_
    refine mw_ld 307 i_Law_law_306 rfl rfl rfl ?_
    refine mw_k 308 i_Law_law_307 rfl ?_
    refine mw_b 309 i_Law_law_308 rfl ?_
    rw [show (1 : Int32) = nI 1 from rfl, nI_add]
    refine mw_sald 310 (4 * t + 1) i_Law_law_309 rfl rfl (by omega) (by omega) ?_
    refine mw_ld 311 i_Law_law_310 rfl rfl rfl ?_
    refine mw_ld 312 i_Law_law_311 rfl rfl rfl ?_
    refine mw_k 313 i_Law_law_312 rfl ?_
    refine mw_b 314 i_Law_law_313 rfl ?_
    rw [show (2 : Int32) = nI 2 from rfl, nI_add]
    refine mw_sald 315 (4 * t + 2) i_Law_law_314 rfl rfl (by omega) (by omega) ?_
    refine mw_cv1 318 i_Law_law_315 rfl hCx (sp_GW_post hC hd hva.1 hva.2.1 hN hN0 (fun q => absurd (hok.symm.trans q) (by decide)) (fun _ f hk hC2 => ?_)) rfl rfl (Nat.le_of_ble_eq_true rfl) (Nat.le_of_ble_eq_true rfl)
    have hM1 := gw_MI_keep (fun a h1 h2 => hk a h1 (by omega)) hM
    obtain ⟨_, _, _, _, _, _, hMx, -⟩ := id hM1
    refine mw_ld 319 i_Law_law_318 rfl rfl rfl ?_
    refine mw_ld 320 i_Law_law_319 rfl rfl rfl ?_
    refine mw_ld 321 i_Law_law_320 rfl rfl rfl ?_
    refine mw_k 322 i_Law_law_321 rfl ?_
    refine mw_b 323 i_Law_law_322 rfl ?_
    rw [show (1 : Int32) = nI 1 from rfl, nI_add]
    refine mw_sald 324 (4 * t + 1) i_Law_law_323 rfl rfl (by omega) (by omega) ?_
    refine mw_ld 325 i_Law_law_324 rfl rfl rfl ?_
    refine mw_ld 326 i_Law_law_325 rfl rfl rfl ?_
    refine mw_k 327 i_Law_law_326 rfl ?_
    refine mw_b 328 i_Law_law_327 rfl ?_
    rw [show (2 : Int32) = nI 2 from rfl, nI_add]
    refine mw_sald 329 (4 * t + 2) i_Law_law_328 rfl rfl (by omega) (by omega) ?_
    refine mw_cv1 332 i_Law_law_329 rfl hMx (sp_Model_post (σ := (f, σ.2.1 + 1, σ.2.2 + 6)) hM1 hd hva.1 hva.2.2.1 hva.2.1 hkp (fun q => absurd (hok.symm.trans q) (by decide)) (fun _ f2 hm hM2 => ?_)) rfl rfl (Nat.le_of_ble_eq_true rfl) (Nat.le_of_ble_eq_true rfl)
    refine mw_ic1 i_Law_law_332 rfl ?_
    refine mw_inc (ls' := [_, _, _, _]) 988 (nI (4 * (t + 1))) i_Law_law_985 rfl rfl rfl (by rw [show (4 : Int32) = nI 4 from rfl, nI_add]; rfl) rfl ?_
    refine mw_go i_Law_law_988 ?_
    exact ih (f2, σ.2.1 + 1, σ.2.2 + 6) (gw_LI_n hd hva2 (by omega) (gw_va_push hkp hva hhi) gw_tr_0 hk hC2 hm hM2 hN hno hb1 hb2)
theorem lw_case_5 {X : mj_X} (hL : X.1 ≤ 2048) {d : Nat} {Q : Value → mj_H → Prop} {t : Nat} (ht : 4 * t + 4 ≤ X.1) {σ : mj_H} (hLI : gw_LI t σ) (ih : ∀ σ, gw_LI (t + 1) σ → mj_Wp X (d + 21) y_Law_law 18 [some (.float 1), some (.ref 0), some (.ref 55), some (.int (nI (4 * (t + 1))))] [] σ (mj_V Q)) : mj_Wp X (d + 21) y_Law_law 337 [some (.float 1), some (.ref 0), some (.ref 55), some (.int (nI (4 * t)))] [] σ (mj_V Q) := by
  obtain ⟨w, h, n, s, kp, hn, hs, P, sz, hd, hva, hkp, hhi, htr, hC, hM, hN, hno, hb1, hb2⟩ := id hLI
  have hN0 : σ.1 σ.2.1 = none := hno _ (Nat.le_refl _)
  have hCx : σ.1 0 = gw_c0 := hC.1
  have hCxx := hCx
  obtain ⟨_, _, _, _, _, _, hMx, -⟩ := id hM
  cases hok : gw_okAim n s (X.2 (4 * t + 1)) (X.2 (4 * t + 2)) (X.2 (4 * t + 3)) with
  | false =>
    refine mw_ld 338 i_Law_law_337 rfl rfl rfl ?_
    refine mw_ld 339 i_Law_law_338 rfl rfl rfl ?_
    refine mw_ld 340 i_Law_law_339 rfl rfl rfl ?_
    refine mw_k 341 i_Law_law_340 rfl ?_
    refine mw_b 342 i_Law_law_341 rfl ?_
    rw [show (1 : Int32) = nI 1 from rfl, nI_add]
    refine mw_sald 343 (4 * t + 1) i_Law_law_342 rfl rfl (by omega) (by omega) ?_
    refine mw_ld 344 i_Law_law_343 rfl rfl rfl ?_
    refine mw_ld 345 i_Law_law_344 rfl rfl rfl ?_
    refine mw_k 346 i_Law_law_345 rfl ?_
    refine mw_b 347 i_Law_law_346 rfl ?_
    rw [show (2 : Int32) = nI 2 from rfl, nI_add]
    refine mw_sald 348 (4 * t + 2) i_Law_law_347 rfl rfl (by omega) (by omega) ?_
    refine mw_ld 349 i_Law_law_348 rfl rfl rfl ?_
    refine mw_ld 350 i_Law_law_349 rfl rfl rfl ?_
    refine mw_k 351 i_Law_law_350 rfl ?_
    refine mw_b 352 i_Law_law_351 rfl ?_
    rw [show (3 : Int32) = nI 3 from rfl, nI_add]
    refine mw_sald 353 (4 * t + 3) i_Law_law_352 rfl rfl (by omega) (by omega) ?_
    refine mw_cv1 356 i_Law_law_353 rfl hCx (sp_GW_aim hC hd hva.1 hva.2.1 hN hN0 (fun _ => ?_) (fun q => absurd (hok.symm.trans q) (by decide))) rfl rfl (Nat.le_of_ble_eq_true rfl) (Nat.le_of_ble_eq_true rfl)
    skip
    refine mw_ld 357 i_Law_law_356 rfl rfl rfl ?_
    refine mw_ld 358 i_Law_law_357 rfl rfl rfl ?_
    refine mw_ld 359 i_Law_law_358 rfl rfl rfl ?_
    refine mw_k 360 i_Law_law_359 rfl ?_
    refine mw_b 361 i_Law_law_360 rfl ?_
    rw [show (1 : Int32) = nI 1 from rfl, nI_add]
    refine mw_sald 362 (4 * t + 1) i_Law_law_361 rfl rfl (by omega) (by omega) ?_
    refine mw_ld 363 i_Law_law_362 rfl rfl rfl ?_
    refine mw_ld 364 i_Law_law_363 rfl rfl rfl ?_
    refine mw_k 365 i_Law_law_364 rfl ?_
    refine mw_b 366 i_Law_law_365 rfl ?_
    rw [show (2 : Int32) = nI 2 from rfl, nI_add]
    refine mw_sald 367 (4 * t + 2) i_Law_law_366 rfl rfl (by omega) (by omega) ?_
    refine mw_ld 368 i_Law_law_367 rfl rfl rfl ?_
    refine mw_ld 369 i_Law_law_368 rfl rfl rfl ?_
    refine mw_k 370 i_Law_law_369 rfl ?_
    refine mw_b 371 i_Law_law_370 rfl ?_
    rw [show (3 : Int32) = nI 3 from rfl, nI_add]
    refine mw_sald 372 (4 * t + 3) i_Law_law_371 rfl rfl (by omega) (by omega) ?_
    refine mw_cv1 375 i_Law_law_372 rfl hMx (sp_Model_aim hM hd hva.1 hva.2.2.1 hva.2.1 hkp (fun _ => ?_) (fun q => absurd (hok.symm.trans q) (by decide))) rfl rfl (Nat.le_of_ble_eq_true rfl) (Nat.le_of_ble_eq_true rfl)
    refine mw_ic1 i_Law_law_375 rfl ?_
    refine mw_inc (ls' := [_, _, _, _]) 988 (nI (4 * (t + 1))) i_Law_law_985 rfl rfl rfl (by rw [show (4 : Int32) = nI 4 from rfl, nI_add]; rfl) rfl ?_
    refine mw_go i_Law_law_988 ?_
    exact ih σ (gw_LI_up hLI)
  | true =>
    have hok2 := hok
    simp only [gw_okAim, Bool.and_eq_true] at hok2
    obtain ⟨z, hz, ez⟩ := gw_isP_of hok2.1.1
    have hva2 : gw_va w h n (gw_sAim s (X.2 (4 * t + 1)).toInt.toNat (X.2 (4 * t + 2)) (X.2 (4 * t + 3))) := by
      have h14 := hva.1
      rw [ez, gw_tn (by omega)]; exact gw_va_aim hz hok2.1.2 hva
    refine mw_ld 338 i_Law_law_337 rfl rfl rfl ?_
    refine mw_ld 339 i_Law_law_338 rfl rfl rfl ?_
    refine mw_ld 340 i_Law_law_339 rfl rfl rfl ?_
    refine mw_k 341 i_Law_law_340 rfl ?_
    refine mw_b 342 i_Law_law_341 rfl ?_
    rw [show (1 : Int32) = nI 1 from rfl, nI_add]
    refine mw_sald 343 (4 * t + 1) i_Law_law_342 rfl rfl (by omega) (by omega) ?_
    refine mw_ld 344 i_Law_law_343 rfl rfl rfl ?_
    refine mw_ld 345 i_Law_law_344 rfl rfl rfl ?_
    refine mw_k 346 i_Law_law_345 rfl ?_
    refine mw_b 347 i_Law_law_346 rfl ?_
    rw [show (2 : Int32) = nI 2 from rfl, nI_add]
    refine mw_sald 348 (4 * t + 2) i_Law_law_347 rfl rfl (by omega) (by omega) ?_
    refine mw_ld 349 i_Law_law_348 rfl rfl rfl ?_
    refine mw_ld 350 i_Law_law_349 rfl rfl rfl ?_
    refine mw_k 351 i_Law_law_350 rfl ?_
    refine mw_b 352 i_Law_law_351 rfl ?_
    rw [show (3 : Int32) = nI 3 from rfl, nI_add]
    refine mw_sald 353 (4 * t + 3) i_Law_law_352 rfl rfl (by omega) (by omega) ?_
    refine mw_cv1 356 i_Law_law_353 rfl hCx (sp_GW_aim hC hd hva.1 hva.2.1 hN hN0 (fun q => absurd (hok.symm.trans q) (by decide)) (fun _ f hk hC2 => ?_)) rfl rfl (Nat.le_of_ble_eq_true rfl) (Nat.le_of_ble_eq_true rfl)
    have hM1 := gw_MI_keep (fun a h1 h2 => hk a h1 (by omega)) hM
    obtain ⟨_, _, _, _, _, _, hMx, -⟩ := id hM1
    refine mw_ld 357 i_Law_law_356 rfl rfl rfl ?_
    refine mw_ld 358 i_Law_law_357 rfl rfl rfl ?_
    refine mw_ld 359 i_Law_law_358 rfl rfl rfl ?_
    refine mw_k 360 i_Law_law_359 rfl ?_
    refine mw_b 361 i_Law_law_360 rfl ?_
    rw [show (1 : Int32) = nI 1 from rfl, nI_add]
    refine mw_sald 362 (4 * t + 1) i_Law_law_361 rfl rfl (by omega) (by omega) ?_
    refine mw_ld 363 i_Law_law_362 rfl rfl rfl ?_
    refine mw_ld 364 i_Law_law_363 rfl rfl rfl ?_
    refine mw_k 365 i_Law_law_364 rfl ?_
    refine mw_b 366 i_Law_law_365 rfl ?_
    rw [show (2 : Int32) = nI 2 from rfl, nI_add]
    refine mw_sald 367 (4 * t + 2) i_Law_law_366 rfl rfl (by omega) (by omega) ?_
    refine mw_ld 368 i_Law_law_367 rfl rfl rfl ?_
    refine mw_ld 369 i_Law_law_368 rfl rfl rfl ?_
    refine mw_k 370 i_Law_law_369 rfl ?_
    refine mw_b 371 i_Law_law_370 rfl ?_
    rw [show (3 : Int32) = nI 3 from rfl, nI_add]
    refine mw_sald 372 (4 * t + 3) i_Law_law_371 rfl rfl (by omega) (by omega) ?_
    refine mw_cv1 375 i_Law_law_372 rfl hMx (sp_Model_aim (σ := (f, σ.2.1 + 1, σ.2.2 + 6)) hM1 hd hva.1 hva.2.2.1 hva.2.1 hkp (fun q => absurd (hok.symm.trans q) (by decide)) (fun _ f2 hm hM2 => ?_)) rfl rfl (Nat.le_of_ble_eq_true rfl) (Nat.le_of_ble_eq_true rfl)
    refine mw_ic1 i_Law_law_375 rfl ?_
    refine mw_inc (ls' := [_, _, _, _]) 988 (nI (4 * (t + 1))) i_Law_law_985 rfl rfl rfl (by rw [show (4 : Int32) = nI 4 from rfl, nI_add]; rfl) rfl ?_
    refine mw_go i_Law_law_988 ?_
    exact ih (f2, σ.2.1 + 1, σ.2.2 + 6) (gw_LI_n hd hva2 (by omega) (gw_va_push hkp hva hhi) gw_tr_0 hk hC2 hm hM2 hN hno hb1 hb2)
theorem lw_case_6 {X : mj_X} (hL : X.1 ≤ 2048) {d : Nat} {Q : Value → mj_H → Prop} {t : Nat} (ht : 4 * t + 4 ≤ X.1) {σ : mj_H} (hLI : gw_LI t σ) (ih : ∀ σ, gw_LI (t + 1) σ → mj_Wp X (d + 21) y_Law_law 18 [some (.float 1), some (.ref 0), some (.ref 55), some (.int (nI (4 * (t + 1))))] [] σ (mj_V Q)) : mj_Wp X (d + 21) y_Law_law 380 [some (.float 1), some (.ref 0), some (.ref 55), some (.int (nI (4 * t)))] [] σ (mj_V Q) := by
  obtain ⟨w, h, n, s, kp, hn, hs, P, sz, hd, hva, hkp, hhi, htr, hC, hM, hN, hno, hb1, hb2⟩ := id hLI
  have hN0 : σ.1 σ.2.1 = none := hno _ (Nat.le_refl _)
  have hCx : σ.1 0 = gw_c0 := hC.1
  have hCxx := hCx
  obtain ⟨_, _, _, _, _, _, hMx, -⟩ := id hM
  cases hok : gw_okReach n s (X.2 (4 * t + 1)) (X.2 (4 * t + 2)) with
  | false =>
    refine mw_ld 381 i_Law_law_380 rfl rfl rfl ?_
    refine mw_ld 382 i_Law_law_381 rfl rfl rfl ?_
    refine mw_ld 383 i_Law_law_382 rfl rfl rfl ?_
    refine mw_k 384 i_Law_law_383 rfl ?_
    refine mw_b 385 i_Law_law_384 rfl ?_
    rw [show (1 : Int32) = nI 1 from rfl, nI_add]
    refine mw_sald 386 (4 * t + 1) i_Law_law_385 rfl rfl (by omega) (by omega) ?_
    refine mw_ld 387 i_Law_law_386 rfl rfl rfl ?_
    refine mw_ld 388 i_Law_law_387 rfl rfl rfl ?_
    refine mw_k 389 i_Law_law_388 rfl ?_
    refine mw_b 390 i_Law_law_389 rfl ?_
    rw [show (2 : Int32) = nI 2 from rfl, nI_add]
    refine mw_sald 391 (4 * t + 2) i_Law_law_390 rfl rfl (by omega) (by omega) ?_
    refine mw_cv1 394 i_Law_law_391 rfl hCx (sp_GW_reach hC hd hva.1 hva.2.1 hN hN0 (fun _ => ?_) (fun q => absurd (hok.symm.trans q) (by decide))) rfl rfl (Nat.le_of_ble_eq_true rfl) (Nat.le_of_ble_eq_true rfl)
    skip
    refine mw_ld 395 i_Law_law_394 rfl rfl rfl ?_
    refine mw_ld 396 i_Law_law_395 rfl rfl rfl ?_
    refine mw_ld 397 i_Law_law_396 rfl rfl rfl ?_
    refine mw_k 398 i_Law_law_397 rfl ?_
    refine mw_b 399 i_Law_law_398 rfl ?_
    rw [show (1 : Int32) = nI 1 from rfl, nI_add]
    refine mw_sald 400 (4 * t + 1) i_Law_law_399 rfl rfl (by omega) (by omega) ?_
    refine mw_ld 401 i_Law_law_400 rfl rfl rfl ?_
    refine mw_ld 402 i_Law_law_401 rfl rfl rfl ?_
    refine mw_k 403 i_Law_law_402 rfl ?_
    refine mw_b 404 i_Law_law_403 rfl ?_
    rw [show (2 : Int32) = nI 2 from rfl, nI_add]
    refine mw_sald 405 (4 * t + 2) i_Law_law_404 rfl rfl (by omega) (by omega) ?_
    refine mw_cv1 408 i_Law_law_405 rfl hMx (sp_Model_reach hM hd hva.1 hva.2.2.1 hva.2.1 hkp (fun _ => ?_) (fun q => absurd (hok.symm.trans q) (by decide))) rfl rfl (Nat.le_of_ble_eq_true rfl) (Nat.le_of_ble_eq_true rfl)
    refine mw_ic1 i_Law_law_408 rfl ?_
    refine mw_inc (ls' := [_, _, _, _]) 988 (nI (4 * (t + 1))) i_Law_law_985 rfl rfl rfl (by rw [show (4 : Int32) = nI 4 from rfl, nI_add]; rfl) rfl ?_
    refine mw_go i_Law_law_988 ?_
    exact ih σ (gw_LI_up hLI)
  | true =>
    have hok2 := hok
    simp only [gw_okReach, Bool.and_eq_true] at hok2
    obtain ⟨z, hz, ez⟩ := gw_isP_of hok2.1.1
    have hva2 : gw_va w h n (gw_sReach s (X.2 (4 * t + 1)).toInt.toNat (X.2 (4 * t + 2))) := by
      have h14 := hva.1
      rw [ez, gw_tn (by omega)]; exact gw_va_reach hz hok2.1.2 hva
    refine mw_ld 381 i_Law_law_380 rfl rfl rfl ?_
    refine mw_ld 382 i_Law_law_381 rfl rfl rfl ?_
    refine mw_ld 383 i_Law_law_382 rfl rfl rfl ?_
    refine mw_k 384 i_Law_law_383 rfl ?_
    refine mw_b 385 i_Law_law_384 rfl ?_
    rw [show (1 : Int32) = nI 1 from rfl, nI_add]
    refine mw_sald 386 (4 * t + 1) i_Law_law_385 rfl rfl (by omega) (by omega) ?_
    refine mw_ld 387 i_Law_law_386 rfl rfl rfl ?_
    refine mw_ld 388 i_Law_law_387 rfl rfl rfl ?_
    refine mw_k 389 i_Law_law_388 rfl ?_
    refine mw_b 390 i_Law_law_389 rfl ?_
    rw [show (2 : Int32) = nI 2 from rfl, nI_add]
    refine mw_sald 391 (4 * t + 2) i_Law_law_390 rfl rfl (by omega) (by omega) ?_
    refine mw_cv1 394 i_Law_law_391 rfl hCx (sp_GW_reach hC hd hva.1 hva.2.1 hN hN0 (fun q => absurd (hok.symm.trans q) (by decide)) (fun _ f hk hC2 => ?_)) rfl rfl (Nat.le_of_ble_eq_true rfl) (Nat.le_of_ble_eq_true rfl)
    have hM1 := gw_MI_keep (fun a h1 h2 => hk a h1 (by omega)) hM
    obtain ⟨_, _, _, _, _, _, hMx, -⟩ := id hM1
    refine mw_ld 395 i_Law_law_394 rfl rfl rfl ?_
    refine mw_ld 396 i_Law_law_395 rfl rfl rfl ?_
    refine mw_ld 397 i_Law_law_396 rfl rfl rfl ?_
    refine mw_k 398 i_Law_law_397 rfl ?_
    refine mw_b 399 i_Law_law_398 rfl ?_
    rw [show (1 : Int32) = nI 1 from rfl, nI_add]
    refine mw_sald 400 (4 * t + 1) i_Law_law_399 rfl rfl (by omega) (by omega) ?_
    refine mw_ld 401 i_Law_law_400 rfl rfl rfl ?_
    refine mw_ld 402 i_Law_law_401 rfl rfl rfl ?_
    refine mw_k 403 i_Law_law_402 rfl ?_
    refine mw_b 404 i_Law_law_403 rfl ?_
    rw [show (2 : Int32) = nI 2 from rfl, nI_add]
    refine mw_sald 405 (4 * t + 2) i_Law_law_404 rfl rfl (by omega) (by omega) ?_
    refine mw_cv1 408 i_Law_law_405 rfl hMx (sp_Model_reach (σ := (f, σ.2.1 + 1, σ.2.2 + 6)) hM1 hd hva.1 hva.2.2.1 hva.2.1 hkp (fun q => absurd (hok.symm.trans q) (by decide)) (fun _ f2 hm hM2 => ?_)) rfl rfl (Nat.le_of_ble_eq_true rfl) (Nat.le_of_ble_eq_true rfl)
    refine mw_ic1 i_Law_law_408 rfl ?_
    refine mw_inc (ls' := [_, _, _, _]) 988 (nI (4 * (t + 1))) i_Law_law_985 rfl rfl rfl (by rw [show (4 : Int32) = nI 4 from rfl, nI_add]; rfl) rfl ?_
    refine mw_go i_Law_law_988 ?_
    exact ih (f2, σ.2.1 + 1, σ.2.2 + 6) (gw_LI_n hd hva2 (by omega) (gw_va_push hkp hva hhi) gw_tr_0 hk hC2 hm hM2 hN hno hb1 hb2)
theorem lw_case_7 {X : mj_X} (hL : X.1 ≤ 2048) {d : Nat} {Q : Value → mj_H → Prop} {t : Nat} (ht : 4 * t + 4 ≤ X.1) {σ : mj_H} (hLI : gw_LI t σ) (ih : ∀ σ, gw_LI (t + 1) σ → mj_Wp X (d + 21) y_Law_law 18 [some (.float 1), some (.ref 0), some (.ref 55), some (.int (nI (4 * (t + 1))))] [] σ (mj_V Q)) : mj_Wp X (d + 21) y_Law_law 413 [some (.float 1), some (.ref 0), some (.ref 55), some (.int (nI (4 * t)))] [] σ (mj_V Q) := by
  obtain ⟨w, h, n, s, kp, hn, hs, P, sz, hd, hva, hkp, hhi, htr, hC, hM, hN, hno, hb1, hb2⟩ := id hLI
  have hN0 : σ.1 σ.2.1 = none := hno _ (Nat.le_refl _)
  have hCx : σ.1 0 = gw_c0 := hC.1
  have hCxx := hCx
  obtain ⟨_, _, _, _, _, _, hMx, -⟩ := id hM
  cases hok : gw_okMove w h n s (X.2 (4 * t + 1)) (X.2 (4 * t + 2)) with
  | false =>
    refine mw_ld 414 i_Law_law_413 rfl rfl rfl ?_
    refine mw_ld 415 i_Law_law_414 rfl rfl rfl ?_
    refine mw_ld 416 i_Law_law_415 rfl rfl rfl ?_
    refine mw_k 417 i_Law_law_416 rfl ?_
    refine mw_b 418 i_Law_law_417 rfl ?_
    rw [show (1 : Int32) = nI 1 from rfl, nI_add]
    refine mw_sald 419 (4 * t + 1) i_Law_law_418 rfl rfl (by omega) (by omega) ?_
    refine mw_ld 420 i_Law_law_419 rfl rfl rfl ?_
    refine mw_ld 421 i_Law_law_420 rfl rfl rfl ?_
    refine mw_k 422 i_Law_law_421 rfl ?_
    refine mw_b 423 i_Law_law_422 rfl ?_
    rw [show (2 : Int32) = nI 2 from rfl, nI_add]
    refine mw_sald 424 (4 * t + 2) i_Law_law_423 rfl rfl (by omega) (by omega) ?_
    refine mw_cv1 427 i_Law_law_424 rfl hCx (sp_GW_move hC hd hva.1 hva.2.1 hN hN0 (fun _ => ?_) (fun q => absurd (hok.symm.trans q) (by decide))) rfl rfl (Nat.le_of_ble_eq_true rfl) (Nat.le_of_ble_eq_true rfl)
    skip
    refine mw_ld 428 i_Law_law_427 rfl rfl rfl ?_
    refine mw_ld 429 i_Law_law_428 rfl rfl rfl ?_
    refine mw_ld 430 i_Law_law_429 rfl rfl rfl ?_
    refine mw_k 431 i_Law_law_430 rfl ?_
    refine mw_b 432 i_Law_law_431 rfl ?_
    rw [show (1 : Int32) = nI 1 from rfl, nI_add]
    refine mw_sald 433 (4 * t + 1) i_Law_law_432 rfl rfl (by omega) (by omega) ?_
    refine mw_ld 434 i_Law_law_433 rfl rfl rfl ?_
    refine mw_ld 435 i_Law_law_434 rfl rfl rfl ?_
    refine mw_k 436 i_Law_law_435 rfl ?_
    refine mw_b 437 i_Law_law_436 rfl ?_
    rw [show (2 : Int32) = nI 2 from rfl, nI_add]
    refine mw_sald 438 (4 * t + 2) i_Law_law_437 rfl rfl (by omega) (by omega) ?_
    refine mw_cv1 441 i_Law_law_438 rfl hMx (sp_Model_move hM hd hva.1 hva.2.2.1 hva.2.1 hkp (fun _ => ?_) (fun q => absurd (hok.symm.trans q) (by decide))) rfl rfl (Nat.le_of_ble_eq_true rfl) (Nat.le_of_ble_eq_true rfl)
    refine mw_ic1 i_Law_law_441 rfl ?_
    refine mw_inc (ls' := [_, _, _, _]) 988 (nI (4 * (t + 1))) i_Law_law_985 rfl rfl rfl (by rw [show (4 : Int32) = nI 4 from rfl, nI_add]; rfl) rfl ?_
    refine mw_go i_Law_law_988 ?_
    exact ih σ (gw_LI_up hLI)
  | true =>
    have hok2 := hok
    simp only [gw_okMove, Bool.and_eq_true] at hok2
    obtain ⟨z, hz, ez⟩ := gw_isP_of hok2.1.1
    have hva2 : gw_va w h n (gw_sMove s (X.2 (4 * t + 1)).toInt.toNat (X.2 (4 * t + 2))) := by
      have h14 := hva.1
      rw [ez, gw_tn (by omega)]; exact gw_va_move hd hz hok2.1.2 hva
    refine mw_ld 414 i_Law_law_413 rfl rfl rfl ?_
    refine mw_ld 415 i_Law_law_414 rfl rfl rfl ?_
    refine mw_ld 416 i_Law_law_415 rfl rfl rfl ?_
    refine mw_k 417 i_Law_law_416 rfl ?_
    refine mw_b 418 i_Law_law_417 rfl ?_
    rw [show (1 : Int32) = nI 1 from rfl, nI_add]
    refine mw_sald 419 (4 * t + 1) i_Law_law_418 rfl rfl (by omega) (by omega) ?_
    refine mw_ld 420 i_Law_law_419 rfl rfl rfl ?_
    refine mw_ld 421 i_Law_law_420 rfl rfl rfl ?_
    refine mw_k 422 i_Law_law_421 rfl ?_
    refine mw_b 423 i_Law_law_422 rfl ?_
    rw [show (2 : Int32) = nI 2 from rfl, nI_add]
    refine mw_sald 424 (4 * t + 2) i_Law_law_423 rfl rfl (by omega) (by omega) ?_
    refine mw_cv1 427 i_Law_law_424 rfl hCx (sp_GW_move hC hd hva.1 hva.2.1 hN hN0 (fun q => absurd (hok.symm.trans q) (by decide)) (fun _ f hk hC2 => ?_)) rfl rfl (Nat.le_of_ble_eq_true rfl) (Nat.le_of_ble_eq_true rfl)
    have hM1 := gw_MI_keep (fun a h1 h2 => hk a h1 (by omega)) hM
    obtain ⟨_, _, _, _, _, _, hMx, -⟩ := id hM1
    refine mw_ld 428 i_Law_law_427 rfl rfl rfl ?_
    refine mw_ld 429 i_Law_law_428 rfl rfl rfl ?_
    refine mw_ld 430 i_Law_law_429 rfl rfl rfl ?_
    refine mw_k 431 i_Law_law_430 rfl ?_
    refine mw_b 432 i_Law_law_431 rfl ?_
    rw [show (1 : Int32) = nI 1 from rfl, nI_add]
    refine mw_sald 433 (4 * t + 1) i_Law_law_432 rfl rfl (by omega) (by omega) ?_
    refine mw_ld 434 i_Law_law_433 rfl rfl rfl ?_
    refine mw_ld 435 i_Law_law_434 rfl rfl rfl ?_
    refine mw_k 436 i_Law_law_435 rfl ?_
    refine mw_b 437 i_Law_law_436 rfl ?_
    rw [show (2 : Int32) = nI 2 from rfl, nI_add]
    refine mw_sald 438 (4 * t + 2) i_Law_law_437 rfl rfl (by omega) (by omega) ?_
    refine mw_cv1 441 i_Law_law_438 rfl hMx (sp_Model_move (σ := (f, σ.2.1 + 1, σ.2.2 + 6)) hM1 hd hva.1 hva.2.2.1 hva.2.1 hkp (fun q => absurd (hok.symm.trans q) (by decide)) (fun _ f2 hm hM2 => ?_)) rfl rfl (Nat.le_of_ble_eq_true rfl) (Nat.le_of_ble_eq_true rfl)
    refine mw_ic1 i_Law_law_441 rfl ?_
    refine mw_inc (ls' := [_, _, _, _]) 988 (nI (4 * (t + 1))) i_Law_law_985 rfl rfl rfl (by rw [show (4 : Int32) = nI 4 from rfl, nI_add]; rfl) rfl ?_
    refine mw_go i_Law_law_988 ?_
    exact ih (f2, σ.2.1 + 1, σ.2.2 + 6) (gw_LI_n hd hva2 (by omega) (gw_va_push hkp hva hhi) gw_tr_0 hk hC2 hm hM2 hN hno hb1 hb2)
theorem lw_case_8 {X : mj_X} (hL : X.1 ≤ 2048) {d : Nat} {Q : Value → mj_H → Prop} {t : Nat} (ht : 4 * t + 4 ≤ X.1) {σ : mj_H} (hLI : gw_LI t σ) (ih : ∀ σ, gw_LI (t + 1) σ → mj_Wp X (d + 21) y_Law_law 18 [some (.float 1), some (.ref 0), some (.ref 55), some (.int (nI (4 * (t + 1))))] [] σ (mj_V Q)) : mj_Wp X (d + 21) y_Law_law 446 [some (.float 1), some (.ref 0), some (.ref 55), some (.int (nI (4 * t)))] [] σ (mj_V Q) := by
  obtain ⟨w, h, n, s, kp, hn, hs, P, sz, hd, hva, hkp, hhi, htr, hC, hM, hN, hno, hb1, hb2⟩ := id hLI
  have hN0 : σ.1 σ.2.1 = none := hno _ (Nat.le_refl _)
  have hCx : σ.1 0 = gw_c0 := hC.1
  have hCxx := hCx
  obtain ⟨_, _, _, _, _, _, hMx, -⟩ := id hM
  cases hok : gw_okLamp n s (X.2 (4 * t + 1)) (X.2 (4 * t + 2)) with
  | false =>
    refine mw_ld 447 i_Law_law_446 rfl rfl rfl ?_
    refine mw_ld 448 i_Law_law_447 rfl rfl rfl ?_
    refine mw_ld 449 i_Law_law_448 rfl rfl rfl ?_
    refine mw_k 450 i_Law_law_449 rfl ?_
    refine mw_b 451 i_Law_law_450 rfl ?_
    rw [show (1 : Int32) = nI 1 from rfl, nI_add]
    refine mw_sald 452 (4 * t + 1) i_Law_law_451 rfl rfl (by omega) (by omega) ?_
    refine mw_ld 453 i_Law_law_452 rfl rfl rfl ?_
    refine mw_ld 454 i_Law_law_453 rfl rfl rfl ?_
    refine mw_k 455 i_Law_law_454 rfl ?_
    refine mw_b 456 i_Law_law_455 rfl ?_
    rw [show (2 : Int32) = nI 2 from rfl, nI_add]
    refine mw_sald 457 (4 * t + 2) i_Law_law_456 rfl rfl (by omega) (by omega) ?_
    refine mw_cv1 460 i_Law_law_457 rfl hCx (sp_GW_lamp hC hd hva.1 hva.2.1 hN hN0 (fun _ => ?_) (fun q => absurd (hok.symm.trans q) (by decide))) rfl rfl (Nat.le_of_ble_eq_true rfl) (Nat.le_of_ble_eq_true rfl)
    skip
    refine mw_ld 461 i_Law_law_460 rfl rfl rfl ?_
    refine mw_ld 462 i_Law_law_461 rfl rfl rfl ?_
    refine mw_ld 463 i_Law_law_462 rfl rfl rfl ?_
    refine mw_k 464 i_Law_law_463 rfl ?_
    refine mw_b 465 i_Law_law_464 rfl ?_
    rw [show (1 : Int32) = nI 1 from rfl, nI_add]
    refine mw_sald 466 (4 * t + 1) i_Law_law_465 rfl rfl (by omega) (by omega) ?_
    refine mw_ld 467 i_Law_law_466 rfl rfl rfl ?_
    refine mw_ld 468 i_Law_law_467 rfl rfl rfl ?_
    refine mw_k 469 i_Law_law_468 rfl ?_
    refine mw_b 470 i_Law_law_469 rfl ?_
    rw [show (2 : Int32) = nI 2 from rfl, nI_add]
    refine mw_sald 471 (4 * t + 2) i_Law_law_470 rfl rfl (by omega) (by omega) ?_
    refine mw_cv1 474 i_Law_law_471 rfl hMx (sp_Model_lamp hM hd hva.1 hva.2.2.1 hva.2.1 hkp (fun _ => ?_) (fun q => absurd (hok.symm.trans q) (by decide))) rfl rfl (Nat.le_of_ble_eq_true rfl) (Nat.le_of_ble_eq_true rfl)
    refine mw_ic1 i_Law_law_474 rfl ?_
    refine mw_inc (ls' := [_, _, _, _]) 988 (nI (4 * (t + 1))) i_Law_law_985 rfl rfl rfl (by rw [show (4 : Int32) = nI 4 from rfl, nI_add]; rfl) rfl ?_
    refine mw_go i_Law_law_988 ?_
    exact ih σ (gw_LI_up hLI)
  | true =>
    have hok2 := hok
    simp only [gw_okLamp, Bool.and_eq_true] at hok2
    obtain ⟨z, hz, ez⟩ := gw_isP_of hok2.1.1
    have hva2 : gw_va w h n (gw_sLamp s (X.2 (4 * t + 1)).toInt.toNat (X.2 (4 * t + 2))) := by
      have h14 := hva.1
      rw [ez, gw_tn (by omega)]; exact gw_va_lamp hz hok2.1.2 hva
    refine mw_ld 447 i_Law_law_446 rfl rfl rfl ?_
    refine mw_ld 448 i_Law_law_447 rfl rfl rfl ?_
    refine mw_ld 449 i_Law_law_448 rfl rfl rfl ?_
    refine mw_k 450 i_Law_law_449 rfl ?_
    refine mw_b 451 i_Law_law_450 rfl ?_
    rw [show (1 : Int32) = nI 1 from rfl, nI_add]
    refine mw_sald 452 (4 * t + 1) i_Law_law_451 rfl rfl (by omega) (by omega) ?_
    refine mw_ld 453 i_Law_law_452 rfl rfl rfl ?_
    refine mw_ld 454 i_Law_law_453 rfl rfl rfl ?_
    refine mw_k 455 i_Law_law_454 rfl ?_
    refine mw_b 456 i_Law_law_455 rfl ?_
    rw [show (2 : Int32) = nI 2 from rfl, nI_add]
    refine mw_sald 457 (4 * t + 2) i_Law_law_456 rfl rfl (by omega) (by omega) ?_
    refine mw_cv1 460 i_Law_law_457 rfl hCx (sp_GW_lamp hC hd hva.1 hva.2.1 hN hN0 (fun q => absurd (hok.symm.trans q) (by decide)) (fun _ f hk hC2 => ?_)) rfl rfl (Nat.le_of_ble_eq_true rfl) (Nat.le_of_ble_eq_true rfl)
    have hM1 := gw_MI_keep (fun a h1 h2 => hk a h1 (by omega)) hM
    obtain ⟨_, _, _, _, _, _, hMx, -⟩ := id hM1
    refine mw_ld 461 i_Law_law_460 rfl rfl rfl ?_
    refine mw_ld 462 i_Law_law_461 rfl rfl rfl ?_
    refine mw_ld 463 i_Law_law_462 rfl rfl rfl ?_
    refine mw_k 464 i_Law_law_463 rfl ?_
    refine mw_b 465 i_Law_law_464 rfl ?_
    rw [show (1 : Int32) = nI 1 from rfl, nI_add]
    refine mw_sald 466 (4 * t + 1) i_Law_law_465 rfl rfl (by omega) (by omega) ?_
    refine mw_ld 467 i_Law_law_466 rfl rfl rfl ?_
    refine mw_ld 468 i_Law_law_467 rfl rfl rfl ?_
    refine mw_k 469 i_Law_law_468 rfl ?_
    refine mw_b 470 i_Law_law_469 rfl ?_
    rw [show (2 : Int32) = nI 2 from rfl, nI_add]
    refine mw_sald 471 (4 * t + 2) i_Law_law_470 rfl rfl (by omega) (by omega) ?_
    refine mw_cv1 474 i_Law_law_471 rfl hMx (sp_Model_lamp (σ := (f, σ.2.1 + 1, σ.2.2 + 6)) hM1 hd hva.1 hva.2.2.1 hva.2.1 hkp (fun q => absurd (hok.symm.trans q) (by decide)) (fun _ f2 hm hM2 => ?_)) rfl rfl (Nat.le_of_ble_eq_true rfl) (Nat.le_of_ble_eq_true rfl)
    refine mw_ic1 i_Law_law_474 rfl ?_
    refine mw_inc (ls' := [_, _, _, _]) 988 (nI (4 * (t + 1))) i_Law_law_985 rfl rfl rfl (by rw [show (4 : Int32) = nI 4 from rfl, nI_add]; rfl) rfl ?_
    refine mw_go i_Law_law_988 ?_
    exact ih (f2, σ.2.1 + 1, σ.2.2 + 6) (gw_LI_n hd hva2 (by omega) (gw_va_push hkp hva hhi) gw_tr_0 hk hC2 hm hM2 hN hno hb1 hb2)
theorem lw_case_9 {X : mj_X} (hL : X.1 ≤ 2048) {d : Nat} {Q : Value → mj_H → Prop} {t : Nat} (ht : 4 * t + 4 ≤ X.1) {σ : mj_H} (hLI : gw_LI t σ) (ih : ∀ σ, gw_LI (t + 1) σ → mj_Wp X (d + 21) y_Law_law 18 [some (.float 1), some (.ref 0), some (.ref 55), some (.int (nI (4 * (t + 1))))] [] σ (mj_V Q)) : mj_Wp X (d + 21) y_Law_law 479 [some (.float 1), some (.ref 0), some (.ref 55), some (.int (nI (4 * t)))] [] σ (mj_V Q) := by
  obtain ⟨w, h, n, s, kp, hn, hs, P, sz, hd, hva, hkp, hhi, htr, hC, hM, hN, hno, hb1, hb2⟩ := id hLI
  have hN0 : σ.1 σ.2.1 = none := hno _ (Nat.le_refl _)
  have hCx : σ.1 0 = gw_c0 := hC.1
  have hCxx := hCx
  obtain ⟨_, _, _, _, _, _, hMx, -⟩ := id hM
  rcases Nat.eq_zero_or_pos n with hk0 | hk0
  · skip
    refine mw_ld 480 i_Law_law_479 rfl rfl rfl ?_
    refine mw_cv1 483 i_Law_law_480 rfl hCx (sp_GW_drop hC hva.1 (fun _ => ?_) (fun k2 e => absurd e (by omega))) rfl rfl (Nat.le_of_ble_eq_true rfl) (Nat.le_of_ble_eq_true rfl)
    refine mw_ld 484 i_Law_law_483 rfl rfl rfl ?_
    refine mw_cv1 487 i_Law_law_484 rfl hMx (sp_Model_drop hM hd hva.1 hva.2.2.1 hva.2.1 hkp (fun _ => ?_) (fun k2 e => absurd e (by omega))) rfl rfl (Nat.le_of_ble_eq_true rfl) (Nat.le_of_ble_eq_true rfl)
    refine mw_ic1 i_Law_law_487 rfl ?_
    refine mw_inc (ls' := [_, _, _, _]) 988 (nI (4 * (t + 1))) i_Law_law_985 rfl rfl rfl (by rw [show (4 : Int32) = nI 4 from rfl, nI_add]; rfl) rfl ?_
    refine mw_go i_Law_law_988 ?_
    exact ih σ (gw_LI_up hLI)
  · skip
    refine mw_ld 480 i_Law_law_479 rfl rfl rfl ?_
    refine mw_cv1 483 i_Law_law_480 rfl hCx (sp_GW_drop hC hva.1 (fun e => absurd e (by omega)) (fun k2 e f hk hC2 => ?_)) rfl rfl (Nat.le_of_ble_eq_true rfl) (Nat.le_of_ble_eq_true rfl)
    have hM1 := gw_MI_keep (fun a h1 _ => hk a h1) hM
    obtain ⟨_, _, _, _, _, _, hMx, -⟩ := id hM1
    refine mw_ld 484 i_Law_law_483 rfl rfl rfl ?_
    refine mw_cv1 487 i_Law_law_484 rfl hMx (sp_Model_drop (σ := (f, σ.2)) hM1 hd hva.1 hva.2.2.1 hva.2.1 hkp (fun e => absurd e (by omega)) (fun k3 e3 f2 hm hM2 => ?_)) rfl rfl (Nat.le_of_ble_eq_true rfl) (Nat.le_of_ble_eq_true rfl)
    have ek : k3 = k2 := by omega
    subst ek
    refine mw_ic1 i_Law_law_487 rfl ?_
    refine mw_inc (ls' := [_, _, _, _]) 988 (nI (4 * (t + 1))) i_Law_law_985 rfl rfl rfl (by rw [show (4 : Int32) = nI 4 from rfl, nI_add]; rfl) rfl ?_
    refine mw_go i_Law_law_988 ?_
    exact ih (f2, σ.2) (gw_LI_s hd (gw_va_drop (by rw [← e3]; exact hva)) (by omega) (gw_va_push hkp hva hhi) gw_tr_0 hk hC2 hm hM2 hN hno hb1 hb2)
theorem lw_case_10 {X : mj_X} (hL : X.1 ≤ 2048) {d : Nat} {Q : Value → mj_H → Prop} {t : Nat} (ht : 4 * t + 4 ≤ X.1) {σ : mj_H} (hLI : gw_LI t σ) (ih : ∀ σ, gw_LI (t + 1) σ → mj_Wp X (d + 21) y_Law_law 18 [some (.float 1), some (.ref 0), some (.ref 55), some (.int (nI (4 * (t + 1))))] [] σ (mj_V Q)) : mj_Wp X (d + 21) y_Law_law 492 [some (.float 1), some (.ref 0), some (.ref 55), some (.int (nI (4 * t)))] [] σ (mj_V Q) := by
  obtain ⟨w, h, n, s, kp, hn, hs, P, sz, hd, hva, hkp, hhi, htr, hC, hM, hN, hno, hb1, hb2⟩ := id hLI
  have hN0 : σ.1 σ.2.1 = none := hno _ (Nat.le_refl _)
  have hCx : σ.1 0 = gw_c0 := hC.1
  have hCxx := hCx
  obtain ⟨_, _, _, _, _, _, hMx, -⟩ := id hM
  refine mw_ld 493 i_Law_law_492 rfl rfl rfl ?_
  refine mw_ld 494 i_Law_law_493 rfl rfl rfl ?_
  refine mw_ld 495 i_Law_law_494 rfl rfl rfl ?_
  refine mw_k 496 i_Law_law_495 rfl ?_
  refine mw_b 497 i_Law_law_496 rfl ?_
  rw [show (1 : Int32) = nI 1 from rfl, nI_add]
  refine mw_sald 498 (4 * t + 1) i_Law_law_497 rfl rfl (by omega) (by omega) ?_
  refine mw_ld 499 i_Law_law_498 rfl rfl rfl ?_
  refine mw_ld 500 i_Law_law_499 rfl rfl rfl ?_
  refine mw_k 501 i_Law_law_500 rfl ?_
  refine mw_b 502 i_Law_law_501 rfl ?_
  rw [show (2 : Int32) = nI 2 from rfl, nI_add]
  refine mw_sald 503 (4 * t + 2) i_Law_law_502 rfl rfl (by omega) (by omega) ?_
  refine mw_cv1 506 i_Law_law_503 rfl hCx (sp_GW_about hC hd hva.1 hva.2.1 ?_) rfl rfl (Nat.le_of_ble_eq_true rfl) (Nat.le_of_ble_eq_true rfl)
  skip
  refine mw_ld 507 i_Law_law_506 rfl rfl rfl ?_
  refine mw_ld 508 i_Law_law_507 rfl rfl rfl ?_
  refine mw_ld 509 i_Law_law_508 rfl rfl rfl ?_
  refine mw_k 510 i_Law_law_509 rfl ?_
  refine mw_b 511 i_Law_law_510 rfl ?_
  rw [show (1 : Int32) = nI 1 from rfl, nI_add]
  refine mw_sald 512 (4 * t + 1) i_Law_law_511 rfl rfl (by omega) (by omega) ?_
  refine mw_ld 513 i_Law_law_512 rfl rfl rfl ?_
  refine mw_ld 514 i_Law_law_513 rfl rfl rfl ?_
  refine mw_k 515 i_Law_law_514 rfl ?_
  refine mw_b 516 i_Law_law_515 rfl ?_
  rw [show (2 : Int32) = nI 2 from rfl, nI_add]
  refine mw_sald 517 (4 * t + 2) i_Law_law_516 rfl rfl (by omega) (by omega) ?_
  refine mw_cv1 520 i_Law_law_517 rfl hMx (sp_Model_about hM hd hva.1 hva.2.2.1 hva.2.1 ?_) rfl rfl (Nat.le_of_ble_eq_true rfl) (Nat.le_of_ble_eq_true rfl)
  refine mw_ic1 i_Law_law_520 rfl ?_
  refine mw_inc (ls' := [_, _, _, _]) 988 (nI (4 * (t + 1))) i_Law_law_985 rfl rfl rfl (by rw [show (4 : Int32) = nI 4 from rfl, nI_add]; rfl) rfl ?_
  refine mw_go i_Law_law_988 ?_
  exact ih σ (gw_LI_up hLI)
theorem lw_case_11 {X : mj_X} (hL : X.1 ≤ 2048) {d : Nat} {Q : Value → mj_H → Prop} {t : Nat} (ht : 4 * t + 4 ≤ X.1) {σ : mj_H} (hLI : gw_LI t σ) (ih : ∀ σ, gw_LI (t + 1) σ → mj_Wp X (d + 21) y_Law_law 18 [some (.float 1), some (.ref 0), some (.ref 55), some (.int (nI (4 * (t + 1))))] [] σ (mj_V Q)) : mj_Wp X (d + 21) y_Law_law 525 [some (.float 1), some (.ref 0), some (.ref 55), some (.int (nI (4 * t)))] [] σ (mj_V Q) := by
  obtain ⟨w, h, n, s, kp, hn, hs, P, sz, hd, hva, hkp, hhi, htr, hC, hM, hN, hno, hb1, hb2⟩ := id hLI
  have hN0 : σ.1 σ.2.1 = none := hno _ (Nat.le_refl _)
  have hCx : σ.1 0 = gw_c0 := hC.1
  have hCxx := hCx
  obtain ⟨_, _, _, _, _, _, hMx, -⟩ := id hM
  refine mw_ld 526 i_Law_law_525 rfl rfl rfl ?_
  refine mw_ld 527 i_Law_law_526 rfl rfl rfl ?_
  refine mw_ld 528 i_Law_law_527 rfl rfl rfl ?_
  refine mw_k 529 i_Law_law_528 rfl ?_
  refine mw_b 530 i_Law_law_529 rfl ?_
  rw [show (1 : Int32) = nI 1 from rfl, nI_add]
  refine mw_sald 531 (4 * t + 1) i_Law_law_530 rfl rfl (by omega) (by omega) ?_
  refine mw_ld 532 i_Law_law_531 rfl rfl rfl ?_
  refine mw_ld 533 i_Law_law_532 rfl rfl rfl ?_
  refine mw_k 534 i_Law_law_533 rfl ?_
  refine mw_b 535 i_Law_law_534 rfl ?_
  rw [show (2 : Int32) = nI 2 from rfl, nI_add]
  refine mw_sald 536 (4 * t + 2) i_Law_law_535 rfl rfl (by omega) (by omega) ?_
  refine mw_cv1 539 i_Law_law_536 rfl hCx (sp_GW_isOf hC hd hva.1 hva.2.1 ?_) rfl rfl (Nat.le_of_ble_eq_true rfl) (Nat.le_of_ble_eq_true rfl)
  skip
  refine mw_ld 540 i_Law_law_539 rfl rfl rfl ?_
  refine mw_ld 541 i_Law_law_540 rfl rfl rfl ?_
  refine mw_ld 542 i_Law_law_541 rfl rfl rfl ?_
  refine mw_k 543 i_Law_law_542 rfl ?_
  refine mw_b 544 i_Law_law_543 rfl ?_
  rw [show (1 : Int32) = nI 1 from rfl, nI_add]
  refine mw_sald 545 (4 * t + 1) i_Law_law_544 rfl rfl (by omega) (by omega) ?_
  refine mw_ld 546 i_Law_law_545 rfl rfl rfl ?_
  refine mw_ld 547 i_Law_law_546 rfl rfl rfl ?_
  refine mw_k 548 i_Law_law_547 rfl ?_
  refine mw_b 549 i_Law_law_548 rfl ?_
  rw [show (2 : Int32) = nI 2 from rfl, nI_add]
  refine mw_sald 550 (4 * t + 2) i_Law_law_549 rfl rfl (by omega) (by omega) ?_
  refine mw_cv1 553 i_Law_law_550 rfl hMx (sp_Model_isOf hM hd hva.1 hva.2.2.1 hva.2.1 ?_) rfl rfl (Nat.le_of_ble_eq_true rfl) (Nat.le_of_ble_eq_true rfl)
  refine mw_ic1 i_Law_law_553 rfl ?_
  refine mw_inc (ls' := [_, _, _, _]) 988 (nI (4 * (t + 1))) i_Law_law_985 rfl rfl rfl (by rw [show (4 : Int32) = nI 4 from rfl, nI_add]; rfl) rfl ?_
  refine mw_go i_Law_law_988 ?_
  exact ih σ (gw_LI_up hLI)
theorem lw_case_12 {X : mj_X} (hL : X.1 ≤ 2048) {d : Nat} {Q : Value → mj_H → Prop} {t : Nat} (ht : 4 * t + 4 ≤ X.1) {σ : mj_H} (hLI : gw_LI t σ) (ih : ∀ σ, gw_LI (t + 1) σ → mj_Wp X (d + 21) y_Law_law 18 [some (.float 1), some (.ref 0), some (.ref 55), some (.int (nI (4 * (t + 1))))] [] σ (mj_V Q)) : mj_Wp X (d + 21) y_Law_law 558 [some (.float 1), some (.ref 0), some (.ref 55), some (.int (nI (4 * t)))] [] σ (mj_V Q) := by
  obtain ⟨w, h, n, s, kp, hn, hs, P, sz, hd, hva, hkp, hhi, htr, hC, hM, hN, hno, hb1, hb2⟩ := id hLI
  have hN0 : σ.1 σ.2.1 = none := hno _ (Nat.le_refl _)
  have hCx : σ.1 0 = gw_c0 := hC.1
  have hCxx := hCx
  obtain ⟨_, _, _, _, _, _, hMx, -⟩ := id hM
  rcases Nat.eq_zero_or_pos kp with hk0 | hk0
  · skip
    refine mw_ld 559 i_Law_law_558 rfl rfl rfl ?_
    refine mw_cv1 562 i_Law_law_559 rfl hCx (sp_GW_undo hC (fun _ => ?_) (fun k2 e => absurd e (by omega))) rfl rfl (Nat.le_of_ble_eq_true rfl) (Nat.le_of_ble_eq_true rfl)
    refine mw_ld 563 i_Law_law_562 rfl rfl rfl ?_
    refine mw_cv1 566 i_Law_law_563 rfl hMx (sp_Model_undoI hM (hn := hn) hkp (fun _ => ?_) (fun k2 e => absurd e (by omega))) rfl rfl (Nat.le_of_ble_eq_true rfl) (Nat.le_of_ble_eq_true rfl)
    refine mw_ic1 i_Law_law_566 rfl ?_
    refine mw_inc (ls' := [_, _, _, _]) 988 (nI (4 * (t + 1))) i_Law_law_985 rfl rfl rfl (by rw [show (4 : Int32) = nI 4 from rfl, nI_add]; rfl) rfl ?_
    refine mw_go i_Law_law_988 ?_
    exact ih σ (gw_LI_up hLI)
  · skip
    refine mw_ld 559 i_Law_law_558 rfl rfl rfl ?_
    refine mw_cv1 562 i_Law_law_559 rfl hCx (sp_GW_undo hC (fun e => absurd e (by omega)) (fun k2 e f hk hC2 => ?_)) rfl rfl (Nat.le_of_ble_eq_true rfl) (Nat.le_of_ble_eq_true rfl)
    have hM1 := gw_MI_keep (fun a h1 _ => hk a h1) hM
    obtain ⟨_, _, _, _, _, _, hMx, -⟩ := id hM1
    refine mw_ld 563 i_Law_law_562 rfl rfl rfl ?_
    refine mw_cv1 566 i_Law_law_563 rfl hMx (sp_Model_undoI (σ := (f, σ.2)) hM1 (hn := hn) hkp (fun e => absurd e (by omega)) (fun k3 e3 f2 s2 hm hz hM2 => ?_)) rfl rfl (Nat.le_of_ble_eq_true rfl) (Nat.le_of_ble_eq_true rfl)
    have ek : k3 = k2 := by omega
    subst ek
    refine mw_ic1 i_Law_law_566 rfl ?_
    refine mw_inc (ls' := [_, _, _, _]) 988 (nI (4 * (t + 1))) i_Law_law_985 rfl rfl rfl (by rw [show (4 : Int32) = nI 4 from rfl, nI_add]; rfl) rfl ?_
    refine mw_go i_Law_law_988 ?_
    exact ih (f2, σ.2) (gw_LI_s hd (gw_va_cg hz (hhi k3 (by omega))) (by omega) (fun j hj => hhi j (by omega)) gw_tr_0 hk (hC2 s2 hz) hm hM2 hN hno hb1 hb2)
theorem lw_case_13 {X : mj_X} (hL : X.1 ≤ 2048) {d : Nat} {Q : Value → mj_H → Prop} {t : Nat} (ht : 4 * t + 4 ≤ X.1) {σ : mj_H} (hLI : gw_LI t σ) (ih : ∀ σ, gw_LI (t + 1) σ → mj_Wp X (d + 21) y_Law_law 18 [some (.float 1), some (.ref 0), some (.ref 55), some (.int (nI (4 * (t + 1))))] [] σ (mj_V Q)) : mj_Wp X (d + 21) y_Law_law 571 [some (.float 1), some (.ref 0), some (.ref 55), some (.int (nI (4 * t)))] [] σ (mj_V Q) := by
  obtain ⟨w, h, n, s, kp, hn, hs, P, sz, hd, hva, hkp, hhi, htr, hC, hM, hN, hno, hb1, hb2⟩ := id hLI
  have hN0 : σ.1 σ.2.1 = none := hno _ (Nat.le_refl _)
  have hCx : σ.1 0 = gw_c0 := hC.1
  have hCxx := hCx
  obtain ⟨_, _, _, _, _, _, hMx, -⟩ := id hM
  refine mw_ld 572 i_Law_law_571 rfl rfl rfl ?_
  refine mw_ld 573 i_Law_law_572 rfl rfl rfl ?_
  refine mw_ld 574 i_Law_law_573 rfl rfl rfl ?_
  refine mw_k 575 i_Law_law_574 rfl ?_
  refine mw_b 576 i_Law_law_575 rfl ?_
  rw [show (1 : Int32) = nI 1 from rfl, nI_add]
  refine mw_sald 577 (4 * t + 1) i_Law_law_576 rfl rfl (by omega) (by omega) ?_
  refine mw_ld 578 i_Law_law_577 rfl rfl rfl ?_
  refine mw_ld 579 i_Law_law_578 rfl rfl rfl ?_
  refine mw_k 580 i_Law_law_579 rfl ?_
  refine mw_b 581 i_Law_law_580 rfl ?_
  rw [show (2 : Int32) = nI 2 from rfl, nI_add]
  refine mw_sald 582 (4 * t + 2) i_Law_law_581 rfl rfl (by omega) (by omega) ?_
  refine mw_cv1 585 i_Law_law_582 rfl hCx (sp_GW_sees hC hd hva.1 hva.2.1 (fun f hk hC2 => ?_)) rfl rfl (Nat.le_of_ble_eq_true rfl) (Nat.le_of_ble_eq_true rfl)
  have hM1 := gw_MI_keep (fun a h1 _ => hk a h1) hM
  obtain ⟨_, _, _, _, _, _, hMx, -⟩ := id hM1
  refine mw_ld 586 i_Law_law_585 rfl rfl rfl ?_
  refine mw_ld 587 i_Law_law_586 rfl rfl rfl ?_
  refine mw_ld 588 i_Law_law_587 rfl rfl rfl ?_
  refine mw_k 589 i_Law_law_588 rfl ?_
  refine mw_b 590 i_Law_law_589 rfl ?_
  rw [show (1 : Int32) = nI 1 from rfl, nI_add]
  refine mw_sald 591 (4 * t + 1) i_Law_law_590 rfl rfl (by omega) (by omega) ?_
  refine mw_ld 592 i_Law_law_591 rfl rfl rfl ?_
  refine mw_ld 593 i_Law_law_592 rfl rfl rfl ?_
  refine mw_k 594 i_Law_law_593 rfl ?_
  refine mw_b 595 i_Law_law_594 rfl ?_
  rw [show (2 : Int32) = nI 2 from rfl, nI_add]
  refine mw_sald 596 (4 * t + 2) i_Law_law_595 rfl rfl (by omega) (by omega) ?_
  refine mw_cv1 599 i_Law_law_596 rfl hMx (sp_Model_sees (σ := (f, σ.2)) hM1 hd hva.1 hva.2.2.1 hva.2.1 (fun f2 hm hM2 => ?_)) rfl rfl (Nat.le_of_ble_eq_true rfl) (Nat.le_of_ble_eq_true rfl)
  refine mw_ic1 i_Law_law_599 rfl ?_
  refine mw_inc (ls' := [_, _, _, _]) 988 (nI (4 * (t + 1))) i_Law_law_985 rfl rfl rfl (by rw [show (4 : Int32) = nI 4 from rfl, nI_add]; rfl) rfl ?_
  refine mw_go i_Law_law_988 ?_
  exact ih (f2, σ.2) (gw_LI_s hd hva hkp hhi htr hk hC2 hm hM2 hN hno hb1 hb2)
theorem lw_case_14 {X : mj_X} (hL : X.1 ≤ 2048) {d : Nat} {Q : Value → mj_H → Prop} {t : Nat} (ht : 4 * t + 4 ≤ X.1) {σ : mj_H} (hLI : gw_LI t σ) (ih : ∀ σ, gw_LI (t + 1) σ → mj_Wp X (d + 21) y_Law_law 18 [some (.float 1), some (.ref 0), some (.ref 55), some (.int (nI (4 * (t + 1))))] [] σ (mj_V Q)) : mj_Wp X (d + 21) y_Law_law 604 [some (.float 1), some (.ref 0), some (.ref 55), some (.int (nI (4 * t)))] [] σ (mj_V Q) := by
  obtain ⟨w, h, n, s, kp, hn, hs, P, sz, hd, hva, hkp, hhi, htr, hC, hM, hN, hno, hb1, hb2⟩ := id hLI
  have hN0 : σ.1 σ.2.1 = none := hno _ (Nat.le_refl _)
  have hCx : σ.1 0 = gw_c0 := hC.1
  have hCxx := hCx
  obtain ⟨_, _, _, _, _, _, hMx, -⟩ := id hM
  refine mw_ld 605 i_Law_law_604 rfl rfl rfl ?_
  refine mw_ld 606 i_Law_law_605 rfl rfl rfl ?_
  refine mw_ld 607 i_Law_law_606 rfl rfl rfl ?_
  refine mw_k 608 i_Law_law_607 rfl ?_
  refine mw_b 609 i_Law_law_608 rfl ?_
  rw [show (1 : Int32) = nI 1 from rfl, nI_add]
  refine mw_sald 610 (4 * t + 1) i_Law_law_609 rfl rfl (by omega) (by omega) ?_
  refine mw_cv1 613 i_Law_law_610 rfl hCx (sp_GW_region hC hd hva.1 hva.2.1 (fun f hk hC2 => ?_)) rfl rfl (Nat.le_of_ble_eq_true rfl) (Nat.le_of_ble_eq_true rfl)
  have hM1 := gw_MI_keep (fun a h1 _ => hk a h1) hM
  obtain ⟨_, _, _, _, _, _, hMx, -⟩ := id hM1
  refine mw_ld 614 i_Law_law_613 rfl rfl rfl ?_
  refine mw_ld 615 i_Law_law_614 rfl rfl rfl ?_
  refine mw_ld 616 i_Law_law_615 rfl rfl rfl ?_
  refine mw_k 617 i_Law_law_616 rfl ?_
  refine mw_b 618 i_Law_law_617 rfl ?_
  rw [show (1 : Int32) = nI 1 from rfl, nI_add]
  refine mw_sald 619 (4 * t + 1) i_Law_law_618 rfl rfl (by omega) (by omega) ?_
  refine mw_cv1 622 i_Law_law_619 rfl hMx (sp_Model_region (σ := (f, σ.2)) hM1 hd hva.1 hva.2.2.1 hva.2.1 (fun f2 hm hM2 => ?_)) rfl rfl (Nat.le_of_ble_eq_true rfl) (Nat.le_of_ble_eq_true rfl)
  refine mw_ic1 i_Law_law_622 rfl ?_
  refine mw_inc (ls' := [_, _, _, _]) 988 (nI (4 * (t + 1))) i_Law_law_985 rfl rfl rfl (by rw [show (4 : Int32) = nI 4 from rfl, nI_add]; rfl) rfl ?_
  refine mw_go i_Law_law_988 ?_
  exact ih (f2, σ.2) (gw_LI_s hd hva hkp hhi htr hk hC2 hm hM2 hN hno hb1 hb2)
theorem lw_case_15 {X : mj_X} (hL : X.1 ≤ 2048) {d : Nat} {Q : Value → mj_H → Prop} {t : Nat} (ht : 4 * t + 4 ≤ X.1) {σ : mj_H} (hLI : gw_LI t σ) (ih : ∀ σ, gw_LI (t + 1) σ → mj_Wp X (d + 21) y_Law_law 18 [some (.float 1), some (.ref 0), some (.ref 55), some (.int (nI (4 * (t + 1))))] [] σ (mj_V Q)) : mj_Wp X (d + 21) y_Law_law 627 [some (.float 1), some (.ref 0), some (.ref 55), some (.int (nI (4 * t)))] [] σ (mj_V Q) := by
  obtain ⟨w, h, n, s, kp, hn, hs, P, sz, hd, hva, hkp, hhi, htr, hC, hM, hN, hno, hb1, hb2⟩ := id hLI
  have hN0 : σ.1 σ.2.1 = none := hno _ (Nat.le_refl _)
  have hCx : σ.1 0 = gw_c0 := hC.1
  have hCxx := hCx
  obtain ⟨_, _, _, _, _, _, hMx, -⟩ := id hM
  refine mw_ld 628 i_Law_law_627 rfl rfl rfl ?_
  refine mw_ld 629 i_Law_law_628 rfl rfl rfl ?_
  refine mw_ld 630 i_Law_law_629 rfl rfl rfl ?_
  refine mw_k 631 i_Law_law_630 rfl ?_
  refine mw_b 632 i_Law_law_631 rfl ?_
  rw [show (1 : Int32) = nI 1 from rfl, nI_add]
  refine mw_sald 633 (4 * t + 1) i_Law_law_632 rfl rfl (by omega) (by omega) ?_
  refine mw_cv1 636 i_Law_law_633 rfl hCx (sp_GW_watchers hC hd hva.1 hva.2.1 (fun f hk hC2 => ?_)) rfl rfl (Nat.le_of_ble_eq_true rfl) (Nat.le_of_ble_eq_true rfl)
  have hM1 := gw_MI_keep (fun a h1 _ => hk a h1) hM
  obtain ⟨_, _, _, _, _, _, hMx, -⟩ := id hM1
  refine mw_ld 637 i_Law_law_636 rfl rfl rfl ?_
  refine mw_ld 638 i_Law_law_637 rfl rfl rfl ?_
  refine mw_ld 639 i_Law_law_638 rfl rfl rfl ?_
  refine mw_k 640 i_Law_law_639 rfl ?_
  refine mw_b 641 i_Law_law_640 rfl ?_
  rw [show (1 : Int32) = nI 1 from rfl, nI_add]
  refine mw_sald 642 (4 * t + 1) i_Law_law_641 rfl rfl (by omega) (by omega) ?_
  refine mw_cv1 645 i_Law_law_642 rfl hMx (sp_Model_watchers (σ := (f, σ.2)) hM1 hd hva.1 hva.2.2.1 hva.2.1 (fun f2 hm hM2 => ?_)) rfl rfl (Nat.le_of_ble_eq_true rfl) (Nat.le_of_ble_eq_true rfl)
  refine mw_ic1 i_Law_law_645 rfl ?_
  refine mw_inc (ls' := [_, _, _, _]) 988 (nI (4 * (t + 1))) i_Law_law_985 rfl rfl rfl (by rw [show (4 : Int32) = nI 4 from rfl, nI_add]; rfl) rfl ?_
  refine mw_go i_Law_law_988 ?_
  exact ih (f2, σ.2) (gw_LI_s hd hva hkp hhi htr hk hC2 hm hM2 hN hno hb1 hb2)
theorem lw_case_16 {X : mj_X} (hL : X.1 ≤ 2048) {d : Nat} {Q : Value → mj_H → Prop} {t : Nat} (ht : 4 * t + 4 ≤ X.1) {σ : mj_H} (hLI : gw_LI t σ) (ih : ∀ σ, gw_LI (t + 1) σ → mj_Wp X (d + 21) y_Law_law 18 [some (.float 1), some (.ref 0), some (.ref 55), some (.int (nI (4 * (t + 1))))] [] σ (mj_V Q)) : mj_Wp X (d + 21) y_Law_law 650 [some (.float 1), some (.ref 0), some (.ref 55), some (.int (nI (4 * t)))] [] σ (mj_V Q) := by
  obtain ⟨w, h, n, s, kp, hn, hs, P, sz, hd, hva, hkp, hhi, htr, hC, hM, hN, hno, hb1, hb2⟩ := id hLI
  have hN0 : σ.1 σ.2.1 = none := hno _ (Nat.le_refl _)
  have hCx : σ.1 0 = gw_c0 := hC.1
  have hCxx := hCx
  obtain ⟨_, _, _, _, _, _, hMx, -⟩ := id hM
  refine mw_ld 651 i_Law_law_650 rfl rfl rfl ?_
  refine mw_ld 652 i_Law_law_651 rfl rfl rfl ?_
  refine mw_ld 653 i_Law_law_652 rfl rfl rfl ?_
  refine mw_k 654 i_Law_law_653 rfl ?_
  refine mw_b 655 i_Law_law_654 rfl ?_
  rw [show (1 : Int32) = nI 1 from rfl, nI_add]
  refine mw_sald 656 (4 * t + 1) i_Law_law_655 rfl rfl (by omega) (by omega) ?_
  refine mw_cv1 659 i_Law_law_656 rfl hCx (sp_GW_blind hC hd hva.1 hva.2.1 (fun f hk hC2 => ?_)) rfl rfl (Nat.le_of_ble_eq_true rfl) (Nat.le_of_ble_eq_true rfl)
  have hM1 := gw_MI_keep (fun a h1 _ => hk a h1) hM
  obtain ⟨_, _, _, _, _, _, hMx, -⟩ := id hM1
  refine mw_ld 660 i_Law_law_659 rfl rfl rfl ?_
  refine mw_ld 661 i_Law_law_660 rfl rfl rfl ?_
  refine mw_ld 662 i_Law_law_661 rfl rfl rfl ?_
  refine mw_k 663 i_Law_law_662 rfl ?_
  refine mw_b 664 i_Law_law_663 rfl ?_
  rw [show (1 : Int32) = nI 1 from rfl, nI_add]
  refine mw_sald 665 (4 * t + 1) i_Law_law_664 rfl rfl (by omega) (by omega) ?_
  refine mw_cv1 668 i_Law_law_665 rfl hMx (sp_Model_blind (σ := (f, σ.2)) hM1 hd hva.1 hva.2.2.1 hva.2.1 (fun f2 hm hM2 => ?_)) rfl rfl (Nat.le_of_ble_eq_true rfl) (Nat.le_of_ble_eq_true rfl)
  refine mw_ic1 i_Law_law_668 rfl ?_
  refine mw_inc (ls' := [_, _, _, _]) 988 (nI (4 * (t + 1))) i_Law_law_985 rfl rfl rfl (by rw [show (4 : Int32) = nI 4 from rfl, nI_add]; rfl) rfl ?_
  refine mw_go i_Law_law_988 ?_
  exact ih (f2, σ.2) (gw_LI_s hd hva hkp hhi htr hk hC2 hm hM2 hN hno hb1 hb2)
theorem lw_case_17 {X : mj_X} (hL : X.1 ≤ 2048) {d : Nat} {Q : Value → mj_H → Prop} {t : Nat} (ht : 4 * t + 4 ≤ X.1) {σ : mj_H} (hLI : gw_LI t σ) (ih : ∀ σ, gw_LI (t + 1) σ → mj_Wp X (d + 21) y_Law_law 18 [some (.float 1), some (.ref 0), some (.ref 55), some (.int (nI (4 * (t + 1))))] [] σ (mj_V Q)) : mj_Wp X (d + 21) y_Law_law 673 [some (.float 1), some (.ref 0), some (.ref 55), some (.int (nI (4 * t)))] [] σ (mj_V Q) := by
  obtain ⟨w, h, n, s, kp, hn, hs, P, sz, hd, hva, hkp, hhi, htr, hC, hM, hN, hno, hb1, hb2⟩ := id hLI
  have hN0 : σ.1 σ.2.1 = none := hno _ (Nat.le_refl _)
  have hCx : σ.1 0 = gw_c0 := hC.1
  have hCxx := hCx
  obtain ⟨_, _, _, _, _, _, hMx, -⟩ := id hM
  refine mw_ld 674 i_Law_law_673 rfl rfl rfl ?_
  refine mw_ld 675 i_Law_law_674 rfl rfl rfl ?_
  refine mw_ld 676 i_Law_law_675 rfl rfl rfl ?_
  refine mw_k 677 i_Law_law_676 rfl ?_
  refine mw_b 678 i_Law_law_677 rfl ?_
  rw [show (1 : Int32) = nI 1 from rfl, nI_add]
  refine mw_sald 679 (4 * t + 1) i_Law_law_678 rfl rfl (by omega) (by omega) ?_
  refine mw_cv1 682 i_Law_law_679 rfl hCx (sp_GW_seen hC hd hva.1 hva.2.1 (fun f hk hC2 => ?_)) rfl rfl (Nat.le_of_ble_eq_true rfl) (Nat.le_of_ble_eq_true rfl)
  have hM1 := gw_MI_keep (fun a h1 _ => hk a h1) hM
  obtain ⟨_, _, _, _, _, _, hMx, -⟩ := id hM1
  refine mw_ld 683 i_Law_law_682 rfl rfl rfl ?_
  refine mw_ld 684 i_Law_law_683 rfl rfl rfl ?_
  refine mw_ld 685 i_Law_law_684 rfl rfl rfl ?_
  refine mw_k 686 i_Law_law_685 rfl ?_
  refine mw_b 687 i_Law_law_686 rfl ?_
  rw [show (1 : Int32) = nI 1 from rfl, nI_add]
  refine mw_sald 688 (4 * t + 1) i_Law_law_687 rfl rfl (by omega) (by omega) ?_
  refine mw_cv1 691 i_Law_law_688 rfl hMx (sp_Model_seen (σ := (f, σ.2)) hM1 hd hva.1 hva.2.2.1 hva.2.1 (fun f2 hm hM2 => ?_)) rfl rfl (Nat.le_of_ble_eq_true rfl) (Nat.le_of_ble_eq_true rfl)
  refine mw_ic1 i_Law_law_691 rfl ?_
  refine mw_inc (ls' := [_, _, _, _]) 988 (nI (4 * (t + 1))) i_Law_law_985 rfl rfl rfl (by rw [show (4 : Int32) = nI 4 from rfl, nI_add]; rfl) rfl ?_
  refine mw_go i_Law_law_988 ?_
  exact ih (f2, σ.2) (gw_LI_s hd hva hkp hhi htr hk hC2 hm hM2 hN hno hb1 hb2)
theorem lw_case_18 {X : mj_X} (hL : X.1 ≤ 2048) {d : Nat} {Q : Value → mj_H → Prop} {t : Nat} (ht : 4 * t + 4 ≤ X.1) {σ : mj_H} (hLI : gw_LI t σ) (ih : ∀ σ, gw_LI (t + 1) σ → mj_Wp X (d + 21) y_Law_law 18 [some (.float 1), some (.ref 0), some (.ref 55), some (.int (nI (4 * (t + 1))))] [] σ (mj_V Q)) : mj_Wp X (d + 21) y_Law_law 696 [some (.float 1), some (.ref 0), some (.ref 55), some (.int (nI (4 * t)))] [] σ (mj_V Q) := by
  obtain ⟨w, h, n, s, kp, hn, hs, P, sz, hd, hva, hkp, hhi, htr, hC, hM, hN, hno, hb1, hb2⟩ := id hLI
  have hN0 : σ.1 σ.2.1 = none := hno _ (Nat.le_refl _)
  have hCx : σ.1 0 = gw_c0 := hC.1
  have hCxx := hCx
  obtain ⟨_, _, _, _, _, _, hMx, -⟩ := id hM
  refine mw_ld 697 i_Law_law_696 rfl rfl rfl ?_
  refine mw_ld 698 i_Law_law_697 rfl rfl rfl ?_
  refine mw_ld 699 i_Law_law_698 rfl rfl rfl ?_
  refine mw_k 700 i_Law_law_699 rfl ?_
  refine mw_b 701 i_Law_law_700 rfl ?_
  rw [show (1 : Int32) = nI 1 from rfl, nI_add]
  refine mw_sald 702 (4 * t + 1) i_Law_law_701 rfl rfl (by omega) (by omega) ?_
  refine mw_cv1 705 i_Law_law_702 rfl hCx (sp_GW_spare hC hd hva.1 hva.2.1 (fun f hk hC2 => ?_)) rfl rfl (Nat.le_of_ble_eq_true rfl) (Nat.le_of_ble_eq_true rfl)
  have hM1 := gw_MI_keep (fun a h1 _ => hk a h1) hM
  obtain ⟨_, _, _, _, _, _, hMx, -⟩ := id hM1
  refine mw_ld 706 i_Law_law_705 rfl rfl rfl ?_
  refine mw_ld 707 i_Law_law_706 rfl rfl rfl ?_
  refine mw_ld 708 i_Law_law_707 rfl rfl rfl ?_
  refine mw_k 709 i_Law_law_708 rfl ?_
  refine mw_b 710 i_Law_law_709 rfl ?_
  rw [show (1 : Int32) = nI 1 from rfl, nI_add]
  refine mw_sald 711 (4 * t + 1) i_Law_law_710 rfl rfl (by omega) (by omega) ?_
  refine mw_cv1 714 i_Law_law_711 rfl hMx (sp_Model_spare (σ := (f, σ.2)) hM1 hd hva.1 hva.2.2.1 hva.2.1 (fun f2 hm hM2 => ?_)) rfl rfl (Nat.le_of_ble_eq_true rfl) (Nat.le_of_ble_eq_true rfl)
  refine mw_ic1 i_Law_law_714 rfl ?_
  refine mw_inc (ls' := [_, _, _, _]) 988 (nI (4 * (t + 1))) i_Law_law_985 rfl rfl rfl (by rw [show (4 : Int32) = nI 4 from rfl, nI_add]; rfl) rfl ?_
  refine mw_go i_Law_law_988 ?_
  exact ih (f2, σ.2) (gw_LI_s hd hva hkp hhi htr hk hC2 hm hM2 hN hno hb1 hb2)
theorem lw_case_19 {X : mj_X} (hL : X.1 ≤ 2048) {d : Nat} {Q : Value → mj_H → Prop} {t : Nat} (ht : 4 * t + 4 ≤ X.1) {σ : mj_H} (hLI : gw_LI t σ) (ih : ∀ σ, gw_LI (t + 1) σ → mj_Wp X (d + 21) y_Law_law 18 [some (.float 1), some (.ref 0), some (.ref 55), some (.int (nI (4 * (t + 1))))] [] σ (mj_V Q)) : mj_Wp X (d + 21) y_Law_law 719 [some (.float 1), some (.ref 0), some (.ref 55), some (.int (nI (4 * t)))] [] σ (mj_V Q) := by
  obtain ⟨w, h, n, s, kp, hn, hs, P, sz, hd, hva, hkp, hhi, htr, hC, hM, hN, hno, hb1, hb2⟩ := id hLI
  have hN0 : σ.1 σ.2.1 = none := hno _ (Nat.le_refl _)
  have hCx : σ.1 0 = gw_c0 := hC.1
  have hCxx := hCx
  obtain ⟨_, _, _, _, _, _, hMx, -⟩ := id hM
  refine mw_ld 720 i_Law_law_719 rfl rfl rfl ?_
  refine mw_cv1 723 i_Law_law_720 rfl hCx (sp_GW_fewest hC hd hva.1 hva.2.1 (fun f hk hC2 => ?_)) rfl rfl (Nat.le_of_ble_eq_true rfl) (Nat.le_of_ble_eq_true rfl)
  have hM1 := gw_MI_keep (fun a h1 _ => hk a h1) hM
  obtain ⟨_, _, _, _, _, _, hMx, -⟩ := id hM1
  refine mw_ld 724 i_Law_law_723 rfl rfl rfl ?_
  refine mw_cv1 727 i_Law_law_724 rfl hMx (sp_Model_fewest (σ := (f, σ.2)) hM1 hd hva.1 hva.2.2.1 hva.2.1 (fun f2 hm hM2 => ?_)) rfl rfl (Nat.le_of_ble_eq_true rfl) (Nat.le_of_ble_eq_true rfl)
  refine mw_ic1 i_Law_law_727 rfl ?_
  refine mw_inc (ls' := [_, _, _, _]) 988 (nI (4 * (t + 1))) i_Law_law_985 rfl rfl rfl (by rw [show (4 : Int32) = nI 4 from rfl, nI_add]; rfl) rfl ?_
  refine mw_go i_Law_law_988 ?_
  exact ih (f2, σ.2) (gw_LI_s hd hva hkp hhi htr hk hC2 hm hM2 hN hno hb1 hb2)
theorem lw_case_20 {X : mj_X} (hL : X.1 ≤ 2048) {d : Nat} {Q : Value → mj_H → Prop} {t : Nat} (ht : 4 * t + 4 ≤ X.1) {σ : mj_H} (hLI : gw_LI t σ) (ih : ∀ σ, gw_LI (t + 1) σ → mj_Wp X (d + 21) y_Law_law 18 [some (.float 1), some (.ref 0), some (.ref 55), some (.int (nI (4 * (t + 1))))] [] σ (mj_V Q)) : mj_Wp X (d + 21) y_Law_law 732 [some (.float 1), some (.ref 0), some (.ref 55), some (.int (nI (4 * t)))] [] σ (mj_V Q) := by
  obtain ⟨w, h, n, s, kp, hn, hs, P, sz, hd, hva, hkp, hhi, htr, hC, hM, hN, hno, hb1, hb2⟩ := id hLI
  have hN0 : σ.1 σ.2.1 = none := hno _ (Nat.le_refl _)
  have hCx : σ.1 0 = gw_c0 := hC.1
  have hCxx := hCx
  obtain ⟨_, _, _, _, _, _, hMx, -⟩ := id hM
  refine mw_ld 733 i_Law_law_732 rfl rfl rfl ?_
  refine mw_cv1 736 i_Law_law_733 rfl hCx (sp_GW_choose hC hd hva.1 hva.2.1 (fun f hk hC2 => ?_)) rfl rfl (Nat.le_of_ble_eq_true rfl) (Nat.le_of_ble_eq_true rfl)
  have hM1 := gw_MI_keep (fun a h1 _ => hk a h1) hM
  obtain ⟨_, _, _, _, _, _, hMx, -⟩ := id hM1
  refine mw_ld 737 i_Law_law_736 rfl rfl rfl ?_
  refine mw_cv1 740 i_Law_law_737 rfl hMx (sp_Model_choose (σ := (f, σ.2)) hM1 hd hva.1 hva.2.2.1 hva.2.1 (fun f2 hm hM2 => ?_)) rfl rfl (Nat.le_of_ble_eq_true rfl) (Nat.le_of_ble_eq_true rfl)
  refine mw_ic1 i_Law_law_740 rfl ?_
  refine mw_inc (ls' := [_, _, _, _]) 988 (nI (4 * (t + 1))) i_Law_law_985 rfl rfl rfl (by rw [show (4 : Int32) = nI 4 from rfl, nI_add]; rfl) rfl ?_
  refine mw_go i_Law_law_988 ?_
  exact ih (f2, σ.2) (gw_LI_s hd hva hkp hhi htr hk hC2 hm hM2 hN hno hb1 hb2)
theorem lw_case_21 {X : mj_X} (hL : X.1 ≤ 2048) {d : Nat} {Q : Value → mj_H → Prop} {t : Nat} (ht : 4 * t + 4 ≤ X.1) {σ : mj_H} (hLI : gw_LI t σ) (ih : ∀ σ, gw_LI (t + 1) σ → mj_Wp X (d + 21) y_Law_law 18 [some (.float 1), some (.ref 0), some (.ref 55), some (.int (nI (4 * (t + 1))))] [] σ (mj_V Q)) : mj_Wp X (d + 21) y_Law_law 745 [some (.float 1), some (.ref 0), some (.ref 55), some (.int (nI (4 * t)))] [] σ (mj_V Q) := by
  obtain ⟨w, h, n, s, kp, hn, hs, P, sz, hd, hva, hkp, hhi, htr, hC, hM, hN, hno, hb1, hb2⟩ := id hLI
  have hN0 : σ.1 σ.2.1 = none := hno _ (Nat.le_refl _)
  have hCx : σ.1 0 = gw_c0 := hC.1
  have hCxx := hCx
  obtain ⟨_, _, _, _, _, _, hMx, -⟩ := id hM
  refine mw_ld 746 i_Law_law_745 rfl rfl rfl ?_
  refine mw_cv1 749 i_Law_law_746 rfl hCx (sp_GW_many hC hd hva.1 hva.2.1 (fun f hk hC2 => ?_)) rfl rfl (Nat.le_of_ble_eq_true rfl) (Nat.le_of_ble_eq_true rfl)
  have hM1 := gw_MI_keep (fun a h1 _ => hk a h1) hM
  obtain ⟨_, _, _, _, _, _, hMx, -⟩ := id hM1
  refine mw_ld 750 i_Law_law_749 rfl rfl rfl ?_
  refine mw_cv1 753 i_Law_law_750 rfl hMx (sp_Model_many (σ := (f, σ.2)) hM1 hd hva.1 hva.2.2.1 hva.2.1 (fun f2 hm hM2 => ?_)) rfl rfl (Nat.le_of_ble_eq_true rfl) (Nat.le_of_ble_eq_true rfl)
  refine mw_ic1 i_Law_law_753 rfl ?_
  refine mw_inc (ls' := [_, _, _, _]) 988 (nI (4 * (t + 1))) i_Law_law_985 rfl rfl rfl (by rw [show (4 : Int32) = nI 4 from rfl, nI_add]; rfl) rfl ?_
  refine mw_go i_Law_law_988 ?_
  exact ih (f2, σ.2) (gw_LI_s hd hva hkp hhi htr hk hC2 hm hM2 hN hno hb1 hb2)
theorem lw_case_22 {X : mj_X} (hL : X.1 ≤ 2048) {d : Nat} {Q : Value → mj_H → Prop} {t : Nat} (ht : 4 * t + 4 ≤ X.1) {σ : mj_H} (hLI : gw_LI t σ) (ih : ∀ σ, gw_LI (t + 1) σ → mj_Wp X (d + 21) y_Law_law 18 [some (.float 1), some (.ref 0), some (.ref 55), some (.int (nI (4 * (t + 1))))] [] σ (mj_V Q)) : mj_Wp X (d + 21) y_Law_law 758 [some (.float 1), some (.ref 0), some (.ref 55), some (.int (nI (4 * t)))] [] σ (mj_V Q) := by
  obtain ⟨w, h, n, s, kp, hn, hs, P, sz, hd, hva, hkp, hhi, htr, hC, hM, hN, hno, hb1, hb2⟩ := id hLI
  have hN0 : σ.1 σ.2.1 = none := hno _ (Nat.le_refl _)
  have hCx : σ.1 0 = gw_c0 := hC.1
  have hCxx := hCx
  obtain ⟨_, _, _, _, _, _, hMx, -⟩ := id hM
  refine mw_ld 759 i_Law_law_758 rfl rfl rfl ?_
  refine mw_cv1 762 i_Law_law_759 rfl hCx (sp_GW_only hC hd hva.1 hva.2.1 (fun f hk hC2 => ?_)) rfl rfl (Nat.le_of_ble_eq_true rfl) (Nat.le_of_ble_eq_true rfl)
  have hM1 := gw_MI_keep (fun a h1 _ => hk a h1) hM
  obtain ⟨_, _, _, _, _, _, hMx, -⟩ := id hM1
  refine mw_ld 763 i_Law_law_762 rfl rfl rfl ?_
  refine mw_cv1 766 i_Law_law_763 rfl hMx (sp_Model_only (σ := (f, σ.2)) hM1 hd hva.1 hva.2.2.1 hva.2.1 (fun f2 hm hM2 => ?_)) rfl rfl (Nat.le_of_ble_eq_true rfl) (Nat.le_of_ble_eq_true rfl)
  refine mw_ic1 i_Law_law_766 rfl ?_
  refine mw_inc (ls' := [_, _, _, _]) 988 (nI (4 * (t + 1))) i_Law_law_985 rfl rfl rfl (by rw [show (4 : Int32) = nI 4 from rfl, nI_add]; rfl) rfl ?_
  refine mw_go i_Law_law_988 ?_
  exact ih (f2, σ.2) (gw_LI_s hd hva hkp hhi htr hk hC2 hm hM2 hN hno hb1 hb2)
theorem lw_case_23 {X : mj_X} (hL : X.1 ≤ 2048) {d : Nat} {Q : Value → mj_H → Prop} {t : Nat} (ht : 4 * t + 4 ≤ X.1) {σ : mj_H} (hLI : gw_LI t σ) (ih : ∀ σ, gw_LI (t + 1) σ → mj_Wp X (d + 21) y_Law_law 18 [some (.float 1), some (.ref 0), some (.ref 55), some (.int (nI (4 * (t + 1))))] [] σ (mj_V Q)) : mj_Wp X (d + 21) y_Law_law 771 [some (.float 1), some (.ref 0), some (.ref 55), some (.int (nI (4 * t)))] [] σ (mj_V Q) := by
  obtain ⟨w, h, n, s, kp, hn, hs, P, sz, hd, hva, hkp, hhi, htr, hC, hM, hN, hno, hb1, hb2⟩ := id hLI
  have hN0 : σ.1 σ.2.1 = none := hno _ (Nat.le_refl _)
  have hCx : σ.1 0 = gw_c0 := hC.1
  have hCxx := hCx
  obtain ⟨_, _, _, _, _, _, hMx, -⟩ := id hM
  refine mw_ld 772 i_Law_law_771 rfl rfl rfl ?_
  refine mw_ld 773 i_Law_law_772 rfl rfl rfl ?_
  refine mw_ld 774 i_Law_law_773 rfl rfl rfl ?_
  refine mw_k 775 i_Law_law_774 rfl ?_
  refine mw_b 776 i_Law_law_775 rfl ?_
  rw [show (1 : Int32) = nI 1 from rfl, nI_add]
  refine mw_sald 777 (4 * t + 1) i_Law_law_776 rfl rfl (by omega) (by omega) ?_
  refine mw_ld 778 i_Law_law_777 rfl rfl rfl ?_
  refine mw_ld 779 i_Law_law_778 rfl rfl rfl ?_
  refine mw_k 780 i_Law_law_779 rfl ?_
  refine mw_b 781 i_Law_law_780 rfl ?_
  rw [show (2 : Int32) = nI 2 from rfl, nI_add]
  refine mw_sald 782 (4 * t + 2) i_Law_law_781 rfl rfl (by omega) (by omega) ?_
  refine mw_cv1 785 i_Law_law_782 rfl hCx (sp_GW_sneak hC hd hva.1 hva.2.1 (fun f hk hC2 => ?_)) rfl rfl (Nat.le_of_ble_eq_true rfl) (Nat.le_of_ble_eq_true rfl)
  have hM1 := gw_MI_keep (fun a h1 _ => hk a h1) hM
  obtain ⟨_, _, _, _, _, _, hMx, -⟩ := id hM1
  refine mw_ld 786 i_Law_law_785 rfl rfl rfl ?_
  refine mw_ld 787 i_Law_law_786 rfl rfl rfl ?_
  refine mw_ld 788 i_Law_law_787 rfl rfl rfl ?_
  refine mw_k 789 i_Law_law_788 rfl ?_
  refine mw_b 790 i_Law_law_789 rfl ?_
  rw [show (1 : Int32) = nI 1 from rfl, nI_add]
  refine mw_sald 791 (4 * t + 1) i_Law_law_790 rfl rfl (by omega) (by omega) ?_
  refine mw_ld 792 i_Law_law_791 rfl rfl rfl ?_
  refine mw_ld 793 i_Law_law_792 rfl rfl rfl ?_
  refine mw_k 794 i_Law_law_793 rfl ?_
  refine mw_b 795 i_Law_law_794 rfl ?_
  rw [show (2 : Int32) = nI 2 from rfl, nI_add]
  refine mw_sald 796 (4 * t + 2) i_Law_law_795 rfl rfl (by omega) (by omega) ?_
  refine mw_cv1 799 i_Law_law_796 rfl hMx (sp_Model_sneak (σ := (f, σ.2)) hM1 hd hva.1 hva.2.2.1 hva.2.1 (fun f2 hm hM2 => ?_)) rfl rfl (Nat.le_of_ble_eq_true rfl) (Nat.le_of_ble_eq_true rfl)
  refine mw_ic1 i_Law_law_799 rfl ?_
  refine mw_inc (ls' := [_, _, _, _]) 988 (nI (4 * (t + 1))) i_Law_law_985 rfl rfl rfl (by rw [show (4 : Int32) = nI 4 from rfl, nI_add]; rfl) rfl ?_
  refine mw_go i_Law_law_988 ?_
  exact ih (f2, σ.2) (gw_LI_s hd hva hkp hhi htr hk hC2 hm hM2 hN hno hb1 hb2)
theorem lw_case_24 {X : mj_X} (hL : X.1 ≤ 2048) {d : Nat} {Q : Value → mj_H → Prop} {t : Nat} (ht : 4 * t + 4 ≤ X.1) {σ : mj_H} (hLI : gw_LI t σ) (ih : ∀ σ, gw_LI (t + 1) σ → mj_Wp X (d + 21) y_Law_law 18 [some (.float 1), some (.ref 0), some (.ref 55), some (.int (nI (4 * (t + 1))))] [] σ (mj_V Q)) : mj_Wp X (d + 21) y_Law_law 804 [some (.float 1), some (.ref 0), some (.ref 55), some (.int (nI (4 * t)))] [] σ (mj_V Q) := by
  obtain ⟨w, h, n, s, kp, hn, hs, P, sz, hd, hva, hkp, hhi, htr, hC, hM, hN, hno, hb1, hb2⟩ := id hLI
  have hN0 : σ.1 σ.2.1 = none := hno _ (Nat.le_refl _)
  have hCx : σ.1 0 = gw_c0 := hC.1
  have hCxx := hCx
  obtain ⟨_, _, _, _, _, _, hMx, -⟩ := id hM
  refine mw_ld 805 i_Law_law_804 rfl rfl rfl ?_
  refine mw_ld 806 i_Law_law_805 rfl rfl rfl ?_
  refine mw_ld 807 i_Law_law_806 rfl rfl rfl ?_
  refine mw_k 808 i_Law_law_807 rfl ?_
  refine mw_b 809 i_Law_law_808 rfl ?_
  rw [show (1 : Int32) = nI 1 from rfl, nI_add]
  refine mw_sald 810 (4 * t + 1) i_Law_law_809 rfl rfl (by omega) (by omega) ?_
  refine mw_ld 811 i_Law_law_810 rfl rfl rfl ?_
  refine mw_ld 812 i_Law_law_811 rfl rfl rfl ?_
  refine mw_k 813 i_Law_law_812 rfl ?_
  refine mw_b 814 i_Law_law_813 rfl ?_
  rw [show (2 : Int32) = nI 2 from rfl, nI_add]
  refine mw_sald 815 (4 * t + 2) i_Law_law_814 rfl rfl (by omega) (by omega) ?_
  refine mw_ld 816 i_Law_law_815 rfl rfl rfl ?_
  refine mw_ld 817 i_Law_law_816 rfl rfl rfl ?_
  refine mw_k 818 i_Law_law_817 rfl ?_
  refine mw_b 819 i_Law_law_818 rfl ?_
  rw [show (3 : Int32) = nI 3 from rfl, nI_add]
  refine mw_sald 820 (4 * t + 3) i_Law_law_819 rfl rfl (by omega) (by omega) ?_
  refine mw_cv1 823 i_Law_law_820 rfl hCx (sp_GW_way hC hd hva.1 hva.2.1 (fun f hk hC2 => ?_)) rfl rfl (Nat.le_of_ble_eq_true rfl) (Nat.le_of_ble_eq_true rfl)
  have hM1 := gw_MI_keep (fun a h1 _ => hk a h1) hM
  obtain ⟨_, _, _, _, _, _, hMx, -⟩ := id hM1
  refine mw_ld 824 i_Law_law_823 rfl rfl rfl ?_
  refine mw_ld 825 i_Law_law_824 rfl rfl rfl ?_
  refine mw_ld 826 i_Law_law_825 rfl rfl rfl ?_
  refine mw_k 827 i_Law_law_826 rfl ?_
  refine mw_b 828 i_Law_law_827 rfl ?_
  rw [show (1 : Int32) = nI 1 from rfl, nI_add]
  refine mw_sald 829 (4 * t + 1) i_Law_law_828 rfl rfl (by omega) (by omega) ?_
  refine mw_ld 830 i_Law_law_829 rfl rfl rfl ?_
  refine mw_ld 831 i_Law_law_830 rfl rfl rfl ?_
  refine mw_k 832 i_Law_law_831 rfl ?_
  refine mw_b 833 i_Law_law_832 rfl ?_
  rw [show (2 : Int32) = nI 2 from rfl, nI_add]
  refine mw_sald 834 (4 * t + 2) i_Law_law_833 rfl rfl (by omega) (by omega) ?_
  refine mw_ld 835 i_Law_law_834 rfl rfl rfl ?_
  refine mw_ld 836 i_Law_law_835 rfl rfl rfl ?_
  refine mw_k 837 i_Law_law_836 rfl ?_
  refine mw_b 838 i_Law_law_837 rfl ?_
  rw [show (3 : Int32) = nI 3 from rfl, nI_add]
  refine mw_sald 839 (4 * t + 3) i_Law_law_838 rfl rfl (by omega) (by omega) ?_
  refine mw_cv1 842 i_Law_law_839 rfl hMx (sp_Model_way (σ := (f, σ.2)) hM1 hd hva.1 hva.2.2.1 hva.2.1 (fun f2 hm hM2 => ?_)) rfl rfl (Nat.le_of_ble_eq_true rfl) (Nat.le_of_ble_eq_true rfl)
  refine mw_ic1 i_Law_law_842 rfl ?_
  refine mw_inc (ls' := [_, _, _, _]) 988 (nI (4 * (t + 1))) i_Law_law_985 rfl rfl rfl (by rw [show (4 : Int32) = nI 4 from rfl, nI_add]; rfl) rfl ?_
  refine mw_go i_Law_law_988 ?_
  exact ih (f2, σ.2) (gw_LI_s hd hva hkp hhi htr hk hC2 hm hM2 hN hno hb1 hb2)
theorem lw_case_25 {X : mj_X} (hL : X.1 ≤ 2048) {d : Nat} {Q : Value → mj_H → Prop} {t : Nat} (ht : 4 * t + 4 ≤ X.1) {σ : mj_H} (hLI : gw_LI t σ) (ih : ∀ σ, gw_LI (t + 1) σ → mj_Wp X (d + 21) y_Law_law 18 [some (.float 1), some (.ref 0), some (.ref 55), some (.int (nI (4 * (t + 1))))] [] σ (mj_V Q)) : mj_Wp X (d + 21) y_Law_law 847 [some (.float 1), some (.ref 0), some (.ref 55), some (.int (nI (4 * t)))] [] σ (mj_V Q) := by
  obtain ⟨w, h, n, s, kp, hn, hs, P, sz, hd, hva, hkp, hhi, htr, hC, hM, hN, hno, hb1, hb2⟩ := id hLI
  have hN0 : σ.1 σ.2.1 = none := hno _ (Nat.le_refl _)
  have hCx : σ.1 0 = gw_c0 := hC.1
  have hCxx := hCx
  obtain ⟨_, _, _, _, _, _, hMx, -⟩ := id hM
  refine mw_ld 848 i_Law_law_847 rfl rfl rfl ?_
  refine mw_cv1 851 i_Law_law_848 rfl hCx (sp_GW_hides hC hd hva.1 hva.2.1 (fun f hk hC2 => ?_)) rfl rfl (Nat.le_of_ble_eq_true rfl) (Nat.le_of_ble_eq_true rfl)
  have hM1 := gw_MI_keep (fun a h1 _ => hk a h1) hM
  obtain ⟨_, _, _, _, _, _, hMx, -⟩ := id hM1
  refine mw_ld 852 i_Law_law_851 rfl rfl rfl ?_
  refine mw_cv1 855 i_Law_law_852 rfl hMx (sp_Model_hides (σ := (f, σ.2)) hM1 hd hva.1 hva.2.2.1 hva.2.1 (fun f2 hm hM2 => ?_)) rfl rfl (Nat.le_of_ble_eq_true rfl) (Nat.le_of_ble_eq_true rfl)
  refine mw_ic1 i_Law_law_855 rfl ?_
  refine mw_inc (ls' := [_, _, _, _]) 988 (nI (4 * (t + 1))) i_Law_law_985 rfl rfl rfl (by rw [show (4 : Int32) = nI 4 from rfl, nI_add]; rfl) rfl ?_
  refine mw_go i_Law_law_988 ?_
  exact ih (f2, σ.2) (gw_LI_s hd hva hkp hhi htr hk hC2 hm hM2 hN hno hb1 hb2)
theorem lw_case_26 {X : mj_X} (hL : X.1 ≤ 2048) {d : Nat} {Q : Value → mj_H → Prop} {t : Nat} (ht : 4 * t + 4 ≤ X.1) {σ : mj_H} (hLI : gw_LI t σ) (ih : ∀ σ, gw_LI (t + 1) σ → mj_Wp X (d + 21) y_Law_law 18 [some (.float 1), some (.ref 0), some (.ref 55), some (.int (nI (4 * (t + 1))))] [] σ (mj_V Q)) : mj_Wp X (d + 21) y_Law_law 860 [some (.float 1), some (.ref 0), some (.ref 55), some (.int (nI (4 * t)))] [] σ (mj_V Q) := by
  obtain ⟨w, h, n, s, kp, hn, hs, P, sz, hd, hva, hkp, hhi, htr, hC, hM, hN, hno, hb1, hb2⟩ := id hLI
  have hN0 : σ.1 σ.2.1 = none := hno _ (Nat.le_refl _)
  have hCx : σ.1 0 = gw_c0 := hC.1
  have hCxx := hCx
  obtain ⟨_, _, _, _, _, _, hMx, -⟩ := id hM
  cases hok : gw_okTree w h n s (X.2 (4 * t + 1)) with
  | false =>
    refine mw_ld 861 i_Law_law_860 rfl rfl rfl ?_
    refine mw_ld 862 i_Law_law_861 rfl rfl rfl ?_
    refine mw_ld 863 i_Law_law_862 rfl rfl rfl ?_
    refine mw_k 864 i_Law_law_863 rfl ?_
    refine mw_b 865 i_Law_law_864 rfl ?_
    rw [show (1 : Int32) = nI 1 from rfl, nI_add]
    refine mw_sald 866 (4 * t + 1) i_Law_law_865 rfl rfl (by omega) (by omega) ?_
    refine mw_cv1 869 i_Law_law_866 rfl hCx (sp_GW_tree hC hd hva.1 hva.2.1 (fun _ f hk hC2 => ?_) (fun q => absurd (hok.symm.trans q) (by decide))) rfl rfl (Nat.le_of_ble_eq_true rfl) (Nat.le_of_ble_eq_true rfl)
    have hM1 := gw_MI_keep (fun a h1 _ => hk a h1) hM
    obtain ⟨_, _, _, _, _, _, hMx, -⟩ := id hM1
    refine mw_ld 870 i_Law_law_869 rfl rfl rfl ?_
    refine mw_ld 871 i_Law_law_870 rfl rfl rfl ?_
    refine mw_ld 872 i_Law_law_871 rfl rfl rfl ?_
    refine mw_k 873 i_Law_law_872 rfl ?_
    refine mw_b 874 i_Law_law_873 rfl ?_
    rw [show (1 : Int32) = nI 1 from rfl, nI_add]
    refine mw_sald 875 (4 * t + 1) i_Law_law_874 rfl rfl (by omega) (by omega) ?_
    refine mw_cv1 878 i_Law_law_875 rfl hMx (sp_Model_tree (σ := (f, σ.2)) hM1 hd hva.1 hva.2.2.1 hva.2.1 (fun _ f2 hm hM2 => ?_) (fun q => absurd (hok.symm.trans q) (by decide))) rfl rfl (Nat.le_of_ble_eq_true rfl) (Nat.le_of_ble_eq_true rfl)
    refine mw_ic1 i_Law_law_878 rfl ?_
    refine mw_inc (ls' := [_, _, _, _]) 988 (nI (4 * (t + 1))) i_Law_law_985 rfl rfl rfl (by rw [show (4 : Int32) = nI 4 from rfl, nI_add]; rfl) rfl ?_
    refine mw_go i_Law_law_988 ?_
    exact ih (f2, σ.2) (gw_LI_s hd hva hkp hhi htr hk hC2 hm hM2 hN hno hb1 hb2)
  | true =>
    have htr2 := gw_tr_ok hd hva.1 hok
    refine mw_ld 861 i_Law_law_860 rfl rfl rfl ?_
    refine mw_ld 862 i_Law_law_861 rfl rfl rfl ?_
    refine mw_ld 863 i_Law_law_862 rfl rfl rfl ?_
    refine mw_k 864 i_Law_law_863 rfl ?_
    refine mw_b 865 i_Law_law_864 rfl ?_
    rw [show (1 : Int32) = nI 1 from rfl, nI_add]
    refine mw_sald 866 (4 * t + 1) i_Law_law_865 rfl rfl (by omega) (by omega) ?_
    refine mw_cv1 869 i_Law_law_866 rfl hCx (sp_GW_tree hC hd hva.1 hva.2.1 (fun q => absurd (hok.symm.trans q) (by decide)) (fun _ f hk hC2 => ?_)) rfl rfl (Nat.le_of_ble_eq_true rfl) (Nat.le_of_ble_eq_true rfl)
    have hM1 := gw_MI_keep (fun a h1 _ => hk a h1) hM
    obtain ⟨_, _, _, _, _, _, hMx, -⟩ := id hM1
    refine mw_ld 870 i_Law_law_869 rfl rfl rfl ?_
    refine mw_ld 871 i_Law_law_870 rfl rfl rfl ?_
    refine mw_ld 872 i_Law_law_871 rfl rfl rfl ?_
    refine mw_k 873 i_Law_law_872 rfl ?_
    refine mw_b 874 i_Law_law_873 rfl ?_
    rw [show (1 : Int32) = nI 1 from rfl, nI_add]
    refine mw_sald 875 (4 * t + 1) i_Law_law_874 rfl rfl (by omega) (by omega) ?_
    refine mw_cv1 878 i_Law_law_875 rfl hMx (sp_Model_tree (σ := (f, σ.2)) hM1 hd hva.1 hva.2.2.1 hva.2.1 (fun q => absurd (hok.symm.trans q) (by decide)) (fun _ f2 hm hM2 => ?_)) rfl rfl (Nat.le_of_ble_eq_true rfl) (Nat.le_of_ble_eq_true rfl)
    refine mw_ic1 i_Law_law_878 rfl ?_
    refine mw_inc (ls' := [_, _, _, _]) 988 (nI (4 * (t + 1))) i_Law_law_985 rfl rfl rfl (by rw [show (4 : Int32) = nI 4 from rfl, nI_add]; rfl) rfl ?_
    refine mw_go i_Law_law_988 ?_
    exact ih (f2, σ.2) (gw_LI_s hd hva hkp hhi htr2 hk hC2 hm hM2 hN hno hb1 hb2)
theorem lw_case_27 {X : mj_X} (hL : X.1 ≤ 2048) {d : Nat} {Q : Value → mj_H → Prop} {t : Nat} (ht : 4 * t + 4 ≤ X.1) {σ : mj_H} (hLI : gw_LI t σ) (ih : ∀ σ, gw_LI (t + 1) σ → mj_Wp X (d + 21) y_Law_law 18 [some (.float 1), some (.ref 0), some (.ref 55), some (.int (nI (4 * (t + 1))))] [] σ (mj_V Q)) : mj_Wp X (d + 21) y_Law_law 883 [some (.float 1), some (.ref 0), some (.ref 55), some (.int (nI (4 * t)))] [] σ (mj_V Q) := by
  obtain ⟨w, h, n, s, kp, hn, hs, P, sz, hd, hva, hkp, hhi, htr, hC, hM, hN, hno, hb1, hb2⟩ := id hLI
  have hN0 : σ.1 σ.2.1 = none := hno _ (Nat.le_refl _)
  have hCx : σ.1 0 = gw_c0 := hC.1
  have hCxx := hCx
  obtain ⟨_, _, _, _, _, _, hMx, -⟩ := id hM
  refine mw_ld 884 i_Law_law_883 rfl rfl rfl ?_
  refine mw_ld 885 i_Law_law_884 rfl rfl rfl ?_
  refine mw_ld 886 i_Law_law_885 rfl rfl rfl ?_
  refine mw_k 887 i_Law_law_886 rfl ?_
  refine mw_b 888 i_Law_law_887 rfl ?_
  rw [show (1 : Int32) = nI 1 from rfl, nI_add]
  refine mw_sald 889 (4 * t + 1) i_Law_law_888 rfl rfl (by omega) (by omega) ?_
  refine mw_ld 890 i_Law_law_889 rfl rfl rfl ?_
  refine mw_ld 891 i_Law_law_890 rfl rfl rfl ?_
  refine mw_k 892 i_Law_law_891 rfl ?_
  refine mw_b 893 i_Law_law_892 rfl ?_
  rw [show (2 : Int32) = nI 2 from rfl, nI_add]
  refine mw_sald 894 (4 * t + 2) i_Law_law_893 rfl rfl (by omega) (by omega) ?_
  refine mw_cv1 897 i_Law_law_894 rfl hCx (sp_GW_row hC hd hva.1 hva.2.1 ?_) rfl rfl (Nat.le_of_ble_eq_true rfl) (Nat.le_of_ble_eq_true rfl)
  skip
  refine mw_ld 898 i_Law_law_897 rfl rfl rfl ?_
  refine mw_ld 899 i_Law_law_898 rfl rfl rfl ?_
  refine mw_ld 900 i_Law_law_899 rfl rfl rfl ?_
  refine mw_k 901 i_Law_law_900 rfl ?_
  refine mw_b 902 i_Law_law_901 rfl ?_
  rw [show (1 : Int32) = nI 1 from rfl, nI_add]
  refine mw_sald 903 (4 * t + 1) i_Law_law_902 rfl rfl (by omega) (by omega) ?_
  refine mw_ld 904 i_Law_law_903 rfl rfl rfl ?_
  refine mw_ld 905 i_Law_law_904 rfl rfl rfl ?_
  refine mw_k 906 i_Law_law_905 rfl ?_
  refine mw_b 907 i_Law_law_906 rfl ?_
  rw [show (2 : Int32) = nI 2 from rfl, nI_add]
  refine mw_sald 908 (4 * t + 2) i_Law_law_907 rfl rfl (by omega) (by omega) ?_
  refine mw_cv1 911 i_Law_law_908 rfl hMx (sp_Model_row hM hd hva.1 hva.2.2.1 hva.2.1 htr ?_) rfl rfl (Nat.le_of_ble_eq_true rfl) (Nat.le_of_ble_eq_true rfl)
  refine mw_ic1 i_Law_law_911 rfl ?_
  refine mw_inc (ls' := [_, _, _, _]) 988 (nI (4 * (t + 1))) i_Law_law_985 rfl rfl rfl (by rw [show (4 : Int32) = nI 4 from rfl, nI_add]; rfl) rfl ?_
  refine mw_go i_Law_law_988 ?_
  exact ih σ (gw_LI_up hLI)
theorem lw_case_28 {X : mj_X} (hL : X.1 ≤ 2048) {d : Nat} {Q : Value → mj_H → Prop} {t : Nat} (ht : 4 * t + 4 ≤ X.1) {σ : mj_H} (hLI : gw_LI t σ) (ih : ∀ σ, gw_LI (t + 1) σ → mj_Wp X (d + 21) y_Law_law 18 [some (.float 1), some (.ref 0), some (.ref 55), some (.int (nI (4 * (t + 1))))] [] σ (mj_V Q)) : mj_Wp X (d + 21) y_Law_law 916 [some (.float 1), some (.ref 0), some (.ref 55), some (.int (nI (4 * t)))] [] σ (mj_V Q) := by
  obtain ⟨w, h, n, s, kp, hn, hs, P, sz, hd, hva, hkp, hhi, htr, hC, hM, hN, hno, hb1, hb2⟩ := id hLI
  have hN0 : σ.1 σ.2.1 = none := hno _ (Nat.le_refl _)
  have hCx : σ.1 0 = gw_c0 := hC.1
  have hCxx := hCx
  obtain ⟨_, _, _, _, _, _, hMx, -⟩ := id hM
  cases hok : gw_okForge w h P (X.2 (4 * t + 1)) (X.2 (4 * t + 2)) with
  | false =>
    refine mw_ld 917 i_Law_law_916 rfl rfl rfl ?_
    refine mw_ld 918 i_Law_law_917 rfl rfl rfl ?_
    refine mw_ld 919 i_Law_law_918 rfl rfl rfl ?_
    refine mw_k 920 i_Law_law_919 rfl ?_
    refine mw_b 921 i_Law_law_920 rfl ?_
    rw [show (1 : Int32) = nI 1 from rfl, nI_add]
    refine mw_sald 922 (4 * t + 1) i_Law_law_921 rfl rfl (by omega) (by omega) ?_
    refine mw_ld 923 i_Law_law_922 rfl rfl rfl ?_
    refine mw_ld 924 i_Law_law_923 rfl rfl rfl ?_
    refine mw_k 925 i_Law_law_924 rfl ?_
    refine mw_b 926 i_Law_law_925 rfl ?_
    rw [show (2 : Int32) = nI 2 from rfl, nI_add]
    refine mw_sald 927 (4 * t + 2) i_Law_law_926 rfl rfl (by omega) (by omega) ?_
    refine mw_cv1 930 i_Law_law_927 rfl hCx (sp_GW_forge hC hd hva.1 hva.2.1 (fun _ => ?_) (fun q => absurd (hok.symm.trans q) (by decide))) rfl rfl (Nat.le_of_ble_eq_true rfl) (Nat.le_of_ble_eq_true rfl)
    skip
    refine mw_ld 931 i_Law_law_930 rfl rfl rfl ?_
    refine mw_ld 932 i_Law_law_931 rfl rfl rfl ?_
    refine mw_ld 933 i_Law_law_932 rfl rfl rfl ?_
    refine mw_k 934 i_Law_law_933 rfl ?_
    refine mw_b 935 i_Law_law_934 rfl ?_
    rw [show (1 : Int32) = nI 1 from rfl, nI_add]
    refine mw_sald 936 (4 * t + 1) i_Law_law_935 rfl rfl (by omega) (by omega) ?_
    refine mw_ld 937 i_Law_law_936 rfl rfl rfl ?_
    refine mw_ld 938 i_Law_law_937 rfl rfl rfl ?_
    refine mw_k 939 i_Law_law_938 rfl ?_
    refine mw_b 940 i_Law_law_939 rfl ?_
    rw [show (2 : Int32) = nI 2 from rfl, nI_add]
    refine mw_sald 941 (4 * t + 2) i_Law_law_940 rfl rfl (by omega) (by omega) ?_
    refine mw_cv1 944 i_Law_law_941 rfl hMx (sp_Model_forge hM hd hva.1 hva.2.2.1 hva.2.1 htr (fun _ => ?_) (fun q => absurd (hok.symm.trans q) (by decide))) rfl rfl (Nat.le_of_ble_eq_true rfl) (Nat.le_of_ble_eq_true rfl)
    refine mw_ic1 i_Law_law_944 rfl ?_
    refine mw_inc (ls' := [_, _, _, _]) 988 (nI (4 * (t + 1))) i_Law_law_985 rfl rfl rfl (by rw [show (4 : Int32) = nI 4 from rfl, nI_add]; rfl) rfl ?_
    refine mw_go i_Law_law_988 ?_
    exact ih σ (gw_LI_up hLI)
  | true =>
    have hok2 := hok
    simp only [gw_okForge, Bool.and_eq_true] at hok2
    obtain ⟨z, hz, ez⟩ := gw_isP_of hok2.1.2
    have htr2 : gw_tr w h n (P.set (X.2 (4 * t + 1)).toInt.toNat (X.2 (4 * t + 2), (gw_rw P (X.2 (4 * t + 1)).toInt.toNat).2)) := by
      have h6 := htr.1
      rw [ez, gw_tn (by omega)]; exact gw_tr_set hz hok2.2 htr
    refine mw_ld 917 i_Law_law_916 rfl rfl rfl ?_
    refine mw_ld 918 i_Law_law_917 rfl rfl rfl ?_
    refine mw_ld 919 i_Law_law_918 rfl rfl rfl ?_
    refine mw_k 920 i_Law_law_919 rfl ?_
    refine mw_b 921 i_Law_law_920 rfl ?_
    rw [show (1 : Int32) = nI 1 from rfl, nI_add]
    refine mw_sald 922 (4 * t + 1) i_Law_law_921 rfl rfl (by omega) (by omega) ?_
    refine mw_ld 923 i_Law_law_922 rfl rfl rfl ?_
    refine mw_ld 924 i_Law_law_923 rfl rfl rfl ?_
    refine mw_k 925 i_Law_law_924 rfl ?_
    refine mw_b 926 i_Law_law_925 rfl ?_
    rw [show (2 : Int32) = nI 2 from rfl, nI_add]
    refine mw_sald 927 (4 * t + 2) i_Law_law_926 rfl rfl (by omega) (by omega) ?_
    refine mw_cv1 930 i_Law_law_927 rfl hCx (sp_GW_forge hC hd hva.1 hva.2.1 (fun q => absurd (hok.symm.trans q) (by decide)) (fun _ f hk hC2 => ?_)) rfl rfl (Nat.le_of_ble_eq_true rfl) (Nat.le_of_ble_eq_true rfl)
    have hM1 := gw_MI_keep (fun a h1 _ => hk a h1) hM
    obtain ⟨_, _, _, _, _, _, hMx, -⟩ := id hM1
    refine mw_ld 931 i_Law_law_930 rfl rfl rfl ?_
    refine mw_ld 932 i_Law_law_931 rfl rfl rfl ?_
    refine mw_ld 933 i_Law_law_932 rfl rfl rfl ?_
    refine mw_k 934 i_Law_law_933 rfl ?_
    refine mw_b 935 i_Law_law_934 rfl ?_
    rw [show (1 : Int32) = nI 1 from rfl, nI_add]
    refine mw_sald 936 (4 * t + 1) i_Law_law_935 rfl rfl (by omega) (by omega) ?_
    refine mw_ld 937 i_Law_law_936 rfl rfl rfl ?_
    refine mw_ld 938 i_Law_law_937 rfl rfl rfl ?_
    refine mw_k 939 i_Law_law_938 rfl ?_
    refine mw_b 940 i_Law_law_939 rfl ?_
    rw [show (2 : Int32) = nI 2 from rfl, nI_add]
    refine mw_sald 941 (4 * t + 2) i_Law_law_940 rfl rfl (by omega) (by omega) ?_
    refine mw_cv1 944 i_Law_law_941 rfl hMx (sp_Model_forge (σ := (f, σ.2)) hM1 hd hva.1 hva.2.2.1 hva.2.1 htr (fun q => absurd (hok.symm.trans q) (by decide)) (fun _ f2 hm hM2 => ?_)) rfl rfl (Nat.le_of_ble_eq_true rfl) (Nat.le_of_ble_eq_true rfl)
    refine mw_ic1 i_Law_law_944 rfl ?_
    refine mw_inc (ls' := [_, _, _, _]) 988 (nI (4 * (t + 1))) i_Law_law_985 rfl rfl rfl (by rw [show (4 : Int32) = nI 4 from rfl, nI_add]; rfl) rfl ?_
    refine mw_go i_Law_law_988 ?_
    exact ih (f2, σ.2) (gw_LI_s hd hva hkp hhi htr2 hk hC2 hm hM2 hN hno hb1 hb2)
theorem lw_case_29 {X : mj_X} (hL : X.1 ≤ 2048) {d : Nat} {Q : Value → mj_H → Prop} {t : Nat} (ht : 4 * t + 4 ≤ X.1) {σ : mj_H} (hLI : gw_LI t σ) (ih : ∀ σ, gw_LI (t + 1) σ → mj_Wp X (d + 21) y_Law_law 18 [some (.float 1), some (.ref 0), some (.ref 55), some (.int (nI (4 * (t + 1))))] [] σ (mj_V Q)) : mj_Wp X (d + 21) y_Law_law 949 [some (.float 1), some (.ref 0), some (.ref 55), some (.int (nI (4 * t)))] [] σ (mj_V Q) := by
  obtain ⟨w, h, n, s, kp, hn, hs, P, sz, hd, hva, hkp, hhi, htr, hC, hM, hN, hno, hb1, hb2⟩ := id hLI
  have hN0 : σ.1 σ.2.1 = none := hno _ (Nat.le_refl _)
  have hCx : σ.1 0 = gw_c0 := hC.1
  have hCxx := hCx
  obtain ⟨_, _, _, _, _, _, hMx, -⟩ := id hM
  refine mw_ld 950 i_Law_law_949 rfl rfl rfl ?_
  refine mw_cv1 953 i_Law_law_950 rfl hCx (sp_GW_check hC hd hva.1 hva.2.1 (fun f hk hC2 => ?_)) rfl rfl (Nat.le_of_ble_eq_true rfl) (Nat.le_of_ble_eq_true rfl)
  have hM1 := gw_MI_keep (fun a h1 _ => hk a h1) hM
  obtain ⟨_, _, _, _, _, _, hMx, -⟩ := id hM1
  refine mw_ld 954 i_Law_law_953 rfl rfl rfl ?_
  refine mw_cv1 957 i_Law_law_954 rfl hMx (sp_Model_check (σ := (f, σ.2)) hM1 hd hva.1 hva.2.2.1 hva.2.1 htr (fun f2 hm hM2 => ?_)) rfl rfl (Nat.le_of_ble_eq_true rfl) (Nat.le_of_ble_eq_true rfl)
  refine mw_ic1 i_Law_law_957 rfl ?_
  refine mw_inc (ls' := [_, _, _, _]) 988 (nI (4 * (t + 1))) i_Law_law_985 rfl rfl rfl (by rw [show (4 : Int32) = nI 4 from rfl, nI_add]; rfl) rfl ?_
  refine mw_go i_Law_law_988 ?_
  exact ih (f2, σ.2) (gw_LI_s hd hva hkp hhi htr hk hC2 hm hM2 hN hno hb1 hb2)
theorem lw_case_30 {X : mj_X} (hL : X.1 ≤ 2048) {d : Nat} {Q : Value → mj_H → Prop} {t : Nat} (ht : 4 * t + 4 ≤ X.1) {σ : mj_H} (hLI : gw_LI t σ) (ih : ∀ σ, gw_LI (t + 1) σ → mj_Wp X (d + 21) y_Law_law 18 [some (.float 1), some (.ref 0), some (.ref 55), some (.int (nI (4 * (t + 1))))] [] σ (mj_V Q)) : mj_Wp X (d + 21) y_Law_law 962 [some (.float 1), some (.ref 0), some (.ref 55), some (.int (nI (4 * t)))] [] σ (mj_V Q) := by
  obtain ⟨w, h, n, s, kp, hn, hs, P, sz, hd, hva, hkp, hhi, htr, hC, hM, hN, hno, hb1, hb2⟩ := id hLI
  have hN0 : σ.1 σ.2.1 = none := hno _ (Nat.le_refl _)
  have hCx : σ.1 0 = gw_c0 := hC.1
  have hCxx := hCx
  obtain ⟨_, _, _, _, _, _, hMx, -⟩ := id hM
  refine mw_ld 963 i_Law_law_962 rfl rfl rfl ?_
  refine mw_ld 964 i_Law_law_963 rfl rfl rfl ?_
  refine mw_ld 965 i_Law_law_964 rfl rfl rfl ?_
  refine mw_k 966 i_Law_law_965 rfl ?_
  refine mw_b 967 i_Law_law_966 rfl ?_
  rw [show (1 : Int32) = nI 1 from rfl, nI_add]
  refine mw_sald 968 (4 * t + 1) i_Law_law_967 rfl rfl (by omega) (by omega) ?_
  refine mw_cv1 971 i_Law_law_968 rfl hCx (sp_GW_count hC hd hva.1 hva.2.1 (fun f hk hC2 => ?_)) rfl rfl (Nat.le_of_ble_eq_true rfl) (Nat.le_of_ble_eq_true rfl)
  have hM1 := gw_MI_keep (fun a h1 _ => hk a h1) hM
  obtain ⟨_, _, _, _, _, _, hMx, -⟩ := id hM1
  refine mw_ld 972 i_Law_law_971 rfl rfl rfl ?_
  refine mw_ld 973 i_Law_law_972 rfl rfl rfl ?_
  refine mw_ld 974 i_Law_law_973 rfl rfl rfl ?_
  refine mw_k 975 i_Law_law_974 rfl ?_
  refine mw_b 976 i_Law_law_975 rfl ?_
  rw [show (1 : Int32) = nI 1 from rfl, nI_add]
  refine mw_sald 977 (4 * t + 1) i_Law_law_976 rfl rfl (by omega) (by omega) ?_
  refine mw_cv1 980 i_Law_law_977 rfl hMx (sp_Model_count (σ := (f, σ.2)) hM1 hd hva.1 hva.2.2.1 hva.2.1 (fun f2 hm hM2 => ?_)) rfl rfl (Nat.le_of_ble_eq_true rfl) (Nat.le_of_ble_eq_true rfl)
  refine mw_ic1 i_Law_law_980 rfl ?_
  refine mw_inc (ls' := [_, _, _, _]) 988 (nI (4 * (t + 1))) i_Law_law_985 rfl rfl rfl (by rw [show (4 : Int32) = nI 4 from rfl, nI_add]; rfl) rfl ?_
  refine mw_go i_Law_law_988 ?_
  exact ih (f2, σ.2) (gw_LI_s hd hva hkp hhi htr hk hC2 hm hM2 hN hno hb1 hb2)
theorem gw_i31 (v : Int32) : 0 ≤ (v &&& 31).toInt := by
  rw [gw_nat_of (v &&& 31)]
  have h : (v &&& 31).toBitVec.toNat ≤ 31 := by
    rw [Int32.toBitVec_and, BitVec.toNat_and]
    exact Nat.and_le_right
  rw [mj_nI _ (by omega)]; omega
theorem lw_step {X : mj_X} (hL : X.1 ≤ 2048) {d : Nat} {Q : Value → mj_H → Prop} {t : Nat} (ht : 4 * t + 4 ≤ X.1) {σ : mj_H} (hLI : gw_LI t σ) (ih : ∀ σ, gw_LI (t + 1) σ → mj_Wp X (d + 21) y_Law_law 18 [some (.float 1), some (.ref 0), some (.ref 55), some (.int (nI (4 * (t + 1))))] [] σ (mj_V Q)) : mj_Wp X (d + 21) y_Law_law 18 [some (.float 1), some (.ref 0), some (.ref 55), some (.int (nI (4 * t)))] [] σ (mj_V Q) := by
  refine mw_ld 19 i_Law_law_18 rfl rfl rfl ?_
  refine mw_ld 20 i_Law_law_19 rfl rfl rfl ?_
  refine mw_slen 21 i_Law_law_20 rfl ?_
  refine mw_k 22 i_Law_law_21 rfl ?_
  refine mw_b 23 i_Law_law_22 rfl ?_
  refine mw_ic0 26 i_Law_law_23 rfl (fun q => by have q2 := (mj_lt _ _).mp q; rw [mj_nI _ (by omega)] at q2; rw [show nI X.1 - 4 = nI (X.1 - 4) from pk_sub (b := 4) (by omega), mj_nI _ (by omega)] at q2; omega) ?_
  refine mw_ld 27 i_Law_law_26 rfl rfl rfl ?_
  refine mw_ld 28 i_Law_law_27 rfl rfl rfl ?_
  refine mw_sald 29 (4 * t) i_Law_law_28 rfl rfl (by omega) (by omega) ?_
  refine mw_k 31 i_Law_law_29 rfl ?_
  refine mw_b 32 i_Law_law_31 rfl ?_
  by_cases w0 : X.2 (4 * t) &&& 31 = 0
  · rw [w0]
    refine mw_sw i_Law_law_32_0 ?_
    exact lw_case_0 hL ht hLI (fun σ2 h2 => ih σ2 h2)
  by_cases w1 : X.2 (4 * t) &&& 31 = 1
  · rw [w1]
    refine mw_sw i_Law_law_32_1 ?_
    exact lw_case_1 hL ht hLI (fun σ2 h2 => ih σ2 h2)
  by_cases w2 : X.2 (4 * t) &&& 31 = 2
  · rw [w2]
    refine mw_sw i_Law_law_32_2 ?_
    exact lw_case_2 hL ht hLI (fun σ2 h2 => ih σ2 h2)
  by_cases w3 : X.2 (4 * t) &&& 31 = 3
  · rw [w3]
    refine mw_sw i_Law_law_32_3 ?_
    exact lw_case_3 hL ht hLI (fun σ2 h2 => ih σ2 h2)
  by_cases w4 : X.2 (4 * t) &&& 31 = 4
  · rw [w4]
    refine mw_sw i_Law_law_32_4 ?_
    exact lw_case_4 hL ht hLI (fun σ2 h2 => ih σ2 h2)
  by_cases w5 : X.2 (4 * t) &&& 31 = 5
  · rw [w5]
    refine mw_sw i_Law_law_32_5 ?_
    exact lw_case_5 hL ht hLI (fun σ2 h2 => ih σ2 h2)
  by_cases w6 : X.2 (4 * t) &&& 31 = 6
  · rw [w6]
    refine mw_sw i_Law_law_32_6 ?_
    exact lw_case_6 hL ht hLI (fun σ2 h2 => ih σ2 h2)
  by_cases w7 : X.2 (4 * t) &&& 31 = 7
  · rw [w7]
    refine mw_sw i_Law_law_32_7 ?_
    exact lw_case_7 hL ht hLI (fun σ2 h2 => ih σ2 h2)
  by_cases w8 : X.2 (4 * t) &&& 31 = 8
  · rw [w8]
    refine mw_sw i_Law_law_32_8 ?_
    exact lw_case_8 hL ht hLI (fun σ2 h2 => ih σ2 h2)
  by_cases w9 : X.2 (4 * t) &&& 31 = 9
  · rw [w9]
    refine mw_sw i_Law_law_32_9 ?_
    exact lw_case_9 hL ht hLI (fun σ2 h2 => ih σ2 h2)
  by_cases w10 : X.2 (4 * t) &&& 31 = 10
  · rw [w10]
    refine mw_sw i_Law_law_32_10 ?_
    exact lw_case_10 hL ht hLI (fun σ2 h2 => ih σ2 h2)
  by_cases w11 : X.2 (4 * t) &&& 31 = 11
  · rw [w11]
    refine mw_sw i_Law_law_32_11 ?_
    exact lw_case_11 hL ht hLI (fun σ2 h2 => ih σ2 h2)
  by_cases w12 : X.2 (4 * t) &&& 31 = 12
  · rw [w12]
    refine mw_sw i_Law_law_32_12 ?_
    exact lw_case_12 hL ht hLI (fun σ2 h2 => ih σ2 h2)
  by_cases w13 : X.2 (4 * t) &&& 31 = 13
  · rw [w13]
    refine mw_sw i_Law_law_32_13 ?_
    exact lw_case_13 hL ht hLI (fun σ2 h2 => ih σ2 h2)
  by_cases w14 : X.2 (4 * t) &&& 31 = 14
  · rw [w14]
    refine mw_sw i_Law_law_32_14 ?_
    exact lw_case_14 hL ht hLI (fun σ2 h2 => ih σ2 h2)
  by_cases w15 : X.2 (4 * t) &&& 31 = 15
  · rw [w15]
    refine mw_sw i_Law_law_32_15 ?_
    exact lw_case_15 hL ht hLI (fun σ2 h2 => ih σ2 h2)
  by_cases w16 : X.2 (4 * t) &&& 31 = 16
  · rw [w16]
    refine mw_sw i_Law_law_32_16 ?_
    exact lw_case_16 hL ht hLI (fun σ2 h2 => ih σ2 h2)
  by_cases w17 : X.2 (4 * t) &&& 31 = 17
  · rw [w17]
    refine mw_sw i_Law_law_32_17 ?_
    exact lw_case_17 hL ht hLI (fun σ2 h2 => ih σ2 h2)
  by_cases w18 : X.2 (4 * t) &&& 31 = 18
  · rw [w18]
    refine mw_sw i_Law_law_32_18 ?_
    exact lw_case_18 hL ht hLI (fun σ2 h2 => ih σ2 h2)
  by_cases w19 : X.2 (4 * t) &&& 31 = 19
  · rw [w19]
    refine mw_sw i_Law_law_32_19 ?_
    exact lw_case_19 hL ht hLI (fun σ2 h2 => ih σ2 h2)
  by_cases w20 : X.2 (4 * t) &&& 31 = 20
  · rw [w20]
    refine mw_sw i_Law_law_32_20 ?_
    exact lw_case_20 hL ht hLI (fun σ2 h2 => ih σ2 h2)
  by_cases w21 : X.2 (4 * t) &&& 31 = 21
  · rw [w21]
    refine mw_sw i_Law_law_32_21 ?_
    exact lw_case_21 hL ht hLI (fun σ2 h2 => ih σ2 h2)
  by_cases w22 : X.2 (4 * t) &&& 31 = 22
  · rw [w22]
    refine mw_sw i_Law_law_32_22 ?_
    exact lw_case_22 hL ht hLI (fun σ2 h2 => ih σ2 h2)
  by_cases w23 : X.2 (4 * t) &&& 31 = 23
  · rw [w23]
    refine mw_sw i_Law_law_32_23 ?_
    exact lw_case_23 hL ht hLI (fun σ2 h2 => ih σ2 h2)
  by_cases w24 : X.2 (4 * t) &&& 31 = 24
  · rw [w24]
    refine mw_sw i_Law_law_32_24 ?_
    exact lw_case_24 hL ht hLI (fun σ2 h2 => ih σ2 h2)
  by_cases w25 : X.2 (4 * t) &&& 31 = 25
  · rw [w25]
    refine mw_sw i_Law_law_32_25 ?_
    exact lw_case_25 hL ht hLI (fun σ2 h2 => ih σ2 h2)
  by_cases w26 : X.2 (4 * t) &&& 31 = 26
  · rw [w26]
    refine mw_sw i_Law_law_32_26 ?_
    exact lw_case_26 hL ht hLI (fun σ2 h2 => ih σ2 h2)
  by_cases w27 : X.2 (4 * t) &&& 31 = 27
  · rw [w27]
    refine mw_sw i_Law_law_32_27 ?_
    exact lw_case_27 hL ht hLI (fun σ2 h2 => ih σ2 h2)
  by_cases w28 : X.2 (4 * t) &&& 31 = 28
  · rw [w28]
    refine mw_sw i_Law_law_32_28 ?_
    exact lw_case_28 hL ht hLI (fun σ2 h2 => ih σ2 h2)
  by_cases w29 : X.2 (4 * t) &&& 31 = 29
  · rw [w29]
    refine mw_sw i_Law_law_32_29 ?_
    exact lw_case_29 hL ht hLI (fun σ2 h2 => ih σ2 h2)
  by_cases w30 : X.2 (4 * t) &&& 31 = 30
  · rw [w30]
    refine mw_sw i_Law_law_32_30 ?_
    exact lw_case_30 hL ht hLI (fun σ2 h2 => ih σ2 h2)
  refine mw_sw (i_Law_law_32_o (by have q0 := gw_ne_lit (k := 0) (by decide) w0; have q1 := gw_ne_lit (k := 1) (by decide) w1; have q2 := gw_ne_lit (k := 2) (by decide) w2; have q3 := gw_ne_lit (k := 3) (by decide) w3; have q4 := gw_ne_lit (k := 4) (by decide) w4; have q5 := gw_ne_lit (k := 5) (by decide) w5; have q6 := gw_ne_lit (k := 6) (by decide) w6; have q7 := gw_ne_lit (k := 7) (by decide) w7; have q8 := gw_ne_lit (k := 8) (by decide) w8; have q9 := gw_ne_lit (k := 9) (by decide) w9; have q10 := gw_ne_lit (k := 10) (by decide) w10; have q11 := gw_ne_lit (k := 11) (by decide) w11; have q12 := gw_ne_lit (k := 12) (by decide) w12; have q13 := gw_ne_lit (k := 13) (by decide) w13; have q14 := gw_ne_lit (k := 14) (by decide) w14; have q15 := gw_ne_lit (k := 15) (by decide) w15; have q16 := gw_ne_lit (k := 16) (by decide) w16; have q17 := gw_ne_lit (k := 17) (by decide) w17; have q18 := gw_ne_lit (k := 18) (by decide) w18; have q19 := gw_ne_lit (k := 19) (by decide) w19; have q20 := gw_ne_lit (k := 20) (by decide) w20; have q21 := gw_ne_lit (k := 21) (by decide) w21; have q22 := gw_ne_lit (k := 22) (by decide) w22; have q23 := gw_ne_lit (k := 23) (by decide) w23; have q24 := gw_ne_lit (k := 24) (by decide) w24; have q25 := gw_ne_lit (k := 25) (by decide) w25; have q26 := gw_ne_lit (k := 26) (by decide) w26; have q27 := gw_ne_lit (k := 27) (by decide) w27; have q28 := gw_ne_lit (k := 28) (by decide) w28; have q29 := gw_ne_lit (k := 29) (by decide) w29; have q30 := gw_ne_lit (k := 30) (by decide) w30; omega)) ?_
  refine mw_inc (ls' := [_, _, _, _]) 988 (nI (4 * (t + 1))) i_Law_law_985 rfl rfl rfl (by rw [show (4 : Int32) = nI 4 from rfl, nI_add]; rfl) rfl ?_
  refine mw_go i_Law_law_988 ?_
  exact ih σ (gw_LI_up hLI)
