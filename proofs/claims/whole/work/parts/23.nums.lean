/-! numbers and pictures -/
def mj_bI (b : Bool) : Int32 := if b then 1 else 0
theorem mj_bI_nar (b : Bool) : narrow .boolean (.int (mj_bI b)) = .int (mj_bI b) := by cases b <;> rfl
theorem mj_q0 {Q : Value → mj_H → Prop} {b : Bool} {σ : mj_H} (hb : b = false) (k : Q (.int (mj_bI b)) σ) : Q (.int 0) σ := by subst hb; exact k
theorem mj_q1 {Q : Value → mj_H → Prop} {b : Bool} {σ : mj_H} (hb : b = true) (k : Q (.int (mj_bI b)) σ) : Q (.int 1) σ := by subst hb; exact k
theorem mj_qv {Q : Value → mj_H → Prop} {v v' : Value} {σ : mj_H} (e : v = v') (k : Q v' σ) : Q v σ := by subst e; exact k
theorem mj_qs {Q : mj_H → Prop} {σ σ' : mj_H} (e : σ = σ') (k : Q σ') : Q σ := by subst e; exact k
theorem mj_bI1 {b : Bool} : (¬ mj_bI b = 0) ↔ b = true := by cases b <;> decide
theorem mj_bI0 {b : Bool} : mj_bI b = 0 ↔ b = false := by cases b <;> decide
theorem mj_lt (a b : Int32) : a < b ↔ a.toInt < b.toInt := Int32.lt_iff_toInt_lt
theorem mj_le (a b : Int32) : a ≤ b ↔ a.toInt ≤ b.toInt := Int32.le_iff_toInt_le
theorem mj_eq (a b : Int32) : a = b ↔ a.toInt = b.toInt := ⟨fun h => by rw [h], fun h => Int32.toInt_inj.mp h⟩
theorem mj_nI (k : Nat) (h : k < 2147483648) : (nI k).toInt = (k : Int) := nI_toInt h
theorem mj_lit0 : (0 : Int32).toInt = 0 := rfl
theorem mj_lit (k : Nat) (h : k < 2147483648) : (OfNat.ofNat k : Int32).toInt = (k : Int) := nI_toInt (n := k) h
theorem mj_nn (c : Int32) : -2147483648 ≤ c.toInt ∧ c.toInt < 2147483648 := ⟨Int32.le_toInt c, Int32.toInt_lt c⟩
theorem mj_of {c : Int32} (h : 0 ≤ c.toInt) : c = nI c.toInt.toNat := by
  have h2 := (mj_nn c).2
  rw [mj_eq, mj_nI _ (by omega)]
  omega
/-- a cell's number -/
def gw_ce (w h : Nat) (c : Int32) : Bool := decide (0 ≤ c.toInt) && decide (c.toInt < ((w * h : Nat) : Int))
def gw_op (w h : Nat) (s : Nat → Int32) (c : Int32) : Bool := gw_ce w h c && (s c.toInt.toNat == 0)
def gw_dim (w h : Nat) : Prop := 1 ≤ w ∧ w ≤ 10 ∧ 1 ≤ h ∧ h ≤ 10
theorem gw_dim_le {w h : Nat} (d : gw_dim w h) : w * h ≤ 100 := by
  obtain ⟨h1, h2, h3, h4⟩ := d
  exact Nat.le_trans (Nat.mul_le_mul h2 h4) (by decide)
theorem gw_dim_pos {w h : Nat} (d : gw_dim w h) : 0 < w * h := Nat.mul_pos (by have := d.1; omega) (by have := d.2.2.1; omega)
theorem gw_ce_iff {w h : Nat} {c : Int32} : gw_ce w h c = true ↔ 0 ≤ c.toInt ∧ c.toInt < ((w * h : Nat) : Int) := by simp [gw_ce]
theorem gw_ce_not {w h : Nat} {c : Int32} : gw_ce w h c = false ↔ ¬ (0 ≤ c.toInt ∧ c.toInt < ((w * h : Nat) : Int)) := by
  rw [← gw_ce_iff]; simp
theorem gw_ce_nI {w h k : Nat} (hk : k < 2147483648) : gw_ce w h (nI k) = decide (k < w * h) := by
  rw [Bool.eq_iff_iff, gw_ce_iff, mj_nI k hk, decide_eq_true_iff]; omega
theorem gw_ce_of {w h : Nat} {c : Int32} (d : gw_dim w h) (hc : gw_ce w h c = true) : ∃ k, k < w * h ∧ c = nI k := by
  obtain ⟨h1, h2⟩ := gw_ce_iff.mp hc
  exact ⟨c.toInt.toNat, by omega, mj_of h1⟩
theorem gw_op_nI {w h k : Nat} {s : Nat → Int32} (hk : k < 2147483648) : gw_op w h s (nI k) = (decide (k < w * h) && (s k == 0)) := by
  rw [gw_op, gw_ce_nI hk, mj_nI k hk]; rfl
/-- kinds -/
def gw_wedge (k : Int32) : Bool := k == 1 || k == 4
def gw_door (k : Int32) : Bool := k == 2 || k == 3
def gw_code (a b : Int32) : Int32 := 20 * (a + 10) + b + 10
abbrev gw_NONE : Int32 := -2000000005
/-- a post of the class, out of a state: cell 101, kind 115, a 129, b 143, d 157, e 171, reach 185, lit 199 -/
def gw_po (s : Nat → Int32) (k : Nat) : List Value := [.int (s (101 + k)), .int (s (115 + k)), .int (if gw_wedge (s (115 + k)) then gw_code (s (129 + k)) (s (143 + k)) else gw_NONE),
  .int (if gw_wedge (s (115 + k)) then gw_code (s (157 + k)) (s (171 + k)) else gw_NONE), .int (if s (115 + k) = 4 then s (185 + k) else gw_NONE), .int (if s (115 + k) = 3 then s (199 + k) else gw_NONE)]
def gw_ps (f : Nat → mj_C) (s : Nat → Int32) (n : Nat) (ps : Nat → Option Nat) : Prop := ∀ k, k < 14 → (k < n → ∃ p, 71 ≤ p ∧ ps k = some p ∧ f p = mj_O 2 (gw_po s k)) ∧ (n ≤ k → ps k = none)
/-- a Room at the cells r, r + 1, r + 2 that holds a state -/
def gw_rm (f : Nat → mj_C) (r w h n : Nat) (s : Nat → Int32) : Prop := ∃ (wl : Nat → Int32) (ps : Nat → Option Nat), f r = mj_O 4 [.int (nI w), .int (nI h), .int (nI n), .ref (r + 1), .ref (r + 2)] ∧ f (r + 1) = mj_AI 100 wl ∧ f (r + 2) = mj_AR 3 14 ps ∧ (∀ c, c < 100 → wl c = s c) ∧ gw_ps f s n ps
