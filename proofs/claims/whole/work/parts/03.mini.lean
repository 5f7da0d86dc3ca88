/-! THE SMALL MACHINE: a run of the program's methods over cells that are numbered as they are made.
A cell: an array (0 int, 1 long, 2 boolean, 3 of Post, 4 of Room; length, contents) or an object (class, fields).
'.ref k' is the k-th cell, '.float 0' the static array KINDS_OF, '.float 1' the script. -/
abbrev mj_C : Type := Option ((Nat × vp_A) ⊕ (Nat × List Value))
abbrev mj_H : Type := (Nat → mj_C) × Nat × Nat
abbrev mj_L : Type := List (Option Value)
abbrev mj_R : Type := Option Value × mj_H
abbrev mj_P : Type := mj_Y → Nat → mj_L → List Value → mj_H → mj_R → Prop
abbrev mj_X : Type := Nat × (Nat → Int32)
abbrev mj_O (ci : Nat) (fs : List Value) : mj_C := some (.inr (ci, fs))
abbrev mj_AI (n : Nat) (g : Nat → Int32) : mj_C := some (.inl (0, n, .inl g))
abbrev mj_AZ (n : Nat) (g : Nat → Int32) : mj_C := some (.inl (2, n, .inl g))
abbrev mj_AJ (n : Nat) (g : Nat → Int64) : mj_C := some (.inl (1, n, .inr (.inl g)))
abbrev mj_AR (t n : Nat) (g : Nat → Option Nat) : mj_C := some (.inl (t, n, .inr (.inr (.inr (.inr g)))))
def mj_al : List Value → mj_L
  | [] => []
  | v :: r => if v.category = 2 then some v :: none :: mj_al r else some v :: mj_al r
def mj_en (y : mj_Y) (as : List Value) : mj_L := mj_al as ++ List.replicate (y.2.2.1 - (mj_al as).length) none
/-- kinds of values: 0 int, 1 long, 2 reference -/
def mj_cat : Nat → Value → Bool
  | 0, .int _ => true
  | 1, .long _ => true
  | 2, .ref _ => true
  | 2, .null => true
  | 2, .float _ => true
  | _, _ => false
def mj_set (ls : mj_L) (i : Nat) (v : Value) : mj_L := if v.category = 2 then (ls.set i (some v)).set (i + 1) none else ls.set i (some v)
def mj_isL : Option (Option Value) → Bool
  | some (some v) => v.category == 2
  | _ => false
def mj_ok (ls : mj_L) (i c : Nat) : Bool := (if c = 1 then decide (i + 1 < ls.length) else decide (i < ls.length)) && (i == 0 || !mj_isL ls[i - 1]?)
/-- the classes of the arrays of references: their tag, the class of what they hold -/
def mj_ct : Nat → Nat
  | 3 => 2
  | _ => 4
def mj_kd : Nat → Int32
  | 0 => 1
  | 1 => 3
  | 2 => 5
  | 3 => 13
  | _ => 19
def mj_cs (st : List Value) : Nat := (st.map fun v => v.category).sum
def mj_nmC (ci : Nat) : String := (mj_cl.getD ci ("", mj_T0, 0)).1
def mj_fld (ci k : Nat) : String × String × String × Bool := (mj_cl.getD ci ("", mj_T0, 0)).2.1 k
def mj_nf (ci : Nat) : Nat := (mj_cl.getD ci ("", mj_T0, 0)).2.2
/-! what stands at a place of a method, with what the tables say of it -/
def mj_Kc (y : mj_Y) (pc len : Nat) (v : Value) : Prop :=
  (∃ n, decode y.2.1 pc = .ok (.iconst n, 1) ∧ len = 1 ∧ v = .int (Int32.ofInt n)) ∨
  (∃ n, decode y.2.1 pc = .ok (.bipush n, 2) ∧ len = 2 ∧ v = .int (Int8.ofInt n).toInt32) ∨
  (∃ n, decode y.2.1 pc = .ok (.sipush n, 3) ∧ len = 3 ∧ v = .int (Int16.ofInt n).toInt32) ∨
  (∃ i k, decode y.2.1 pc = .ok (.ldc i, 2) ∧ len = 2 ∧ v = .int k ∧ Cond.constant y.1.cls i k ∈ mj_tb) ∨
  (∃ i k, decode y.2.1 pc = .ok (.ldc_w i, 3) ∧ len = 3 ∧ v = .int k ∧ Cond.constant y.1.cls i k ∈ mj_tb) ∨
  (∃ n : Fin 2, decode y.2.1 pc = .ok (.lconst n, 1) ∧ len = 1 ∧ v = .long (Int64.ofNat n)) ∨
  (∃ i k, decode y.2.1 pc = .ok (.ldc2_w i, 3) ∧ len = 3 ∧ v = .long k ∧ Cond.constantLong y.1.cls i k ∈ mj_tb) ∨
  (decode y.2.1 pc = .ok (.aconst_null, 1) ∧ len = 1 ∧ v = .null)
def mj_Ld (y : mj_Y) (pc len i c : Nat) : Prop :=
  (c = 0 ∧ ((len = 2 ∧ decode y.2.1 pc = .ok (.iload i, 2)) ∨ (len = 1 ∧ ∃ k : Fin 4, (k : Nat) = i ∧ decode y.2.1 pc = .ok (.iload_n k, 1)))) ∨
  (c = 1 ∧ ((len = 2 ∧ decode y.2.1 pc = .ok (.lload i, 2)) ∨ (len = 1 ∧ ∃ k : Fin 4, (k : Nat) = i ∧ decode y.2.1 pc = .ok (.lload_n k, 1)))) ∨
  (c = 2 ∧ ((len = 2 ∧ decode y.2.1 pc = .ok (.aload i, 2)) ∨ (len = 1 ∧ ∃ k : Fin 4, (k : Nat) = i ∧ decode y.2.1 pc = .ok (.aload_n k, 1))))
def mj_St (y : mj_Y) (pc len i c : Nat) : Prop :=
  (c = 0 ∧ ((len = 2 ∧ decode y.2.1 pc = .ok (.istore i, 2)) ∨ (len = 1 ∧ ∃ k : Fin 4, (k : Nat) = i ∧ decode y.2.1 pc = .ok (.istore_n k, 1)))) ∨
  (c = 1 ∧ ((len = 2 ∧ decode y.2.1 pc = .ok (.lstore i, 2)) ∨ (len = 1 ∧ ∃ k : Fin 4, (k : Nat) = i ∧ decode y.2.1 pc = .ok (.lstore_n k, 1)))) ∨
  (c = 2 ∧ ((len = 2 ∧ decode y.2.1 pc = .ok (.astore i, 2)) ∨ (len = 1 ∧ ∃ k : Fin 4, (k : Nat) = i ∧ decode y.2.1 pc = .ok (.astore_n k, 1))))
def mj_In (y : mj_Y) (pc i : Nat) (n : Int32) : Prop := ∃ k, decode y.2.1 pc = .ok (.iinc i k, 3) ∧ n = Int32.ofInt k
def mj_B2 (y : mj_Y) (pc : Nat) (op : Int32 → Int32 → Int32) : Prop :=
  (decode y.2.1 pc = .ok (.iadd, 1) ∧ op = fun a b => a + b) ∨
  (decode y.2.1 pc = .ok (.isub, 1) ∧ op = fun a b => a - b) ∨
  (decode y.2.1 pc = .ok (.imul, 1) ∧ op = fun a b => a * b) ∨
  (decode y.2.1 pc = .ok (.iand, 1) ∧ op = fun a b => a &&& b) ∨
  (decode y.2.1 pc = .ok (.ior, 1) ∧ op = fun a b => a ||| b) ∨
  (decode y.2.1 pc = .ok (.ixor, 1) ∧ op = fun a b => a ^^^ b) ∨
  (decode y.2.1 pc = .ok (.ishl, 1) ∧ op = fun (a b : Int32) => a <<< (b &&& 31)) ∨
  (decode y.2.1 pc = .ok (.ishr, 1) ∧ op = fun (a b : Int32) => a >>> (b &&& 31)) ∨
  (decode y.2.1 pc = .ok (.iushr, 1) ∧ op = fun a b => (a.toUInt32 >>> (b.toUInt32 &&& Int32.toUInt32 31)).toInt32)
def mj_D2 (y : mj_Y) (pc : Nat) (op : Int32 → Int32 → Int32) : Prop :=
  (decode y.2.1 pc = .ok (.idiv, 1) ∧ op = fun a b => a / b) ∨
  (decode y.2.1 pc = .ok (.irem, 1) ∧ op = fun a b => a - a / b * b)
def mj_BL (y : mj_Y) (pc : Nat) (op : Int64 → Int64 → Int64) : Prop :=
  (decode y.2.1 pc = .ok (.lor, 1) ∧ op = fun a b => a ||| b) ∨
  (decode y.2.1 pc = .ok (.land, 1) ∧ op = fun a b => a &&& b) ∨
  (decode y.2.1 pc = .ok (.lxor, 1) ∧ op = fun a b => a ^^^ b)
def mj_If (y : mj_Y) (pc tgt : Nat) (cn : Int32 → Prop) : Prop := ∃ off : Int, (pc : Int) + off = (tgt : Int) ∧ (
  (decode y.2.1 pc = .ok (.ifCond .eq off, 3) ∧ cn = fun a => a = 0) ∨
  (decode y.2.1 pc = .ok (.ifCond .ne off, 3) ∧ cn = fun a => ¬ a = 0) ∨
  (decode y.2.1 pc = .ok (.ifCond .lt off, 3) ∧ cn = fun a => a < 0) ∨
  (decode y.2.1 pc = .ok (.ifCond .ge off, 3) ∧ cn = fun a => 0 ≤ a) ∨
  (decode y.2.1 pc = .ok (.ifCond .gt off, 3) ∧ cn = fun a => 0 < a) ∨
  (decode y.2.1 pc = .ok (.ifCond .le off, 3) ∧ cn = fun a => a ≤ 0))
def mj_Ic (y : mj_Y) (pc tgt : Nat) (cn : Int32 → Int32 → Prop) : Prop := ∃ off : Int, (pc : Int) + off = (tgt : Int) ∧ (
  (decode y.2.1 pc = .ok (.if_icmp .eq off, 3) ∧ cn = fun a b => a = b) ∨
  (decode y.2.1 pc = .ok (.if_icmp .ne off, 3) ∧ cn = fun a b => ¬ a = b) ∨
  (decode y.2.1 pc = .ok (.if_icmp .lt off, 3) ∧ cn = fun a b => a < b) ∨
  (decode y.2.1 pc = .ok (.if_icmp .ge off, 3) ∧ cn = fun a b => b ≤ a) ∨
  (decode y.2.1 pc = .ok (.if_icmp .gt off, 3) ∧ cn = fun a b => b < a) ∨
  (decode y.2.1 pc = .ok (.if_icmp .le off, 3) ∧ cn = fun a b => a ≤ b))
def mj_Go (y : mj_Y) (pc tgt : Nat) : Prop := ∃ off : Int, (pc : Int) + off = (tgt : Int) ∧ decode y.2.1 pc = .ok (.goto off, 3)
/-- ifnull (b true), ifnonnull (b false) -/
def mj_Nu (y : mj_Y) (pc tgt : Nat) (b : Bool) : Prop := ∃ off : Int, (pc : Int) + off = (tgt : Int) ∧ ((b = true ∧ decode y.2.1 pc = .ok (.ifnull off, 3)) ∨ (b = false ∧ decode y.2.1 pc = .ok (.ifnonnull off, 3)))
def mj_Sw (y : mj_Y) (pc : Nat) (k : Int32) (tgt : Nat) : Prop := ∃ (dflt lo hi : Int) (offs : Array Int) (len : Nat), decode y.2.1 pc = .ok (.tableswitch dflt lo hi offs, len) ∧
  (((k.toInt < lo ∨ hi < k.toInt) ∧ (pc : Int) + dflt = (tgt : Int)) ∨ (¬ k.toInt < lo ∧ ¬ hi < k.toInt ∧ ∃ off : Int, offs[(k.toInt - lo).toNat]? = some off ∧ (pc : Int) + off = (tgt : Int)))
def mj_Gf (y : mj_Y) (pc ci k : Nat) : Prop := ci < 9 ∧ k < mj_nf ci ∧ ∃ i, decode y.2.1 pc = .ok (.getfield i, 3) ∧
  (Cond.fieldLink y.1.cls i (mj_nmC ci) (mj_fld ci k).2.1 (mj_fld ci k).2.2.1 ∈ mj_tb ∨ ∃ h, Cond.fieldLinkNest y.1.cls i (mj_nmC ci) (mj_fld ci k).2.1 (mj_fld ci k).2.2.1 h ∈ mj_tb)
def mj_Pf (y : mj_Y) (pc ci k : Nat) (ty : FieldType) : Prop := ci < 9 ∧ k < mj_nf ci ∧ ∃ i, decode y.2.1 pc = .ok (.putfield i, 3) ∧
  Cond.fieldLink y.1.cls i (mj_nmC ci) (mj_fld ci k).2.1 (mj_fld ci k).2.2.1 ∈ mj_tb ∧ parseFieldDescriptor (mj_fld ci k).2.2.1 = some ty ∧
  ((mj_fld ci k).2.2.2 = false ∨ ((mj_fld ci k).2.2.2 = true ∧ y.1.name = "<init>" ∧ mj_nmC ci = y.1.cls))
def mj_Gs (y : mj_Y) (pc : Nat) : Prop := ∃ i, decode y.2.1 pc = .ok (.getstatic i, 3) ∧ Cond.fieldLink y.1.cls i "GalleryWatch" "KINDS_OF" "[I" ∈ mj_tb
def mj_Nw (y : mj_Y) (pc ci : Nat) : Prop := ci < 9 ∧ ∃ i, decode y.2.1 pc = .ok (.new i, 3) ∧ Cond.classLink y.1.cls i (mj_nmC ci) ∈ mj_tb ∧ Cond.instantiable (mj_nmC ci) (mj_nf ci) ∈ mj_tb ∧ Cond.initialized (mj_nmC ci) ∈ mj_tb
/-- newarray of ints, longs, booleans -/
def mj_Na (y : mj_Y) (pc t : Nat) : Prop :=
  (t = 0 ∧ decode y.2.1 pc = .ok (.newarray .int, 2)) ∨ (t = 1 ∧ decode y.2.1 pc = .ok (.newarray .long, 2)) ∨ (t = 2 ∧ decode y.2.1 pc = .ok (.newarray .boolean, 2))
def mj_Nq (y : mj_Y) (pc t : Nat) : Prop := (t = 3 ∨ t = 4) ∧ ∃ i, decode y.2.1 pc = .ok (.anewarray i, 3) ∧ Cond.classLink y.1.cls i (mj_nmC (mj_ct t)) ∈ mj_tb
def mj_Oi (y : mj_Y) (pc : Nat) : Prop := ∃ i, decode y.2.1 pc = .ok (.invokespecial i, 3) ∧ Cond.methodLink y.1.cls i objectInit ∈ mj_tb
def mj_Ac (y : mj_Y) (pc : Nat) : Prop := ∃ i, decode y.2.1 pc = .ok (.invokestatic i, 3) ∧ Cond.methodLink y.1.cls i arraycopyName ∈ mj_tb
def mj_Mm (y : mj_Y) (pc : Nat) (op : Int32 → Int32 → Int32) : Prop := ∃ i, decode y.2.1 pc = .ok (.invokestatic i, 3) ∧
  ((Cond.methodLink y.1.cls i Lib.Math.max.name ∈ mj_tb ∧ op = fun a b => if a < b then b else a) ∨ (Cond.methodLink y.1.cls i Lib.Math.min.name ∈ mj_tb ∧ op = fun a b => if b < a then b else a))
def mj_Ma (y : mj_Y) (pc : Nat) : Prop := ∃ i, decode y.2.1 pc = .ok (.invokestatic i, 3) ∧ Cond.methodLink y.1.cls i Lib.Math.abs.name ∈ mj_tb
/-- a method of the tables that may be called, of n arguments (the object itself not counted) -/
def mj_Mt (z : mj_Y) (n : Nat) : Prop := Cond.code z.1 z.2.1 z.2.2.1 z.2.2.2 ∈ mj_tb ∧ Cond.initialized z.1.cls ∈ mj_tb ∧ plainName z.1.cls = true ∧ (z.1.cls ≠ "java/lang/invoke/MethodHandle" ∧ z.1.cls ≠ "java/lang/invoke/VarHandle" ∧ (parseMethodDescriptor z.1.desc).map (fun d => d.parameters.length) = some n) ∧ z.2.2.1 ≤ 45
def mj_Cv (y : mj_Y) (pc : Nat) (z : mj_Y) (ci n : Nat) : Prop := ci < 9 ∧ mj_nmC ci = z.1.cls ∧ mj_Mt z n ∧ ∃ i, decode y.2.1 pc = .ok (.invokevirtual i, 3) ∧ Cond.methodLink y.1.cls i z.1 ∈ mj_tb ∧ Cond.instanceMethod z.1 ∈ mj_tb ∧ Cond.selects z.1.cls z.1 z.1 ∈ mj_tb
def mj_Cs (y : mj_Y) (pc : Nat) (z : mj_Y) (n : Nat) : Prop := mj_Mt z n ∧ ∃ i, decode y.2.1 pc = .ok (.invokestatic i, 3) ∧ Cond.static z.1 ∈ mj_tb ∧ (Cond.methodLink y.1.cls i z.1 ∈ mj_tb ∨ ∃ h, Cond.methodLinkNest y.1.cls i z.1 h ∈ mj_tb)
def mj_Ci (y : mj_Y) (pc : Nat) (z : mj_Y) (n : Nat) : Prop := mj_Mt z n ∧ z.1.name = "<init>" ∧ z.2.2.2 = none ∧ ∃ i, decode y.2.1 pc = .ok (.invokespecial i, 3) ∧ Cond.instanceMethod z.1 ∈ mj_tb ∧ (Cond.methodLink y.1.cls i z.1 ∈ mj_tb ∨ ∃ h, Cond.methodLinkNest y.1.cls i z.1 h ∈ mj_tb)
def mj_Rt (y : mj_Y) (pc : Nat) (v : Option Value) : Prop :=
  (∃ k ty, v = some (.int k) ∧ decode y.2.1 pc = .ok (.ireturn, 1) ∧ y.2.2.2 = some ty ∧ narrow ty (.int k) = .int k) ∨
  (∃ k, v = some (.long k) ∧ decode y.2.1 pc = .ok (.lreturn, 1) ∧ y.2.2.2 = some .long) ∨
  (∃ r n, v = some (va_rf r) ∧ decode y.2.1 pc = .ok (.areturn, 1) ∧ y.2.2.2 = some (.object n)) ∨
  (v = none ∧ decode y.2.1 pc = .ok (.return_, 1) ∧ y.2.2.2 = none)
/-! the rules: what a run is closed under -/
def mj_c (X : mj_X) (CR : mj_Y → List Value → mj_H → mj_R → Prop) (P : mj_P) : Nat → Prop
  | 0 => ∀ y pc len v ls st σ r, mj_Kc y pc len v → P y (pc + len) ls (v :: st) σ r → P y pc ls st σ r
  | 1 => ∀ y pc len i c v ls st σ r, mj_Ld y pc len i c → ls[i]? = some (some v) → mj_cat c v = true → P y (pc + len) ls (v :: st) σ r → P y pc ls st σ r
  | 2 => ∀ y pc len i c v ls st σ r, mj_St y pc len i c → mj_cat c v = true → mj_ok ls i c = true → P y (pc + len) (mj_set ls i v) st σ r → P y pc ls (v :: st) σ r
  | 3 => ∀ y pc i n v ls st σ r, mj_In y pc i n → ls[i]? = some (some (.int v)) → mj_ok ls i 0 = true → P y (pc + 3) (ls.set i (some (.int (v + n)))) st σ r → P y pc ls st σ r
  | 4 => ∀ y pc op a b ls st σ r, mj_B2 y pc op → P y (pc + 1) ls (.int (op a b) :: st) σ r → P y pc ls (.int b :: .int a :: st) σ r
  | 5 => ∀ y pc op a b ls st σ r, mj_D2 y pc op → ¬ b = 0 → P y (pc + 1) ls (.int (op a b) :: st) σ r → P y pc ls (.int b :: .int a :: st) σ r
  | 6 => ∀ y pc a ls st σ r, decode y.2.1 pc = .ok (.ineg, 1) → P y (pc + 1) ls (.int (-a) :: st) σ r → P y pc ls (.int a :: st) σ r
  | 7 => ∀ y pc op a b ls st σ r, mj_BL y pc op → P y (pc + 1) ls (.long (op a b) :: st) σ r → P y pc ls (.long b :: .long a :: st) σ r
  | 8 => ∀ y pc (a : Int64) (b : Int32) ls st σ r, decode y.2.1 pc = .ok (.lshl, 1) → P y (pc + 1) ls (.long (a <<< (b.toInt64 &&& 63)) :: st) σ r → P y pc ls (.int b :: .long a :: st) σ r
  | 9 => ∀ y pc a b ls st σ r, decode y.2.1 pc = .ok (.lcmp, 1) → P y (pc + 1) ls (.int (lg_cmp a b) :: st) σ r → P y pc ls (.long b :: .long a :: st) σ r
  | 10 => ∀ y pc (v : Value) ls st σ r, decode y.2.1 pc = .ok (.dup, 1) → v.category = 1 → P y (pc + 1) ls (v :: v :: st) σ r → P y pc ls (v :: st) σ r
  | 11 => ∀ y pc (v w : Value) ls st σ r, decode y.2.1 pc = .ok (.dup2, 1) → v.category = 1 → w.category = 1 → P y (pc + 1) ls (v :: w :: v :: w :: st) σ r → P y pc ls (v :: w :: st) σ r
  | 12 => ∀ y pc tgt cn (a : Int32) ls st σ r, mj_If y pc tgt cn → cn a → P y tgt ls st σ r → P y pc ls (.int a :: st) σ r
  | 13 => ∀ y pc tgt cn (a : Int32) ls st σ r, mj_If y pc tgt cn → ¬ cn a → P y (pc + 3) ls st σ r → P y pc ls (.int a :: st) σ r
  | 14 => ∀ y pc tgt cn (a b : Int32) ls st σ r, mj_Ic y pc tgt cn → cn a b → P y tgt ls st σ r → P y pc ls (.int b :: .int a :: st) σ r
  | 15 => ∀ y pc tgt cn (a b : Int32) ls st σ r, mj_Ic y pc tgt cn → ¬ cn a b → P y (pc + 3) ls st σ r → P y pc ls (.int b :: .int a :: st) σ r
  | 16 => ∀ y pc tgt ls st σ r, mj_Go y pc tgt → P y tgt ls st σ r → P y pc ls st σ r
  | 17 => ∀ y pc tgt b (a : Option Nat) ls st σ r, mj_Nu y pc tgt b → P y (if a.isNone = b then tgt else pc + 3) ls st σ r → P y pc ls (va_rf a :: st) σ r
  | 18 => ∀ y pc k tgt ls st σ r, mj_Sw y pc k tgt → P y tgt ls st σ r → P y pc ls (.int k :: st) σ r
  | 19 => ∀ y pc ci k a fs v ls st (σ : mj_H) r, mj_Gf y pc ci k → σ.1 a = mj_O ci fs → fs[k]? = some v → P y (pc + 3) ls (v :: st) σ r → P y pc ls (.ref a :: st) σ r
  | 20 => ∀ y pc ci k ty a fs v ls st (σ : mj_H) r, mj_Pf y pc ci k ty → σ.1 a = mj_O ci fs → k < fs.length → narrow ty v = v → fits ty v = true → (∀ z, v ≠ .float z) → P y (pc + 3) ls st (va_up σ.1 a (mj_O ci (fs.set k v)), σ.2) r → P y pc ls (v :: .ref a :: st) σ r
  | 21 => ∀ y pc a n g (i : Int32) ls st (σ : mj_H) r, decode y.2.1 pc = .ok (.iaload, 1) → σ.1 a = mj_AI n g → vp_in i n → P y (pc + 1) ls (.int (g i.toNatClampNeg) :: st) σ r → P y pc ls (.int i :: .ref a :: st) σ r
  | 22 => ∀ y pc a n g (i w : Int32) ls st (σ : mj_H) r, decode y.2.1 pc = .ok (.iastore, 1) → σ.1 a = mj_AI n g → vp_in i n → P y (pc + 1) ls st (va_up σ.1 a (mj_AI n (upd g i.toNatClampNeg w)), σ.2) r → P y pc ls (.int w :: .int i :: .ref a :: st) σ r
  | 23 => ∀ y pc a n g (i : Int32) ls st (σ : mj_H) r, decode y.2.1 pc = .ok (.baload, 1) → σ.1 a = mj_AZ n g → vp_in i n → P y (pc + 1) ls (.int (g i.toNatClampNeg) :: st) σ r → P y pc ls (.int i :: .ref a :: st) σ r
  | 24 => ∀ y pc a n g (i w : Int32) ls st (σ : mj_H) r, decode y.2.1 pc = .ok (.bastore, 1) → σ.1 a = mj_AZ n g → vp_in i n → vp_nar .boolean w = w → P y (pc + 1) ls st (va_up σ.1 a (mj_AZ n (upd g i.toNatClampNeg w)), σ.2) r → P y pc ls (.int w :: .int i :: .ref a :: st) σ r
  | 25 => ∀ y pc a n g (i : Int32) ls st (σ : mj_H) r, decode y.2.1 pc = .ok (.laload, 1) → σ.1 a = mj_AJ n g → vp_in i n → P y (pc + 1) ls (.long (g i.toNatClampNeg) :: st) σ r → P y pc ls (.int i :: .ref a :: st) σ r
  | 26 => ∀ y pc a n g (i : Int32) (w : Int64) ls st (σ : mj_H) r, decode y.2.1 pc = .ok (.lastore, 1) → σ.1 a = mj_AJ n g → vp_in i n → P y (pc + 1) ls st (va_up σ.1 a (mj_AJ n (vp_updL g i.toNatClampNeg w)), σ.2) r → P y pc ls (.long w :: .int i :: .ref a :: st) σ r
  | 27 => ∀ y pc a t n g (i : Int32) ls st (σ : mj_H) r, decode y.2.1 pc = .ok (.aaload, 1) → (t = 3 ∨ t = 4) → σ.1 a = mj_AR t n g → vp_in i n → P y (pc + 1) ls (va_rf (g i.toNatClampNeg) :: st) σ r → P y pc ls (.int i :: .ref a :: st) σ r
  | 28 => ∀ y pc a t n g (i : Int32) (w : Option Nat) ls st (σ : mj_H) r, decode y.2.1 pc = .ok (.aastore, 1) → (t = 3 ∨ t = 4) → σ.1 a = mj_AR t n g → vp_in i n → (∀ k, w = some k → ∃ fs, σ.1 k = mj_O (mj_ct t) fs) → P y (pc + 1) ls st (va_up σ.1 a (mj_AR t n (va_up g i.toNatClampNeg w)), σ.2) r → P y pc ls (va_rf w :: .int i :: .ref a :: st) σ r
  | 29 => ∀ y pc a t (x : vp_A) ls st (σ : mj_H) r, decode y.2.1 pc = .ok (.arraylength, 1) → t < 5 → σ.1 a = some (.inl (t, x)) → P y (pc + 1) ls (.int (Int32.ofNat x.1) :: st) σ r → P y pc ls (.ref a :: st) σ r
  | 30 => ∀ y pc ci ls st (σ : mj_H) r, mj_Nw y pc ci → P y (pc + 3) ls (.ref σ.2.1 :: st) (va_up σ.1 σ.2.1 (mj_O ci (mj_df.getD ci [])), σ.2.1 + 1, σ.2.2 + mj_nf ci) r → P y pc ls st σ r
  | 31 => ∀ y pc t (n : Int32) ls st (σ : mj_H) r, mj_Na y pc t → ¬ n < 0 → n.toNatClampNeg ≤ 10000 → P y (pc + 2) ls (.ref σ.2.1 :: st) (va_up σ.1 σ.2.1 (some (.inl (t, n.toNatClampNeg, if t = 1 then .inr (.inl fun _ => 0) else .inl fun _ => 0))), σ.2.1 + 1, σ.2.2 + n.toNatClampNeg) r → P y pc ls (.int n :: st) σ r
  | 32 => ∀ y pc t (n : Int32) ls st (σ : mj_H) r, mj_Nq y pc t → ¬ n < 0 → n.toNatClampNeg ≤ 10000 → P y (pc + 3) ls (.ref σ.2.1 :: st) (va_up σ.1 σ.2.1 (mj_AR t n.toNatClampNeg fun _ => none), σ.2.1 + 1, σ.2.2 + n.toNatClampNeg) r → P y pc ls (.int n :: st) σ r
  | 33 => ∀ y pc ls st σ r, mj_Gs y pc → P y (pc + 3) ls (.float 0 :: st) σ r → P y pc ls st σ r
  | 34 => ∀ y pc (i : Int32) ls st σ r, decode y.2.1 pc = .ok (.iaload, 1) → vp_in i 5 → P y (pc + 1) ls (.int (mj_kd i.toNatClampNeg) :: st) σ r → P y pc ls (.int i :: .float 0 :: st) σ r
  | 35 => ∀ y pc ls st σ r, decode y.2.1 pc = .ok (.arraylength, 1) → P y (pc + 1) ls (.int 5 :: st) σ r → P y pc ls (.float 0 :: st) σ r
  | 36 => ∀ y pc (i : Int32) ls st σ r, decode y.2.1 pc = .ok (.iaload, 1) → vp_in i X.1 → P y (pc + 1) ls (.int (X.2 i.toNatClampNeg) :: st) σ r → P y pc ls (.int i :: .float 1 :: st) σ r
  | 37 => ∀ y pc ls st σ r, decode y.2.1 pc = .ok (.arraylength, 1) → P y (pc + 1) ls (.int (Int32.ofNat X.1) :: st) σ r → P y pc ls (.float 1 :: st) σ r
  | 38 => ∀ y pc a ls st σ r, mj_Oi y pc → mj_cs st ≤ 8 → P y (pc + 3) ls st σ r → P y pc ls (.ref a :: st) σ r
  | 39 => ∀ y pc a0 a n0 n1 f g (sp dp n : Int32) ls st (σ : mj_H) r, mj_Ac y pc → mj_cs st ≤ 8 → σ.1 a0 = mj_AI n0 f → σ.1 a = mj_AI n1 g → ¬ sp < 0 → ¬ dp < 0 → ¬ n < 0 → sp.toNatClampNeg + n.toNatClampNeg ≤ n0 → dp.toNatClampNeg + n.toNatClampNeg ≤ n1 →
      P y (pc + 3) ls st (va_up σ.1 a (mj_AI n1 (va_cpy f g sp.toNatClampNeg dp.toNatClampNeg n.toNatClampNeg)), σ.2) r → P y pc ls (.int n :: .int dp :: .ref a :: .int sp :: .ref a0 :: st) σ r
  | 40 => ∀ y pc a0 a t n0 n1 f g (sp dp n : Int32) ls st (σ : mj_H) r, mj_Ac y pc → mj_cs st ≤ 8 → (t = 3 ∨ t = 4) → σ.1 a0 = mj_AR t n0 f → σ.1 a = mj_AR t n1 g → ¬ sp < 0 → ¬ dp < 0 → ¬ n < 0 → sp.toNatClampNeg + n.toNatClampNeg ≤ n0 → dp.toNatClampNeg + n.toNatClampNeg ≤ n1 →
      (∀ i : Nat, i < n.toNatClampNeg → ∀ k : Nat, f (sp.toNatClampNeg + i) = some k → ∃ fs, σ.1 k = mj_O (mj_ct t) fs) → P y (pc + 3) ls st (va_up σ.1 a (mj_AR t n1 (va_cpy f g sp.toNatClampNeg dp.toNatClampNeg n.toNatClampNeg)), σ.2) r → P y pc ls (.int n :: .int dp :: .ref a :: .int sp :: .ref a0 :: st) σ r
  | 41 => ∀ y pc ls (v : Option Value) σ, mj_Rt y pc v → P y pc ls v.toList σ (v, σ)
  | 42 => ∀ y pc z ci n a fs as ls st rest (σ σ' : mj_H) v r, mj_Cv y pc z ci n → σ.1 a = mj_O ci fs → as.length = n → st = as.reverse ++ .ref a :: rest → mj_cs rest ≤ 8 → (mj_al (.ref a :: as)).length ≤ z.2.2.1 → CR z (.ref a :: as) σ (v, σ') → P y (pc + 3) ls (v.toList ++ rest) σ' r → P y pc ls st σ r
  | 43 => ∀ y pc z n as ls st rest (σ σ' : mj_H) v r, mj_Cs y pc z n → as.length = n → st = as.reverse ++ rest → mj_cs rest ≤ 8 → (mj_al as).length ≤ z.2.2.1 → CR z as σ (v, σ') → P y (pc + 3) ls (v.toList ++ rest) σ' r → P y pc ls st σ r
  | 44 => ∀ y pc z n a as ls st rest (σ σ' : mj_H) v r, mj_Ci y pc z n → as.length = n → st = as.reverse ++ .ref a :: rest → mj_cs rest ≤ 8 → (mj_al (.ref a :: as)).length ≤ z.2.2.1 → CR z (.ref a :: as) σ (v, σ') → P y (pc + 3) ls (v.toList ++ rest) σ' r → P y pc ls st σ r
  | 45 => ∀ y pc op (a b : Int32) ls st σ r, mj_Mm y pc op → mj_cs st ≤ 8 → P y (pc + 3) ls (.int (op a b) :: st) σ r → P y pc ls (.int b :: .int a :: st) σ r
  | 46 => ∀ y pc (a : Int32) ls st σ r, mj_Ma y pc → mj_cs st ≤ 8 → P y (pc + 3) ls (.int (if 0 ≤ a then a else 0 - a) :: st) σ r → P y pc ls (.int a :: st) σ r
  | _ => True
def mj_Run (X : mj_X) : Nat → mj_P
  | 0 => fun y pc ls st σ r => ∀ P : mj_P, (∀ t, mj_c X (fun _ _ _ _ => False) P t) → P y pc ls st σ r
  | d + 1 => fun y pc ls st σ r => ∀ P : mj_P, (∀ t, mj_c X (fun z as σ r => mj_Run X d z 0 (mj_en z as) [] σ r) P t) → P y pc ls st σ r
