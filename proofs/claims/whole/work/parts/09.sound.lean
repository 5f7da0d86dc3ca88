/-! THE SMALL MACHINE IS SOUND, and its rules as they are used -/
theorem mj_sound (l : Launch) (G : mj_G) : ∀ (d : Nat) (y : mj_Y) (pc : Nat) (ls : mj_L) (st : List Value) (σ : mj_H) (r : mj_R), mj_Run G.2.2.2.2.2 d y pc ls st σ r → mj_So l G d y pc ls st σ r
  | 0, y, pc, ls, st, σ, r, h => h (mj_So l G 0) (fun t => match t with
    | 0 => mj_s0
    | 1 => mj_s1
    | 2 => mj_s2
    | 3 => mj_s3
    | 4 => mj_s4
    | 5 => mj_s5
    | 6 => mj_s6
    | 7 => mj_s7
    | 8 => mj_s8
    | 9 => mj_s9
    | 10 => mj_s10
    | 11 => mj_s11
    | 12 => mj_s12
    | 13 => mj_s13
    | 14 => mj_s14
    | 15 => mj_s15
    | 16 => mj_s16
    | 17 => mj_s17
    | 18 => mj_s18
    | 19 => mj_s19
    | 20 => mj_s20
    | 21 => mj_s21
    | 22 => mj_s22
    | 23 => mj_s23
    | 24 => mj_s24
    | 25 => mj_s25
    | 26 => mj_s26
    | 27 => mj_s27
    | 28 => mj_s28
    | 29 => mj_s29
    | 30 => mj_s30
    | 31 => mj_s31
    | 32 => mj_s32
    | 33 => mj_s33
    | 34 => mj_s34
    | 35 => mj_s35
    | 36 => mj_s36
    | 37 => mj_s37
    | 38 => mj_s38
    | 39 => mj_s39
    | 40 => mj_s40
    | 41 => mj_s41
    | 42 => fun _ _ _ _ _ _ _ _ _ _ _ _ _ _ _ _ _ _ _ _ _ h _ => h.elim
    | 43 => fun _ _ _ _ _ _ _ _ _ _ _ _ _ _ _ _ _ h _ => h.elim
    | 44 => fun _ _ _ _ _ _ _ _ _ _ _ _ _ _ _ _ _ _ h _ => h.elim
    | 45 => mj_s45
    | 46 => mj_s46
    | _ + 47 => trivial)
  | d + 1, y, pc, ls, st, σ, r, h => h (mj_So l G (d + 1)) (fun t => match t with
    | 0 => mj_s0
    | 1 => mj_s1
    | 2 => mj_s2
    | 3 => mj_s3
    | 4 => mj_s4
    | 5 => mj_s5
    | 6 => mj_s6
    | 7 => mj_s7
    | 8 => mj_s8
    | 9 => mj_s9
    | 10 => mj_s10
    | 11 => mj_s11
    | 12 => mj_s12
    | 13 => mj_s13
    | 14 => mj_s14
    | 15 => mj_s15
    | 16 => mj_s16
    | 17 => mj_s17
    | 18 => mj_s18
    | 19 => mj_s19
    | 20 => mj_s20
    | 21 => mj_s21
    | 22 => mj_s22
    | 23 => mj_s23
    | 24 => mj_s24
    | 25 => mj_s25
    | 26 => mj_s26
    | 27 => mj_s27
    | 28 => mj_s28
    | 29 => mj_s29
    | 30 => mj_s30
    | 31 => mj_s31
    | 32 => mj_s32
    | 33 => mj_s33
    | 34 => mj_s34
    | 35 => mj_s35
    | 36 => mj_s36
    | 37 => mj_s37
    | 38 => mj_s38
    | 39 => mj_s39
    | 40 => mj_s40
    | 41 => mj_s41
    | 42 => mj_s42 (fun z as σ r h => mj_sound l G d z 0 (mj_en z as) [] σ r h)
    | 43 => mj_s43 (fun z as σ r h => mj_sound l G d z 0 (mj_en z as) [] σ r h)
    | 44 => mj_s44 (fun z as σ r h => mj_sound l G d z 0 (mj_en z as) [] σ r h)
    | 45 => mj_s45
    | 46 => mj_s46
    | _ + 47 => trivial)
