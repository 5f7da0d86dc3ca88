/-- the law, run by the small machine -/
theorem mj_law (X : mj_X) (hL : X.1 ≤ 2048) : ∃ σ', mj_Run X 900 y_Law_law 0 (mj_en y_Law_law [.float 1]) [] (fun _ => none, 0, 0) (some (.int 1), σ') ∧ σ'.2.1 ≤ 600000 ∧ σ'.2.2 ≤ 7302250 := sorry
