/-- THE PURE GOAL: on every script the law's mirror answers 1 -/
def Goal9 : Prop := ∃ (N : Nat) (g g0 : Nat → Int32) (u1 : St), f_J7_fill_53178 N 4096 (fun _ => 0) (-1) = some g ∧ f_J7_fill_53178 N 1000 (fun _ => 0) (-1) = some g0 ∧ f_X5_init_tail N x5i = some u1 ∧ ∀ (L : Nat) (xs : Nat → Int32), L ≤ 2048 → f_law N xs L 600 0 (x4i, upR z0 6 g, z0, z0, upR z0 5 g0) (fun _ => 0) u1 = some 1
