/-! PURE: TypeTable.made -/
abbrev tC (y : St) : Int32 → Ty := tT (y 0) (y 1) (y 2)
/-- the class's table of n nodes -/
def TC (n : Nat) (y : St) : Prop := n ≤ 8000 ∧ y 10 0 = nI n ∧ Chn n y ∧ Low n (y 1) (y 2) ∧ Uni n (y 0) (y 1) (y 2) ∧ ∀ k, k < n → y 3 k = nI (sz (tC y (nI k))) ∧ y 4 k = nI (hg (tC y (nI k))) ∧ sz (tC y (nI k)) ≤ 200 ∧ hg (tC y (nI k)) ≤ 24
theorem sz_of {N n : Nat} {y : St} (T : TC n y) {i : Int32} (hi : Kid n i) : f_X2_symbols N y i = some (nI (sz (tC y i)), y) ∧ sz (tC y i) ≤ 200 := by
  obtain ⟨h1, h2, h3, h4, h5, h6⟩ := T
  rcases hi with rfl | ⟨k, hk, rfl⟩
  · rw [symbols_m1, show tC y (-1) = Term.null from tT_m1, sz_null]
    exact ⟨rfl, by omega⟩
  · rw [symbols_in (by omega), (h6 k hk).1]
    exact ⟨rfl, (h6 k hk).2.2.1⟩
theorem hg_of {N n : Nat} {y : St} (T : TC n y) {i : Int32} (hi : Kid n i) : f_X2_height N y i = some (nI (hg (tC y i)), y) ∧ hg (tC y i) ≤ 24 := by
  obtain ⟨h1, h2, h3, h4, h5, h6⟩ := T
  rcases hi with rfl | ⟨k, hk, rfl⟩
  · rw [height_m1, show tC y (-1) = Term.null from tT_m1, hg_null]
    exact ⟨rfl, by omega⟩
  · rw [height_in (by omega), (h6 k hk).2.1]
    exact ⟨rfl, (h6 k hk).2.2.2⟩
/-- the table with one node more -/
def mkC (y : St) (n : Nat) (h a b s t : Int32) : St := up2 (up2 (up2 (up2 (up2 (up2 (up2 (up2 y 0 n h) 1 n a) 2 n b) 3 n s) 4 n t) 5 n (y 6 (hX h a b))) 6 (hX h a b) (nI n)) 10 0 (nI n + 1)
theorem mk_row {y : St} {n : Nat} {h a b s t : Int32} (r i : Nat) : mkC y n h a b s t r i = if r = 0 ∧ i = n then h else if r = 1 ∧ i = n then a else if r = 2 ∧ i = n then b else if r = 3 ∧ i = n then s else if r = 4 ∧ i = n then t else if r = 5 ∧ i = n then y 6 (hX h a b) else if r = 6 ∧ i = hX h a b then nI n else if r = 10 ∧ i = 0 then nI n + 1 else y r i := by
  unfold mkC
  simp only [up2_at]
  by_cases h0 : r = 0
  · subst h0; simp
  by_cases h1 : r = 1
  · subst h1; simp
  by_cases h2 : r = 2
  · subst h2; simp
  by_cases h3 : r = 3
  · subst h3; simp
  by_cases h4 : r = 4
  · subst h4; simp
  by_cases h5 : r = 5
  · subst h5; simp
  by_cases h6 : r = 6
  · subst h6; simp
  by_cases h10 : r = 10
  · subst h10; simp
  simp [h0, h1, h2, h3, h4, h5, h6, h10]
theorem maxI {a b : Nat} (ha : a < 2 ^ 31) (hb : b < 2 ^ 31) : (if nI a < nI b then nI b else nI a) = nI (max a b) := by
  by_cases h : a < b
  · rw [if_pos ((nI_ltI ha hb).mpr h), Nat.max_eq_right (by omega)]
  · rw [if_neg (fun q => h ((nI_ltI ha hb).mp q)), Nat.max_eq_left (by omega)]
theorem maxN {a b : Nat} : (if a < b then nI b else nI a) = nI (max a b) := by
  by_cases h : a < b
  · rw [if_pos h, Nat.max_eq_right (by omega)]
  · rw [if_neg h, Nat.max_eq_left (by omega)]
theorem made_run {N n : Nat} {y : St} (T : TC n y) (hN : 8000 < N) {a b : Int32} (ha : Kid n a) (hb : Kid n b) (h : Int32) : ∃ r, Fnd (y 0) (y 1) (y 2) n h a b r ∧
    f_X2_made N y h a b = (if 200 < sz (nd h (tC y a) (tC y b)) then some (-1, y) else if hg (nd h (tC y a) (tC y b)) ≤ 24 then (if r = -1 then (if n < 8000 then some (nI n, mkC y n h a b (nI (sz (nd h (tC y a) (tC y b)))) (nI (hg (nd h (tC y a) (tC y b))))) else some (-1, y)) else some (r, y)) else some (-1, y)) := by
  obtain ⟨hn, h10, hC, hL, hU, hS⟩ := id T
  obtain ⟨r, hr, hF⟩ := find_ok (N := N) hn hC h10 hN h a b
  refine ⟨r, hF, ?_⟩
  obtain ⟨ea, la⟩ := sz_of (N := N) T ha
  obtain ⟨eb, lb⟩ := sz_of (N := N) T hb
  obtain ⟨fa, ma⟩ := hg_of (N := N) T ha
  obtain ⟨fb, mb⟩ := hg_of (N := N) T hb
  rw [sz_nd, hg_nd]
  have hk := (hX_lt h a b).1
  by_cases g1 : 200 < 1 + sz (tC y a) + sz (tC y b)
  · rewrite [if_pos g1, f_X2_made]
    repeat (first | with_reducible refine bnE ?_ | with_reducible refine bs (ea) ?_ | with_reducible refine bs (eb) ?_ | with_reducible refine bs (fa) ?_ | with_reducible refine bs (fb) ?_ | ((with_reducible refine iN ?_ ?_); · simp (disch := omega) only [ltL, Llt, leL, Lle, eqL, addL, Ladd, subL, subN, decN, eqM, Mle, mulL, nI_add, nI_ltI, nI_leI, nI_eq, nI_clamp, up2_at, nltT, nltF, nleT, nleF, neqT, neqF, ↓reduceIte, true_or, or_true, false_or, or_false, or_self, true_and, and_true, false_and, and_false, and_self, not_true, not_false_eq_true, i10, i01, im0, im12, im21, m1lt, m2lt, m1le, m2le, i00, i0le0, i1le0, i2le0, i3le0, eq_self]) | ((with_reducible refine ip ?_ ?_); · simp (disch := omega) only [ltL, Llt, leL, Lle, eqL, addL, Ladd, subL, subN, decN, eqM, Mle, mulL, nI_add, nI_ltI, nI_leI, nI_eq, nI_clamp, up2_at, nltT, nltF, nleT, nleF, neqT, neqF, ↓reduceIte, true_or, or_true, false_or, or_false, or_self, true_and, and_true, false_and, and_false, and_self, not_true, not_false_eq_true, i10, i01, im0, im12, im21, m1lt, m2lt, m1le, m2le, i00, i0le0, i1le0, i2le0, i3le0, eq_self]))
    rfl
  rw [if_neg g1]
  by_cases g2 : 1 + max (hg (tC y a)) (hg (tC y b)) ≤ 24
  · rw [if_pos g2]
    by_cases g3 : r = -1
    · subst g3
      rw [if_pos rfl]
      by_cases g4 : n < 8000
      · rewrite [if_pos g4, f_X2_made]
        repeat (first | with_reducible refine bnE ?_ | with_reducible refine bs (ea) ?_ | with_reducible refine bs (eb) ?_ | with_reducible refine bs (fa) ?_ | with_reducible refine bs (fb) ?_ | with_reducible refine bs (hr) ?_ | with_reducible refine bs (bucket_eq h a b) ?_ | ((with_reducible refine iN ?_ ?_); · simp (disch := omega) only [ltL, Llt, leL, Lle, eqL, addL, Ladd, subL, subN, decN, eqM, Mle, mulL, nI_add, nI_ltI, nI_leI, nI_eq, nI_clamp, up2_at, nltT, nltF, nleT, nleF, neqT, neqF, ↓reduceIte, true_or, or_true, false_or, or_false, or_self, true_and, and_true, false_and, and_false, and_self, not_true, not_false_eq_true, i10, i01, im0, im12, im21, m1lt, m2lt, m1le, m2le, i00, i0le0, i1le0, i2le0, i3le0, eq_self, maxN, h10]) | ((with_reducible refine ip ?_ ?_); · simp (disch := omega) only [ltL, Llt, leL, Lle, eqL, addL, Ladd, subL, subN, decN, eqM, Mle, mulL, nI_add, nI_ltI, nI_leI, nI_eq, nI_clamp, up2_at, nltT, nltF, nleT, nleF, neqT, neqF, ↓reduceIte, true_or, or_true, false_or, or_false, or_self, true_and, and_true, false_and, and_false, and_self, not_true, not_false_eq_true, i10, i01, im0, im12, im21, m1lt, m2lt, m1le, m2le, i00, i0le0, i1le0, i2le0, i3le0, eq_self, maxN, h10]))
        simp (disch := omega) only [ltL, Llt, leL, Lle, eqL, addL, Ladd, subL, subN, decN, eqM, Mle, mulL, nI_add, nI_ltI, nI_leI, nI_eq, nI_clamp, up2_at, nltT, nltF, nleT, nleF, neqT, neqF, ↓reduceIte, true_or, or_true, false_or, or_false, or_self, true_and, and_true, false_and, and_false, and_self, not_true, not_false_eq_true, i10, i01, im0, im12, im21, m1lt, m2lt, m1le, m2le, i00, i0le0, i1le0, i2le0, i3le0, eq_self, mkC, h10, Nat.add_sub_cancel, maxN]
      · rewrite [if_neg g4, f_X2_made]
        repeat (first | with_reducible refine bnE ?_ | with_reducible refine bs (ea) ?_ | with_reducible refine bs (eb) ?_ | with_reducible refine bs (fa) ?_ | with_reducible refine bs (fb) ?_ | with_reducible refine bs (hr) ?_ | ((with_reducible refine iN ?_ ?_); · simp (disch := omega) only [ltL, Llt, leL, Lle, eqL, addL, Ladd, subL, subN, decN, eqM, Mle, mulL, nI_add, nI_ltI, nI_leI, nI_eq, nI_clamp, up2_at, nltT, nltF, nleT, nleF, neqT, neqF, ↓reduceIte, true_or, or_true, false_or, or_false, or_self, true_and, and_true, false_and, and_false, and_self, not_true, not_false_eq_true, i10, i01, im0, im12, im21, m1lt, m2lt, m1le, m2le, i00, i0le0, i1le0, i2le0, i3le0, eq_self, maxN, h10]) | ((with_reducible refine ip ?_ ?_); · simp (disch := omega) only [ltL, Llt, leL, Lle, eqL, addL, Ladd, subL, subN, decN, eqM, Mle, mulL, nI_add, nI_ltI, nI_leI, nI_eq, nI_clamp, up2_at, nltT, nltF, nleT, nleF, neqT, neqF, ↓reduceIte, true_or, or_true, false_or, or_false, or_self, true_and, and_true, false_and, and_false, and_self, not_true, not_false_eq_true, i10, i01, im0, im12, im21, m1lt, m2lt, m1le, m2le, i00, i0le0, i1le0, i2le0, i3le0, eq_self, maxN, h10]))
        rfl
    · rewrite [if_neg g3, f_X2_made]
      repeat (first | with_reducible refine bnE ?_ | with_reducible refine bs (ea) ?_ | with_reducible refine bs (eb) ?_ | with_reducible refine bs (fa) ?_ | with_reducible refine bs (fb) ?_ | with_reducible refine bs (hr) ?_ | ((with_reducible refine iN ?_ ?_); · simp (disch := omega) only [ltL, Llt, leL, Lle, eqL, addL, Ladd, subL, subN, decN, eqM, Mle, mulL, nI_add, nI_ltI, nI_leI, nI_eq, nI_clamp, up2_at, nltT, nltF, nleT, nleF, neqT, neqF, ↓reduceIte, true_or, or_true, false_or, or_false, or_self, true_and, and_true, false_and, and_false, and_self, not_true, not_false_eq_true, i10, i01, im0, im12, im21, m1lt, m2lt, m1le, m2le, i00, i0le0, i1le0, i2le0, i3le0, eq_self, maxN, g3]) | ((with_reducible refine ip ?_ ?_); · simp (disch := omega) only [ltL, Llt, leL, Lle, eqL, addL, Ladd, subL, subN, decN, eqM, Mle, mulL, nI_add, nI_ltI, nI_leI, nI_eq, nI_clamp, up2_at, nltT, nltF, nleT, nleF, neqT, neqF, ↓reduceIte, true_or, or_true, false_or, or_false, or_self, true_and, and_true, false_and, and_false, and_self, not_true, not_false_eq_true, i10, i01, im0, im12, im21, m1lt, m2lt, m1le, m2le, i00, i0le0, i1le0, i2le0, i3le0, eq_self, maxN, g3]))
      rfl
  · rewrite [if_neg g2, f_X2_made]
    repeat (first | with_reducible refine bnE ?_ | with_reducible refine bs (ea) ?_ | with_reducible refine bs (eb) ?_ | with_reducible refine bs (fa) ?_ | with_reducible refine bs (fb) ?_ | ((with_reducible refine iN ?_ ?_); · simp (disch := omega) only [ltL, Llt, leL, Lle, eqL, addL, Ladd, subL, subN, decN, eqM, Mle, mulL, nI_add, nI_ltI, nI_leI, nI_eq, nI_clamp, up2_at, nltT, nltF, nleT, nleF, neqT, neqF, ↓reduceIte, true_or, or_true, false_or, or_false, or_self, true_and, and_true, false_and, and_false, and_self, not_true, not_false_eq_true, i10, i01, im0, im12, im21, m1lt, m2lt, m1le, m2le, i00, i0le0, i1le0, i2le0, i3le0, eq_self, maxN]) | ((with_reducible refine ip ?_ ?_); · simp (disch := omega) only [ltL, Llt, leL, Lle, eqL, addL, Ladd, subL, subN, decN, eqM, Mle, mulL, nI_add, nI_ltI, nI_leI, nI_eq, nI_clamp, up2_at, nltT, nltF, nleT, nleF, neqT, neqF, ↓reduceIte, true_or, or_true, false_or, or_false, or_self, true_and, and_true, false_and, and_false, and_self, not_true, not_false_eq_true, i10, i01, im0, im12, im21, m1lt, m2lt, m1le, m2le, i00, i0le0, i1le0, i2le0, i3le0, eq_self, maxN]))
    rfl
theorem mkC_ok {n : Nat} {y : St} (T : TC n y) (g4 : n < 8000) {a b : Int32} (ha : Kid n a) (hb : Kid n b) {h : Int32} (hnf : ∀ k, k < n → ¬ (y 0 k = h ∧ y 1 k = a ∧ y 2 k = b)) (g1 : sz (nd h (tC y a) (tC y b)) ≤ 200) (g2 : hg (nd h (tC y a) (tC y b)) ≤ 24) {z : St} (hz : z = mkC y n h a b (nI (sz (nd h (tC y a) (tC y b)))) (nI (hg (nd h (tC y a) (tC y b))))) :
    TC (n + 1) z ∧ tC z (nI n) = nd h (tC y a) (tC y b) ∧ ∀ i, Kid n i → tC z i = tC y i := by
  obtain ⟨hn, h10, hC, hL, hU, hS⟩ := id T
  subst hz
  generalize hz : mkC y n h a b (nI (sz (nd h (tC y a) (tC y b)))) (nI (hg (nd h (tC y a) (tC y b)))) = z
  have row := fun r i => (congrFun (congrFun hz.symm r) i).trans (mk_row (y := y) (n := n) (h := h) (a := a) (b := b) (s := nI (sz (nd h (tC y a) (tC y b)))) (t := nI (hg (nd h (tC y a) (tC y b)))) r i)
  have z0 : ∀ k, k < n → z 0 k = y 0 k := fun k hk => by rw [row]; simp [show k ≠ n by omega]
  have z1 : ∀ k, k < n → z 1 k = y 1 k := fun k hk => by rw [row]; simp [show k ≠ n by omega]
  have z2 : ∀ k, k < n → z 2 k = y 2 k := fun k hk => by rw [row]; simp [show k ≠ n by omega]
  have z3 : ∀ k, k < n → z 3 k = y 3 k := fun k hk => by rw [row]; simp [show k ≠ n by omega]
  have z4 : ∀ k, k < n → z 4 k = y 4 k := fun k hk => by rw [row]; simp [show k ≠ n by omega]
  have z5 : ∀ k, k < n → z 5 k = y 5 k := fun k hk => by rw [row]; simp [show k ≠ n by omega]
  have n0 : z 0 n = h := by rw [row]; simp
  have n1 : z 1 n = a := by rw [row]; simp
  have n2 : z 2 n = b := by rw [row]; simp
  have n3 : z 3 n = nI (sz (nd h (tC y a) (tC y b))) := by rw [row]; simp
  have n4 : z 4 n = nI (hg (nd h (tC y a) (tC y b))) := by rw [row]; simp
  have n5 : z 5 n = y 6 (hX h a b) := by rw [row]; simp
  have z6 : ∀ c, z 6 c = if c = hX h a b then nI n else y 6 c := fun c => by rw [row]; simp
  have z10 : z 10 0 = nI (n + 1) := by rw [row, ← nI_add1]; simp
  have hL' : Low (n + 1) (z 1) (z 2) := by
    intro k hk
    by_cases e : k = n
    · subst e; rw [n1, n2]; exact ⟨ha, hb⟩
    · rw [z1 k (by omega), z2 k (by omega)]; exact hL k (by omega)
  have hold : ∀ i, Kid n i → tC z i = tC y i := tT_congr hL (by omega) z0 z1 z2
  have hnew : tC z (nI n) = nd h (tC y a) (tC y b) := by
    show tT (z 0) (z 1) (z 2) (nI n) = _
    rw [tT_nd hL' (by omega) (Nat.lt_succ_self n), n0, n1, n2]
    rw [show tT (z 0) (z 1) (z 2) a = tC y a from hold a ha, show tT (z 0) (z 1) (z 2) b = tC y b from hold b hb]
  have hH : ∀ k, k < n → hY z k = hY y k := fun k hk => by show hX _ _ _ = hX _ _ _; rw [z0 k hk, z1 k hk, z2 k hk]
  have hHn : hY z n = hX h a b := by show hX _ _ _ = _; rw [n0, n1, n2]
  refine ⟨⟨by omega, z10, ⟨fun c hc => ?_, fun k hk => ?_⟩, hL', ?_, ?_⟩, hnew, hold⟩
  · rw [z6, lst, hHn]
    by_cases e : c = hX h a b
    · rw [if_pos e, if_pos e.symm]
    · rw [if_neg e, if_neg (fun q => e q.symm), hC.1 c hc]
      exact (lst_congr (fun k hk => hH k hk)).symm
  · by_cases e : k = n
    · subst e
      rw [n5, hHn, hC.1 _ (hX_lt h a b).1]
      exact (lst_congr (fun j hj => hH j hj)).symm
    · rw [z5 k (by omega), hC.2 k (by omega), hH k (by omega)]
      exact (lst_congr (fun j hj => hH j (by omega))).symm
  · intro i j hi hj e0 e1 e2
    by_cases ei : i = n
    · by_cases ej : j = n
      · omega
      · subst ei
        rw [n0, z0 j (by omega)] at e0
        rw [n1, z1 j (by omega)] at e1
        rw [n2, z2 j (by omega)] at e2
        exact absurd ⟨e0.symm, e1.symm, e2.symm⟩ (hnf j (by omega))
    · by_cases ej : j = n
      · subst ej
        rw [n0, z0 i (by omega)] at e0
        rw [n1, z1 i (by omega)] at e1
        rw [n2, z2 i (by omega)] at e2
        exact absurd ⟨e0, e1, e2⟩ (hnf i (by omega))
      · rw [z0 i (by omega), z0 j (by omega)] at e0
        rw [z1 i (by omega), z1 j (by omega)] at e1
        rw [z2 i (by omega), z2 j (by omega)] at e2
        exact hU i j (by omega) (by omega) e0 e1 e2
  · intro k hk
    by_cases e : k = n
    · subst e
      rw [hnew, n3, n4]
      exact ⟨rfl, rfl, g1, g2⟩
    · rw [hold (nI k) (Or.inr ⟨k, by omega, rfl⟩), z3 k (by omega), z4 k (by omega)]
      exact hS k (by omega)
