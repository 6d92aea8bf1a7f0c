/-! PURE: a symbol's kind and number; ends of closed terms -/
theorem kind_ok {v : Nat} (h : v < 2 ^ 31) : nI v &&& 3 = nI (v % 4) := pk_andN (by omega) 2 (by decide)
theorem isOf_ok {N v k : Nat} (h : v < 2 ^ 31) (hk : k < 4) : f_X4_isOf N (nI k) (nI v) = some ((if v % 4 = k then 1 else 0), ()) := by
  have hm : v % 4 < 4 := Nat.mod_lt _ (by decide)
  rewrite [f_X4_isOf, kind_ok h]
  refine iN (nn h) ?_
  by_cases e : v % 4 = k
  · rewrite [if_pos e]
    refine ip (by rw [e]) ?_
    rewrite [f_X4_isOf_16]; rfl
  · rewrite [if_neg e]
    refine iN (by rw [nI_eq (by omega) (by omega)]; exact e) ?_
    rewrite [f_X4_isOf_15, f_X4_isOf_16]; rfl
theorem isOf_neg {N : Nat} {k c : Int32} (h : c < 0) : f_X4_isOf N k c = some (0, ()) := by
  rewrite [f_X4_isOf]
  refine ip h ?_
  rewrite [f_X4_isOf_15, f_X4_isOf_16]; rfl
theorem num_ok {N v : Nat} (h : v < 2 ^ 31) : f_X4_numberOf N (nI v) = some (nI (v / 4), ()) := by
  rewrite [f_X4_numberOf, pk_shrN h _ 2 (by decide)]; rfl
theorem rem4 {v : Nat} (h : v < 2 ^ 31) : nI v - nI v / 4 * 4 = nI (v % 4) := pk_rem (d := 4) h (by omega) (by omega)
theorem div4 {v : Nat} (h : v < 2 ^ 31) : nI v / 4 = nI (v / 4) := pk_div (d := 4) h (by omega) (by omega)
/-- the walk popped, with its binders -/
def Pop2 (k : St) (c : Nat) (k' : St) : Prop := k' 3 0 = k 0 (c - 1) ∧ k' 4 0 = k 1 (c - 1) ∧ k' 2 0 = nI (c - 1) ∧ k' 5 0 = k 5 0 ∧ ∀ j, j < c - 1 → k' 0 j = k 0 j ∧ k' 1 j = k 1 j
theorem pass_leaf2 {N c : Nat} {k : St} {v : Int32} (h1 : v ≠ -1) (h2 : v ≠ -2) (hc : k 2 0 = nI c) (h : c ≤ 121) : ∃ k', f_X3_pass N k v = some k' ∧ ((c = 0 ∧ k' 5 0 = 1) ∨ (0 < c ∧ Pop2 k c k')) := by
  by_cases c0 : c = 0
  · subst c0
    refine ⟨up2 k 5 0 1, ?_, Or.inl ⟨rfl, by simp (disch := omega) only [ltL, Llt, leL, Lle, eqL, addL, Ladd, subL, subN, decN, eqM, Mle, mulL, nI_add, nI_ltI, nI_leI, nI_eq, nI_clamp, up2_at, nltT, nltF, nleT, nleF, neqT, neqF, ↓reduceIte, true_or, or_true, false_or, or_false, or_self, true_and, and_true, false_and, and_false, and_self, not_true, not_false_eq_true, i10, i01, im0, im12, im21, m1lt, m2lt, m1le, m2le, i00, i0le0, i1le0, i2le0, i3le0, eq_self, ]⟩⟩
    have : f_X3_takeUp N k = some (up2 k 5 0 1) := by
      rewrite [f_X3_takeUp]
      repeat (first | with_reducible refine bnE ?_ | with_reducible refine exI ?_ | with_reducible refine exJ ?_ | ((with_reducible refine iN ?_ ?_); · simp (disch := omega) only [ltL, Llt, leL, Lle, eqL, addL, Ladd, subL, subN, decN, eqM, Mle, mulL, nI_add, nI_ltI, nI_leI, nI_eq, nI_clamp, up2_at, nltT, nltF, nleT, nleF, neqT, neqF, ↓reduceIte, true_or, or_true, false_or, or_false, or_self, true_and, and_true, false_and, and_false, and_self, not_true, not_false_eq_true, i10, i01, im0, im12, im21, m1lt, m2lt, m1le, m2le, i00, i0le0, i1le0, i2le0, i3le0, eq_self, hc]) | ((with_reducible refine ip ?_ ?_); · simp (disch := omega) only [ltL, Llt, leL, Lle, eqL, addL, Ladd, subL, subN, decN, eqM, Mle, mulL, nI_add, nI_ltI, nI_leI, nI_eq, nI_clamp, up2_at, nltT, nltF, nleT, nleF, neqT, neqF, ↓reduceIte, true_or, or_true, false_or, or_false, or_self, true_and, and_true, false_and, and_false, and_self, not_true, not_false_eq_true, i10, i01, im0, im12, im21, m1lt, m2lt, m1le, m2le, i00, i0le0, i1le0, i2le0, i3le0, eq_self, hc]))
      rfl
    rewrite [f_X3_pass]
    repeat (first | with_reducible refine bnE ?_ | with_reducible refine exI ?_ | with_reducible refine exJ ?_ | with_reducible refine bs (this) ?_ | ((with_reducible refine iN ?_ ?_); · simp (disch := omega) only [ltL, Llt, leL, Lle, eqL, addL, Ladd, subL, subN, decN, eqM, Mle, mulL, nI_add, nI_ltI, nI_leI, nI_eq, nI_clamp, up2_at, nltT, nltF, nleT, nleF, neqT, neqF, ↓reduceIte, true_or, or_true, false_or, or_false, or_self, true_and, and_true, false_and, and_false, and_self, not_true, not_false_eq_true, i10, i01, im0, im12, im21, m1lt, m2lt, m1le, m2le, i00, i0le0, i1le0, i2le0, i3le0, eq_self, h1, h2]) | ((with_reducible refine ip ?_ ?_); · simp (disch := omega) only [ltL, Llt, leL, Lle, eqL, addL, Ladd, subL, subN, decN, eqM, Mle, mulL, nI_add, nI_ltI, nI_leI, nI_eq, nI_clamp, up2_at, nltT, nltF, nleT, nleF, neqT, neqF, ↓reduceIte, true_or, or_true, false_or, or_false, or_self, true_and, and_true, false_and, and_false, and_self, not_true, not_false_eq_true, i10, i01, im0, im12, im21, m1lt, m2lt, m1le, m2le, i00, i0le0, i1le0, i2le0, i3le0, eq_self, h1, h2]))
    rfl
  · have r1 := rd_in (N := N) (g := k 0) (by omega : c - 1 < 121) (by omega)
    have r2 := rd_in (N := N) (g := k 1) (by omega : c - 1 < 121) (by omega)
    refine ⟨up2 (up2 (up2 k 2 0 (nI (c - 1))) 3 0 (k 0 (c - 1))) 4 0 (k 1 (c - 1)), ?_, Or.inr ⟨by omega, ?_, ?_, ?_, ?_, ?_⟩⟩
    · have : f_X3_takeUp N k = some (up2 (up2 (up2 k 2 0 (nI (c - 1))) 3 0 (k 0 (c - 1))) 4 0 (k 1 (c - 1))) := by
        rewrite [f_X3_takeUp, hc]
        have e1 : nI c - 1 = nI (c - 1) := subL (k := 1) (by show 1 ≤ c; omega)
        rewrite [e1]
        have s1 : up2 k 2 0 (nI (c - 1)) 2 0 = nI (c - 1) := by simp (disch := omega) only [ltL, Llt, leL, Lle, eqL, addL, Ladd, subL, subN, decN, eqM, Mle, mulL, nI_add, nI_ltI, nI_leI, nI_eq, nI_clamp, up2_at, nltT, nltF, nleT, nleF, neqT, neqF, ↓reduceIte, true_or, or_true, false_or, or_false, or_self, true_and, and_true, false_and, and_false, and_self, not_true, not_false_eq_true, i10, i01, im0, im12, im21, m1lt, m2lt, m1le, m2le, i00, i0le0, i1le0, i2le0, i3le0, eq_self, ]
        have s2 : up2 k 2 0 (nI (c - 1)) 0 = k 0 := by simp (disch := decide) only [up2_row, upR_row, and_self, eq_self, ]
        have s3 : up2 (up2 k 2 0 (nI (c - 1))) 3 0 (k 0 (c - 1)) 2 0 = nI (c - 1) := by simp (disch := omega) only [ltL, Llt, leL, Lle, eqL, addL, Ladd, subL, subN, decN, eqM, Mle, mulL, nI_add, nI_ltI, nI_leI, nI_eq, nI_clamp, up2_at, nltT, nltF, nleT, nleF, neqT, neqF, ↓reduceIte, true_or, or_true, false_or, or_false, or_self, true_and, and_true, false_and, and_false, and_self, not_true, not_false_eq_true, i10, i01, im0, im12, im21, m1lt, m2lt, m1le, m2le, i00, i0le0, i1le0, i2le0, i3le0, eq_self, ]
        have s4 : up2 (up2 k 2 0 (nI (c - 1))) 3 0 (k 0 (c - 1)) 1 = k 1 := by simp (disch := decide) only [up2_row, upR_row, and_self, eq_self, ]
        refine ip (by simp (disch := omega) only [ltL, Llt, leL, Lle, eqL, addL, Ladd, subL, subN, decN, eqM, Mle, mulL, nI_add, nI_ltI, nI_leI, nI_eq, nI_clamp, up2_at, nltT, nltF, nleT, nleF, neqT, neqF, ↓reduceIte, true_or, or_true, false_or, or_false, or_self, true_and, and_true, false_and, and_false, and_self, not_true, not_false_eq_true, i10, i01, im0, im12, im21, m1lt, m2lt, m1le, m2le, i00, i0le0, i1le0, i2le0, i3le0, eq_self, ]) ?_
        refine bnE ?_
        rewrite [s1, s2]
        refine bs r1 ?_
        refine bnE ?_
        simp only []
        rewrite [s3, s4]
        refine bs r2 ?_
        rfl
      rewrite [f_X3_pass]
      repeat (first | with_reducible refine bnE ?_ | with_reducible refine exI ?_ | with_reducible refine exJ ?_ | with_reducible refine bs (this) ?_ | ((with_reducible refine iN ?_ ?_); · simp (disch := omega) only [ltL, Llt, leL, Lle, eqL, addL, Ladd, subL, subN, decN, eqM, Mle, mulL, nI_add, nI_ltI, nI_leI, nI_eq, nI_clamp, up2_at, nltT, nltF, nleT, nleF, neqT, neqF, ↓reduceIte, true_or, or_true, false_or, or_false, or_self, true_and, and_true, false_and, and_false, and_self, not_true, not_false_eq_true, i10, i01, im0, im12, im21, m1lt, m2lt, m1le, m2le, i00, i0le0, i1le0, i2le0, i3le0, eq_self, h1, h2]) | ((with_reducible refine ip ?_ ?_); · simp (disch := omega) only [ltL, Llt, leL, Lle, eqL, addL, Ladd, subL, subN, decN, eqM, Mle, mulL, nI_add, nI_ltI, nI_leI, nI_eq, nI_clamp, up2_at, nltT, nltF, nleT, nleF, neqT, neqF, ↓reduceIte, true_or, or_true, false_or, or_false, or_self, true_and, and_true, false_and, and_false, and_self, not_true, not_false_eq_true, i10, i01, im0, im12, im21, m1lt, m2lt, m1le, m2le, i00, i0le0, i1le0, i2le0, i3le0, eq_self, h1, h2]))
      rfl
    · simp (disch := omega) only [ltL, Llt, leL, Lle, eqL, addL, Ladd, subL, subN, decN, eqM, Mle, mulL, nI_add, nI_ltI, nI_leI, nI_eq, nI_clamp, up2_at, nltT, nltF, nleT, nleF, neqT, neqF, ↓reduceIte, true_or, or_true, false_or, or_false, or_self, true_and, and_true, false_and, and_false, and_self, not_true, not_false_eq_true, i10, i01, im0, im12, im21, m1lt, m2lt, m1le, m2le, i00, i0le0, i1le0, i2le0, i3le0, eq_self, ]
    · simp (disch := omega) only [ltL, Llt, leL, Lle, eqL, addL, Ladd, subL, subN, decN, eqM, Mle, mulL, nI_add, nI_ltI, nI_leI, nI_eq, nI_clamp, up2_at, nltT, nltF, nleT, nleF, neqT, neqF, ↓reduceIte, true_or, or_true, false_or, or_false, or_self, true_and, and_true, false_and, and_false, and_self, not_true, not_false_eq_true, i10, i01, im0, im12, im21, m1lt, m2lt, m1le, m2le, i00, i0le0, i1le0, i2le0, i3le0, eq_self, ]
    · simp (disch := omega) only [ltL, Llt, leL, Lle, eqL, addL, Ladd, subL, subN, decN, eqM, Mle, mulL, nI_add, nI_ltI, nI_leI, nI_eq, nI_clamp, up2_at, nltT, nltF, nleT, nleF, neqT, neqF, ↓reduceIte, true_or, or_true, false_or, or_false, or_self, true_and, and_true, false_and, and_false, and_self, not_true, not_false_eq_true, i10, i01, im0, im12, im21, m1lt, m2lt, m1le, m2le, i00, i0le0, i1le0, i2le0, i3le0, eq_self, ]
    · simp (disch := omega) only [ltL, Llt, leL, Lle, eqL, addL, Ladd, subL, subN, decN, eqM, Mle, mulL, nI_add, nI_ltI, nI_leI, nI_eq, nI_clamp, up2_at, nltT, nltF, nleT, nleF, neqT, neqF, ↓reduceIte, true_or, or_true, false_or, or_false, or_self, true_and, and_true, false_and, and_false, and_self, not_true, not_false_eq_true, i10, i01, im0, im12, im21, m1lt, m2lt, m1le, m2le, i00, i0le0, i1le0, i2le0, i3le0, eq_self, ]
    · intro j hj
      exact ⟨by simp (disch := omega) only [ltL, Llt, leL, Lle, eqL, addL, Ladd, subL, subN, decN, eqM, Mle, mulL, nI_add, nI_ltI, nI_leI, nI_eq, nI_clamp, up2_at, nltT, nltF, nleT, nleF, neqT, neqF, ↓reduceIte, true_or, or_true, false_or, or_false, or_self, true_and, and_true, false_and, and_false, and_self, not_true, not_false_eq_true, i10, i01, im0, im12, im21, m1lt, m2lt, m1le, m2le, i00, i0le0, i1le0, i2le0, i3le0, eq_self, ], by simp (disch := omega) only [ltL, Llt, leL, Lle, eqL, addL, Ladd, subL, subN, decN, eqM, Mle, mulL, nI_add, nI_ltI, nI_leI, nI_eq, nI_clamp, up2_at, nltT, nltF, nleT, nleF, neqT, neqF, ↓reduceIte, true_or, or_true, false_or, or_false, or_self, true_and, and_true, false_and, and_false, and_self, not_true, not_false_eq_true, i10, i01, im0, im12, im21, m1lt, m2lt, m1le, m2le, i00, i0le0, i1le0, i2le0, i3le0, eq_self, ]⟩
theorem pass_abs2 {N : Nat} {k : St} {d j : Nat} (h3 : k 3 0 = nI d) (h4 : k 4 0 = nI j) : ∃ k', f_X3_pass N k (-2) = some k' ∧ k' 3 0 = nI (d + 1) ∧ k' 4 0 = nI (j + 1) ∧ k' 2 = k 2 ∧ k' 0 = k 0 ∧ k' 1 = k 1 ∧ k' 5 = k 5 := by
  refine ⟨up2 (up2 k 3 0 (nI (d + 1))) 4 0 (nI (j + 1)), ?_, by simp (disch := omega) only [ltL, Llt, leL, Lle, eqL, addL, Ladd, subL, subN, decN, eqM, Mle, mulL, nI_add, nI_ltI, nI_leI, nI_eq, nI_clamp, up2_at, nltT, nltF, nleT, nleF, neqT, neqF, ↓reduceIte, true_or, or_true, false_or, or_false, or_self, true_and, and_true, false_and, and_false, and_self, not_true, not_false_eq_true, i10, i01, im0, im12, im21, m1lt, m2lt, m1le, m2le, i00, i0le0, i1le0, i2le0, i3le0, eq_self, ], by simp (disch := omega) only [ltL, Llt, leL, Lle, eqL, addL, Ladd, subL, subN, decN, eqM, Mle, mulL, nI_add, nI_ltI, nI_leI, nI_eq, nI_clamp, up2_at, nltT, nltF, nleT, nleF, neqT, neqF, ↓reduceIte, true_or, or_true, false_or, or_false, or_self, true_and, and_true, false_and, and_false, and_self, not_true, not_false_eq_true, i10, i01, im0, im12, im21, m1lt, m2lt, m1le, m2le, i00, i0le0, i1le0, i2le0, i3le0, eq_self, ], by simp (disch := decide) only [up2_row, upR_row, and_self, eq_self, ], by simp (disch := decide) only [up2_row, upR_row, and_self, eq_self, ], by simp (disch := decide) only [up2_row, upR_row, and_self, eq_self, ], by simp (disch := decide) only [up2_row, upR_row, and_self, eq_self, ]⟩
  rewrite [f_X3_pass]
  repeat (first | with_reducible refine bnE ?_ | with_reducible refine exI ?_ | with_reducible refine exJ ?_ | ((with_reducible refine iN ?_ ?_); · simp (disch := omega) only [ltL, Llt, leL, Lle, eqL, addL, Ladd, subL, subN, decN, eqM, Mle, mulL, nI_add, nI_ltI, nI_leI, nI_eq, nI_clamp, up2_at, nltT, nltF, nleT, nleF, neqT, neqF, ↓reduceIte, true_or, or_true, false_or, or_false, or_self, true_and, and_true, false_and, and_false, and_self, not_true, not_false_eq_true, i10, i01, im0, im12, im21, m1lt, m2lt, m1le, m2le, i00, i0le0, i1le0, i2le0, i3le0, eq_self, im21]) | ((with_reducible refine ip ?_ ?_); · simp (disch := omega) only [ltL, Llt, leL, Lle, eqL, addL, Ladd, subL, subN, decN, eqM, Mle, mulL, nI_add, nI_ltI, nI_leI, nI_eq, nI_clamp, up2_at, nltT, nltF, nleT, nleF, neqT, neqF, ↓reduceIte, true_or, or_true, false_or, or_false, or_self, true_and, and_true, false_and, and_false, and_self, not_true, not_false_eq_true, i10, i01, im0, im12, im21, m1lt, m2lt, m1le, m2le, i00, i0le0, i1le0, i2le0, i3le0, eq_self, im21]))
  simp (disch := omega) only [ltL, Llt, leL, Lle, eqL, addL, Ladd, subL, subN, decN, eqM, Mle, mulL, nI_add, nI_ltI, nI_leI, nI_eq, nI_clamp, up2_at, nltT, nltF, nleT, nleF, neqT, neqF, ↓reduceIte, true_or, or_true, false_or, or_false, or_self, true_and, and_true, false_and, and_false, and_self, not_true, not_false_eq_true, i10, i01, im0, im12, im21, m1lt, m2lt, m1le, m2le, i00, i0le0, i1le0, i2le0, i3le0, eq_self, h3, h4]
  rfl
theorem pass_app2 {N : Nat} {k : St} {d c : Nat} (h3 : k 3 0 = nI d) (h2 : k 2 0 = nI c) (hc : c < 121) : ∃ k', f_X3_pass N k (-1) = some k' ∧ k' 3 0 = nI (d + 1) ∧ k' 2 0 = nI (c + 1) ∧ k' 0 c = nI (d + 1) ∧ k' 1 c = k 4 0 ∧ k' 4 0 = k 4 0 ∧ k' 5 0 = k 5 0 ∧ ∀ j, j < c → k' 0 j = k 0 j ∧ k' 1 j = k 1 j := by
  refine ⟨up2 (up2 (up2 (up2 k 3 0 (nI (d + 1))) 0 c (nI (d + 1))) 1 c (k 4 0)) 2 0 (nI (c + 1)), ?_, by simp (disch := omega) only [ltL, Llt, leL, Lle, eqL, addL, Ladd, subL, subN, decN, eqM, Mle, mulL, nI_add, nI_ltI, nI_leI, nI_eq, nI_clamp, up2_at, nltT, nltF, nleT, nleF, neqT, neqF, ↓reduceIte, true_or, or_true, false_or, or_false, or_self, true_and, and_true, false_and, and_false, and_self, not_true, not_false_eq_true, i10, i01, im0, im12, im21, m1lt, m2lt, m1le, m2le, i00, i0le0, i1le0, i2le0, i3le0, eq_self, ], by simp (disch := omega) only [ltL, Llt, leL, Lle, eqL, addL, Ladd, subL, subN, decN, eqM, Mle, mulL, nI_add, nI_ltI, nI_leI, nI_eq, nI_clamp, up2_at, nltT, nltF, nleT, nleF, neqT, neqF, ↓reduceIte, true_or, or_true, false_or, or_false, or_self, true_and, and_true, false_and, and_false, and_self, not_true, not_false_eq_true, i10, i01, im0, im12, im21, m1lt, m2lt, m1le, m2le, i00, i0le0, i1le0, i2le0, i3le0, eq_self, ], by simp (disch := omega) only [ltL, Llt, leL, Lle, eqL, addL, Ladd, subL, subN, decN, eqM, Mle, mulL, nI_add, nI_ltI, nI_leI, nI_eq, nI_clamp, up2_at, nltT, nltF, nleT, nleF, neqT, neqF, ↓reduceIte, true_or, or_true, false_or, or_false, or_self, true_and, and_true, false_and, and_false, and_self, not_true, not_false_eq_true, i10, i01, im0, im12, im21, m1lt, m2lt, m1le, m2le, i00, i0le0, i1le0, i2le0, i3le0, eq_self, ], by simp (disch := omega) only [ltL, Llt, leL, Lle, eqL, addL, Ladd, subL, subN, decN, eqM, Mle, mulL, nI_add, nI_ltI, nI_leI, nI_eq, nI_clamp, up2_at, nltT, nltF, nleT, nleF, neqT, neqF, ↓reduceIte, true_or, or_true, false_or, or_false, or_self, true_and, and_true, false_and, and_false, and_self, not_true, not_false_eq_true, i10, i01, im0, im12, im21, m1lt, m2lt, m1le, m2le, i00, i0le0, i1le0, i2le0, i3le0, eq_self, ], by simp (disch := omega) only [ltL, Llt, leL, Lle, eqL, addL, Ladd, subL, subN, decN, eqM, Mle, mulL, nI_add, nI_ltI, nI_leI, nI_eq, nI_clamp, up2_at, nltT, nltF, nleT, nleF, neqT, neqF, ↓reduceIte, true_or, or_true, false_or, or_false, or_self, true_and, and_true, false_and, and_false, and_self, not_true, not_false_eq_true, i10, i01, im0, im12, im21, m1lt, m2lt, m1le, m2le, i00, i0le0, i1le0, i2le0, i3le0, eq_self, ], by simp (disch := omega) only [ltL, Llt, leL, Lle, eqL, addL, Ladd, subL, subN, decN, eqM, Mle, mulL, nI_add, nI_ltI, nI_leI, nI_eq, nI_clamp, up2_at, nltT, nltF, nleT, nleF, neqT, neqF, ↓reduceIte, true_or, or_true, false_or, or_false, or_self, true_and, and_true, false_and, and_false, and_self, not_true, not_false_eq_true, i10, i01, im0, im12, im21, m1lt, m2lt, m1le, m2le, i00, i0le0, i1le0, i2le0, i3le0, eq_self, ], fun j hj => ⟨by simp (disch := omega) only [ltL, Llt, leL, Lle, eqL, addL, Ladd, subL, subN, decN, eqM, Mle, mulL, nI_add, nI_ltI, nI_leI, nI_eq, nI_clamp, up2_at, nltT, nltF, nleT, nleF, neqT, neqF, ↓reduceIte, true_or, or_true, false_or, or_false, or_self, true_and, and_true, false_and, and_false, and_self, not_true, not_false_eq_true, i10, i01, im0, im12, im21, m1lt, m2lt, m1le, m2le, i00, i0le0, i1le0, i2le0, i3le0, eq_self, ], by simp (disch := omega) only [ltL, Llt, leL, Lle, eqL, addL, Ladd, subL, subN, decN, eqM, Mle, mulL, nI_add, nI_ltI, nI_leI, nI_eq, nI_clamp, up2_at, nltT, nltF, nleT, nleF, neqT, neqF, ↓reduceIte, true_or, or_true, false_or, or_false, or_self, true_and, and_true, false_and, and_false, and_self, not_true, not_false_eq_true, i10, i01, im0, im12, im21, m1lt, m2lt, m1le, m2le, i00, i0le0, i1le0, i2le0, i3le0, eq_self, ]⟩⟩
  have : f_X3_putOff N (up2 k 3 0 (nI (d + 1))) = some (up2 (up2 (up2 (up2 k 3 0 (nI (d + 1))) 0 c (nI (d + 1))) 1 c (k 4 0)) 2 0 (nI (c + 1))) := by
    rewrite [f_X3_putOff]
    repeat (first | with_reducible refine bnE ?_ | with_reducible refine exI ?_ | with_reducible refine exJ ?_ | ((with_reducible refine iN ?_ ?_); · simp (disch := omega) only [ltL, Llt, leL, Lle, eqL, addL, Ladd, subL, subN, decN, eqM, Mle, mulL, nI_add, nI_ltI, nI_leI, nI_eq, nI_clamp, up2_at, nltT, nltF, nleT, nleF, neqT, neqF, ↓reduceIte, true_or, or_true, false_or, or_false, or_self, true_and, and_true, false_and, and_false, and_self, not_true, not_false_eq_true, i10, i01, im0, im12, im21, m1lt, m2lt, m1le, m2le, i00, i0le0, i1le0, i2le0, i3le0, eq_self, h2]) | ((with_reducible refine ip ?_ ?_); · simp (disch := omega) only [ltL, Llt, leL, Lle, eqL, addL, Ladd, subL, subN, decN, eqM, Mle, mulL, nI_add, nI_ltI, nI_leI, nI_eq, nI_clamp, up2_at, nltT, nltF, nleT, nleF, neqT, neqF, ↓reduceIte, true_or, or_true, false_or, or_false, or_self, true_and, and_true, false_and, and_false, and_self, not_true, not_false_eq_true, i10, i01, im0, im12, im21, m1lt, m2lt, m1le, m2le, i00, i0le0, i1le0, i2le0, i3le0, eq_self, h2]))
    rewrite [f_X3_putOff_55]
    simp (disch := omega) only [ltL, Llt, leL, Lle, eqL, addL, Ladd, subL, subN, decN, eqM, Mle, mulL, nI_add, nI_ltI, nI_leI, nI_eq, nI_clamp, up2_at, nltT, nltF, nleT, nleF, neqT, neqF, ↓reduceIte, true_or, or_true, false_or, or_false, or_self, true_and, and_true, false_and, and_false, and_self, not_true, not_false_eq_true, i10, i01, im0, im12, im21, m1lt, m2lt, m1le, m2le, i00, i0le0, i1le0, i2le0, i3le0, eq_self, h2]
  rewrite [f_X3_pass, h3, nI_add1]
  repeat (first | with_reducible refine bnE ?_ | with_reducible refine exI ?_ | with_reducible refine exJ ?_ | with_reducible refine bs (this) ?_ | ((with_reducible refine iN ?_ ?_); · simp (disch := omega) only [ltL, Llt, leL, Lle, eqL, addL, Ladd, subL, subN, decN, eqM, Mle, mulL, nI_add, nI_ltI, nI_leI, nI_eq, nI_clamp, up2_at, nltT, nltF, nleT, nleF, neqT, neqF, ↓reduceIte, true_or, or_true, false_or, or_false, or_self, true_and, and_true, false_and, and_false, and_self, not_true, not_false_eq_true, i10, i01, im0, im12, im21, m1lt, m2lt, m1le, m2le, i00, i0le0, i1le0, i2le0, i3le0, eq_self]) | ((with_reducible refine ip ?_ ?_); · simp (disch := omega) only [ltL, Llt, leL, Lle, eqL, addL, Ladd, subL, subN, decN, eqM, Mle, mulL, nI_add, nI_ltI, nI_leI, nI_eq, nI_clamp, up2_at, nltT, nltF, nleT, nleF, neqT, neqF, ↓reduceIte, true_or, or_true, false_or, or_false, or_self, true_and, and_true, false_and, and_false, and_self, not_true, not_false_eq_true, i10, i01, im0, im12, im21, m1lt, m2lt, m1le, m2le, i00, i0le0, i1le0, i2le0, i3le0, eq_self]))
  rfl
theorem Tm.abs_iff {c : Nat → Int32} {r h a b : Nat} (e : c a = -2) : Tm c r (h + 1) a b ↔ Tm c (r + 1) h (a + 1) b := by
  constructor
  · intro T
    rcases T.inv with ⟨o, -⟩ | ⟨-, k, e2, T2⟩ | ⟨e2, -⟩
    · exact absurd e o.ne2
    · obtain rfl : h = k := by omega
      exact T2
    · rw [e] at e2; exact absurd e2 (by decide)
  · exact fun T => Tm.abs e T
theorem Tm.app_iff {c : Nat → Int32} {r R h1 h2 a m b : Nat} (e : c a = -1) (T1 : Tm c R h1 (a + 1) m) : Tm c r (1 + max h1 h2) a b ∧ Tm c R h2 m b ↔ Tm c r h1 (a + 1) m ∧ Tm c r h2 m b ∧ Tm c R h2 m b := by
  constructor
  · intro ⟨T, T2⟩
    rcases T.inv with ⟨o, -⟩ | ⟨e2, -⟩ | ⟨-, k1, k2, m', e2, S1, S2⟩
    · exact absurd e o.ne1
    · rw [e] at e2; exact absurd e2 (by decide)
    · obtain ⟨q1, q2⟩ := T1.det S1
      subst q1 q2
      obtain ⟨q3, q4⟩ := T2.det S2
      subst q4
      exact ⟨S1, S2, T2⟩
  · exact fun ⟨A, B, C⟩ => ⟨Tm.app e A B, C⟩
theorem leaf_iff {c : Nat → Int32} {r v a : Nat} (e : c a = nI v) (hv : v < 4000) (hk : v % 4 = 0 ∨ v % 4 = 1 ∨ v % 4 = 2) : Tm c r 1 a (a + 1) ↔ (v % 4 = 0 → v / 4 < r) := by
  constructor
  · intro T h0
    rcases T.inv with ⟨⟨v', hv', e', o⟩, -⟩ | ⟨e2, -⟩ | ⟨e2, -⟩
    · rw [e] at e'
      have : v = v' := (nI_eq (by omega) (by omega)).mp e'
      subst this
      omega
    · rw [e] at e2; exact absurd e2 (nI_ne_m2 (by omega))
    · rw [e] at e2; exact absurd e2 (nI_ne_m1 (by omega))
  · intro h
    refine Tm.leaf ⟨v, hv, e, ?_⟩
    rcases hk with h0 | h1 | h2
    · exact Or.inl ⟨h0, h h0⟩
    · exact Or.inr (Or.inl h1)
    · exact Or.inr (Or.inr h2)
theorem closed_loop {N m S : Nat} {t : St} (t5 : t 5 0 = nI m) (hm : m ≤ 512) (t2 : t 2 m = nI S) (hS : S ≤ 30000) {R h a b : Nat} (T : Tm (t 0) R h a b) : ∀ j k d c f, k 3 0 = nI d → k 2 0 = nI c → k 4 0 = nI j → k 5 0 = 0 → c + 1 ≤ d → d + h ≤ 122 → j ≤ d → b ≤ S → b - a < f → (Tm (t 0) j h a b ∧ ((0 < c ∧ ∃ k', f_X1_endOfClosed_9 N f t k (nI a) = f_X1_endOfClosed_9 N (f - (b - a)) t k' (nI b) ∧ Pop2 k c k') ∨ (c = 0 ∧ ∃ k', f_X1_endOfClosed_9 N f t k (nI a) = some (nI b, (t, k'))))) ∨ (¬ Tm (t 0) j h a b ∧ ∃ k', f_X1_endOfClosed_9 N f t k (nI a) = some (-1, (t, k'))) := by
  have inner : ∀ k v (k1 : St) f a, a < S → t 0 a = v → v < 0 → f_X3_pass N k v = some k1 → k1 5 0 = 0 → f_X1_endOfClosed_9 N (f + 1) t k (nI a) = f_X1_endOfClosed_9 N f t k1 (nI (a + 1)) := by
    intro k v k1 f a ha hv hneg hp h5
    have hst := start_ok (N := N) (t := t) (k := k) (by omega : m < 513)
    rw [t2] at hst
    have hc := code_ok (N := N) (t := t) (k := k) (by omega : a < 30000)
    rw [hv] at hc
    have hov : f_X3_over N k1 = some (0, k1) := by
      rewrite [f_X3_over, h5]; rfl
    rewrite [f_X1_endOfClosed_9, t5]
    repeat (first | with_reducible refine bnE ?_ | with_reducible refine exI ?_ | with_reducible refine exJ ?_ | with_reducible refine bs (hst) ?_ | with_reducible refine bs (hc) ?_ | with_reducible refine bs (isOf_neg hneg) ?_ | ((with_reducible refine iN ?_ ?_); · simp (disch := omega) only [ltL, Llt, leL, Lle, eqL, addL, Ladd, subL, subN, decN, eqM, Mle, mulL, nI_add, nI_ltI, nI_leI, nI_eq, nI_clamp, up2_at, nltT, nltF, nleT, nleF, neqT, neqF, ↓reduceIte, true_or, or_true, false_or, or_false, or_self, true_and, and_true, false_and, and_false, and_self, not_true, not_false_eq_true, i10, i01, im0, im12, im21, m1lt, m2lt, m1le, m2le, i00, i0le0, i1le0, i2le0, i3le0, eq_self]) | ((with_reducible refine ip ?_ ?_); · simp (disch := omega) only [ltL, Llt, leL, Lle, eqL, addL, Ladd, subL, subN, decN, eqM, Mle, mulL, nI_add, nI_ltI, nI_leI, nI_eq, nI_clamp, up2_at, nltT, nltF, nleT, nleF, neqT, neqF, ↓reduceIte, true_or, or_true, false_or, or_false, or_self, true_and, and_true, false_and, and_false, and_self, not_true, not_false_eq_true, i10, i01, im0, im12, im21, m1lt, m2lt, m1le, m2le, i00, i0le0, i1le0, i2le0, i3le0, eq_self]))
    rewrite [f_X1_endOfClosed_51]
    repeat (first | with_reducible refine bnE ?_ | with_reducible refine exI ?_ | with_reducible refine exJ ?_ | with_reducible refine bs (hp) ?_ | with_reducible refine bs (hov) ?_ | ((with_reducible refine iN ?_ ?_); · simp (disch := omega) only [ltL, Llt, leL, Lle, eqL, addL, Ladd, subL, subN, decN, eqM, Mle, mulL, nI_add, nI_ltI, nI_leI, nI_eq, nI_clamp, up2_at, nltT, nltF, nleT, nleF, neqT, neqF, ↓reduceIte, true_or, or_true, false_or, or_false, or_self, true_and, and_true, false_and, and_false, and_self, not_true, not_false_eq_true, i10, i01, im0, im12, im21, m1lt, m2lt, m1le, m2le, i00, i0le0, i1le0, i2le0, i3le0, eq_self]) | ((with_reducible refine ip ?_ ?_); · simp (disch := omega) only [ltL, Llt, leL, Lle, eqL, addL, Ladd, subL, subN, decN, eqM, Mle, mulL, nI_add, nI_ltI, nI_leI, nI_eq, nI_clamp, up2_at, nltT, nltF, nleT, nleF, neqT, neqF, ↓reduceIte, true_or, or_true, false_or, or_false, or_self, true_and, and_true, false_and, and_false, and_self, not_true, not_false_eq_true, i10, i01, im0, im12, im21, m1lt, m2lt, m1le, m2le, i00, i0le0, i1le0, i2le0, i3le0, eq_self]))
    simp (disch := omega) only [ltL, Llt, leL, Lle, eqL, addL, Ladd, subL, subN, decN, eqM, Mle, mulL, nI_add, nI_ltI, nI_leI, nI_eq, nI_clamp, up2_at, nltT, nltF, nleT, nleF, neqT, neqF, ↓reduceIte, true_or, or_true, false_or, or_false, or_self, true_and, and_true, false_and, and_false, and_self, not_true, not_false_eq_true, i10, i01, im0, im12, im21, m1lt, m2lt, m1le, m2le, i00, i0le0, i1le0, i2le0, i3le0, eq_self, ]
  refine Tm.ind (c := t 0) (P := fun R h a b => ∀ j k d c f, k 3 0 = nI d → k 2 0 = nI c → k 4 0 = nI j → k 5 0 = 0 → c + 1 ≤ d → d + h ≤ 122 → j ≤ d → b ≤ S → b - a < f → (Tm (t 0) j h a b ∧ ((0 < c ∧ ∃ k', f_X1_endOfClosed_9 N f t k (nI a) = f_X1_endOfClosed_9 N (f - (b - a)) t k' (nI b) ∧ Pop2 k c k') ∨ (c = 0 ∧ ∃ k', f_X1_endOfClosed_9 N f t k (nI a) = some (nI b, (t, k'))))) ∨ (¬ Tm (t 0) j h a b ∧ ∃ k', f_X1_endOfClosed_9 N f t k (nI a) = some (-1, (t, k')))) ?_ ?_ ?_ T
  · intro r a o j k d c f h3 h2 h4 h5 hc hd hj hb hf
    obtain ⟨f, rfl⟩ : ∃ z, f = z + 1 := ⟨f - 1, by omega⟩
    obtain ⟨k', p1, p2⟩ := pass_leaf2 (N := N) (v := t 0 a) o.ne1 o.ne2 h2 (by omega)
    obtain ⟨v, hv, ev, o⟩ := o
    have hiff := leaf_iff (c := t 0) (r := j) (a := a) ev hv (by omega)
    have hst := start_ok (N := N) (t := t) (k := k) (by omega : m < 513)
    rw [t2] at hst
    have hcd := code_ok (N := N) (t := t) (k := k) (by omega : a < 30000)
    rw [ev] at hcd p1
    have hk : f_X4_isOf N 0 (nI v) = some ((if v % 4 = 0 then 1 else 0), ()) := isOf_ok (N := N) (v := v) (k := 0) (by omega) (by omega)
    have har : f_X3_around N k = some (nI j, k) := by rw [f_X3_around, h4]
    -- behind the test
    have go : f_X1_endOfClosed_9 N (f + 1) t k (nI a) = f_X1_endOfClosed_51 N (f_X1_endOfClosed_9 N f) t k (nI a) (nI v) → Tm (t 0) j 1 a (a + 1) → (Tm (t 0) j 1 a (a + 1) ∧ ((0 < c ∧ ∃ k', f_X1_endOfClosed_9 N (f + 1) t k (nI a) = f_X1_endOfClosed_9 N (f + 1 - (a + 1 - a)) t k' (nI (a + 1)) ∧ Pop2 k c k') ∨ (c = 0 ∧ ∃ k', f_X1_endOfClosed_9 N (f + 1) t k (nI a) = some (nI (a + 1), (t, k'))))) := by
      intro e T
      refine ⟨T, ?_⟩
      rcases p2 with ⟨c0, q5⟩ | ⟨c0, q⟩
      · refine Or.inr ⟨c0, k', e.trans ?_⟩
        have hov : f_X3_over N k' = some (1, k') := by rewrite [f_X3_over, q5]; rfl
        rewrite [f_X1_endOfClosed_51]
        repeat (first | with_reducible refine bnE ?_ | with_reducible refine exI ?_ | with_reducible refine exJ ?_ | with_reducible refine bs (p1) ?_ | with_reducible refine bs (hov) ?_ | ((with_reducible refine iN ?_ ?_); · simp (disch := omega) only [ltL, Llt, leL, Lle, eqL, addL, Ladd, subL, subN, decN, eqM, Mle, mulL, nI_add, nI_ltI, nI_leI, nI_eq, nI_clamp, up2_at, nltT, nltF, nleT, nleF, neqT, neqF, ↓reduceIte, true_or, or_true, false_or, or_false, or_self, true_and, and_true, false_and, and_false, and_self, not_true, not_false_eq_true, i10, i01, im0, im12, im21, m1lt, m2lt, m1le, m2le, i00, i0le0, i1le0, i2le0, i3le0, eq_self]) | ((with_reducible refine ip ?_ ?_); · simp (disch := omega) only [ltL, Llt, leL, Lle, eqL, addL, Ladd, subL, subN, decN, eqM, Mle, mulL, nI_add, nI_ltI, nI_leI, nI_eq, nI_clamp, up2_at, nltT, nltF, nleT, nleF, neqT, neqF, ↓reduceIte, true_or, or_true, false_or, or_false, or_self, true_and, and_true, false_and, and_false, and_self, not_true, not_false_eq_true, i10, i01, im0, im12, im21, m1lt, m2lt, m1le, m2le, i00, i0le0, i1le0, i2le0, i3le0, eq_self]))
        simp (disch := omega) only [ltL, Llt, leL, Lle, eqL, addL, Ladd, subL, subN, decN, eqM, Mle, mulL, nI_add, nI_ltI, nI_leI, nI_eq, nI_clamp, up2_at, nltT, nltF, nleT, nleF, neqT, neqF, ↓reduceIte, true_or, or_true, false_or, or_false, or_self, true_and, and_true, false_and, and_false, and_self, not_true, not_false_eq_true, i10, i01, im0, im12, im21, m1lt, m2lt, m1le, m2le, i00, i0le0, i1le0, i2le0, i3le0, eq_self, ]
      · refine Or.inl ⟨c0, k', e.trans ?_, q⟩
        have hov : f_X3_over N k' = some (0, k') := by rewrite [f_X3_over, q.2.2.2.1, h5]; rfl
        have e1 : f + 1 - (a + 1 - a) = f := by omega
        rewrite [f_X1_endOfClosed_51, e1]
        repeat (first | with_reducible refine bnE ?_ | with_reducible refine exI ?_ | with_reducible refine exJ ?_ | with_reducible refine bs (p1) ?_ | with_reducible refine bs (hov) ?_ | ((with_reducible refine iN ?_ ?_); · simp (disch := omega) only [ltL, Llt, leL, Lle, eqL, addL, Ladd, subL, subN, decN, eqM, Mle, mulL, nI_add, nI_ltI, nI_leI, nI_eq, nI_clamp, up2_at, nltT, nltF, nleT, nleF, neqT, neqF, ↓reduceIte, true_or, or_true, false_or, or_false, or_self, true_and, and_true, false_and, and_false, and_self, not_true, not_false_eq_true, i10, i01, im0, im12, im21, m1lt, m2lt, m1le, m2le, i00, i0le0, i1le0, i2le0, i3le0, eq_self]) | ((with_reducible refine ip ?_ ?_); · simp (disch := omega) only [ltL, Llt, leL, Lle, eqL, addL, Ladd, subL, subN, decN, eqM, Mle, mulL, nI_add, nI_ltI, nI_leI, nI_eq, nI_clamp, up2_at, nltT, nltF, nleT, nleF, neqT, neqF, ↓reduceIte, true_or, or_true, false_or, or_false, or_self, true_and, and_true, false_and, and_false, and_self, not_true, not_false_eq_true, i10, i01, im0, im12, im21, m1lt, m2lt, m1le, m2le, i00, i0le0, i1le0, i2le0, i3le0, eq_self]))
        simp (disch := omega) only [ltL, Llt, leL, Lle, eqL, addL, Ladd, subL, subN, decN, eqM, Mle, mulL, nI_add, nI_ltI, nI_leI, nI_eq, nI_clamp, up2_at, nltT, nltF, nleT, nleF, neqT, neqF, ↓reduceIte, true_or, or_true, false_or, or_false, or_self, true_and, and_true, false_and, and_false, and_self, not_true, not_false_eq_true, i10, i01, im0, im12, im21, m1lt, m2lt, m1le, m2le, i00, i0le0, i1le0, i2le0, i3le0, eq_self, ]
    by_cases k0 : v % 4 = 0
    · rw [if_pos k0] at hk
      by_cases lt : v / 4 < j
      · refine Or.inl (go ?_ (hiff.mpr (fun _ => lt)))
        rewrite [f_X1_endOfClosed_9, t5]
        repeat (first | with_reducible refine bnE ?_ | with_reducible refine exI ?_ | with_reducible refine exJ ?_ | with_reducible refine bs (hst) ?_ | with_reducible refine bs (hcd) ?_ | with_reducible refine bs (hk) ?_ | with_reducible refine bs (num_ok (N := N) (by omega : v < 2 ^ 31)) ?_ | with_reducible refine bs (har) ?_ | ((with_reducible refine iN ?_ ?_); · simp (disch := omega) only [ltL, Llt, leL, Lle, eqL, addL, Ladd, subL, subN, decN, eqM, Mle, mulL, nI_add, nI_ltI, nI_leI, nI_eq, nI_clamp, up2_at, nltT, nltF, nleT, nleF, neqT, neqF, ↓reduceIte, true_or, or_true, false_or, or_false, or_self, true_and, and_true, false_and, and_false, and_self, not_true, not_false_eq_true, i10, i01, im0, im12, im21, m1lt, m2lt, m1le, m2le, i00, i0le0, i1le0, i2le0, i3le0, eq_self]) | ((with_reducible refine ip ?_ ?_); · simp (disch := omega) only [ltL, Llt, leL, Lle, eqL, addL, Ladd, subL, subN, decN, eqM, Mle, mulL, nI_add, nI_ltI, nI_leI, nI_eq, nI_clamp, up2_at, nltT, nltF, nleT, nleF, neqT, neqF, ↓reduceIte, true_or, or_true, false_or, or_false, or_self, true_and, and_true, false_and, and_false, and_self, not_true, not_false_eq_true, i10, i01, im0, im12, im21, m1lt, m2lt, m1le, m2le, i00, i0le0, i1le0, i2le0, i3le0, eq_self]))
        rfl
      · refine Or.inr ⟨fun T => lt (hiff.mp T k0), k, ?_⟩
        rewrite [f_X1_endOfClosed_9, t5]
        repeat (first | with_reducible refine bnE ?_ | with_reducible refine exI ?_ | with_reducible refine exJ ?_ | with_reducible refine bs (hst) ?_ | with_reducible refine bs (hcd) ?_ | with_reducible refine bs (hk) ?_ | with_reducible refine bs (num_ok (N := N) (by omega : v < 2 ^ 31)) ?_ | with_reducible refine bs (har) ?_ | ((with_reducible refine iN ?_ ?_); · simp (disch := omega) only [ltL, Llt, leL, Lle, eqL, addL, Ladd, subL, subN, decN, eqM, Mle, mulL, nI_add, nI_ltI, nI_leI, nI_eq, nI_clamp, up2_at, nltT, nltF, nleT, nleF, neqT, neqF, ↓reduceIte, true_or, or_true, false_or, or_false, or_self, true_and, and_true, false_and, and_false, and_self, not_true, not_false_eq_true, i10, i01, im0, im12, im21, m1lt, m2lt, m1le, m2le, i00, i0le0, i1le0, i2le0, i3le0, eq_self]) | ((with_reducible refine ip ?_ ?_); · simp (disch := omega) only [ltL, Llt, leL, Lle, eqL, addL, Ladd, subL, subN, decN, eqM, Mle, mulL, nI_add, nI_ltI, nI_leI, nI_eq, nI_clamp, up2_at, nltT, nltF, nleT, nleF, neqT, neqF, ↓reduceIte, true_or, or_true, false_or, or_false, or_self, true_and, and_true, false_and, and_false, and_self, not_true, not_false_eq_true, i10, i01, im0, im12, im21, m1lt, m2lt, m1le, m2le, i00, i0le0, i1le0, i2le0, i3le0, eq_self]))
        rfl
    · rw [if_neg k0] at hk
      refine Or.inl (go ?_ (hiff.mpr (fun q => absurd q k0)))
      rewrite [f_X1_endOfClosed_9, t5]
      repeat (first | with_reducible refine bnE ?_ | with_reducible refine exI ?_ | with_reducible refine exJ ?_ | with_reducible refine bs (hst) ?_ | with_reducible refine bs (hcd) ?_ | with_reducible refine bs (hk) ?_ | ((with_reducible refine iN ?_ ?_); · simp (disch := omega) only [ltL, Llt, leL, Lle, eqL, addL, Ladd, subL, subN, decN, eqM, Mle, mulL, nI_add, nI_ltI, nI_leI, nI_eq, nI_clamp, up2_at, nltT, nltF, nleT, nleF, neqT, neqF, ↓reduceIte, true_or, or_true, false_or, or_false, or_self, true_and, and_true, false_and, and_false, and_self, not_true, not_false_eq_true, i10, i01, im0, im12, im21, m1lt, m2lt, m1le, m2le, i00, i0le0, i1le0, i2le0, i3le0, eq_self]) | ((with_reducible refine ip ?_ ?_); · simp (disch := omega) only [ltL, Llt, leL, Lle, eqL, addL, Ladd, subL, subN, decN, eqM, Mle, mulL, nI_add, nI_ltI, nI_leI, nI_eq, nI_clamp, up2_at, nltT, nltF, nleT, nleF, neqT, neqF, ↓reduceIte, true_or, or_true, false_or, or_false, or_self, true_and, and_true, false_and, and_false, and_self, not_true, not_false_eq_true, i10, i01, im0, im12, im21, m1lt, m2lt, m1le, m2le, i00, i0le0, i1le0, i2le0, i3le0, eq_self]))
      rfl
  · intro r h a b e T ih j k d c f h3 h2 h4 h5 hc hd hj hb hf
    have hl := T.lt
    obtain ⟨f, rfl⟩ : ∃ z, f = z + 1 := ⟨f - 1, by omega⟩
    obtain ⟨k1, p1, p2, p3, p4, p5, p6, p7⟩ := pass_abs2 (N := N) h3 h4
    have st := inner k _ k1 f a (by omega) e (by decide) p1 (by rw [p7]; exact h5)
    rw [Tm.abs_iff e, st]
    have e1 : f + 1 - (b - a) = f - (b - (a + 1)) := by omega
    rw [e1]
    have hP : ∀ k', Pop2 k1 c k' → Pop2 k c k' := by
      intro k' ⟨a1, a2, a3, a4, a5⟩
      rw [p5] at a1
      rw [p6] at a2
      rw [p7] at a4
      rw [p5, p6] at a5
      exact ⟨a1, a2, a3, a4, a5⟩
    rcases ih (j + 1) k1 (d + 1) c f p2 (by rw [p4]; exact h2) p3 (by rw [p7]; exact h5) (by omega) (by omega) (by omega) hb (by omega) with ⟨g1, ⟨g2, k', g3, g4⟩ | g2⟩ | g
    · exact Or.inl ⟨g1, Or.inl ⟨g2, k', g3, hP _ g4⟩⟩
    · exact Or.inl ⟨g1, Or.inr g2⟩
    · exact Or.inr g
  · intro r h1 h2 a m' b e T1 T2 i1 i2 j k d c f h3 hk2 h4 h5 hc hd hj hb hf
    have hl1 := T1.lt
    have hl2 := T2.lt
    obtain ⟨f, rfl⟩ : ∃ z, f = z + 1 := ⟨f - 1, by omega⟩
    obtain ⟨k1, p1, p2, p3, p4, p5, p6, p7, p8⟩ := pass_app2 (N := N) h3 hk2 (by omega)
    have st := inner k _ k1 f a (by omega) e (by decide) p1 (by rw [p7]; exact h5)
    have hiff := Tm.app_iff (r := j) (b := b) (h2 := h2) e T1
    rw [st]
    have e1 : f + 1 - (b - a) = f - (m' - (a + 1)) - (b - m') := by omega
    rw [e1]
    rcases i1 j k1 (d + 1) (c + 1) f p2 p3 (by rw [p6]; exact h4) (by rw [p7]; exact h5) (by omega) (by omega) (by omega) (by omega) (by omega) with ⟨g1, ⟨-, k2, g3, g4⟩ | ⟨g2, -⟩⟩ | ⟨g1, g2⟩
    · obtain ⟨a1, a2, a3, a4, a5⟩ := g4
      rw [Nat.add_sub_cancel] at a1 a2 a3 a5
      rw [g3]
      rcases i2 j k2 (d + 1) c (f - (m' - (a + 1))) (by rw [a1]; exact p4) a3 (by rw [a2, p5]; exact h4) (by rw [a4, p7]; exact h5) (by omega) (by omega) (by omega) hb (by omega) with ⟨g5, ⟨g6, k', g7, c1, c2, c3, c4, c5⟩ | g6⟩ | ⟨g5, g6⟩
      · refine Or.inl ⟨(hiff.mpr ⟨g1, g5, T2⟩).1, Or.inl ⟨g6, k', g7, ?_, ?_, c3, by rw [c4, a4, p7], fun i hi => ?_⟩⟩
        · rw [c1, (a5 _ (by omega)).1, (p8 _ (by omega)).1]
        · rw [c2, (a5 _ (by omega)).2, (p8 _ (by omega)).2]
        · rw [(c5 i hi).1, (c5 i hi).2, (a5 i (by omega)).1, (a5 i (by omega)).2]; exact p8 i (by omega)
      · exact Or.inl ⟨(hiff.mpr ⟨g1, g5, T2⟩).1, Or.inr g6⟩
      · exact Or.inr ⟨fun q => g5 (hiff.mp ⟨q, T2⟩).2.1, g6⟩
    · exact absurd g2 (by omega)
    · exact Or.inr ⟨fun q => g1 (hiff.mp ⟨q, T2⟩).1, g2⟩
theorem endOfClosed_ok {N m S : Nat} {t k : St} (hN : 34100 < N) (t5 : t 5 0 = nI m) (hm : m ≤ 512) (t2 : t 2 m = nI S) (hS : S ≤ 30000) {R h a b : Nat} (T : Tm (t 0) R h a b) (hb : b ≤ S) (hh : h ≤ 120) : (Tm (t 0) 0 h a b ∧ ∃ k', f_X1_endOfClosed N t k (nI a) = some (nI b, (t, k'))) ∨ (¬ Tm (t 0) 0 h a b ∧ ∃ k', f_X1_endOfClosed N t k (nI a) = some (-1, (t, k'))) := by
  have hl := T.lt
  have hbeg : f_X3_begin N k = some (up2 (up2 (up2 (up2 k 2 0 0) 3 0 1) 4 0 0) 5 0 0) := by
    rewrite [f_X3_begin]; rfl
  have z3 : (up2 (up2 (up2 (up2 k 2 0 0) 3 0 1) 4 0 0) 5 0 0) 3 0 = nI 1 := by simp (disch := omega) only [ltL, Llt, leL, Lle, eqL, addL, Ladd, subL, subN, decN, eqM, Mle, mulL, nI_add, nI_ltI, nI_leI, nI_eq, nI_clamp, up2_at, nltT, nltF, nleT, nleF, neqT, neqF, ↓reduceIte, true_or, or_true, false_or, or_false, or_self, true_and, and_true, false_and, and_false, and_self, not_true, not_false_eq_true, i10, i01, im0, im12, im21, m1lt, m2lt, m1le, m2le, i00, i0le0, i1le0, i2le0, i3le0, eq_self, ]; rfl
  have z2 : (up2 (up2 (up2 (up2 k 2 0 0) 3 0 1) 4 0 0) 5 0 0) 2 0 = nI 0 := by simp (disch := omega) only [ltL, Llt, leL, Lle, eqL, addL, Ladd, subL, subN, decN, eqM, Mle, mulL, nI_add, nI_ltI, nI_leI, nI_eq, nI_clamp, up2_at, nltT, nltF, nleT, nleF, neqT, neqF, ↓reduceIte, true_or, or_true, false_or, or_false, or_self, true_and, and_true, false_and, and_false, and_self, not_true, not_false_eq_true, i10, i01, im0, im12, im21, m1lt, m2lt, m1le, m2le, i00, i0le0, i1le0, i2le0, i3le0, eq_self, ]; rfl
  have z4 : (up2 (up2 (up2 (up2 k 2 0 0) 3 0 1) 4 0 0) 5 0 0) 4 0 = nI 0 := by simp (disch := omega) only [ltL, Llt, leL, Lle, eqL, addL, Ladd, subL, subN, decN, eqM, Mle, mulL, nI_add, nI_ltI, nI_leI, nI_eq, nI_clamp, up2_at, nltT, nltF, nleT, nleF, neqT, neqF, ↓reduceIte, true_or, or_true, false_or, or_false, or_self, true_and, and_true, false_and, and_false, and_self, not_true, not_false_eq_true, i10, i01, im0, im12, im21, m1lt, m2lt, m1le, m2le, i00, i0le0, i1le0, i2le0, i3le0, eq_self, ]; rfl
  have z5 : (up2 (up2 (up2 (up2 k 2 0 0) 3 0 1) 4 0 0) 5 0 0) 5 0 = 0 := by simp (disch := omega) only [ltL, Llt, leL, Lle, eqL, addL, Ladd, subL, subN, decN, eqM, Mle, mulL, nI_add, nI_ltI, nI_leI, nI_eq, nI_clamp, up2_at, nltT, nltF, nleT, nleF, neqT, neqF, ↓reduceIte, true_or, or_true, false_or, or_false, or_self, true_and, and_true, false_and, and_false, and_self, not_true, not_false_eq_true, i10, i01, im0, im12, im21, m1lt, m2lt, m1le, m2le, i00, i0le0, i1le0, i2le0, i3le0, eq_self, ]
  rcases closed_loop (N := N) t5 hm t2 hS T 0 _ 1 0 N z3 z2 z4 z5 (by omega) (by omega) (by omega) hb (by omega) with ⟨g1, ⟨g2, -⟩ | ⟨-, k', g2⟩⟩ | ⟨g1, k', g2⟩
  · exact absurd g2 (by omega)
  · refine Or.inl ⟨g1, k', ?_⟩
    rewrite [f_X1_endOfClosed]
    exact bs hbeg g2
  · refine Or.inr ⟨g1, k', ?_⟩
    rewrite [f_X1_endOfClosed]
    exact bs hbeg g2
