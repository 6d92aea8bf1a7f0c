/-! PURE: ends and heights of terms -/
theorem endOf_loop {N : Nat} {σ : St} {r h a b : Nat} (T : Tm (σ 20) r h a b) : ∀ o f, b ≤ 34100 → b - a < f → o + (b - a) < 2 ^ 31 → ∃ f', f - (b - a) = f' ∧ f_X5_endOf_4 N f σ (nI (o + 1)) (nI a) = f_X5_endOf_4 N f' σ (nI o) (nI b) := by
  refine Tm.ind (c := σ 20) (P := fun r h a b => ∀ o f, b ≤ 34100 → b - a < f → o + (b - a) < 2 ^ 31 → ∃ f', f - (b - a) = f' ∧ f_X5_endOf_4 N f σ (nI (o + 1)) (nI a) = f_X5_endOf_4 N f' σ (nI o) (nI b)) ?_ ?_ ?_ T
  · intro r a o u f hb hf ho
    obtain ⟨f, rfl⟩ : ∃ z, f = z + 1 := ⟨f - 1, by omega⟩
    have o1 := o.ne1
    have o2 := o.ne2
    refine ⟨_, rfl, ?_⟩
    rewrite [f_X5_endOf_4]
    repeat (first | with_reducible refine bnE ?_ | with_reducible refine exI ?_ | with_reducible refine exJ ?_ | ((with_reducible refine iN ?_ ?_); · simp (disch := omega) only [ltL, Llt, leL, Lle, eqL, addL, Ladd, subL, subN, decN, eqM, Mle, mulL, nI_add, nI_ltI, nI_leI, nI_eq, nI_clamp, up2_at, nltT, nltF, nleT, nleF, neqT, neqF, ↓reduceIte, true_or, or_true, false_or, or_false, or_self, true_and, and_true, false_and, and_false, and_self, not_true, not_false_eq_true, i10, i01, im0, im12, im21, m1lt, m2lt, m1le, m2le, i00, i0le0, i1le0, i2le0, i3le0, eq_self, o1, o2]) | ((with_reducible refine ip ?_ ?_); · simp (disch := omega) only [ltL, Llt, leL, Lle, eqL, addL, Ladd, subL, subN, decN, eqM, Mle, mulL, nI_add, nI_ltI, nI_leI, nI_eq, nI_clamp, up2_at, nltT, nltF, nleT, nleF, neqT, neqF, ↓reduceIte, true_or, or_true, false_or, or_false, or_self, true_and, and_true, false_and, and_false, and_self, not_true, not_false_eq_true, i10, i01, im0, im12, im21, m1lt, m2lt, m1le, m2le, i00, i0le0, i1le0, i2le0, i3le0, eq_self, o1, o2]))
    rewrite [f_X5_endOf_39]
    have e : f + 1 - (a + 1 - a) = f := by omega
    rewrite [e]
    simp (disch := omega) only [ltL, Llt, leL, Lle, eqL, addL, Ladd, subL, subN, decN, eqM, Mle, mulL, nI_add, nI_ltI, nI_leI, nI_eq, nI_clamp, up2_at, nltT, nltF, nleT, nleF, neqT, neqF, ↓reduceIte, true_or, or_true, false_or, or_false, or_self, true_and, and_true, false_and, and_false, and_self, not_true, not_false_eq_true, i10, i01, im0, im12, im21, m1lt, m2lt, m1le, m2le, i00, i0le0, i1le0, i2le0, i3le0, eq_self, Nat.add_sub_cancel]
  · intro r h a b e T ih u f hb hf ho
    have hl := T.lt
    obtain ⟨f, rfl⟩ : ∃ z, f = z + 1 := ⟨f - 1, by omega⟩
    obtain ⟨f', e', h'⟩ := ih u f hb (by omega) (by omega)
    refine ⟨f', by omega, ?_⟩
    rewrite [f_X5_endOf_4]
    repeat (first | with_reducible refine bnE ?_ | with_reducible refine exI ?_ | with_reducible refine exJ ?_ | ((with_reducible refine iN ?_ ?_); · simp (disch := omega) only [ltL, Llt, leL, Lle, eqL, addL, Ladd, subL, subN, decN, eqM, Mle, mulL, nI_add, nI_ltI, nI_leI, nI_eq, nI_clamp, up2_at, nltT, nltF, nleT, nleF, neqT, neqF, ↓reduceIte, true_or, or_true, false_or, or_false, or_self, true_and, and_true, false_and, and_false, and_self, not_true, not_false_eq_true, i10, i01, im0, im12, im21, m1lt, m2lt, m1le, m2le, i00, i0le0, i1le0, i2le0, i3le0, eq_self, e]) | ((with_reducible refine ip ?_ ?_); · simp (disch := omega) only [ltL, Llt, leL, Lle, eqL, addL, Ladd, subL, subN, decN, eqM, Mle, mulL, nI_add, nI_ltI, nI_leI, nI_eq, nI_clamp, up2_at, nltT, nltF, nleT, nleF, neqT, neqF, ↓reduceIte, true_or, or_true, false_or, or_false, or_self, true_and, and_true, false_and, and_false, and_self, not_true, not_false_eq_true, i10, i01, im0, im12, im21, m1lt, m2lt, m1le, m2le, i00, i0le0, i1le0, i2le0, i3le0, eq_self, e]))
    rewrite [f_X5_endOf_39]
    simp (disch := omega) only [ltL, Llt, leL, Lle, eqL, addL, Ladd, subL, subN, decN, eqM, Mle, mulL, nI_add, nI_ltI, nI_leI, nI_eq, nI_clamp, up2_at, nltT, nltF, nleT, nleF, neqT, neqF, ↓reduceIte, true_or, or_true, false_or, or_false, or_self, true_and, and_true, false_and, and_false, and_self, not_true, not_false_eq_true, i10, i01, im0, im12, im21, m1lt, m2lt, m1le, m2le, i00, i0le0, i1le0, i2le0, i3le0, eq_self, Int32.add_zero]
    exact h'
  · intro r h1 h2 a m b e T1 T2 i1 i2 u f hb hf ho
    have hl1 := T1.lt
    have hl2 := T2.lt
    obtain ⟨f, rfl⟩ : ∃ z, f = z + 1 := ⟨f - 1, by omega⟩
    obtain ⟨f1, e1, q1⟩ := i1 (u + 1) f (by omega) (by omega) (by omega)
    obtain ⟨f2, e2, q2⟩ := i2 u f1 hb (by omega) (by omega)
    refine ⟨f2, by omega, ?_⟩
    rewrite [f_X5_endOf_4]
    repeat (first | with_reducible refine bnE ?_ | with_reducible refine exI ?_ | with_reducible refine exJ ?_ | ((with_reducible refine iN ?_ ?_); · simp (disch := omega) only [ltL, Llt, leL, Lle, eqL, addL, Ladd, subL, subN, decN, eqM, Mle, mulL, nI_add, nI_ltI, nI_leI, nI_eq, nI_clamp, up2_at, nltT, nltF, nleT, nleF, neqT, neqF, ↓reduceIte, true_or, or_true, false_or, or_false, or_self, true_and, and_true, false_and, and_false, and_self, not_true, not_false_eq_true, i10, i01, im0, im12, im21, m1lt, m2lt, m1le, m2le, i00, i0le0, i1le0, i2le0, i3le0, eq_self, e]) | ((with_reducible refine ip ?_ ?_); · simp (disch := omega) only [ltL, Llt, leL, Lle, eqL, addL, Ladd, subL, subN, decN, eqM, Mle, mulL, nI_add, nI_ltI, nI_leI, nI_eq, nI_clamp, up2_at, nltT, nltF, nleT, nleF, neqT, neqF, ↓reduceIte, true_or, or_true, false_or, or_false, or_self, true_and, and_true, false_and, and_false, and_self, not_true, not_false_eq_true, i10, i01, im0, im12, im21, m1lt, m2lt, m1le, m2le, i00, i0le0, i1le0, i2le0, i3le0, eq_self, e]))
    rewrite [f_X5_endOf_39]
    simp (disch := omega) only [ltL, Llt, leL, Lle, eqL, addL, Ladd, subL, subN, decN, eqM, Mle, mulL, nI_add, nI_ltI, nI_leI, nI_eq, nI_clamp, up2_at, nltT, nltF, nleT, nleF, neqT, neqF, ↓reduceIte, true_or, or_true, false_or, or_false, or_self, true_and, and_true, false_and, and_false, and_self, not_true, not_false_eq_true, i10, i01, im0, im12, im21, m1lt, m2lt, m1le, m2le, i00, i0le0, i1le0, i2le0, i3le0, eq_self, ]
    exact q1.trans q2
theorem endOf_ok {N : Nat} {σ : St} {r h a b : Nat} (T : Tm (σ 20) r h a b) (hb : b ≤ 34100) (hN : 34100 < N) : f_X5_endOf N σ (nI a) = some (nI b, σ) := by
  have hl := T.lt
  obtain ⟨f, e, q⟩ := endOf_loop (N := N) T 0 N hb (by omega) (by omega)
  obtain ⟨f, rfl⟩ : ∃ z, f = z + 1 := ⟨f - 1, by omega⟩
  rewrite [f_X5_endOf]
  refine Eq.trans q ?_
  rewrite [f_X5_endOf_4]
  repeat (first | with_reducible refine bnE ?_ | with_reducible refine exI ?_ | with_reducible refine exJ ?_ | ((with_reducible refine iN ?_ ?_); · simp (disch := omega) only [ltL, Llt, leL, Lle, eqL, addL, Ladd, subL, subN, decN, eqM, Mle, mulL, nI_add, nI_ltI, nI_leI, nI_eq, nI_clamp, up2_at, nltT, nltF, nleT, nleF, neqT, neqF, ↓reduceIte, true_or, or_true, false_or, or_false, or_self, true_and, and_true, false_and, and_false, and_self, not_true, not_false_eq_true, i10, i01, im0, im12, im21, m1lt, m2lt, m1le, m2le, i00, i0le0, i1le0, i2le0, i3le0, eq_self]) | ((with_reducible refine ip ?_ ?_); · simp (disch := omega) only [ltL, Llt, leL, Lle, eqL, addL, Ladd, subL, subN, decN, eqM, Mle, mulL, nI_add, nI_ltI, nI_leI, nI_eq, nI_clamp, up2_at, nltT, nltF, nleT, nleF, neqT, neqF, ↓reduceIte, true_or, or_true, false_or, or_false, or_self, true_and, and_true, false_and, and_false, and_self, not_true, not_false_eq_true, i10, i01, im0, im12, im21, m1lt, m2lt, m1le, m2le, i00, i0le0, i1le0, i2le0, i3le0, eq_self]))
  rfl
/-- the class's walk, popped to what waits -/
def Pop (k : St) (c : Nat) (k' : St) : Prop := 0 < c → k' 3 0 = k 0 (c - 1) ∧ k' 2 0 = nI (c - 1) ∧ ∀ j, j < c - 1 → k' 0 j = k 0 j
theorem pass_leaf {N c : Nat} {k : St} {v : Int32} (h1 : v ≠ -1) (h2 : v ≠ -2) (hc : k 2 0 = nI c) (h : c ≤ 121) : ∃ k', f_X3_pass N k v = some k' ∧ Pop k c k' := by
  by_cases c0 : c = 0
  · subst c0
    refine ⟨up2 k 5 0 1, ?_, fun q => absurd q (by omega)⟩
    have : f_X3_takeUp N k = some (up2 k 5 0 1) := by
      rewrite [f_X3_takeUp]
      repeat (first | with_reducible refine bnE ?_ | with_reducible refine exI ?_ | with_reducible refine exJ ?_ | ((with_reducible refine iN ?_ ?_); · simp (disch := omega) only [ltL, Llt, leL, Lle, eqL, addL, Ladd, subL, subN, decN, eqM, Mle, mulL, nI_add, nI_ltI, nI_leI, nI_eq, nI_clamp, up2_at, nltT, nltF, nleT, nleF, neqT, neqF, ↓reduceIte, true_or, or_true, false_or, or_false, or_self, true_and, and_true, false_and, and_false, and_self, not_true, not_false_eq_true, i10, i01, im0, im12, im21, m1lt, m2lt, m1le, m2le, i00, i0le0, i1le0, i2le0, i3le0, eq_self, hc]) | ((with_reducible refine ip ?_ ?_); · simp (disch := omega) only [ltL, Llt, leL, Lle, eqL, addL, Ladd, subL, subN, decN, eqM, Mle, mulL, nI_add, nI_ltI, nI_leI, nI_eq, nI_clamp, up2_at, nltT, nltF, nleT, nleF, neqT, neqF, ↓reduceIte, true_or, or_true, false_or, or_false, or_self, true_and, and_true, false_and, and_false, and_self, not_true, not_false_eq_true, i10, i01, im0, im12, im21, m1lt, m2lt, m1le, m2le, i00, i0le0, i1le0, i2le0, i3le0, eq_self, hc]))
      rfl
    rewrite [f_X3_pass]
    repeat (first | with_reducible refine bnE ?_ | with_reducible refine exI ?_ | with_reducible refine exJ ?_ | with_reducible refine bs (this) ?_ | ((with_reducible refine iN ?_ ?_); · simp (disch := omega) only [ltL, Llt, leL, Lle, eqL, addL, Ladd, subL, subN, decN, eqM, Mle, mulL, nI_add, nI_ltI, nI_leI, nI_eq, nI_clamp, up2_at, nltT, nltF, nleT, nleF, neqT, neqF, ↓reduceIte, true_or, or_true, false_or, or_false, or_self, true_and, and_true, false_and, and_false, and_self, not_true, not_false_eq_true, i10, i01, im0, im12, im21, m1lt, m2lt, m1le, m2le, i00, i0le0, i1le0, i2le0, i3le0, eq_self, h1, h2]) | ((with_reducible refine ip ?_ ?_); · simp (disch := omega) only [ltL, Llt, leL, Lle, eqL, addL, Ladd, subL, subN, decN, eqM, Mle, mulL, nI_add, nI_ltI, nI_leI, nI_eq, nI_clamp, up2_at, nltT, nltF, nleT, nleF, neqT, neqF, ↓reduceIte, true_or, or_true, false_or, or_false, or_self, true_and, and_true, false_and, and_false, and_self, not_true, not_false_eq_true, i10, i01, im0, im12, im21, m1lt, m2lt, m1le, m2le, i00, i0le0, i1le0, i2le0, i3le0, eq_self, h1, h2]))
    rfl
  · have r1 := rd_in (N := N) (g := k 0) (by omega : c - 1 < 121) (by omega)
    have r2 := rd_in (N := N) (g := k 1) (by omega : c - 1 < 121) (by omega)
    refine ⟨up2 (up2 (up2 k 2 0 (nI (c - 1))) 3 0 (k 0 (c - 1))) 4 0 (k 1 (c - 1)), ?_, fun _ => ⟨?_, ?_, ?_⟩⟩
    · have : f_X3_takeUp N k = some (up2 (up2 (up2 k 2 0 (nI (c - 1))) 3 0 (k 0 (c - 1))) 4 0 (k 1 (c - 1))) := by
        rewrite [f_X3_takeUp, hc]
        have e1 : nI c - 1 = nI (c - 1) := subL (k := 1) (by show 1 ≤ c; omega)
        rewrite [e1]
        have s1 : up2 k 2 0 (nI (c - 1)) 2 0 = nI (c - 1) := by simp (disch := omega) only [ltL, Llt, leL, Lle, eqL, addL, Ladd, subL, subN, decN, eqM, Mle, mulL, nI_add, nI_ltI, nI_leI, nI_eq, nI_clamp, up2_at, nltT, nltF, nleT, nleF, neqT, neqF, ↓reduceIte, true_or, or_true, false_or, or_false, or_self, true_and, and_true, false_and, and_false, and_self, not_true, not_false_eq_true, i10, i01, im0, im12, im21, m1lt, m2lt, m1le, m2le, i00, i0le0, i1le0, i2le0, i3le0, eq_self, ]
        have s2 : up2 k 2 0 (nI (c - 1)) 0 = k 0 := by simp (disch := decide) only [up2_row, upR_row, and_self, eq_self, ]
        have s3 : up2 (up2 k 2 0 (nI (c - 1))) 3 0 (k 0 (c - 1)) 2 0 = nI (c - 1) := by simp (disch := omega) only [ltL, Llt, leL, Lle, eqL, addL, Ladd, subL, subN, decN, eqM, Mle, mulL, nI_add, nI_ltI, nI_leI, nI_eq, nI_clamp, up2_at, nltT, nltF, nleT, nleF, neqT, neqF, ↓reduceIte, true_or, or_true, false_or, or_false, or_self, true_and, and_true, false_and, and_false, and_self, not_true, not_false_eq_true, i10, i01, im0, im12, im21, m1lt, m2lt, m1le, m2le, i00, i0le0, i1le0, i2le0, i3le0, eq_self, ]
        have s4 : up2 (up2 k 2 0 (nI (c - 1))) 3 0 (k 0 (c - 1)) 1 = k 1 := by simp (disch := decide) only [up2_row, upR_row, and_self, eq_self, ]
        refine ip (by simp (disch := omega) only [ltL, Llt, leL, Lle, eqL, addL, Ladd, subL, subN, decN, eqM, Mle, mulL, nI_add, nI_ltI, nI_leI, nI_eq, nI_clamp, up2_at, nltT, nltF, nleT, nleF, neqT, neqF, ↓reduceIte, true_or, or_true, false_or, or_false, or_self, true_and, and_true, false_and, and_false, and_self, not_true, not_false_eq_true, i10, i01, im0, im12, im21, m1lt, m2lt, m1le, m2le, i00, i0le0, i1le0, i2le0, i3le0, eq_self, ]) ?_
        refine bnE ?_
        rewrite [s1, s2]
        refine bs r1 ?_
        refine bnE ?_
        simp only []
        rewrite [s3, s4]
        refine bs r2 ?_
        rfl
      rewrite [f_X3_pass]
      repeat (first | with_reducible refine bnE ?_ | with_reducible refine exI ?_ | with_reducible refine exJ ?_ | with_reducible refine bs (this) ?_ | ((with_reducible refine iN ?_ ?_); · simp (disch := omega) only [ltL, Llt, leL, Lle, eqL, addL, Ladd, subL, subN, decN, eqM, Mle, mulL, nI_add, nI_ltI, nI_leI, nI_eq, nI_clamp, up2_at, nltT, nltF, nleT, nleF, neqT, neqF, ↓reduceIte, true_or, or_true, false_or, or_false, or_self, true_and, and_true, false_and, and_false, and_self, not_true, not_false_eq_true, i10, i01, im0, im12, im21, m1lt, m2lt, m1le, m2le, i00, i0le0, i1le0, i2le0, i3le0, eq_self, h1, h2]) | ((with_reducible refine ip ?_ ?_); · simp (disch := omega) only [ltL, Llt, leL, Lle, eqL, addL, Ladd, subL, subN, decN, eqM, Mle, mulL, nI_add, nI_ltI, nI_leI, nI_eq, nI_clamp, up2_at, nltT, nltF, nleT, nleF, neqT, neqF, ↓reduceIte, true_or, or_true, false_or, or_false, or_self, true_and, and_true, false_and, and_false, and_self, not_true, not_false_eq_true, i10, i01, im0, im12, im21, m1lt, m2lt, m1le, m2le, i00, i0le0, i1le0, i2le0, i3le0, eq_self, h1, h2]))
      rfl
    · simp (disch := omega) only [ltL, Llt, leL, Lle, eqL, addL, Ladd, subL, subN, decN, eqM, Mle, mulL, nI_add, nI_ltI, nI_leI, nI_eq, nI_clamp, up2_at, nltT, nltF, nleT, nleF, neqT, neqF, ↓reduceIte, true_or, or_true, false_or, or_false, or_self, true_and, and_true, false_and, and_false, and_self, not_true, not_false_eq_true, i10, i01, im0, im12, im21, m1lt, m2lt, m1le, m2le, i00, i0le0, i1le0, i2le0, i3le0, eq_self, ]
    · simp (disch := omega) only [ltL, Llt, leL, Lle, eqL, addL, Ladd, subL, subN, decN, eqM, Mle, mulL, nI_add, nI_ltI, nI_leI, nI_eq, nI_clamp, up2_at, nltT, nltF, nleT, nleF, neqT, neqF, ↓reduceIte, true_or, or_true, false_or, or_false, or_self, true_and, and_true, false_and, and_false, and_self, not_true, not_false_eq_true, i10, i01, im0, im12, im21, m1lt, m2lt, m1le, m2le, i00, i0le0, i1le0, i2le0, i3le0, eq_self, ]
    · intro j hj
      simp (disch := omega) only [ltL, Llt, leL, Lle, eqL, addL, Ladd, subL, subN, decN, eqM, Mle, mulL, nI_add, nI_ltI, nI_leI, nI_eq, nI_clamp, up2_at, nltT, nltF, nleT, nleF, neqT, neqF, ↓reduceIte, true_or, or_true, false_or, or_false, or_self, true_and, and_true, false_and, and_false, and_self, not_true, not_false_eq_true, i10, i01, im0, im12, im21, m1lt, m2lt, m1le, m2le, i00, i0le0, i1le0, i2le0, i3le0, eq_self, ]
theorem pass_abs {N : Nat} {k : St} {d : Nat} (h3 : k 3 0 = nI d) : ∃ k', f_X3_pass N k (-2) = some k' ∧ k' 3 0 = nI (d + 1) ∧ k' 2 = k 2 ∧ k' 0 = k 0 := by
  refine ⟨up2 (up2 k 3 0 (nI (d + 1))) 4 0 (k 4 0 + 1), ?_, by simp (disch := omega) only [ltL, Llt, leL, Lle, eqL, addL, Ladd, subL, subN, decN, eqM, Mle, mulL, nI_add, nI_ltI, nI_leI, nI_eq, nI_clamp, up2_at, nltT, nltF, nleT, nleF, neqT, neqF, ↓reduceIte, true_or, or_true, false_or, or_false, or_self, true_and, and_true, false_and, and_false, and_self, not_true, not_false_eq_true, i10, i01, im0, im12, im21, m1lt, m2lt, m1le, m2le, i00, i0le0, i1le0, i2le0, i3le0, eq_self, ], by simp (disch := decide) only [up2_row, upR_row, and_self, eq_self, ], by simp (disch := decide) only [up2_row, upR_row, and_self, eq_self, ]⟩
  rewrite [f_X3_pass]
  repeat (first | with_reducible refine bnE ?_ | with_reducible refine exI ?_ | with_reducible refine exJ ?_ | ((with_reducible refine iN ?_ ?_); · simp (disch := omega) only [ltL, Llt, leL, Lle, eqL, addL, Ladd, subL, subN, decN, eqM, Mle, mulL, nI_add, nI_ltI, nI_leI, nI_eq, nI_clamp, up2_at, nltT, nltF, nleT, nleF, neqT, neqF, ↓reduceIte, true_or, or_true, false_or, or_false, or_self, true_and, and_true, false_and, and_false, and_self, not_true, not_false_eq_true, i10, i01, im0, im12, im21, m1lt, m2lt, m1le, m2le, i00, i0le0, i1le0, i2le0, i3le0, eq_self, im21]) | ((with_reducible refine ip ?_ ?_); · simp (disch := omega) only [ltL, Llt, leL, Lle, eqL, addL, Ladd, subL, subN, decN, eqM, Mle, mulL, nI_add, nI_ltI, nI_leI, nI_eq, nI_clamp, up2_at, nltT, nltF, nleT, nleF, neqT, neqF, ↓reduceIte, true_or, or_true, false_or, or_false, or_self, true_and, and_true, false_and, and_false, and_self, not_true, not_false_eq_true, i10, i01, im0, im12, im21, m1lt, m2lt, m1le, m2le, i00, i0le0, i1le0, i2le0, i3le0, eq_self, im21]))
  simp (disch := omega) only [ltL, Llt, leL, Lle, eqL, addL, Ladd, subL, subN, decN, eqM, Mle, mulL, nI_add, nI_ltI, nI_leI, nI_eq, nI_clamp, up2_at, nltT, nltF, nleT, nleF, neqT, neqF, ↓reduceIte, true_or, or_true, false_or, or_false, or_self, true_and, and_true, false_and, and_false, and_self, not_true, not_false_eq_true, i10, i01, im0, im12, im21, m1lt, m2lt, m1le, m2le, i00, i0le0, i1le0, i2le0, i3le0, eq_self, h3]
  rfl
theorem pass_app {N : Nat} {k : St} {d c : Nat} (h3 : k 3 0 = nI d) (h2 : k 2 0 = nI c) (hc : c < 121) : ∃ k', f_X3_pass N k (-1) = some k' ∧ k' 3 0 = nI (d + 1) ∧ k' 2 0 = nI (c + 1) ∧ k' 0 c = nI (d + 1) ∧ ∀ j, j < c → k' 0 j = k 0 j := by
  refine ⟨up2 (up2 (up2 (up2 k 3 0 (nI (d + 1))) 0 c (nI (d + 1))) 1 c (k 4 0)) 2 0 (nI (c + 1)), ?_, by simp (disch := omega) only [ltL, Llt, leL, Lle, eqL, addL, Ladd, subL, subN, decN, eqM, Mle, mulL, nI_add, nI_ltI, nI_leI, nI_eq, nI_clamp, up2_at, nltT, nltF, nleT, nleF, neqT, neqF, ↓reduceIte, true_or, or_true, false_or, or_false, or_self, true_and, and_true, false_and, and_false, and_self, not_true, not_false_eq_true, i10, i01, im0, im12, im21, m1lt, m2lt, m1le, m2le, i00, i0le0, i1le0, i2le0, i3le0, eq_self, ], by simp (disch := omega) only [ltL, Llt, leL, Lle, eqL, addL, Ladd, subL, subN, decN, eqM, Mle, mulL, nI_add, nI_ltI, nI_leI, nI_eq, nI_clamp, up2_at, nltT, nltF, nleT, nleF, neqT, neqF, ↓reduceIte, true_or, or_true, false_or, or_false, or_self, true_and, and_true, false_and, and_false, and_self, not_true, not_false_eq_true, i10, i01, im0, im12, im21, m1lt, m2lt, m1le, m2le, i00, i0le0, i1le0, i2le0, i3le0, eq_self, ], by simp (disch := omega) only [ltL, Llt, leL, Lle, eqL, addL, Ladd, subL, subN, decN, eqM, Mle, mulL, nI_add, nI_ltI, nI_leI, nI_eq, nI_clamp, up2_at, nltT, nltF, nleT, nleF, neqT, neqF, ↓reduceIte, true_or, or_true, false_or, or_false, or_self, true_and, and_true, false_and, and_false, and_self, not_true, not_false_eq_true, i10, i01, im0, im12, im21, m1lt, m2lt, m1le, m2le, i00, i0le0, i1le0, i2le0, i3le0, eq_self, ], fun j hj => by simp (disch := omega) only [ltL, Llt, leL, Lle, eqL, addL, Ladd, subL, subN, decN, eqM, Mle, mulL, nI_add, nI_ltI, nI_leI, nI_eq, nI_clamp, up2_at, nltT, nltF, nleT, nleF, neqT, neqF, ↓reduceIte, true_or, or_true, false_or, or_false, or_self, true_and, and_true, false_and, and_false, and_self, not_true, not_false_eq_true, i10, i01, im0, im12, im21, m1lt, m2lt, m1le, m2le, i00, i0le0, i1le0, i2le0, i3le0, eq_self, ]⟩
  have : f_X3_putOff N (up2 k 3 0 (nI (d + 1))) = some (up2 (up2 (up2 (up2 k 3 0 (nI (d + 1))) 0 c (nI (d + 1))) 1 c (k 4 0)) 2 0 (nI (c + 1))) := by
    rewrite [f_X3_putOff]
    repeat (first | with_reducible refine bnE ?_ | with_reducible refine exI ?_ | with_reducible refine exJ ?_ | ((with_reducible refine iN ?_ ?_); · simp (disch := omega) only [ltL, Llt, leL, Lle, eqL, addL, Ladd, subL, subN, decN, eqM, Mle, mulL, nI_add, nI_ltI, nI_leI, nI_eq, nI_clamp, up2_at, nltT, nltF, nleT, nleF, neqT, neqF, ↓reduceIte, true_or, or_true, false_or, or_false, or_self, true_and, and_true, false_and, and_false, and_self, not_true, not_false_eq_true, i10, i01, im0, im12, im21, m1lt, m2lt, m1le, m2le, i00, i0le0, i1le0, i2le0, i3le0, eq_self, h2]) | ((with_reducible refine ip ?_ ?_); · simp (disch := omega) only [ltL, Llt, leL, Lle, eqL, addL, Ladd, subL, subN, decN, eqM, Mle, mulL, nI_add, nI_ltI, nI_leI, nI_eq, nI_clamp, up2_at, nltT, nltF, nleT, nleF, neqT, neqF, ↓reduceIte, true_or, or_true, false_or, or_false, or_self, true_and, and_true, false_and, and_false, and_self, not_true, not_false_eq_true, i10, i01, im0, im12, im21, m1lt, m2lt, m1le, m2le, i00, i0le0, i1le0, i2le0, i3le0, eq_self, h2]))
    rewrite [f_X3_putOff_55]
    simp (disch := omega) only [ltL, Llt, leL, Lle, eqL, addL, Ladd, subL, subN, decN, eqM, Mle, mulL, nI_add, nI_ltI, nI_leI, nI_eq, nI_clamp, up2_at, nltT, nltF, nleT, nleF, neqT, neqF, ↓reduceIte, true_or, or_true, false_or, or_false, or_self, true_and, and_true, false_and, and_false, and_self, not_true, not_false_eq_true, i10, i01, im0, im12, im21, m1lt, m2lt, m1le, m2le, i00, i0le0, i1le0, i2le0, i3le0, eq_self, h2]
  rewrite [f_X3_pass, h3, nI_add1]
  repeat (first | with_reducible refine bnE ?_ | with_reducible refine exI ?_ | with_reducible refine exJ ?_ | with_reducible refine bs (this) ?_ | ((with_reducible refine iN ?_ ?_); · simp (disch := omega) only [ltL, Llt, leL, Lle, eqL, addL, Ladd, subL, subN, decN, eqM, Mle, mulL, nI_add, nI_ltI, nI_leI, nI_eq, nI_clamp, up2_at, nltT, nltF, nleT, nleF, neqT, neqF, ↓reduceIte, true_or, or_true, false_or, or_false, or_self, true_and, and_true, false_and, and_false, and_self, not_true, not_false_eq_true, i10, i01, im0, im12, im21, m1lt, m2lt, m1le, m2le, i00, i0le0, i1le0, i2le0, i3le0, eq_self]) | ((with_reducible refine ip ?_ ?_); · simp (disch := omega) only [ltL, Llt, leL, Lle, eqL, addL, Ladd, subL, subN, decN, eqM, Mle, mulL, nI_add, nI_ltI, nI_leI, nI_eq, nI_clamp, up2_at, nltT, nltF, nleT, nleF, neqT, neqF, ↓reduceIte, true_or, or_true, false_or, or_false, or_self, true_and, and_true, false_and, and_false, and_self, not_true, not_false_eq_true, i10, i01, im0, im12, im21, m1lt, m2lt, m1le, m2le, i00, i0le0, i1le0, i2le0, i3le0, eq_self]))
  rfl
theorem hgt_loop {N E : Nat} {t : St} (hE : E ≤ 30000) {r h a b : Nat} (T : Tm (t 0) r h a b) : ∀ k most f d c, k 3 0 = nI d → k 2 0 = nI c → c + 1 ≤ d → d ≤ 121 → most ≤ 120 → b ≤ E → E - a + 1 < f → (d + h - 1 ≤ 120 ∧ ∃ k', f_X1_heightOf_12 N f t k (nI E) (nI most) (nI a) = f_X1_heightOf_12 N (f - (b - a)) t k' (nI E) (nI (max most (d + h - 1))) (nI b) ∧ Pop k c k') ∨ (120 < d + h - 1 ∧ ∃ v k', f_X1_heightOf_12 N f t k (nI E) (nI most) (nI a) = some (nI v, (t, k')) ∧ 120 < v ∧ v < 200) := by
  have stepE : ∀ k most f d a v (k1 : St), k 3 0 = nI d → d ≤ 121 → most ≤ 120 → a < E → t 0 a = v → f_X3_pass N k v = some k1 → f_X1_heightOf_12 N (f + 1) t k (nI E) (nI most) (nI a) = f_X1_heightOf_12 N f t k1 (nI E) (nI (max most d)) (nI (a + 1)) := by
    intro k most f d a v k1 h3 hd hm ha hv hp
    have hdep : f_X3_depth N k = some (nI d, k) := by rw [f_X3_depth, h3]
    have hc := code_ok (N := N) (t := t) (k := k) (by omega : a < 30000)
    rw [hv] at hc
    rewrite [f_X1_heightOf_12]
    repeat (first | with_reducible refine bnE ?_ | with_reducible refine exI ?_ | with_reducible refine exJ ?_ | with_reducible refine bs (hdep) ?_ | with_reducible refine bs (hc) ?_ | with_reducible refine bs (hp) ?_ | ((with_reducible refine iN ?_ ?_); · simp (disch := omega) only [ltL, Llt, leL, Lle, eqL, addL, Ladd, subL, subN, decN, eqM, Mle, mulL, nI_add, nI_ltI, nI_leI, nI_eq, nI_clamp, up2_at, nltT, nltF, nleT, nleF, neqT, neqF, ↓reduceIte, true_or, or_true, false_or, or_false, or_self, true_and, and_true, false_and, and_false, and_self, not_true, not_false_eq_true, i10, i01, im0, im12, im21, m1lt, m2lt, m1le, m2le, i00, i0le0, i1le0, i2le0, i3le0, eq_self]) | ((with_reducible refine ip ?_ ?_); · simp (disch := omega) only [ltL, Llt, leL, Lle, eqL, addL, Ladd, subL, subN, decN, eqM, Mle, mulL, nI_add, nI_ltI, nI_leI, nI_eq, nI_clamp, up2_at, nltT, nltF, nleT, nleF, neqT, neqF, ↓reduceIte, true_or, or_true, false_or, or_false, or_self, true_and, and_true, false_and, and_false, and_self, not_true, not_false_eq_true, i10, i01, im0, im12, im21, m1lt, m2lt, m1le, m2le, i00, i0le0, i1le0, i2le0, i3le0, eq_self]))
    simp (disch := omega) only [ltL, Llt, leL, Lle, eqL, addL, Ladd, subL, subN, decN, eqM, Mle, mulL, nI_add, nI_ltI, nI_leI, nI_eq, nI_clamp, up2_at, nltT, nltF, nleT, nleF, neqT, neqF, ↓reduceIte, true_or, or_true, false_or, or_false, or_self, true_and, and_true, false_and, and_false, and_self, not_true, not_false_eq_true, i10, i01, im0, im12, im21, m1lt, m2lt, m1le, m2le, i00, i0le0, i1le0, i2le0, i3le0, eq_self, maxN]
  have over : ∀ k most f a, 120 < most → most < 200 → f_X1_heightOf_12 N (f + 1) t k (nI E) (nI most) (nI a) = some (nI most, (t, k)) := by
    intro k most f a h1 h2
    rewrite [f_X1_heightOf_12]
    by_cases e : nI E ≤ nI a
    · exact ip e rfl
    · refine iN e ?_
      repeat (first | with_reducible refine bnE ?_ | with_reducible refine exI ?_ | with_reducible refine exJ ?_ | ((with_reducible refine iN ?_ ?_); · simp (disch := omega) only [ltL, Llt, leL, Lle, eqL, addL, Ladd, subL, subN, decN, eqM, Mle, mulL, nI_add, nI_ltI, nI_leI, nI_eq, nI_clamp, up2_at, nltT, nltF, nleT, nleF, neqT, neqF, ↓reduceIte, true_or, or_true, false_or, or_false, or_self, true_and, and_true, false_and, and_false, and_self, not_true, not_false_eq_true, i10, i01, im0, im12, im21, m1lt, m2lt, m1le, m2le, i00, i0le0, i1le0, i2le0, i3le0, eq_self]) | ((with_reducible refine ip ?_ ?_); · simp (disch := omega) only [ltL, Llt, leL, Lle, eqL, addL, Ladd, subL, subN, decN, eqM, Mle, mulL, nI_add, nI_ltI, nI_leI, nI_eq, nI_clamp, up2_at, nltT, nltF, nleT, nleF, neqT, neqF, ↓reduceIte, true_or, or_true, false_or, or_false, or_self, true_and, and_true, false_and, and_false, and_self, not_true, not_false_eq_true, i10, i01, im0, im12, im21, m1lt, m2lt, m1le, m2le, i00, i0le0, i1le0, i2le0, i3le0, eq_self]))
      rfl
  refine Tm.ind (c := t 0) (P := fun r h a b => ∀ k most f d c, k 3 0 = nI d → k 2 0 = nI c → c + 1 ≤ d → d ≤ 121 → most ≤ 120 → b ≤ E → E - a + 1 < f → (d + h - 1 ≤ 120 ∧ ∃ k', f_X1_heightOf_12 N f t k (nI E) (nI most) (nI a) = f_X1_heightOf_12 N (f - (b - a)) t k' (nI E) (nI (max most (d + h - 1))) (nI b) ∧ Pop k c k') ∨ (120 < d + h - 1 ∧ ∃ v k', f_X1_heightOf_12 N f t k (nI E) (nI most) (nI a) = some (nI v, (t, k')) ∧ 120 < v ∧ v < 200)) ?_ ?_ ?_ T
  · intro r a o k most f d c h3 h2 hc hd hm hb hf
    obtain ⟨f, rfl⟩ : ∃ z, f = z + 1 + 1 := ⟨f - 2, by omega⟩
    obtain ⟨k', p1, p2⟩ := pass_leaf (N := N) (v := t 0 a) o.ne1 o.ne2 h2 (by omega)
    have st := stepE k most (f + 1) d a _ k' h3 hd hm (by omega) rfl p1
    by_cases hd' : d ≤ 120
    · refine Or.inl ⟨by omega, k', ?_, p2⟩
      have e1 : f + 1 + 1 - (a + 1 - a) = f + 1 := by omega
      have e2 : d + 1 - 1 = d := by omega
      rw [e1, e2]; exact st
    · exact Or.inr ⟨by omega, max most d, k', st.trans (over _ _ _ _ (by omega) (by omega)), by omega, by omega⟩
  · intro r h a b e T ih k most f d c h3 h2 hc hd hm hb hf
    have hl := T.lt
    obtain ⟨f, rfl⟩ : ∃ z, f = z + 1 + 1 := ⟨f - 2, by omega⟩
    obtain ⟨k1, p1, p2, p3, p4⟩ := pass_abs (N := N) h3
    have st := stepE k most (f + 1) d a _ k1 h3 hd hm (by omega) e p1
    by_cases hd' : d ≤ 120
    · rcases ih k1 (max most d) (f + 1) (d + 1) c p2 (by rw [p3]; exact h2) (by omega) (by omega) (by omega) hb (by omega) with ⟨g1, k', g2, g3⟩ | ⟨g1, v, k', g2, g3⟩
      · refine Or.inl ⟨by omega, k', ?_, ?_⟩
        · have e1 : f + 1 + 1 - (b - a) = f + 1 - (b - (a + 1)) := by omega
          have e2 : max most (d + (h + 1) - 1) = max (max most d) (d + 1 + h - 1) := by omega
          rw [e1, e2]; exact st.trans g2
        · intro q; rw [← p4]; exact g3 q
      · exact Or.inr ⟨by omega, v, k', st.trans g2, g3⟩
    · exact Or.inr ⟨by omega, max most d, k1, st.trans (over _ _ _ _ (by omega) (by omega)), by omega, by omega⟩
  · intro r h1 h2 a m b e T1 T2 i1 i2 k most f d c h3 hk2 hc hd hm hb hf
    have hl1 := T1.lt
    have hl2 := T2.lt
    obtain ⟨f, rfl⟩ : ∃ z, f = z + 1 + 1 := ⟨f - 2, by omega⟩
    obtain ⟨k1, p1, p2, p3, p4, p5⟩ := pass_app (N := N) h3 hk2 (by omega)
    have st := stepE k most (f + 1) d a _ k1 h3 hd hm (by omega) e p1
    by_cases hd' : d ≤ 120
    · rcases i1 k1 (max most d) (f + 1) (d + 1) (c + 1) p2 p3 (by omega) (by omega) (by omega) (by omega) (by omega) with ⟨g1, k2, g2, g3⟩ | ⟨g1, v, k', g2, g3⟩
      · obtain ⟨w1, w2, w3⟩ := g3 (by omega)
        rw [Nat.add_sub_cancel] at w1 w2 w3
        rcases i2 k2 (max (max most d) (d + 1 + h1 - 1)) (f + 1 - (m - (a + 1))) (d + 1) c (by rw [w1]; exact p4) w2 (by omega) (by omega) (by omega) hb (by omega) with ⟨g4, k', g5, g6⟩ | ⟨g4, v, k', g5, g6⟩
        · refine Or.inl ⟨by omega, k', ?_, ?_⟩
          · have e1 : f + 1 + 1 - (b - a) = f + 1 - (m - (a + 1)) - (b - m) := by omega
            have e2 : max most (d + (1 + max h1 h2) - 1) = max (max (max most d) (d + 1 + h1 - 1)) (d + 1 + h2 - 1) := by omega
            rw [e1, e2]; exact (st.trans g2).trans g5
          · intro q
            obtain ⟨u1, u2, u3⟩ := g6 q
            refine ⟨?_, u2, fun j hj => ?_⟩
            · rw [u1, w3 _ (by omega), p5 _ (by omega)]
            · rw [u3 j hj, w3 _ (by omega), p5 _ (by omega)]
        · exact Or.inr ⟨by omega, v, k', (st.trans g2).trans g5, g6⟩
      · exact Or.inr ⟨by omega, v, k', st.trans g2, g3⟩
    · exact Or.inr ⟨by omega, max most d, k1, st.trans (over _ _ _ _ (by omega) (by omega)), by omega, by omega⟩
/-- the class's height of a term -/
theorem heightC_ok {N : Nat} {t k : St} {r h a b : Nat} (T : Tm (t 0) r h a b) (hb : b ≤ 30000) (hN : 34100 < N) : ∃ v k', f_X1_heightOf N t k (nI a) (nI b) = some (nI v, (t, k')) ∧ v < 200 ∧ ((h ≤ 120 ∧ v = h) ∨ (120 < h ∧ 120 < v)) := by
  have hl := T.lt
  have hbeg : f_X3_begin N k = some (up2 (up2 (up2 (up2 k 2 0 0) 3 0 1) 4 0 0) 5 0 0) := by
    rewrite [f_X3_begin]; rfl
  have z3 : (up2 (up2 (up2 (up2 k 2 0 0) 3 0 1) 4 0 0) 5 0 0) 3 0 = nI 1 := by simp (disch := omega) only [ltL, Llt, leL, Lle, eqL, addL, Ladd, subL, subN, decN, eqM, Mle, mulL, nI_add, nI_ltI, nI_leI, nI_eq, nI_clamp, up2_at, nltT, nltF, nleT, nleF, neqT, neqF, ↓reduceIte, true_or, or_true, false_or, or_false, or_self, true_and, and_true, false_and, and_false, and_self, not_true, not_false_eq_true, i10, i01, im0, im12, im21, m1lt, m2lt, m1le, m2le, i00, i0le0, i1le0, i2le0, i3le0, eq_self, ]; rfl
  have z2 : (up2 (up2 (up2 (up2 k 2 0 0) 3 0 1) 4 0 0) 5 0 0) 2 0 = nI 0 := by simp (disch := omega) only [ltL, Llt, leL, Lle, eqL, addL, Ladd, subL, subN, decN, eqM, Mle, mulL, nI_add, nI_ltI, nI_leI, nI_eq, nI_clamp, up2_at, nltT, nltF, nleT, nleF, neqT, neqF, ↓reduceIte, true_or, or_true, false_or, or_false, or_self, true_and, and_true, false_and, and_false, and_self, not_true, not_false_eq_true, i10, i01, im0, im12, im21, m1lt, m2lt, m1le, m2le, i00, i0le0, i1le0, i2le0, i3le0, eq_self, ]; rfl
  rcases hgt_loop (N := N) hb T _ 0 N 1 0 z3 z2 (by omega) (by omega) (by omega) (Nat.le_refl _) (by omega) with ⟨g1, k', g2, -⟩ | ⟨g1, v, k', g2, g3⟩
  · obtain ⟨f, hf⟩ : ∃ z, N - (b - a) = z + 1 := ⟨N - (b - a) - 1, by omega⟩
    refine ⟨h, k', ?_, by omega, Or.inl ⟨by omega, rfl⟩⟩
    rewrite [f_X1_heightOf]
    refine bs hbeg ?_
    refine Eq.trans g2 ?_
    rewrite [hf, f_X1_heightOf_12]
    repeat (first | with_reducible refine bnE ?_ | with_reducible refine exI ?_ | with_reducible refine exJ ?_ | ((with_reducible refine iN ?_ ?_); · simp (disch := omega) only [ltL, Llt, leL, Lle, eqL, addL, Ladd, subL, subN, decN, eqM, Mle, mulL, nI_add, nI_ltI, nI_leI, nI_eq, nI_clamp, up2_at, nltT, nltF, nleT, nleF, neqT, neqF, ↓reduceIte, true_or, or_true, false_or, or_false, or_self, true_and, and_true, false_and, and_false, and_self, not_true, not_false_eq_true, i10, i01, im0, im12, im21, m1lt, m2lt, m1le, m2le, i00, i0le0, i1le0, i2le0, i3le0, eq_self]) | ((with_reducible refine ip ?_ ?_); · simp (disch := omega) only [ltL, Llt, leL, Lle, eqL, addL, Ladd, subL, subN, decN, eqM, Mle, mulL, nI_add, nI_ltI, nI_leI, nI_eq, nI_clamp, up2_at, nltT, nltF, nleT, nleF, neqT, neqF, ↓reduceIte, true_or, or_true, false_or, or_false, or_self, true_and, and_true, false_and, and_false, and_self, not_true, not_false_eq_true, i10, i01, im0, im12, im21, m1lt, m2lt, m1le, m2le, i00, i0le0, i1le0, i2le0, i3le0, eq_self]))
    have : max 0 (1 + h - 1) = h := by omega
    rewrite [this]
    rfl
  · refine ⟨v, k', ?_, g3.2, Or.inr ⟨by omega, g3.1⟩⟩
    rewrite [f_X1_heightOf]
    refine bs hbeg ?_
    exact g2
/-- the reference's -/
theorem popM_loop {N c at' : Nat} {σ : St} {k14 : St → Int32 → Int32 → Int32 → Int32 → Option (Int32 × St)} {x2 x4 : Int32} (ha : at' < 2 ^ 31) (htop : ∀ z, c = z + 1 → ∃ u, σ 24 z = nI u ∧ at' < u ∧ u < 2 ^ 31) : ∀ M f, c ≤ M → M ≤ 121 → M - c < f → (∀ j, c ≤ j → j < M → ∃ u, σ 24 j = nI u ∧ u ≤ at') → f_X5_heightOf_20 N k14 f σ x2 (nI M) x4 (nI at') = f_X5_heightOf_43 N k14 σ x2 (nI c) x4 (nI at') := by
  intro M
  induction M with
  | zero =>
    intro f h1 h2 h3 h4
    obtain ⟨f, rfl⟩ : ∃ z, f = z + 1 := ⟨f - 1, by omega⟩
    have : c = 0 := by omega
    subst this
    rewrite [f_X5_heightOf_20]
    repeat (first | with_reducible refine bnE ?_ | with_reducible refine exI ?_ | with_reducible refine exJ ?_ | ((with_reducible refine iN ?_ ?_); · simp (disch := omega) only [ltL, Llt, leL, Lle, eqL, addL, Ladd, subL, subN, decN, eqM, Mle, mulL, nI_add, nI_ltI, nI_leI, nI_eq, nI_clamp, up2_at, nltT, nltF, nleT, nleF, neqT, neqF, ↓reduceIte, true_or, or_true, false_or, or_false, or_self, true_and, and_true, false_and, and_false, and_self, not_true, not_false_eq_true, i10, i01, im0, im12, im21, m1lt, m2lt, m1le, m2le, i00, i0le0, i1le0, i2le0, i3le0, eq_self]) | ((with_reducible refine ip ?_ ?_); · simp (disch := omega) only [ltL, Llt, leL, Lle, eqL, addL, Ladd, subL, subN, decN, eqM, Mle, mulL, nI_add, nI_ltI, nI_leI, nI_eq, nI_clamp, up2_at, nltT, nltF, nleT, nleF, neqT, neqF, ↓reduceIte, true_or, or_true, false_or, or_false, or_self, true_and, and_true, false_and, and_false, and_self, not_true, not_false_eq_true, i10, i01, im0, im12, im21, m1lt, m2lt, m1le, m2le, i00, i0le0, i1le0, i2le0, i3le0, eq_self]))
    rfl
  | succ M ih =>
    intro f h1 h2 h3 h4
    obtain ⟨f, rfl⟩ : ∃ z, f = z + 1 := ⟨f - 1, by omega⟩
    by_cases e : c = M + 1
    · subst e
      obtain ⟨u, e1, e2, e3⟩ := htop M rfl
      rewrite [f_X5_heightOf_20]
      repeat (first | with_reducible refine bnE ?_ | with_reducible refine exI ?_ | with_reducible refine exJ ?_ | ((with_reducible refine iN ?_ ?_); · simp (disch := omega) only [ltL, Llt, leL, Lle, eqL, addL, Ladd, subL, subN, decN, eqM, Mle, mulL, nI_add, nI_ltI, nI_leI, nI_eq, nI_clamp, up2_at, nltT, nltF, nleT, nleF, neqT, neqF, ↓reduceIte, true_or, or_true, false_or, or_false, or_self, true_and, and_true, false_and, and_false, and_self, not_true, not_false_eq_true, i10, i01, im0, im12, im21, m1lt, m2lt, m1le, m2le, i00, i0le0, i1le0, i2le0, i3le0, eq_self, Nat.add_sub_cancel, e1]) | ((with_reducible refine ip ?_ ?_); · simp (disch := omega) only [ltL, Llt, leL, Lle, eqL, addL, Ladd, subL, subN, decN, eqM, Mle, mulL, nI_add, nI_ltI, nI_leI, nI_eq, nI_clamp, up2_at, nltT, nltF, nleT, nleF, neqT, neqF, ↓reduceIte, true_or, or_true, false_or, or_false, or_self, true_and, and_true, false_and, and_false, and_self, not_true, not_false_eq_true, i10, i01, im0, im12, im21, m1lt, m2lt, m1le, m2le, i00, i0le0, i1le0, i2le0, i3le0, eq_self, Nat.add_sub_cancel, e1]))
      rfl
    · obtain ⟨u, e1, e2⟩ := h4 M (by omega) (by omega)
      rewrite [f_X5_heightOf_20]
      repeat (first | with_reducible refine bnE ?_ | with_reducible refine exI ?_ | with_reducible refine exJ ?_ | ((with_reducible refine iN ?_ ?_); · simp (disch := omega) only [ltL, Llt, leL, Lle, eqL, addL, Ladd, subL, subN, decN, eqM, Mle, mulL, nI_add, nI_ltI, nI_leI, nI_eq, nI_clamp, up2_at, nltT, nltF, nleT, nleF, neqT, neqF, ↓reduceIte, true_or, or_true, false_or, or_false, or_self, true_and, and_true, false_and, and_false, and_self, not_true, not_false_eq_true, i10, i01, im0, im12, im21, m1lt, m2lt, m1le, m2le, i00, i0le0, i1le0, i2le0, i3le0, eq_self, Nat.add_sub_cancel, e1]) | ((with_reducible refine ip ?_ ?_); · simp (disch := omega) only [ltL, Llt, leL, Lle, eqL, addL, Ladd, subL, subN, decN, eqM, Mle, mulL, nI_add, nI_ltI, nI_leI, nI_eq, nI_clamp, up2_at, nltT, nltF, nleT, nleF, neqT, neqF, ↓reduceIte, true_or, or_true, false_or, or_false, or_self, true_and, and_true, false_and, and_false, and_self, not_true, not_false_eq_true, i10, i01, im0, im12, im21, m1lt, m2lt, m1le, m2le, i00, i0le0, i1le0, i2le0, i3le0, eq_self, Nat.add_sub_cancel, e1]))
      simp (disch := omega) only [ltL, Llt, leL, Lle, eqL, addL, Ladd, subL, subN, decN, eqM, Mle, mulL, nI_add, nI_ltI, nI_leI, nI_eq, nI_clamp, up2_at, nltT, nltF, nleT, nleF, neqT, neqF, ↓reduceIte, true_or, or_true, false_or, or_false, or_self, true_and, and_true, false_and, and_false, and_self, not_true, not_false_eq_true, i10, i01, im0, im12, im21, m1lt, m2lt, m1le, m2le, i00, i0le0, i1le0, i2le0, i3le0, eq_self, Nat.add_sub_cancel]
      exact ih f (by omega) (by omega) (by omega) (fun j a1 a2 => h4 j a1 (by omega))
theorem Okl.nn {r : Nat} {c : Int32} (h : Okl r c) : 0 ≤ c := by
  obtain ⟨v, hv, rfl, -⟩ := h
  exact nI_pos' (by omega)
theorem max43 {N c most : Nat} {σ : St} {k14 : St → Int32 → Int32 → Int32 → Int32 → Option (Int32 × St)} {x2 x5 : Int32} (hc : c ≤ 121) (hm : most < 2 ^ 30) : f_X5_heightOf_43 N k14 σ x2 (nI c) (nI most) x5 = f_X5_heightOf_59 N k14 σ x2 (nI c) x5 (nI (max most (c + 1))) := by
  rewrite [f_X5_heightOf_43]
  by_cases h : c + 1 ≤ most
  · repeat (first | with_reducible refine bnE ?_ | with_reducible refine exI ?_ | with_reducible refine exJ ?_ | ((with_reducible refine iN ?_ ?_); · simp (disch := omega) only [ltL, Llt, leL, Lle, eqL, addL, Ladd, subL, subN, decN, eqM, Mle, mulL, nI_add, nI_ltI, nI_leI, nI_eq, nI_clamp, up2_at, nltT, nltF, nleT, nleF, neqT, neqF, ↓reduceIte, true_or, or_true, false_or, or_false, or_self, true_and, and_true, false_and, and_false, and_self, not_true, not_false_eq_true, i10, i01, im0, im12, im21, m1lt, m2lt, m1le, m2le, i00, i0le0, i1le0, i2le0, i3le0, eq_self]) | ((with_reducible refine ip ?_ ?_); · simp (disch := omega) only [ltL, Llt, leL, Lle, eqL, addL, Ladd, subL, subN, decN, eqM, Mle, mulL, nI_add, nI_ltI, nI_leI, nI_eq, nI_clamp, up2_at, nltT, nltF, nleT, nleF, neqT, neqF, ↓reduceIte, true_or, or_true, false_or, or_false, or_self, true_and, and_true, false_and, and_false, and_self, not_true, not_false_eq_true, i10, i01, im0, im12, im21, m1lt, m2lt, m1le, m2le, i00, i0le0, i1le0, i2le0, i3le0, eq_self]))
    rw [Nat.max_eq_left h]
  · repeat (first | with_reducible refine bnE ?_ | with_reducible refine exI ?_ | with_reducible refine exJ ?_ | ((with_reducible refine iN ?_ ?_); · simp (disch := omega) only [ltL, Llt, leL, Lle, eqL, addL, Ladd, subL, subN, decN, eqM, Mle, mulL, nI_add, nI_ltI, nI_leI, nI_eq, nI_clamp, up2_at, nltT, nltF, nleT, nleF, neqT, neqF, ↓reduceIte, true_or, or_true, false_or, or_false, or_self, true_and, and_true, false_and, and_false, and_self, not_true, not_false_eq_true, i10, i01, im0, im12, im21, m1lt, m2lt, m1le, m2le, i00, i0le0, i1le0, i2le0, i3le0, eq_self]) | ((with_reducible refine ip ?_ ?_); · simp (disch := omega) only [ltL, Llt, leL, Lle, eqL, addL, Ladd, subL, subN, decN, eqM, Mle, mulL, nI_add, nI_ltI, nI_leI, nI_eq, nI_clamp, up2_at, nltT, nltF, nleT, nleF, neqT, neqF, ↓reduceIte, true_or, or_true, false_or, or_false, or_self, true_and, and_true, false_and, and_false, and_self, not_true, not_false_eq_true, i10, i01, im0, im12, im21, m1lt, m2lt, m1le, m2le, i00, i0le0, i1le0, i2le0, i3le0, eq_self]))
    rw [Nat.max_eq_right (by omega)]
    simp (disch := omega) only [ltL, Llt, leL, Lle, eqL, addL, Ladd, subL, subN, decN, eqM, Mle, mulL, nI_add, nI_ltI, nI_leI, nI_eq, nI_clamp, up2_at, nltT, nltF, nleT, nleF, neqT, neqF, ↓reduceIte, true_or, or_true, false_or, or_false, or_self, true_and, and_true, false_and, and_false, and_self, not_true, not_false_eq_true, i10, i01, im0, im12, im21, m1lt, m2lt, m1le, m2le, i00, i0le0, i1le0, i2le0, i3le0, eq_self, ]
theorem hgtM_loop {N E : Nat} {σ0 : St} (hN : 34100 < N) (hE : E ≤ 34100) {r h a b : Nat} (T : Tm (σ0 20) r h a b) : ∀ (σ : St) M c f most, σ 20 = σ0 20 → c ≤ M → M ≤ 121 → (∀ z, c = z + 1 → ∃ u, σ 24 z = nI u ∧ b ≤ u ∧ u < 2 ^ 31) → (∀ j, c ≤ j → j < M → ∃ u, σ 24 j = nI u ∧ u ≤ a) → b ≤ E → E - a < f → most < 2 ^ 30 → ∃ (σ' : St) (M' : Nat), f_X5_heightOf_14 N f σ (nI E) (nI M) (nI most) (nI a) = f_X5_heightOf_14 N (f - (b - a)) σ' (nI E) (nI M') (nI (max most (min (c + h) 122))) (nI b) ∧ c ≤ M' ∧ M' ≤ 121 ∧ (∀ r, r ≠ 24 → σ' r = σ r) ∧ (∀ j, j < c → σ' 24 j = σ 24 j) ∧ ∀ j, c ≤ j → j < M' → ∃ u, σ' 24 j = nI u ∧ u ≤ b := by
  have step : ∀ (σ : St) M c f most a b, a < b → b ≤ E → c ≤ M → M ≤ 121 → (∀ z, c = z + 1 → ∃ u, σ 24 z = nI u ∧ b ≤ u ∧ u < 2 ^ 31) → (∀ j, c ≤ j → j < M → ∃ u, σ 24 j = nI u ∧ u ≤ a) → most < 2 ^ 30 → f_X5_heightOf_14 N (f + 1) σ (nI E) (nI M) (nI most) (nI a) = f_X5_heightOf_59 N (f_X5_heightOf_14 N f) σ (nI E) (nI c) (nI a) (nI (max most (c + 1))) := by
    intro σ M c f most a b hab hb hc hM htop hst hm
    rewrite [f_X5_heightOf_14]
    repeat (first | with_reducible refine bnE ?_ | with_reducible refine exI ?_ | with_reducible refine exJ ?_ | ((with_reducible refine iN ?_ ?_); · simp (disch := omega) only [ltL, Llt, leL, Lle, eqL, addL, Ladd, subL, subN, decN, eqM, Mle, mulL, nI_add, nI_ltI, nI_leI, nI_eq, nI_clamp, up2_at, nltT, nltF, nleT, nleF, neqT, neqF, ↓reduceIte, true_or, or_true, false_or, or_false, or_self, true_and, and_true, false_and, and_false, and_self, not_true, not_false_eq_true, i10, i01, im0, im12, im21, m1lt, m2lt, m1le, m2le, i00, i0le0, i1le0, i2le0, i3le0, eq_self]) | ((with_reducible refine ip ?_ ?_); · simp (disch := omega) only [ltL, Llt, leL, Lle, eqL, addL, Ladd, subL, subN, decN, eqM, Mle, mulL, nI_add, nI_ltI, nI_leI, nI_eq, nI_clamp, up2_at, nltT, nltF, nleT, nleF, neqT, neqF, ↓reduceIte, true_or, or_true, false_or, or_false, or_self, true_and, and_true, false_and, and_false, and_self, not_true, not_false_eq_true, i10, i01, im0, im12, im21, m1lt, m2lt, m1le, m2le, i00, i0le0, i1le0, i2le0, i3le0, eq_self]))
    rewrite [popM_loop (c := c) (by omega) (fun z q => by obtain ⟨u, e1, e2, e3⟩ := htop z q; exact ⟨u, e1, by omega, e3⟩) M N hc hM (by omega) hst]
    exact max43 (by omega) hm
  -- an inner node, and how its parts are met
  have inner : ∀ (σ : St) c f most r h a b, σ 20 = σ0 20 → Tm (σ0 20) r h a b → (σ0 20 a = -1 ∨ σ0 20 a = -2) → b ≤ E → c ≤ 121 → ∃ (σ' : St) (c' : Nat), f_X5_heightOf_59 N (f_X5_heightOf_14 N f) σ (nI E) (nI c) (nI a) (nI most) = f_X5_heightOf_14 N f σ' (nI E) (nI c') (nI most) (nI (a + 1)) ∧ (∀ r, r ≠ 24 → σ' r = σ r) ∧ ((c = 121 ∧ c' = 121 ∧ σ' = σ) ∨ (c < 121 ∧ c' = c + 1 ∧ σ' 24 c = nI b ∧ ∀ j, j < c → σ' 24 j = σ 24 j)) := by
    intro σ c f most r h a b h20 T hcode hb hc
    have hl := T.lt
    have hneg : ¬ (0 ≤ σ 20 a) := by
      rw [h20]
      rcases hcode with e | e <;> (rw [e]; decide)
    by_cases e : c = 121
    · subst e
      refine ⟨σ, 121, ?_, fun _ _ => rfl, Or.inl ⟨rfl, rfl, rfl⟩⟩
      rewrite [f_X5_heightOf_59]
      repeat (first | with_reducible refine bnE ?_ | with_reducible refine exI ?_ | with_reducible refine exJ ?_ | ((with_reducible refine iN ?_ ?_); · simp (disch := omega) only [ltL, Llt, leL, Lle, eqL, addL, Ladd, subL, subN, decN, eqM, Mle, mulL, nI_add, nI_ltI, nI_leI, nI_eq, nI_clamp, up2_at, nltT, nltF, nleT, nleF, neqT, neqF, ↓reduceIte, true_or, or_true, false_or, or_false, or_self, true_and, and_true, false_and, and_false, and_self, not_true, not_false_eq_true, i10, i01, im0, im12, im21, m1lt, m2lt, m1le, m2le, i00, i0le0, i1le0, i2le0, i3le0, eq_self, hneg]) | ((with_reducible refine ip ?_ ?_); · simp (disch := omega) only [ltL, Llt, leL, Lle, eqL, addL, Ladd, subL, subN, decN, eqM, Mle, mulL, nI_add, nI_ltI, nI_leI, nI_eq, nI_clamp, up2_at, nltT, nltF, nleT, nleF, neqT, neqF, ↓reduceIte, true_or, or_true, false_or, or_false, or_self, true_and, and_true, false_and, and_false, and_self, not_true, not_false_eq_true, i10, i01, im0, im12, im21, m1lt, m2lt, m1le, m2le, i00, i0le0, i1le0, i2le0, i3le0, eq_self, hneg]))
      rewrite [f_X5_heightOf_95]
      simp (disch := omega) only [ltL, Llt, leL, Lle, eqL, addL, Ladd, subL, subN, decN, eqM, Mle, mulL, nI_add, nI_ltI, nI_leI, nI_eq, nI_clamp, up2_at, nltT, nltF, nleT, nleF, neqT, neqF, ↓reduceIte, true_or, or_true, false_or, or_false, or_self, true_and, and_true, false_and, and_false, and_self, not_true, not_false_eq_true, i10, i01, im0, im12, im21, m1lt, m2lt, m1le, m2le, i00, i0le0, i1le0, i2le0, i3le0, eq_self, ]
    · have hend := endOf_ok (N := N) (σ := σ) (a := a) (b := b) (by rw [h20]; exact T) (by omega) hN
      refine ⟨up2 σ 24 c (nI b), c + 1, ?_, fun r hr => up2_row hr, Or.inr ⟨by omega, rfl, by simp (disch := omega) only [ltL, Llt, leL, Lle, eqL, addL, Ladd, subL, subN, decN, eqM, Mle, mulL, nI_add, nI_ltI, nI_leI, nI_eq, nI_clamp, up2_at, nltT, nltF, nleT, nleF, neqT, neqF, ↓reduceIte, true_or, or_true, false_or, or_false, or_self, true_and, and_true, false_and, and_false, and_self, not_true, not_false_eq_true, i10, i01, im0, im12, im21, m1lt, m2lt, m1le, m2le, i00, i0le0, i1le0, i2le0, i3le0, eq_self, ], fun j hj => by simp (disch := omega) only [ltL, Llt, leL, Lle, eqL, addL, Ladd, subL, subN, decN, eqM, Mle, mulL, nI_add, nI_ltI, nI_leI, nI_eq, nI_clamp, up2_at, nltT, nltF, nleT, nleF, neqT, neqF, ↓reduceIte, true_or, or_true, false_or, or_false, or_self, true_and, and_true, false_and, and_false, and_self, not_true, not_false_eq_true, i10, i01, im0, im12, im21, m1lt, m2lt, m1le, m2le, i00, i0le0, i1le0, i2le0, i3le0, eq_self, ]⟩⟩
      rewrite [f_X5_heightOf_59]
      repeat (first | with_reducible refine bnE ?_ | with_reducible refine exI ?_ | with_reducible refine exJ ?_ | with_reducible refine bs (hend) ?_ | ((with_reducible refine iN ?_ ?_); · simp (disch := omega) only [ltL, Llt, leL, Lle, eqL, addL, Ladd, subL, subN, decN, eqM, Mle, mulL, nI_add, nI_ltI, nI_leI, nI_eq, nI_clamp, up2_at, nltT, nltF, nleT, nleF, neqT, neqF, ↓reduceIte, true_or, or_true, false_or, or_false, or_self, true_and, and_true, false_and, and_false, and_self, not_true, not_false_eq_true, i10, i01, im0, im12, im21, m1lt, m2lt, m1le, m2le, i00, i0le0, i1le0, i2le0, i3le0, eq_self, hneg]) | ((with_reducible refine ip ?_ ?_); · simp (disch := omega) only [ltL, Llt, leL, Lle, eqL, addL, Ladd, subL, subN, decN, eqM, Mle, mulL, nI_add, nI_ltI, nI_leI, nI_eq, nI_clamp, up2_at, nltT, nltF, nleT, nleF, neqT, neqF, ↓reduceIte, true_or, or_true, false_or, or_false, or_self, true_and, and_true, false_and, and_false, and_self, not_true, not_false_eq_true, i10, i01, im0, im12, im21, m1lt, m2lt, m1le, m2le, i00, i0le0, i1le0, i2le0, i3le0, eq_self, hneg]))
      rewrite [f_X5_heightOf_95]
      simp (disch := omega) only [ltL, Llt, leL, Lle, eqL, addL, Ladd, subL, subN, decN, eqM, Mle, mulL, nI_add, nI_ltI, nI_leI, nI_eq, nI_clamp, up2_at, nltT, nltF, nleT, nleF, neqT, neqF, ↓reduceIte, true_or, or_true, false_or, or_false, or_self, true_and, and_true, false_and, and_false, and_self, not_true, not_false_eq_true, i10, i01, im0, im12, im21, m1lt, m2lt, m1le, m2le, i00, i0le0, i1le0, i2le0, i3le0, eq_self, ]
  refine Tm.ind (c := σ0 20) (P := fun r h a b => ∀ (σ : St) M c f most, σ 20 = σ0 20 → c ≤ M → M ≤ 121 → (∀ z, c = z + 1 → ∃ u, σ 24 z = nI u ∧ b ≤ u ∧ u < 2 ^ 31) → (∀ j, c ≤ j → j < M → ∃ u, σ 24 j = nI u ∧ u ≤ a) → b ≤ E → E - a < f → most < 2 ^ 30 → ∃ (σ' : St) (M' : Nat), f_X5_heightOf_14 N f σ (nI E) (nI M) (nI most) (nI a) = f_X5_heightOf_14 N (f - (b - a)) σ' (nI E) (nI M') (nI (max most (min (c + h) 122))) (nI b) ∧ c ≤ M' ∧ M' ≤ 121 ∧ (∀ r, r ≠ 24 → σ' r = σ r) ∧ (∀ j, j < c → σ' 24 j = σ 24 j) ∧ ∀ j, c ≤ j → j < M' → ∃ u, σ' 24 j = nI u ∧ u ≤ b) ?_ ?_ ?_ T
  · intro r a o σ M c f most h20 hc hM htop hst hb hf hm
    obtain ⟨f, rfl⟩ : ∃ z, f = z + 1 := ⟨f - 1, by omega⟩
    refine ⟨σ, c, ?_, Nat.le_refl _, by omega, fun _ _ => rfl, fun _ _ => rfl, fun j a1 a2 => absurd a1 (by omega)⟩
    rewrite [step σ M c f most a (a + 1) (by omega) hb hc hM htop hst hm]
    have hp : 0 ≤ σ 20 a := by rw [h20]; exact o.nn
    rewrite [f_X5_heightOf_59]
    repeat (first | with_reducible refine bnE ?_ | with_reducible refine exI ?_ | with_reducible refine exJ ?_ | ((with_reducible refine iN ?_ ?_); · simp (disch := omega) only [ltL, Llt, leL, Lle, eqL, addL, Ladd, subL, subN, decN, eqM, Mle, mulL, nI_add, nI_ltI, nI_leI, nI_eq, nI_clamp, up2_at, nltT, nltF, nleT, nleF, neqT, neqF, ↓reduceIte, true_or, or_true, false_or, or_false, or_self, true_and, and_true, false_and, and_false, and_self, not_true, not_false_eq_true, i10, i01, im0, im12, im21, m1lt, m2lt, m1le, m2le, i00, i0le0, i1le0, i2le0, i3le0, eq_self, hp]) | ((with_reducible refine ip ?_ ?_); · simp (disch := omega) only [ltL, Llt, leL, Lle, eqL, addL, Ladd, subL, subN, decN, eqM, Mle, mulL, nI_add, nI_ltI, nI_leI, nI_eq, nI_clamp, up2_at, nltT, nltF, nleT, nleF, neqT, neqF, ↓reduceIte, true_or, or_true, false_or, or_false, or_self, true_and, and_true, false_and, and_false, and_self, not_true, not_false_eq_true, i10, i01, im0, im12, im21, m1lt, m2lt, m1le, m2le, i00, i0le0, i1le0, i2le0, i3le0, eq_self, hp]))
    rewrite [f_X5_heightOf_95]
    have e1 : f + 1 - (a + 1 - a) = f := by omega
    have e2 : max most (c + 1) = max most (min (c + 1) 122) := by omega
    rewrite [e1, ← e2]
    simp (disch := omega) only [ltL, Llt, leL, Lle, eqL, addL, Ladd, subL, subN, decN, eqM, Mle, mulL, nI_add, nI_ltI, nI_leI, nI_eq, nI_clamp, up2_at, nltT, nltF, nleT, nleF, neqT, neqF, ↓reduceIte, true_or, or_true, false_or, or_false, or_self, true_and, and_true, false_and, and_false, and_self, not_true, not_false_eq_true, i10, i01, im0, im12, im21, m1lt, m2lt, m1le, m2le, i00, i0le0, i1le0, i2le0, i3le0, eq_self, ]
  · intro r h a b e T ih σ M c f most h20 hc hM htop hst hb hf hm
    have hl := T.lt
    obtain ⟨f, rfl⟩ : ∃ z, f = z + 1 := ⟨f - 1, by omega⟩
    obtain ⟨σ1, c1, q1, q2, q3⟩ := inner σ c f (max most (c + 1)) r (h + 1) a b h20 (Tm.abs e T) (Or.inr e) hb (by omega)
    have st := (step σ M c f most a b (by omega) hb hc hM htop hst hm).trans q1
    have h20' : σ1 20 = σ0 20 := by rw [q2 20 (by decide)]; exact h20
    rcases q3 with ⟨rfl, rfl, rfl⟩ | ⟨q3, rfl, q4, q5⟩
    · obtain ⟨σ2, M2, g1, g2, g3, g4, g5, g6⟩ := ih σ1 121 121 f (max most (121 + 1)) h20' (Nat.le_refl _) (Nat.le_refl _) htop (fun j a1 a2 => absurd a1 (by omega)) hb (by omega) (by omega)
      refine ⟨σ2, M2, ?_, g2, g3, g4, g5, g6⟩
      have e1 : f + 1 - (b - a) = f - (b - (a + 1)) := by omega
      have e2 : max most (min (121 + (h + 1)) 122) = max (max most (121 + 1)) (min (121 + h) 122) := by omega
      rw [e1, e2]; exact st.trans g1
    · obtain ⟨σ2, M2, g1, g2, g3, g4, g5, g6⟩ := ih σ1 (c + 1) (c + 1) f (max most (c + 1)) h20' (Nat.le_refl _) (by omega) (fun z q => ⟨b, by obtain rfl : c = z := (by omega); exact q4, Nat.le_refl _, by omega⟩) (fun j a1 a2 => absurd a1 (by omega)) hb (by omega) (by omega)
      refine ⟨σ2, M2, ?_, by omega, g3, fun r hr => by rw [g4 r hr, q2 r hr], fun j hj => by rw [g5 j (by omega), q5 j hj], fun j a1 a2 => ?_⟩
      · have e1 : f + 1 - (b - a) = f - (b - (a + 1)) := by omega
        have e2 : max most (min (c + (h + 1)) 122) = max (max most (c + 1)) (min (c + 1 + h) 122) := by omega
        rw [e1, e2]; exact st.trans g1
      · by_cases hj : j = c
        · subst hj
          exact ⟨b, by rw [g5 j (by omega)]; exact q4, Nat.le_refl _⟩
        · exact g6 j (by omega) a2
  · intro r h1 h2 a m b e T1 T2 i1 i2 σ M c f most h20 hc hM htop hst hb hf hm
    have hl1 := T1.lt
    have hl2 := T2.lt
    obtain ⟨f, rfl⟩ : ∃ z, f = z + 1 := ⟨f - 1, by omega⟩
    obtain ⟨σ1, c1, q1, q2, q3⟩ := inner σ c f (max most (c + 1)) r _ a b h20 (Tm.app e T1 T2) (Or.inl e) hb (by omega)
    have st := (step σ M c f most a b (by omega) hb hc hM htop hst hm).trans q1
    have h20' : σ1 20 = σ0 20 := by rw [q2 20 (by decide)]; exact h20
    rcases q3 with ⟨rfl, rfl, rfl⟩ | ⟨q3, rfl, q4, q5⟩
    · obtain ⟨σ2, M2, g1, g2, g3, g4, g5, g6⟩ := i1 σ1 121 121 f (max most (121 + 1)) h20' (Nat.le_refl _) (Nat.le_refl _) (fun z q => by obtain ⟨u, a1, a2, a3⟩ := htop z q; exact ⟨u, a1, by omega, a3⟩) (fun j a1 a2 => absurd a1 (by omega)) (by omega) (by omega) (by omega)
      obtain ⟨σ3, M3, k1, k2, k3, k4, k5, k6⟩ := i2 σ2 M2 121 (f - (m - (a + 1))) (max (max most (121 + 1)) (min (121 + h1) 122)) (by rw [g4 20 (by decide)]; exact h20') g2 g3 (fun z q => by obtain ⟨u, a1, a2, a3⟩ := htop z q; exact ⟨u, by rw [g5 _ (by omega)]; exact a1, a2, a3⟩) g6 hb (by omega) (by omega)
      refine ⟨σ3, M3, ?_, k2, k3, fun r hr => by rw [k4 r hr, g4 r hr], fun j hj => by rw [k5 j hj, g5 j hj], k6⟩
      have e1 : f + 1 - (b - a) = f - (m - (a + 1)) - (b - m) := by omega
      have e2 : max most (min (121 + (1 + max h1 h2)) 122) = max (max (max most (121 + 1)) (min (121 + h1) 122)) (min (121 + h2) 122) := by omega
      rw [e1, e2]; exact (st.trans g1).trans k1
    · obtain ⟨σ2, M2, g1, g2, g3, g4, g5, g6⟩ := i1 σ1 (c + 1) (c + 1) f (max most (c + 1)) h20' (Nat.le_refl _) (by omega) (fun z q => ⟨b, by obtain rfl : c = z := (by omega); exact q4, by omega, by omega⟩) (fun j a1 a2 => absurd a1 (by omega)) (by omega) (by omega) (by omega)
      obtain ⟨σ3, M3, k1, k2, k3, k4, k5, k6⟩ := i2 σ2 M2 (c + 1) (f - (m - (a + 1))) (max (max most (c + 1)) (min (c + 1 + h1) 122)) (by rw [g4 20 (by decide)]; exact h20') g2 g3 (fun z q => ⟨b, by obtain rfl : c = z := (by omega); rw [g5 c (by omega)]; exact q4, Nat.le_refl _, by omega⟩) g6 hb (by omega) (by omega)
      refine ⟨σ3, M3, ?_, by omega, k3, fun r hr => by rw [k4 r hr, g4 r hr, q2 r hr], fun j hj => by rw [k5 j (by omega), g5 j (by omega), q5 j hj], fun j a1 a2 => ?_⟩
      · have e1 : f + 1 - (b - a) = f - (m - (a + 1)) - (b - m) := by omega
        have e2 : max most (min (c + (1 + max h1 h2)) 122) = max (max (max most (c + 1)) (min (c + 1 + h1) 122)) (min (c + 1 + h2) 122) := by omega
        rw [e1, e2]; exact (st.trans g1).trans k1
      · by_cases hj : j = c
        · subst hj
          exact ⟨b, by rw [k5 j (by omega), g5 j (by omega)]; exact q4, Nat.le_refl _⟩
        · exact k6 j (by omega) a2
theorem heightM_ok {N : Nat} {σ : St} {r h a b : Nat} (T : Tm (σ 20) r h a b) (hb : b ≤ 34100) (hN : 34100 < N) : ∃ σ', f_X5_heightOf N σ (nI a) = some (nI (min h 122), σ') ∧ ∀ r, r ≠ 24 → σ' r = σ r := by
  have hl := T.lt
  obtain ⟨σ', M', g1, g2, g3, g4, -⟩ := hgtM_loop hN hb T σ 0 0 N 0 rfl (Nat.le_refl _) (by omega) (fun z q => absurd q (by omega)) (fun j a1 a2 => absurd a2 (by omega)) (Nat.le_refl _) (by omega) (by omega)
  obtain ⟨f, hf⟩ : ∃ z, N - (b - a) = z + 1 := ⟨N - (b - a) - 1, by omega⟩
  refine ⟨σ', ?_, g4⟩
  rewrite [f_X5_heightOf]
  refine bs (endOf_ok T hb hN) ?_
  refine Eq.trans g1 ?_
  rewrite [hf, f_X5_heightOf_14]
  repeat (first | with_reducible refine bnE ?_ | with_reducible refine exI ?_ | with_reducible refine exJ ?_ | ((with_reducible refine iN ?_ ?_); · simp (disch := omega) only [ltL, Llt, leL, Lle, eqL, addL, Ladd, subL, subN, decN, eqM, Mle, mulL, nI_add, nI_ltI, nI_leI, nI_eq, nI_clamp, up2_at, nltT, nltF, nleT, nleF, neqT, neqF, ↓reduceIte, true_or, or_true, false_or, or_false, or_self, true_and, and_true, false_and, and_false, and_self, not_true, not_false_eq_true, i10, i01, im0, im12, im21, m1lt, m2lt, m1le, m2le, i00, i0le0, i1le0, i2le0, i3le0, eq_self]) | ((with_reducible refine ip ?_ ?_); · simp (disch := omega) only [ltL, Llt, leL, Lle, eqL, addL, Ladd, subL, subN, decN, eqM, Mle, mulL, nI_add, nI_ltI, nI_leI, nI_eq, nI_clamp, up2_at, nltT, nltF, nleT, nleF, neqT, neqF, ↓reduceIte, true_or, or_true, false_or, or_false, or_self, true_and, and_true, false_and, and_false, and_self, not_true, not_false_eq_true, i10, i01, im0, im12, im21, m1lt, m2lt, m1le, m2le, i00, i0le0, i1le0, i2le0, i3le0, eq_self]))
  have : max 0 (min (0 + h) 122) = min h 122 := by omega
  rewrite [this]
  rfl
