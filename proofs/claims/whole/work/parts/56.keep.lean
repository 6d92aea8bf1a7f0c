/-! PURE: a handle for a type, in the class and in the reference -/
theorem keep_m1 {N : Nat} {y : St} : f_X2_keep N y (-1) = some (-1, y) := by
  rw [f_X2_keep, if_pos rfl]; rfl
theorem keep_ok {N n k hc tot : Nat} {y : St} (T : TC n y) (hk : k < n) (h12 : y 12 0 = nI hc) (hhc : hc < 512) (h13 : y 13 0 = nI tot) (ht : tot ≤ 6000) : f_X2_keep N y (nI k) = if tot + sz (tC y (nI k)) ≤ 6000 then some (nI hc, up2 (up2 (up2 y 9 hc (nI k)) 12 0 (nI (hc + 1))) 13 0 (nI (tot + sz (tC y (nI k))))) else some (-1, y) := by
  obtain ⟨hn, h10, hC, hL, hU, hS⟩ := id T
  have e3 : y 3 k = nI (sz (tC y (nI k))) := (hS k hk).1
  have b3 : sz (tC y (nI k)) ≤ 200 := (hS k hk).2.2.1
  generalize sz (tC y (nI k)) = w at *
  by_cases g : tot + w ≤ 6000
  · rewrite [if_pos g, f_X2_keep]
    repeat (first | with_reducible refine bnE ?_ | with_reducible refine bs (symbols_in (N := N) (show k < 8000 by omega)) ?_ | ((with_reducible refine iN ?_ ?_); · simp (disch := omega) only [ltL, Llt, leL, Lle, eqL, addL, Ladd, subL, subN, decN, eqM, Mle, mulL, nI_add, nI_ltI, nI_leI, nI_eq, nI_clamp, up2_at, nltT, nltF, nleT, nleF, neqT, neqF, ↓reduceIte, true_or, or_true, false_or, or_false, or_self, true_and, and_true, false_and, and_false, and_self, not_true, not_false_eq_true, i10, i01, im0, im12, im21, m1lt, m2lt, m1le, m2le, i00, i0le0, i1le0, i2le0, i3le0, eq_self, h12, h13, e3]) | ((with_reducible refine ip ?_ ?_); · simp (disch := omega) only [ltL, Llt, leL, Lle, eqL, addL, Ladd, subL, subN, decN, eqM, Mle, mulL, nI_add, nI_ltI, nI_leI, nI_eq, nI_clamp, up2_at, nltT, nltF, nleT, nleF, neqT, neqF, ↓reduceIte, true_or, or_true, false_or, or_false, or_self, true_and, and_true, false_and, and_false, and_self, not_true, not_false_eq_true, i10, i01, im0, im12, im21, m1lt, m2lt, m1le, m2le, i00, i0le0, i1le0, i2le0, i3le0, eq_self, h12, h13, e3]))
    simp (disch := omega) only [ltL, Llt, leL, Lle, eqL, addL, Ladd, subL, subN, decN, eqM, Mle, mulL, nI_add, nI_ltI, nI_leI, nI_eq, nI_clamp, up2_at, nltT, nltF, nleT, nleF, neqT, neqF, ↓reduceIte, true_or, or_true, false_or, or_false, or_self, true_and, and_true, false_and, and_false, and_self, not_true, not_false_eq_true, i10, i01, im0, im12, im21, m1lt, m2lt, m1le, m2le, i00, i0le0, i1le0, i2le0, i3le0, eq_self, h12, h13, e3, Nat.add_sub_cancel]
  · rewrite [if_neg g, f_X2_keep]
    repeat (first | with_reducible refine bnE ?_ | with_reducible refine bs (symbols_in (N := N) (show k < 8000 by omega)) ?_ | ((with_reducible refine iN ?_ ?_); · simp (disch := omega) only [ltL, Llt, leL, Lle, eqL, addL, Ladd, subL, subN, decN, eqM, Mle, mulL, nI_add, nI_ltI, nI_leI, nI_eq, nI_clamp, up2_at, nltT, nltF, nleT, nleF, neqT, neqF, ↓reduceIte, true_or, or_true, false_or, or_false, or_self, true_and, and_true, false_and, and_false, and_self, not_true, not_false_eq_true, i10, i01, im0, im12, im21, m1lt, m2lt, m1le, m2le, i00, i0le0, i1le0, i2le0, i3le0, eq_self, h12, h13, e3]) | ((with_reducible refine ip ?_ ?_); · simp (disch := omega) only [ltL, Llt, leL, Lle, eqL, addL, Ladd, subL, subN, decN, eqM, Mle, mulL, nI_add, nI_ltI, nI_leI, nI_eq, nI_clamp, up2_at, nltT, nltF, nleT, nleF, neqT, neqF, ↓reduceIte, true_or, or_true, false_or, or_false, or_self, true_and, and_true, false_and, and_false, and_self, not_true, not_false_eq_true, i10, i01, im0, im12, im21, m1lt, m2lt, m1le, m2le, i00, i0le0, i1le0, i2le0, i3le0, eq_self, h12, h13, e3]))
    rfl
theorem isSmall_ok {N n j : Nat} {σ : St} (T : TM n σ) (hj : j < n) : f_X5_isSmall N σ (nI j) = some ((if sz (tM σ (nI j)) ≤ 200 ∧ hg (tM σ (nI j)) ≤ 24 then 1 else 0), σ) := by
  obtain ⟨hn, h5, hC, hL, hU, hS⟩ := id T
  have e9 := (hS j hj).1
  have e10 := (hS j hj).2.1
  have b10 := (hS j hj).2.2
  generalize sz (tM σ (nI j)) = w at *
  generalize hg (tM σ (nI j)) = h at *
  by_cases g1 : w ≤ 200
  · by_cases g2 : h ≤ 24
    · rewrite [if_pos ⟨g1, g2⟩, f_X5_isSmall]
      repeat (first | with_reducible refine bnE ?_ | ((with_reducible refine iN ?_ ?_); · simp (disch := omega) only [ltL, Llt, leL, Lle, eqL, addL, Ladd, subL, subN, decN, eqM, Mle, mulL, nI_add, nI_ltI, nI_leI, nI_eq, nI_clamp, up2_at, nltT, nltF, nleT, nleF, neqT, neqF, ↓reduceIte, true_or, or_true, false_or, or_false, or_self, true_and, and_true, false_and, and_false, and_self, not_true, not_false_eq_true, i10, i01, im0, im12, im21, m1lt, m2lt, m1le, m2le, i00, i0le0, i1le0, i2le0, i3le0, eq_self, e9, e10]) | ((with_reducible refine ip ?_ ?_); · simp (disch := omega) only [ltL, Llt, leL, Lle, eqL, addL, Ladd, subL, subN, decN, eqM, Mle, mulL, nI_add, nI_ltI, nI_leI, nI_eq, nI_clamp, up2_at, nltT, nltF, nleT, nleF, neqT, neqF, ↓reduceIte, true_or, or_true, false_or, or_false, or_self, true_and, and_true, false_and, and_false, and_self, not_true, not_false_eq_true, i10, i01, im0, im12, im21, m1lt, m2lt, m1le, m2le, i00, i0le0, i1le0, i2le0, i3le0, eq_self, e9, e10]))
      rfl
    · rewrite [if_neg (fun q => g2 q.2), f_X5_isSmall]
      repeat (first | with_reducible refine bnE ?_ | ((with_reducible refine iN ?_ ?_); · simp (disch := omega) only [ltL, Llt, leL, Lle, eqL, addL, Ladd, subL, subN, decN, eqM, Mle, mulL, nI_add, nI_ltI, nI_leI, nI_eq, nI_clamp, up2_at, nltT, nltF, nleT, nleF, neqT, neqF, ↓reduceIte, true_or, or_true, false_or, or_false, or_self, true_and, and_true, false_and, and_false, and_self, not_true, not_false_eq_true, i10, i01, im0, im12, im21, m1lt, m2lt, m1le, m2le, i00, i0le0, i1le0, i2le0, i3le0, eq_self, e9, e10]) | ((with_reducible refine ip ?_ ?_); · simp (disch := omega) only [ltL, Llt, leL, Lle, eqL, addL, Ladd, subL, subN, decN, eqM, Mle, mulL, nI_add, nI_ltI, nI_leI, nI_eq, nI_clamp, up2_at, nltT, nltF, nleT, nleF, neqT, neqF, ↓reduceIte, true_or, or_true, false_or, or_false, or_self, true_and, and_true, false_and, and_false, and_self, not_true, not_false_eq_true, i10, i01, im0, im12, im21, m1lt, m2lt, m1le, m2le, i00, i0le0, i1le0, i2le0, i3le0, eq_self, e9, e10]))
      rfl
  · rewrite [if_neg (fun q => g1 q.1), f_X5_isSmall]
    repeat (first | with_reducible refine bnE ?_ | ((with_reducible refine iN ?_ ?_); · simp (disch := omega) only [ltL, Llt, leL, Lle, eqL, addL, Ladd, subL, subN, decN, eqM, Mle, mulL, nI_add, nI_ltI, nI_leI, nI_eq, nI_clamp, up2_at, nltT, nltF, nleT, nleF, neqT, neqF, ↓reduceIte, true_or, or_true, false_or, or_false, or_self, true_and, and_true, false_and, and_false, and_self, not_true, not_false_eq_true, i10, i01, im0, im12, im21, m1lt, m2lt, m1le, m2le, i00, i0le0, i1le0, i2le0, i3le0, eq_self, e9, e10]) | ((with_reducible refine ip ?_ ?_); · simp (disch := omega) only [ltL, Llt, leL, Lle, eqL, addL, Ladd, subL, subN, decN, eqM, Mle, mulL, nI_add, nI_ltI, nI_leI, nI_eq, nI_clamp, up2_at, nltT, nltF, nleT, nleF, neqT, neqF, ↓reduceIte, true_or, or_true, false_or, or_false, or_self, true_and, and_true, false_and, and_false, and_self, not_true, not_false_eq_true, i10, i01, im0, im12, im21, m1lt, m2lt, m1le, m2le, i00, i0le0, i1le0, i2le0, i3le0, eq_self, e9, e10]))
    rfl
theorem keepM_ok {N n j hc tot : Nat} {σ : St} {e : Int32} (T : TM n σ) (hj : j < n) (h13 : σ 13 0 = nI hc) (hhc : hc < 512) (h14 : σ 14 0 = nI tot) (ht : tot ≤ 6000) : f_X5_keepType N σ (nI j) e = if sz (tM σ (nI j)) ≤ 200 ∧ hg (tM σ (nI j)) ≤ 24 ∧ n ≤ 8000 ∧ tot + sz (tM σ (nI j)) ≤ 6000 then some (nI hc, up2 (up2 (up2 σ 15 hc (nI j)) 14 0 (nI (tot + sz (tM σ (nI j))))) 13 0 (nI (hc + 1))) else some (0, up2 σ 0 0 e) := by
  have hs := isSmall_ok (N := N) T hj
  obtain ⟨hn, h5, hC, hL, hU, hS⟩ := id T
  have e9 := (hS j hj).1
  have e10 := (hS j hj).2.1
  have b10 := (hS j hj).2.2
  generalize sz (tM σ (nI j)) = w at *
  generalize hg (tM σ (nI j)) = h at *
  by_cases g1 : w ≤ 200 ∧ h ≤ 24
  · rw [if_pos g1] at hs
    by_cases g2 : n ≤ 8000
    · have e9' : σ 9 j = nI w := by rw [e9, Nat.min_eq_left (by omega)]
      by_cases g3 : tot + w ≤ 6000
      · rewrite [if_pos ⟨g1.1, g1.2, g2, g3⟩, f_X5_keepType]
        repeat (first | with_reducible refine bnE ?_ | with_reducible refine bs (hs) ?_ | ((with_reducible refine iN ?_ ?_); · simp (disch := omega) only [ltL, Llt, leL, Lle, eqL, addL, Ladd, subL, subN, decN, eqM, Mle, mulL, nI_add, nI_ltI, nI_leI, nI_eq, nI_clamp, up2_at, nltT, nltF, nleT, nleF, neqT, neqF, ↓reduceIte, true_or, or_true, false_or, or_false, or_self, true_and, and_true, false_and, and_false, and_self, not_true, not_false_eq_true, i10, i01, im0, im12, im21, m1lt, m2lt, m1le, m2le, i00, i0le0, i1le0, i2le0, i3le0, eq_self, e9', h5, h13, h14]) | ((with_reducible refine ip ?_ ?_); · simp (disch := omega) only [ltL, Llt, leL, Lle, eqL, addL, Ladd, subL, subN, decN, eqM, Mle, mulL, nI_add, nI_ltI, nI_leI, nI_eq, nI_clamp, up2_at, nltT, nltF, nleT, nleF, neqT, neqF, ↓reduceIte, true_or, or_true, false_or, or_false, or_self, true_and, and_true, false_and, and_false, and_self, not_true, not_false_eq_true, i10, i01, im0, im12, im21, m1lt, m2lt, m1le, m2le, i00, i0le0, i1le0, i2le0, i3le0, eq_self, e9', h5, h13, h14]))
        simp (disch := omega) only [ltL, Llt, leL, Lle, eqL, addL, Ladd, subL, subN, decN, eqM, Mle, mulL, nI_add, nI_ltI, nI_leI, nI_eq, nI_clamp, up2_at, nltT, nltF, nleT, nleF, neqT, neqF, ↓reduceIte, true_or, or_true, false_or, or_false, or_self, true_and, and_true, false_and, and_false, and_self, not_true, not_false_eq_true, i10, i01, im0, im12, im21, m1lt, m2lt, m1le, m2le, i00, i0le0, i1le0, i2le0, i3le0, eq_self, h13, h14, e9', Nat.add_sub_cancel]
      · rewrite [if_neg (fun q => g3 q.2.2.2), f_X5_keepType]
        repeat (first | with_reducible refine bnE ?_ | with_reducible refine bs (hs) ?_ | ((with_reducible refine iN ?_ ?_); · simp (disch := omega) only [ltL, Llt, leL, Lle, eqL, addL, Ladd, subL, subN, decN, eqM, Mle, mulL, nI_add, nI_ltI, nI_leI, nI_eq, nI_clamp, up2_at, nltT, nltF, nleT, nleF, neqT, neqF, ↓reduceIte, true_or, or_true, false_or, or_false, or_self, true_and, and_true, false_and, and_false, and_self, not_true, not_false_eq_true, i10, i01, im0, im12, im21, m1lt, m2lt, m1le, m2le, i00, i0le0, i1le0, i2le0, i3le0, eq_self, e9', h5, h13, h14]) | ((with_reducible refine ip ?_ ?_); · simp (disch := omega) only [ltL, Llt, leL, Lle, eqL, addL, Ladd, subL, subN, decN, eqM, Mle, mulL, nI_add, nI_ltI, nI_leI, nI_eq, nI_clamp, up2_at, nltT, nltF, nleT, nleF, neqT, neqF, ↓reduceIte, true_or, or_true, false_or, or_false, or_self, true_and, and_true, false_and, and_false, and_self, not_true, not_false_eq_true, i10, i01, im0, im12, im21, m1lt, m2lt, m1le, m2le, i00, i0le0, i1le0, i2le0, i3le0, eq_self, e9', h5, h13, h14]))
        rfl
    · rewrite [if_neg (fun q => g2 q.2.2.1), f_X5_keepType]
      repeat (first | with_reducible refine bnE ?_ | with_reducible refine bs (hs) ?_ | ((with_reducible refine iN ?_ ?_); · simp (disch := omega) only [ltL, Llt, leL, Lle, eqL, addL, Ladd, subL, subN, decN, eqM, Mle, mulL, nI_add, nI_ltI, nI_leI, nI_eq, nI_clamp, up2_at, nltT, nltF, nleT, nleF, neqT, neqF, ↓reduceIte, true_or, or_true, false_or, or_false, or_self, true_and, and_true, false_and, and_false, and_self, not_true, not_false_eq_true, i10, i01, im0, im12, im21, m1lt, m2lt, m1le, m2le, i00, i0le0, i1le0, i2le0, i3le0, eq_self, h5, h13, h14]) | ((with_reducible refine ip ?_ ?_); · simp (disch := omega) only [ltL, Llt, leL, Lle, eqL, addL, Ladd, subL, subN, decN, eqM, Mle, mulL, nI_add, nI_ltI, nI_leI, nI_eq, nI_clamp, up2_at, nltT, nltF, nleT, nleF, neqT, neqF, ↓reduceIte, true_or, or_true, false_or, or_false, or_self, true_and, and_true, false_and, and_false, and_self, not_true, not_false_eq_true, i10, i01, im0, im12, im21, m1lt, m2lt, m1le, m2le, i00, i0le0, i1le0, i2le0, i3le0, eq_self, h5, h13, h14]))
      rfl
  · rw [if_neg g1] at hs
    rewrite [if_neg (fun q => g1 ⟨q.1, q.2.1⟩), f_X5_keepType]
    repeat (first | with_reducible refine bnE ?_ | with_reducible refine bs (hs) ?_ | ((with_reducible refine iN ?_ ?_); · simp (disch := omega) only [ltL, Llt, leL, Lle, eqL, addL, Ladd, subL, subN, decN, eqM, Mle, mulL, nI_add, nI_ltI, nI_leI, nI_eq, nI_clamp, up2_at, nltT, nltF, nleT, nleF, neqT, neqF, ↓reduceIte, true_or, or_true, false_or, or_false, or_self, true_and, and_true, false_and, and_false, and_self, not_true, not_false_eq_true, i10, i01, im0, im12, im21, m1lt, m2lt, m1le, m2le, i00, i0le0, i1le0, i2le0, i3le0, eq_self, h5, h13, h14]) | ((with_reducible refine ip ?_ ?_); · simp (disch := omega) only [ltL, Llt, leL, Lle, eqL, addL, Ladd, subL, subN, decN, eqM, Mle, mulL, nI_add, nI_ltI, nI_leI, nI_eq, nI_clamp, up2_at, nltT, nltF, nleT, nleF, neqT, neqF, ↓reduceIte, true_or, or_true, false_or, or_false, or_self, true_and, and_true, false_and, and_false, and_self, not_true, not_false_eq_true, i10, i01, im0, im12, im21, m1lt, m2lt, m1le, m2le, i00, i0le0, i1le0, i2le0, i3le0, eq_self, h5, h13, h14]))
    rfl
theorem node_ok {N n : Nat} {σ : St} (T : TM n σ) (hn : n < 16000) (hN : 16000 < N) {a b : Int32} (ha : Kid n a) (hb : Kid n b) (h : Int32) (hh : hg (nd h (tM σ a) (tM σ b)) ≤ 16000) : (∃ j, j < n ∧ tM σ (nI j) = nd h (tM σ a) (tM σ b) ∧ f_X5_node N σ h a b = some (nI j, σ)) ∨ ((∀ j, j < n → ¬ tM σ (nI j) = nd h (tM σ a) (tM σ b)) ∧ ∃ z, f_X5_node N σ h a b = some (nI n, z) ∧ TM (n + 1) z ∧ tM z (nI n) = nd h (tM σ a) (tM σ b) ∧ (∀ i, Kid n i → tM z i = tM σ i) ∧ (∀ r, r ≠ 5 → r ≠ 6 → r ≠ 7 → r ≠ 8 → r ≠ 9 → r ≠ 10 → r ≠ 11 → r ≠ 12 → z r = σ r)) := by
  obtain ⟨hn', h5, hC, hL, hU, hS⟩ := id T
  have hk := (hM_lt h a b).1
  have e : f_X5_node N σ h a b = f_X5_node_17 N N σ h a b (nI (hM h a b)) (lst (hZ σ) n (hM h a b)) := by
    rewrite [f_X5_node]
    repeat (first | with_reducible refine bnE ?_ | with_reducible refine bs (chain_eq h a b) ?_ | ((with_reducible refine iN ?_ ?_); · simp (disch := omega) only [ltL, Llt, leL, Lle, eqL, addL, Ladd, subL, subN, decN, eqM, Mle, mulL, nI_add, nI_ltI, nI_leI, nI_eq, nI_clamp, up2_at, nltT, nltF, nleT, nleF, neqT, neqF, ↓reduceIte, true_or, or_true, false_or, or_false, or_self, true_and, and_true, false_and, and_false, and_self, not_true, not_false_eq_true, i10, i01, im0, im12, im21, m1lt, m2lt, m1le, m2le, i00, i0le0, i1le0, i2le0, i3le0, eq_self]) | ((with_reducible refine ip ?_ ?_); · simp (disch := omega) only [ltL, Llt, leL, Lle, eqL, addL, Ladd, subL, subN, decN, eqM, Mle, mulL, nI_add, nI_ltI, nI_leI, nI_eq, nI_clamp, up2_at, nltT, nltF, nleT, nleF, neqT, neqF, ↓reduceIte, true_or, or_true, false_or, or_false, or_self, true_and, and_true, false_and, and_false, and_self, not_true, not_false_eq_true, i10, i01, im0, im12, im21, m1lt, m2lt, m1le, m2le, i00, i0le0, i1le0, i2le0, i3le0, eq_self]))
    simp (disch := omega) only [nI_clamp]
    rw [hC.1 _ hk]
  rcases node_17 (N := N) (by omega) hC.2 h a b n (Nat.le_refl n) N (by omega) with ⟨j, hj, e0, e1, e2, er⟩ | ⟨hno, er⟩
  · refine Or.inl ⟨j, hj, ?_, e.trans er⟩
    rw [tT_is hL hU (by omega) hj ha hb]
    exact ⟨e0, e1, e2⟩
  · refine Or.inr ⟨fun j hj q => ?_, ?_⟩
    · rw [tT_is hL hU (by omega) hj ha hb] at q
      exact hno j hj q
    · obtain ⟨w0, hw⟩ := node_app (N := N) T hn ha hb h
      obtain ⟨h1, h2, h3, h4⟩ := mkM_ok T hn ha hb hno hh rfl (w0 := w0)
      exact ⟨_, e.trans (er.trans hw), h1, h2, h3, h4⟩
