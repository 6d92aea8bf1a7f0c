/-! PURE: the reference's question whether a part is closed -/
theorem popC_loop {N c at' : Nat} {σ : St} {k5 : St → Int32 → Int32 → Int32 → Option (Int32 × St)} {x2 : Int32} (ha : at' < 2 ^ 31) (htop : ∀ z, c = z + 1 → ∃ u, σ 24 z = nI u ∧ at' < u ∧ u < 2 ^ 31) : ∀ M f, c ≤ M → M ≤ 121 → M - c < f → (∀ j, c ≤ j → j < M → ∃ u, σ 24 j = nI u ∧ u ≤ at') → f_X5_isClosed_11 N k5 f σ x2 (nI M) (nI at') = f_X5_isClosed_34 N k5 σ x2 (nI c) (nI at') := by
  intro M
  induction M with
  | zero =>
    intro f h1 h2 h3 h4
    obtain ⟨f, rfl⟩ : ∃ z, f = z + 1 := ⟨f - 1, by omega⟩
    have : c = 0 := by omega
    subst this
    rewrite [f_X5_isClosed_11]
    repeat (first | with_reducible refine bnE ?_ | with_reducible refine exI ?_ | with_reducible refine exJ ?_ | ((with_reducible refine iN ?_ ?_); · simp (disch := omega) only [ltL, Llt, leL, Lle, eqL, addL, Ladd, subL, subN, decN, eqM, Mle, mulL, nI_add, nI_ltI, nI_leI, nI_eq, nI_clamp, up2_at, nltT, nltF, nleT, nleF, neqT, neqF, ↓reduceIte, true_or, or_true, false_or, or_false, or_self, true_and, and_true, false_and, and_false, and_self, not_true, not_false_eq_true, i10, i01, im0, im12, im21, m1lt, m2lt, m1le, m2le, i00, i0le0, i1le0, i2le0, i3le0, eq_self]) | ((with_reducible refine ip ?_ ?_); · simp (disch := omega) only [ltL, Llt, leL, Lle, eqL, addL, Ladd, subL, subN, decN, eqM, Mle, mulL, nI_add, nI_ltI, nI_leI, nI_eq, nI_clamp, up2_at, nltT, nltF, nleT, nleF, neqT, neqF, ↓reduceIte, true_or, or_true, false_or, or_false, or_self, true_and, and_true, false_and, and_false, and_self, not_true, not_false_eq_true, i10, i01, im0, im12, im21, m1lt, m2lt, m1le, m2le, i00, i0le0, i1le0, i2le0, i3le0, eq_self]))
    rfl
  | succ M ih =>
    intro f h1 h2 h3 h4
    obtain ⟨f, rfl⟩ : ∃ z, f = z + 1 := ⟨f - 1, by omega⟩
    by_cases e : c = M + 1
    · subst e
      obtain ⟨u, e1, e2, e3⟩ := htop M rfl
      rewrite [f_X5_isClosed_11]
      repeat (first | with_reducible refine bnE ?_ | with_reducible refine exI ?_ | with_reducible refine exJ ?_ | ((with_reducible refine iN ?_ ?_); · simp (disch := omega) only [ltL, Llt, leL, Lle, eqL, addL, Ladd, subL, subN, decN, eqM, Mle, mulL, nI_add, nI_ltI, nI_leI, nI_eq, nI_clamp, up2_at, nltT, nltF, nleT, nleF, neqT, neqF, ↓reduceIte, true_or, or_true, false_or, or_false, or_self, true_and, and_true, false_and, and_false, and_self, not_true, not_false_eq_true, i10, i01, im0, im12, im21, m1lt, m2lt, m1le, m2le, i00, i0le0, i1le0, i2le0, i3le0, eq_self, Nat.add_sub_cancel, e1]) | ((with_reducible refine ip ?_ ?_); · simp (disch := omega) only [ltL, Llt, leL, Lle, eqL, addL, Ladd, subL, subN, decN, eqM, Mle, mulL, nI_add, nI_ltI, nI_leI, nI_eq, nI_clamp, up2_at, nltT, nltF, nleT, nleF, neqT, neqF, ↓reduceIte, true_or, or_true, false_or, or_false, or_self, true_and, and_true, false_and, and_false, and_self, not_true, not_false_eq_true, i10, i01, im0, im12, im21, m1lt, m2lt, m1le, m2le, i00, i0le0, i1le0, i2le0, i3le0, eq_self, Nat.add_sub_cancel, e1]))
      rfl
    · obtain ⟨u, e1, e2⟩ := h4 M (by omega) (by omega)
      rewrite [f_X5_isClosed_11]
      repeat (first | with_reducible refine bnE ?_ | with_reducible refine exI ?_ | with_reducible refine exJ ?_ | ((with_reducible refine iN ?_ ?_); · simp (disch := omega) only [ltL, Llt, leL, Lle, eqL, addL, Ladd, subL, subN, decN, eqM, Mle, mulL, nI_add, nI_ltI, nI_leI, nI_eq, nI_clamp, up2_at, nltT, nltF, nleT, nleF, neqT, neqF, ↓reduceIte, true_or, or_true, false_or, or_false, or_self, true_and, and_true, false_and, and_false, and_self, not_true, not_false_eq_true, i10, i01, im0, im12, im21, m1lt, m2lt, m1le, m2le, i00, i0le0, i1le0, i2le0, i3le0, eq_self, Nat.add_sub_cancel, e1]) | ((with_reducible refine ip ?_ ?_); · simp (disch := omega) only [ltL, Llt, leL, Lle, eqL, addL, Ladd, subL, subN, decN, eqM, Mle, mulL, nI_add, nI_ltI, nI_leI, nI_eq, nI_clamp, up2_at, nltT, nltF, nleT, nleF, neqT, neqF, ↓reduceIte, true_or, or_true, false_or, or_false, or_self, true_and, and_true, false_and, and_false, and_self, not_true, not_false_eq_true, i10, i01, im0, im12, im21, m1lt, m2lt, m1le, m2le, i00, i0le0, i1le0, i2le0, i3le0, eq_self, Nat.add_sub_cancel, e1]))
      simp (disch := omega) only [ltL, Llt, leL, Lle, eqL, addL, Ladd, subL, subN, decN, eqM, Mle, mulL, nI_add, nI_ltI, nI_leI, nI_eq, nI_clamp, up2_at, nltT, nltF, nleT, nleF, neqT, neqF, ↓reduceIte, true_or, or_true, false_or, or_false, or_self, true_and, and_true, false_and, and_false, and_self, not_true, not_false_eq_true, i10, i01, im0, im12, im21, m1lt, m2lt, m1le, m2le, i00, i0le0, i1le0, i2le0, i3le0, eq_self, Nat.add_sub_cancel]
      exact ih f (by omega) (by omega) (by omega) (fun j a1 a2 => h4 j a1 (by omega))
theorem closedM_loop {N E : Nat} {σ0 : St} (hN : 34100 < N) (hE : E ≤ 34100) {R h a b : Nat} (T : Tm (σ0 20) R h a b) : ∀ bd σ M f, (∀ r, r ≠ 24 → σ r = σ0 r) → bd ≤ M → M ≤ 121 → bd + h ≤ 121 → (∀ z, bd = z + 1 → ∃ u, σ 24 z = nI u ∧ b ≤ u ∧ u < 2 ^ 31) → (∀ z, bd ≤ z → z < M → ∃ u, σ 24 z = nI u ∧ u ≤ a) → b ≤ E → E - a < f → (Tm (σ0 20) bd h a b ∧ ∃ (σ' : St) (M' : Nat), f_X5_isClosed_5 N f σ (nI E) (nI M) (nI a) = f_X5_isClosed_5 N (f - (b - a)) σ' (nI E) (nI M') (nI b) ∧ bd ≤ M' ∧ M' ≤ 121 ∧ (∀ r, r ≠ 24 → σ' r = σ0 r) ∧ (∀ z, z < bd → σ' 24 z = σ 24 z) ∧ ∀ z, bd ≤ z → z < M' → ∃ u, σ' 24 z = nI u ∧ u ≤ b) ∨ (¬ Tm (σ0 20) bd h a b ∧ ∃ σ', f_X5_isClosed_5 N f σ (nI E) (nI M) (nI a) = some (0, σ') ∧ ∀ r, r ≠ 24 → σ' r = σ0 r) := by
  have step : ∀ bd (σ : St) M f a b, a < b → b ≤ E → bd ≤ M → M ≤ 121 → (∀ z, bd = z + 1 → ∃ u, σ 24 z = nI u ∧ b ≤ u ∧ u < 2 ^ 31) → (∀ z, bd ≤ z → z < M → ∃ u, σ 24 z = nI u ∧ u ≤ a) → f_X5_isClosed_5 N (f + 1) σ (nI E) (nI M) (nI a) = f_X5_isClosed_34 N (f_X5_isClosed_5 N f) σ (nI E) (nI bd) (nI a) := by
    intro bd σ M f a b hab hb hM hM' htop hst
    rewrite [f_X5_isClosed_5]
    repeat (first | with_reducible refine bnE ?_ | with_reducible refine exI ?_ | with_reducible refine exJ ?_ | ((with_reducible refine iN ?_ ?_); · simp (disch := omega) only [ltL, Llt, leL, Lle, eqL, addL, Ladd, subL, subN, decN, eqM, Mle, mulL, nI_add, nI_ltI, nI_leI, nI_eq, nI_clamp, up2_at, nltT, nltF, nleT, nleF, neqT, neqF, ↓reduceIte, true_or, or_true, false_or, or_false, or_self, true_and, and_true, false_and, and_false, and_self, not_true, not_false_eq_true, i10, i01, im0, im12, im21, m1lt, m2lt, m1le, m2le, i00, i0le0, i1le0, i2le0, i3le0, eq_self]) | ((with_reducible refine ip ?_ ?_); · simp (disch := omega) only [ltL, Llt, leL, Lle, eqL, addL, Ladd, subL, subN, decN, eqM, Mle, mulL, nI_add, nI_ltI, nI_leI, nI_eq, nI_clamp, up2_at, nltT, nltF, nleT, nleF, neqT, neqF, ↓reduceIte, true_or, or_true, false_or, or_false, or_self, true_and, and_true, false_and, and_false, and_self, not_true, not_false_eq_true, i10, i01, im0, im12, im21, m1lt, m2lt, m1le, m2le, i00, i0le0, i1le0, i2le0, i3le0, eq_self]))
    exact popC_loop (by omega) (fun z q => by obtain ⟨u, e1, e2, e3⟩ := htop z q; exact ⟨u, e1, by omega, e3⟩) M N hM hM' (by omega) hst
  have next : ∀ bd (σ : St) f a, a < E → ¬ σ 20 a = -2 → f_X5_isClosed_71 N (f_X5_isClosed_5 N f) σ (nI E) (nI bd) (nI a) = f_X5_isClosed_5 N f σ (nI E) (nI bd) (nI (a + 1)) := by
    intro bd σ f a ha hne
    rewrite [f_X5_isClosed_71]
    repeat (first | with_reducible refine bnE ?_ | with_reducible refine exI ?_ | with_reducible refine exJ ?_ | ((with_reducible refine iN ?_ ?_); · simp (disch := omega) only [ltL, Llt, leL, Lle, eqL, addL, Ladd, subL, subN, decN, eqM, Mle, mulL, nI_add, nI_ltI, nI_leI, nI_eq, nI_clamp, up2_at, nltT, nltF, nleT, nleF, neqT, neqF, ↓reduceIte, true_or, or_true, false_or, or_false, or_self, true_and, and_true, false_and, and_false, and_self, not_true, not_false_eq_true, i10, i01, im0, im12, im21, m1lt, m2lt, m1le, m2le, i00, i0le0, i1le0, i2le0, i3le0, eq_self, hne]) | ((with_reducible refine ip ?_ ?_); · simp (disch := omega) only [ltL, Llt, leL, Lle, eqL, addL, Ladd, subL, subN, decN, eqM, Mle, mulL, nI_add, nI_ltI, nI_leI, nI_eq, nI_clamp, up2_at, nltT, nltF, nleT, nleF, neqT, neqF, ↓reduceIte, true_or, or_true, false_or, or_false, or_self, true_and, and_true, false_and, and_false, and_self, not_true, not_false_eq_true, i10, i01, im0, im12, im21, m1lt, m2lt, m1le, m2le, i00, i0le0, i1le0, i2le0, i3le0, eq_self, hne]))
    rewrite [f_X5_isClosed_101]
    simp (disch := omega) only [ltL, Llt, leL, Lle, eqL, addL, Ladd, subL, subN, decN, eqM, Mle, mulL, nI_add, nI_ltI, nI_leI, nI_eq, nI_clamp, up2_at, nltT, nltF, nleT, nleF, neqT, neqF, ↓reduceIte, true_or, or_true, false_or, or_false, or_self, true_and, and_true, false_and, and_false, and_self, not_true, not_false_eq_true, i10, i01, im0, im12, im21, m1lt, m2lt, m1le, m2le, i00, i0le0, i1le0, i2le0, i3le0, eq_self, ]
  refine Tm.ind (c := σ0 20) (P := fun R h a b => ∀ bd σ M f, (∀ r, r ≠ 24 → σ r = σ0 r) → bd ≤ M → M ≤ 121 → bd + h ≤ 121 → (∀ z, bd = z + 1 → ∃ u, σ 24 z = nI u ∧ b ≤ u ∧ u < 2 ^ 31) → (∀ z, bd ≤ z → z < M → ∃ u, σ 24 z = nI u ∧ u ≤ a) → b ≤ E → E - a < f → (Tm (σ0 20) bd h a b ∧ ∃ (σ' : St) (M' : Nat), f_X5_isClosed_5 N f σ (nI E) (nI M) (nI a) = f_X5_isClosed_5 N (f - (b - a)) σ' (nI E) (nI M') (nI b) ∧ bd ≤ M' ∧ M' ≤ 121 ∧ (∀ r, r ≠ 24 → σ' r = σ0 r) ∧ (∀ z, z < bd → σ' 24 z = σ 24 z) ∧ ∀ z, bd ≤ z → z < M' → ∃ u, σ' 24 z = nI u ∧ u ≤ b) ∨ (¬ Tm (σ0 20) bd h a b ∧ ∃ σ', f_X5_isClosed_5 N f σ (nI E) (nI M) (nI a) = some (0, σ') ∧ ∀ r, r ≠ 24 → σ' r = σ0 r)) ?_ ?_ ?_ T
  · intro R a o bd σ M f fr hM hM' hh htop hst hb hf
    obtain ⟨f, rfl⟩ : ∃ z, f = z + 1 := ⟨f - 1, by omega⟩
    have st := step bd σ M f a (a + 1) (by omega) hb hM hM' htop hst
    have r20 : σ 20 = σ0 20 := fr 20 (by decide)
    have ne2 : ¬ σ 20 a = -2 := by rw [r20]; exact o.ne2
    have nx := next bd σ f a (by omega) ne2
    have e1 : f + 1 - (a + 1 - a) = f := by omega
    rw [e1]
    obtain ⟨v, hv, ev, o⟩ := o
    have ev' : σ 20 a = nI v := by rw [r20]; exact ev
    have hiff := leaf_iff (c := σ0 20) (r := bd) (a := a) ev hv (by omega)
    have hr4 := rem4 (by omega : v < 2 ^ 31)
    have hd4 := div4 (by omega : v < 2 ^ 31)
    have go : Tm (σ0 20) bd 1 a (a + 1) → f_X5_isClosed_34 N (f_X5_isClosed_5 N f) σ (nI E) (nI bd) (nI a) = f_X5_isClosed_71 N (f_X5_isClosed_5 N f) σ (nI E) (nI bd) (nI a) → (Tm (σ0 20) bd 1 a (a + 1) ∧ ∃ (σ' : St) (M' : Nat), f_X5_isClosed_5 N (f + 1) σ (nI E) (nI M) (nI a) = f_X5_isClosed_5 N f σ' (nI E) (nI M') (nI (a + 1)) ∧ bd ≤ M' ∧ M' ≤ 121 ∧ (∀ r, r ≠ 24 → σ' r = σ0 r) ∧ (∀ z, z < bd → σ' 24 z = σ 24 z) ∧ ∀ z, bd ≤ z → z < M' → ∃ u, σ' 24 z = nI u ∧ u ≤ a + 1) := by
      intro T e
      exact ⟨T, σ, bd, st.trans (e.trans nx), Nat.le_refl _, by omega, fr, fun _ _ => rfl, fun z q1 q2 => absurd q1 (by omega)⟩
    by_cases k0 : v % 4 = 0
    · by_cases lt : v / 4 < bd
      · refine Or.inl (go (hiff.mpr (fun _ => lt)) ?_)
        rewrite [f_X5_isClosed_34]
        simp (disch := omega) only [nI_clamp, ev']
        rewrite [hr4, hd4]
        repeat (first | with_reducible refine bnE ?_ | with_reducible refine exI ?_ | with_reducible refine exJ ?_ | ((with_reducible refine iN ?_ ?_); · simp (disch := omega) only [ltL, Llt, leL, Lle, eqL, addL, Ladd, subL, subN, decN, eqM, Mle, mulL, nI_add, nI_ltI, nI_leI, nI_eq, nI_clamp, up2_at, nltT, nltF, nleT, nleF, neqT, neqF, ↓reduceIte, true_or, or_true, false_or, or_false, or_self, true_and, and_true, false_and, and_false, and_self, not_true, not_false_eq_true, i10, i01, im0, im12, im21, m1lt, m2lt, m1le, m2le, i00, i0le0, i1le0, i2le0, i3le0, eq_self, k0]) | ((with_reducible refine ip ?_ ?_); · simp (disch := omega) only [ltL, Llt, leL, Lle, eqL, addL, Ladd, subL, subN, decN, eqM, Mle, mulL, nI_add, nI_ltI, nI_leI, nI_eq, nI_clamp, up2_at, nltT, nltF, nleT, nleF, neqT, neqF, ↓reduceIte, true_or, or_true, false_or, or_false, or_self, true_and, and_true, false_and, and_false, and_self, not_true, not_false_eq_true, i10, i01, im0, im12, im21, m1lt, m2lt, m1le, m2le, i00, i0le0, i1le0, i2le0, i3le0, eq_self, k0]))
        rfl
      · refine Or.inr ⟨fun T => lt (hiff.mp T k0), σ, st.trans ?_, fr⟩
        rewrite [f_X5_isClosed_34]
        simp (disch := omega) only [nI_clamp, ev']
        rewrite [hr4, hd4]
        repeat (first | with_reducible refine bnE ?_ | with_reducible refine exI ?_ | with_reducible refine exJ ?_ | ((with_reducible refine iN ?_ ?_); · simp (disch := omega) only [ltL, Llt, leL, Lle, eqL, addL, Ladd, subL, subN, decN, eqM, Mle, mulL, nI_add, nI_ltI, nI_leI, nI_eq, nI_clamp, up2_at, nltT, nltF, nleT, nleF, neqT, neqF, ↓reduceIte, true_or, or_true, false_or, or_false, or_self, true_and, and_true, false_and, and_false, and_self, not_true, not_false_eq_true, i10, i01, im0, im12, im21, m1lt, m2lt, m1le, m2le, i00, i0le0, i1le0, i2le0, i3le0, eq_self, k0]) | ((with_reducible refine ip ?_ ?_); · simp (disch := omega) only [ltL, Llt, leL, Lle, eqL, addL, Ladd, subL, subN, decN, eqM, Mle, mulL, nI_add, nI_ltI, nI_leI, nI_eq, nI_clamp, up2_at, nltT, nltF, nleT, nleF, neqT, neqF, ↓reduceIte, true_or, or_true, false_or, or_false, or_self, true_and, and_true, false_and, and_false, and_self, not_true, not_false_eq_true, i10, i01, im0, im12, im21, m1lt, m2lt, m1le, m2le, i00, i0le0, i1le0, i2le0, i3le0, eq_self, k0]))
        rfl
    · refine Or.inl (go (hiff.mpr (fun q => absurd q k0)) ?_)
      rewrite [f_X5_isClosed_34]
      simp (disch := omega) only [nI_clamp, ev']
      rewrite [hr4]
      repeat (first | with_reducible refine bnE ?_ | with_reducible refine exI ?_ | with_reducible refine exJ ?_ | ((with_reducible refine iN ?_ ?_); · simp (disch := omega) only [ltL, Llt, leL, Lle, eqL, addL, Ladd, subL, subN, decN, eqM, Mle, mulL, nI_add, nI_ltI, nI_leI, nI_eq, nI_clamp, up2_at, nltT, nltF, nleT, nleF, neqT, neqF, ↓reduceIte, true_or, or_true, false_or, or_false, or_self, true_and, and_true, false_and, and_false, and_self, not_true, not_false_eq_true, i10, i01, im0, im12, im21, m1lt, m2lt, m1le, m2le, i00, i0le0, i1le0, i2le0, i3le0, eq_self, k0]) | ((with_reducible refine ip ?_ ?_); · simp (disch := omega) only [ltL, Llt, leL, Lle, eqL, addL, Ladd, subL, subN, decN, eqM, Mle, mulL, nI_add, nI_ltI, nI_leI, nI_eq, nI_clamp, up2_at, nltT, nltF, nleT, nleF, neqT, neqF, ↓reduceIte, true_or, or_true, false_or, or_false, or_self, true_and, and_true, false_and, and_false, and_self, not_true, not_false_eq_true, i10, i01, im0, im12, im21, m1lt, m2lt, m1le, m2le, i00, i0le0, i1le0, i2le0, i3le0, eq_self, k0]))
      rfl
  · intro R h a b e T ih bd σ M f fr hM hM' hh htop hst hb hf
    have hl := T.lt
    obtain ⟨f, rfl⟩ : ∃ z, f = z + 1 := ⟨f - 1, by omega⟩
    have st := step bd σ M f a b (by omega) hb hM hM' htop hst
    have r20 : σ 20 = σ0 20 := fr 20 (by decide)
    have e' : σ 20 a = -2 := by rw [r20]; exact e
    have hneg : σ 20 a < 0 := by rw [e']; decide
    have hend := endOf_ok (N := N) (σ := σ) (a := a) (b := b) (by rw [r20]; exact Tm.abs e T) (by omega) hN
    have st2 : f_X5_isClosed_34 N (f_X5_isClosed_5 N f) σ (nI E) (nI bd) (nI a) = f_X5_isClosed_5 N f (up2 σ 24 bd (nI b)) (nI E) (nI (bd + 1)) (nI (a + 1)) := by
      rewrite [f_X5_isClosed_34]
      repeat (first | with_reducible refine bnE ?_ | with_reducible refine exI ?_ | with_reducible refine exJ ?_ | ((with_reducible refine iN ?_ ?_); · simp (disch := omega) only [ltL, Llt, leL, Lle, eqL, addL, Ladd, subL, subN, decN, eqM, Mle, mulL, nI_add, nI_ltI, nI_leI, nI_eq, nI_clamp, up2_at, nltT, nltF, nleT, nleF, neqT, neqF, ↓reduceIte, true_or, or_true, false_or, or_false, or_self, true_and, and_true, false_and, and_false, and_self, not_true, not_false_eq_true, i10, i01, im0, im12, im21, m1lt, m2lt, m1le, m2le, i00, i0le0, i1le0, i2le0, i3le0, eq_self, hneg]) | ((with_reducible refine ip ?_ ?_); · simp (disch := omega) only [ltL, Llt, leL, Lle, eqL, addL, Ladd, subL, subN, decN, eqM, Mle, mulL, nI_add, nI_ltI, nI_leI, nI_eq, nI_clamp, up2_at, nltT, nltF, nleT, nleF, neqT, neqF, ↓reduceIte, true_or, or_true, false_or, or_false, or_self, true_and, and_true, false_and, and_false, and_self, not_true, not_false_eq_true, i10, i01, im0, im12, im21, m1lt, m2lt, m1le, m2le, i00, i0le0, i1le0, i2le0, i3le0, eq_self, hneg]))
      rewrite [f_X5_isClosed_71]
      repeat (first | with_reducible refine bnE ?_ | with_reducible refine exI ?_ | with_reducible refine exJ ?_ | with_reducible refine bs (hend) ?_ | ((with_reducible refine iN ?_ ?_); · simp (disch := omega) only [ltL, Llt, leL, Lle, eqL, addL, Ladd, subL, subN, decN, eqM, Mle, mulL, nI_add, nI_ltI, nI_leI, nI_eq, nI_clamp, up2_at, nltT, nltF, nleT, nleF, neqT, neqF, ↓reduceIte, true_or, or_true, false_or, or_false, or_self, true_and, and_true, false_and, and_false, and_self, not_true, not_false_eq_true, i10, i01, im0, im12, im21, m1lt, m2lt, m1le, m2le, i00, i0le0, i1le0, i2le0, i3le0, eq_self, e']) | ((with_reducible refine ip ?_ ?_); · simp (disch := omega) only [ltL, Llt, leL, Lle, eqL, addL, Ladd, subL, subN, decN, eqM, Mle, mulL, nI_add, nI_ltI, nI_leI, nI_eq, nI_clamp, up2_at, nltT, nltF, nleT, nleF, neqT, neqF, ↓reduceIte, true_or, or_true, false_or, or_false, or_self, true_and, and_true, false_and, and_false, and_self, not_true, not_false_eq_true, i10, i01, im0, im12, im21, m1lt, m2lt, m1le, m2le, i00, i0le0, i1le0, i2le0, i3le0, eq_self, e']))
      rewrite [f_X5_isClosed_101]
      simp (disch := omega) only [ltL, Llt, leL, Lle, eqL, addL, Ladd, subL, subN, decN, eqM, Mle, mulL, nI_add, nI_ltI, nI_leI, nI_eq, nI_clamp, up2_at, nltT, nltF, nleT, nleF, neqT, neqF, ↓reduceIte, true_or, or_true, false_or, or_false, or_self, true_and, and_true, false_and, and_false, and_self, not_true, not_false_eq_true, i10, i01, im0, im12, im21, m1lt, m2lt, m1le, m2le, i00, i0le0, i1le0, i2le0, i3le0, eq_self, ]
    rw [Tm.abs_iff e]
    have e1 : f + 1 - (b - a) = f - (b - (a + 1)) := by omega
    rw [e1]
    rcases ih (bd + 1) (up2 σ 24 bd (nI b)) (bd + 1) f (fun r hr => by rw [up2_row hr]; exact fr r hr) (Nat.le_refl _) (by omega) (by omega) (fun z q => ⟨b, by obtain rfl : bd = z := (by omega); simp (disch := omega) only [ltL, Llt, leL, Lle, eqL, addL, Ladd, subL, subN, decN, eqM, Mle, mulL, nI_add, nI_ltI, nI_leI, nI_eq, nI_clamp, up2_at, nltT, nltF, nleT, nleF, neqT, neqF, ↓reduceIte, true_or, or_true, false_or, or_false, or_self, true_and, and_true, false_and, and_false, and_self, not_true, not_false_eq_true, i10, i01, im0, im12, im21, m1lt, m2lt, m1le, m2le, i00, i0le0, i1le0, i2le0, i3le0, eq_self, ], Nat.le_refl _, by omega⟩) (fun z q1 q2 => absurd q1 (by omega)) hb (by omega) with ⟨g1, σ', M', g2, g3, g4, g5, g6, g7⟩ | ⟨g1, σ', g2, g3⟩
    · refine Or.inl ⟨g1, σ', M', (st.trans st2).trans g2, by omega, g4, g5, fun z hz => ?_, fun z q1 q2 => ?_⟩
      · rw [g6 z (by omega)]
        simp (disch := omega) only [ltL, Llt, leL, Lle, eqL, addL, Ladd, subL, subN, decN, eqM, Mle, mulL, nI_add, nI_ltI, nI_leI, nI_eq, nI_clamp, up2_at, nltT, nltF, nleT, nleF, neqT, neqF, ↓reduceIte, true_or, or_true, false_or, or_false, or_self, true_and, and_true, false_and, and_false, and_self, not_true, not_false_eq_true, i10, i01, im0, im12, im21, m1lt, m2lt, m1le, m2le, i00, i0le0, i1le0, i2le0, i3le0, eq_self, (by omega : ¬ z = bd)]
      · by_cases q : z = bd
        · subst q
          exact ⟨b, by rw [g6 z (by omega)]; simp (disch := omega) only [ltL, Llt, leL, Lle, eqL, addL, Ladd, subL, subN, decN, eqM, Mle, mulL, nI_add, nI_ltI, nI_leI, nI_eq, nI_clamp, up2_at, nltT, nltF, nleT, nleF, neqT, neqF, ↓reduceIte, true_or, or_true, false_or, or_false, or_self, true_and, and_true, false_and, and_false, and_self, not_true, not_false_eq_true, i10, i01, im0, im12, im21, m1lt, m2lt, m1le, m2le, i00, i0le0, i1le0, i2le0, i3le0, eq_self, ], Nat.le_refl _⟩
        · exact g7 z (by omega) q2
    · exact Or.inr ⟨g1, σ', (st.trans st2).trans g2, g3⟩
  · intro R h1 h2 a mm b e T1 T2 i1 i2 bd σ M f fr hM hM' hh htop hst hb hf
    have hl1 := T1.lt
    have hl2 := T2.lt
    obtain ⟨f, rfl⟩ : ∃ z, f = z + 1 := ⟨f - 1, by omega⟩
    have st := step bd σ M f a b (by omega) hb hM hM' htop hst
    have r20 : σ 20 = σ0 20 := fr 20 (by decide)
    have e' : σ 20 a = -1 := by rw [r20]; exact e
    have hneg : σ 20 a < 0 := by rw [e']; decide
    have nx := next bd σ f a (by omega) (by rw [e']; decide)
    have st2 : f_X5_isClosed_34 N (f_X5_isClosed_5 N f) σ (nI E) (nI bd) (nI a) = f_X5_isClosed_71 N (f_X5_isClosed_5 N f) σ (nI E) (nI bd) (nI a) := by
      rewrite [f_X5_isClosed_34]
      repeat (first | with_reducible refine bnE ?_ | with_reducible refine exI ?_ | with_reducible refine exJ ?_ | ((with_reducible refine iN ?_ ?_); · simp (disch := omega) only [ltL, Llt, leL, Lle, eqL, addL, Ladd, subL, subN, decN, eqM, Mle, mulL, nI_add, nI_ltI, nI_leI, nI_eq, nI_clamp, up2_at, nltT, nltF, nleT, nleF, neqT, neqF, ↓reduceIte, true_or, or_true, false_or, or_false, or_self, true_and, and_true, false_and, and_false, and_self, not_true, not_false_eq_true, i10, i01, im0, im12, im21, m1lt, m2lt, m1le, m2le, i00, i0le0, i1le0, i2le0, i3le0, eq_self, hneg]) | ((with_reducible refine ip ?_ ?_); · simp (disch := omega) only [ltL, Llt, leL, Lle, eqL, addL, Ladd, subL, subN, decN, eqM, Mle, mulL, nI_add, nI_ltI, nI_leI, nI_eq, nI_clamp, up2_at, nltT, nltF, nleT, nleF, neqT, neqF, ↓reduceIte, true_or, or_true, false_or, or_false, or_self, true_and, and_true, false_and, and_false, and_self, not_true, not_false_eq_true, i10, i01, im0, im12, im21, m1lt, m2lt, m1le, m2le, i00, i0le0, i1le0, i2le0, i3le0, eq_self, hneg]))
      rfl
    have hiff := Tm.app_iff (r := bd) (b := b) (h2 := h2) e T1
    have e1 : f + 1 - (b - a) = f - (mm - (a + 1)) - (b - mm) := by omega
    rw [e1]
    rcases i1 bd σ bd f fr (Nat.le_refl _) (by omega) (by omega) (fun z q => by obtain ⟨u, a1, a2, a3⟩ := htop z q; exact ⟨u, a1, by omega, a3⟩) (fun z q1 q2 => absurd q1 (by omega)) (by omega) (by omega) with ⟨g1, σ1, M1, g2, g3, g4, g5, g6, g7⟩ | ⟨g1, σ', g2, g3⟩
    · rcases i2 bd σ1 M1 (f - (mm - (a + 1))) g5 g3 g4 (by omega) (fun z q => by obtain ⟨u, a1, a2, a3⟩ := htop z q; exact ⟨u, by rw [g6 z (by omega)]; exact a1, a2, a3⟩) g7 hb (by omega) with ⟨k1, σ2, M2, k2, k3, k4, k5, k6, k7⟩ | ⟨k1, σ', k2, k3⟩
      · exact Or.inl ⟨(hiff.mpr ⟨g1, k1, T2⟩).1, σ2, M2, ((st.trans (st2.trans nx)).trans g2).trans k2, k3, k4, k5, fun z hz => by rw [k6 z hz, g6 z hz], k7⟩
      · exact Or.inr ⟨fun q => k1 (hiff.mp ⟨q, T2⟩).2.1, σ', ((st.trans (st2.trans nx)).trans g2).trans k2, k3⟩
    · exact Or.inr ⟨fun q => g1 (hiff.mp ⟨q, T2⟩).1, σ', (st.trans (st2.trans nx)).trans g2, g3⟩
theorem isClosed_ok {N R h a b : Nat} {σ : St} (hN : 34100 < N) (T : Tm (σ 20) R h a b) (hb : b ≤ 34100) (hh : h ≤ 120) : (Tm (σ 20) 0 h a b ∧ ∃ σ', f_X5_isClosed N σ (nI a) (nI b) = some (1, σ') ∧ ∀ r, r ≠ 24 → σ' r = σ r) ∨ (¬ Tm (σ 20) 0 h a b ∧ ∃ σ', f_X5_isClosed N σ (nI a) (nI b) = some (0, σ') ∧ ∀ r, r ≠ 24 → σ' r = σ r) := by
  have hl := T.lt
  rcases closedM_loop hN hb T 0 σ 0 N (fun _ _ => rfl) (Nat.le_refl _) (by omega) (by omega) (fun z q => absurd q (by omega)) (fun z q1 q2 => absurd q2 (by omega)) (Nat.le_refl _) (by omega) with ⟨g1, σ', M', g2, g3, g4, g5, -⟩ | ⟨g1, σ', g2, g3⟩
  · obtain ⟨F, hF⟩ : ∃ F, N - (b - a) = F + 1 := ⟨N - (b - a) - 1, by omega⟩
    refine Or.inl ⟨g1, σ', ?_, g5⟩
    rewrite [f_X5_isClosed]
    refine Eq.trans g2 ?_
    rewrite [hF, f_X5_isClosed_5]
    repeat (first | with_reducible refine bnE ?_ | with_reducible refine exI ?_ | with_reducible refine exJ ?_ | ((with_reducible refine iN ?_ ?_); · simp (disch := omega) only [ltL, Llt, leL, Lle, eqL, addL, Ladd, subL, subN, decN, eqM, Mle, mulL, nI_add, nI_ltI, nI_leI, nI_eq, nI_clamp, up2_at, nltT, nltF, nleT, nleF, neqT, neqF, ↓reduceIte, true_or, or_true, false_or, or_false, or_self, true_and, and_true, false_and, and_false, and_self, not_true, not_false_eq_true, i10, i01, im0, im12, im21, m1lt, m2lt, m1le, m2le, i00, i0le0, i1le0, i2le0, i3le0, eq_self]) | ((with_reducible refine ip ?_ ?_); · simp (disch := omega) only [ltL, Llt, leL, Lle, eqL, addL, Ladd, subL, subN, decN, eqM, Mle, mulL, nI_add, nI_ltI, nI_leI, nI_eq, nI_clamp, up2_at, nltT, nltF, nleT, nleF, neqT, neqF, ↓reduceIte, true_or, or_true, false_or, or_false, or_self, true_and, and_true, false_and, and_false, and_self, not_true, not_false_eq_true, i10, i01, im0, im12, im21, m1lt, m2lt, m1le, m2le, i00, i0le0, i1le0, i2le0, i3le0, eq_self]))
    rfl
  · refine Or.inr ⟨g1, σ', ?_, g3⟩
    rewrite [f_X5_isClosed]
    exact g2
