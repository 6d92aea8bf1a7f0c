/-! PURE: open -/
theorem popO_loop {N c at' : Nat} {σ : St} {k93 : St → Int32 → Int32 → Int32 → Int32 → Int32 → Option (Int32 × St)} {x1 x2 x3 : Int32} (ha : at' < 2 ^ 31) (htop : ∀ z, c = z + 1 → ∃ u, σ 24 z = nI u ∧ at' < u ∧ u < 2 ^ 31) : ∀ M f, c ≤ M → M ≤ 121 → M - c < f → (∀ j, c ≤ j → j < M → ∃ u, σ 24 j = nI u ∧ u ≤ at') → f_X5_open_106 N k93 f σ x1 x2 x3 (nI M) (nI at') = f_X5_open_131 N k93 σ x1 x2 x3 (nI c) (nI at') := by
  intro M
  induction M with
  | zero =>
    intro f h1 h2 h3 h4
    obtain ⟨f, rfl⟩ : ∃ z, f = z + 1 := ⟨f - 1, by omega⟩
    have : c = 0 := by omega
    subst this
    rewrite [f_X5_open_106]
    repeat (first | with_reducible refine bnE ?_ | with_reducible refine exI ?_ | with_reducible refine exJ ?_ | ((with_reducible refine iN ?_ ?_); · simp (disch := omega) only [ltL, Llt, leL, Lle, eqL, addL, Ladd, subL, subN, decN, eqM, Mle, mulL, nI_add, nI_ltI, nI_leI, nI_eq, nI_clamp, up2_at, nltT, nltF, nleT, nleF, neqT, neqF, ↓reduceIte, true_or, or_true, false_or, or_false, or_self, true_and, and_true, false_and, and_false, and_self, not_true, not_false_eq_true, i10, i01, im0, im12, im21, m1lt, m2lt, m1le, m2le, i00, i0le0, i1le0, i2le0, i3le0, eq_self]) | ((with_reducible refine ip ?_ ?_); · simp (disch := omega) only [ltL, Llt, leL, Lle, eqL, addL, Ladd, subL, subN, decN, eqM, Mle, mulL, nI_add, nI_ltI, nI_leI, nI_eq, nI_clamp, up2_at, nltT, nltF, nleT, nleF, neqT, neqF, ↓reduceIte, true_or, or_true, false_or, or_false, or_self, true_and, and_true, false_and, and_false, and_self, not_true, not_false_eq_true, i10, i01, im0, im12, im21, m1lt, m2lt, m1le, m2le, i00, i0le0, i1le0, i2le0, i3le0, eq_self]))
    rfl
  | succ M ih =>
    intro f h1 h2 h3 h4
    obtain ⟨f, rfl⟩ : ∃ z, f = z + 1 := ⟨f - 1, by omega⟩
    by_cases e : c = M + 1
    · subst e
      obtain ⟨u, e1, e2, e3⟩ := htop M rfl
      rewrite [f_X5_open_106]
      repeat (first | with_reducible refine bnE ?_ | with_reducible refine exI ?_ | with_reducible refine exJ ?_ | ((with_reducible refine iN ?_ ?_); · simp (disch := omega) only [ltL, Llt, leL, Lle, eqL, addL, Ladd, subL, subN, decN, eqM, Mle, mulL, nI_add, nI_ltI, nI_leI, nI_eq, nI_clamp, up2_at, nltT, nltF, nleT, nleF, neqT, neqF, ↓reduceIte, true_or, or_true, false_or, or_false, or_self, true_and, and_true, false_and, and_false, and_self, not_true, not_false_eq_true, i10, i01, im0, im12, im21, m1lt, m2lt, m1le, m2le, i00, i0le0, i1le0, i2le0, i3le0, eq_self, Nat.add_sub_cancel, e1]) | ((with_reducible refine ip ?_ ?_); · simp (disch := omega) only [ltL, Llt, leL, Lle, eqL, addL, Ladd, subL, subN, decN, eqM, Mle, mulL, nI_add, nI_ltI, nI_leI, nI_eq, nI_clamp, up2_at, nltT, nltF, nleT, nleF, neqT, neqF, ↓reduceIte, true_or, or_true, false_or, or_false, or_self, true_and, and_true, false_and, and_false, and_self, not_true, not_false_eq_true, i10, i01, im0, im12, im21, m1lt, m2lt, m1le, m2le, i00, i0le0, i1le0, i2le0, i3le0, eq_self, Nat.add_sub_cancel, e1]))
      rfl
    · obtain ⟨u, e1, e2⟩ := h4 M (by omega) (by omega)
      rewrite [f_X5_open_106]
      repeat (first | with_reducible refine bnE ?_ | with_reducible refine exI ?_ | with_reducible refine exJ ?_ | ((with_reducible refine iN ?_ ?_); · simp (disch := omega) only [ltL, Llt, leL, Lle, eqL, addL, Ladd, subL, subN, decN, eqM, Mle, mulL, nI_add, nI_ltI, nI_leI, nI_eq, nI_clamp, up2_at, nltT, nltF, nleT, nleF, neqT, neqF, ↓reduceIte, true_or, or_true, false_or, or_false, or_self, true_and, and_true, false_and, and_false, and_self, not_true, not_false_eq_true, i10, i01, im0, im12, im21, m1lt, m2lt, m1le, m2le, i00, i0le0, i1le0, i2le0, i3le0, eq_self, Nat.add_sub_cancel, e1]) | ((with_reducible refine ip ?_ ?_); · simp (disch := omega) only [ltL, Llt, leL, Lle, eqL, addL, Ladd, subL, subN, decN, eqM, Mle, mulL, nI_add, nI_ltI, nI_leI, nI_eq, nI_clamp, up2_at, nltT, nltF, nleT, nleF, neqT, neqF, ↓reduceIte, true_or, or_true, false_or, or_false, or_self, true_and, and_true, false_and, and_false, and_self, not_true, not_false_eq_true, i10, i01, im0, im12, im21, m1lt, m2lt, m1le, m2le, i00, i0le0, i1le0, i2le0, i3le0, eq_self, Nat.add_sub_cancel, e1]))
      simp (disch := omega) only [ltL, Llt, leL, Lle, eqL, addL, Ladd, subL, subN, decN, eqM, Mle, mulL, nI_add, nI_ltI, nI_leI, nI_eq, nI_clamp, up2_at, nltT, nltF, nleT, nleF, neqT, neqF, ↓reduceIte, true_or, or_true, false_or, or_false, or_self, true_and, and_true, false_and, and_false, and_self, not_true, not_false_eq_true, i10, i01, im0, im12, im21, m1lt, m2lt, m1le, m2le, i00, i0le0, i1le0, i2le0, i3le0, eq_self, Nat.add_sub_cancel]
      exact ih f (by omega) (by omega) (by omega) (fun j a1 a2 => h4 j a1 (by omega))
theorem open_loop {N w m n q i l E : Nat} {s : Nat → Nat} {g : Nat → Int32} {y t0 σ0 : St} (hN : 34100 < N) (hw : w < 512) (i1 : I1 n g q y σ0) (i5 : I5 w m s n y t0 σ0) (hi : i < m) (hl : l < m) (eE : E = s (i + 1)) {r h a b : Nat} (T : Tm (t0 0) r h a b) :
    ∀ bd, r = bd + 1 → ∀ e L t k σ p f f' d c M, Bd (QT n y σ0) e (s m) L t0 σ0 t σ p → k 3 0 = nI d → k 2 0 = nI c → k 4 0 = nI bd → c + 1 ≤ d → d + h ≤ 122 → bd ≤ d → bd ≤ M → M ≤ 121 → (∀ z, bd = z + 1 → ∃ u, σ 24 z = nI u ∧ b ≤ u ∧ u < 2 ^ 31) → (∀ z, bd ≤ z → z < M → ∃ u, σ 24 z = nI u ∧ u ≤ a) → b ≤ E → E - a < f → E - a < f' → ∃ e' L' h' t' σ' p' k' M', (∀ z, z < L → e' z = e z) ∧ Tm e' bd h' L L' ∧ f_X1_addOpened_15 N f t k (nI i) (nI l) (nI a) = f_X1_addOpened_15 N (f - (b - a)) t' k' (nI i) (nI l) (nI b) ∧ f_X5_open_93 N f' σ (nI i) (nI l) p (nI M) (nI a) = f_X5_open_93 N (f' - (b - a)) σ' (nI i) (nI l) p' (nI M') (nI b) ∧ Bd (QT n y σ0) e' (s m) L' t0 σ0 t' σ' p' ∧ (c = 0 ∨ Pop2 k c k') ∧ bd ≤ M' ∧ M' ≤ 121 ∧ (∀ z, z < bd → σ' 24 z = σ 24 z) ∧ (∀ z, bd ≤ z → z < M' → ∃ u, σ' 24 z = nI u ∧ u ≤ b) := by
  have sm := i5.smono
  have B := Inv.bs hw i5
  obtain ⟨k1, k2, k3, k4, k5, k6, k7, k8⟩ := id i5
  have l2 := sm (i + 1) m (by omega) (by omega)
  obtain ⟨l5, l6, h3, hh3, -, T3⟩ := k7 l hl
  have l7 := sm (l + 1) m (by omega) (by omega)
  subst eE
  have frame : ∀ {e L t σ p}, Bd (QT n y σ0) e (s m) L t0 σ0 t σ p → (t 2 = t0 2) ∧ (σ 19 = σ0 19) ∧ (∀ z, z < s m → t 0 z = t0 0 z ∧ t 1 z = t0 1 z ∧ σ 20 z = σ0 20 z ∧ σ 21 z = σ0 21 z) := by
    intro e L t σ p hB
    exact ⟨hB.2.1 2 (by decide) (by decide) (by decide) (by decide), hB.1.2.1 19 (by decide) (by decide) (by decide), fun z hz => ⟨(hB.2.2.1 z hz).1, (hB.2.2.1 z hz).2, (hB.1.2.2 z hz).1, (hB.1.2.2 z hz).2⟩⟩
  -- a symbol that isn't the bound variable: to the reference's question for an abstraction, to the class's walk
  have sym : ∀ e L t k k1 σ p f f' a b bd M, Bd (QT n y σ0) e (s m) L t0 σ0 t σ p → a < b → b ≤ s (i + 1) → k 4 0 = nI bd → bd ≤ M → M ≤ 121 → (∀ z, bd = z + 1 → ∃ u, σ 24 z = nI u ∧ b ≤ u ∧ u < 2 ^ 31) → (∀ z, bd ≤ z → z < M → ∃ u, σ 24 z = nI u ∧ u ≤ a) → t0 0 a ≠ nI (4 * bd) → f_X3_pass N k (t0 0 a) = some k1 → ∃ e' t' σ' p', (∀ z, z < L → e' z = e z) ∧ e' L = t0 0 a ∧ f_X1_addOpened_15 N (f + 1) t k (nI i) (nI l) (nI a) = f_X1_addOpened_15 N f t' k1 (nI i) (nI l) (nI (a + 1)) ∧ f_X5_open_93 N (f' + 1) σ (nI i) (nI l) p (nI M) (nI a) = f_X5_open_186 N (f_X5_open_93 N f') σ' (nI i) (nI l) (nI bd) (nI a) p' ∧ Bd (QT n y σ0) e' (s m) (L + 1) t0 σ0 t' σ' p' ∧ σ' 24 = σ 24 := by
    intro e L t k k1 σ p f f' a b bd M hB hab hb h4 hM hM' htop hst hno hpass
    obtain ⟨f1, f2, f3⟩ := frame hB
    obtain ⟨f4, f5, f6, f7⟩ := f3 a (by omega)
    obtain ⟨s1, s2⟩ := i5.src (by omega : a < s m)
    have hend := end_ok (N := N) (t := t) (k := k) (by omega : i < 512)
    rw [f1, (k6 (i + 1) (by omega)).1] at hend
    obtain ⟨e', t', σ', p', a1, a2, a3, a4, a5, a6⟩ := Bd.add1 (N := N) (k := k) (t0 0 a) B hB s2
    refine ⟨e', t', σ', p', a1, a2, ?_, ?_, a5, a6⟩
    · have hcd := code_ok (N := N) (t := t) (k := k) (by omega : a < 30000)
      have hsy := sty_ok (N := N) (t := t) (k := k) (by omega : a < 30000)
      rw [f4] at hcd
      rw [f5] at hsy
      have hcd' := code_ok (N := N) (t := t') (k := k) (by omega : a < 30000)
      rw [(a5.2.2.1 a (by omega)).1] at hcd'
      have hac : f_X1_addOrCopy N t k (nI a) 0 (nI l) = some (t', k) := by
        rewrite [f_X1_addOrCopy]
        repeat (first | with_reducible refine bnE ?_ | with_reducible refine exI ?_ | with_reducible refine exJ ?_ | with_reducible refine bs (hcd) ?_ | with_reducible refine bs (hsy) ?_ | with_reducible refine bs (a3) ?_ | ((with_reducible refine iN ?_ ?_); · simp (disch := omega) only [ltL, Llt, leL, Lle, eqL, addL, Ladd, subL, subN, decN, eqM, Mle, mulL, nI_add, nI_ltI, nI_leI, nI_eq, nI_clamp, up2_at, nltT, nltF, nleT, nleF, neqT, neqF, ↓reduceIte, true_or, or_true, false_or, or_false, or_self, true_and, and_true, false_and, and_false, and_self, not_true, not_false_eq_true, i10, i01, im0, im12, im21, m1lt, m2lt, m1le, m2le, i00, i0le0, i1le0, i2le0, i3le0, eq_self]) | ((with_reducible refine ip ?_ ?_); · simp (disch := omega) only [ltL, Llt, leL, Lle, eqL, addL, Ladd, subL, subN, decN, eqM, Mle, mulL, nI_add, nI_ltI, nI_leI, nI_eq, nI_clamp, up2_at, nltT, nltF, nleT, nleF, neqT, neqF, ↓reduceIte, true_or, or_true, false_or, or_false, or_self, true_and, and_true, false_and, and_false, and_self, not_true, not_false_eq_true, i10, i01, im0, im12, im21, m1lt, m2lt, m1le, m2le, i00, i0le0, i1le0, i2le0, i3le0, eq_self]))
        rfl
      have har : f_X3_around N k = some (nI bd, k) := by rw [f_X3_around, h4]
      have hco : f_X4_codeOf N 0 (nI bd) = some (nI (4 * bd), ()) := by
        rewrite [f_X4_codeOf]; simp (disch := omega) only [ltL, Llt, leL, Lle, eqL, addL, Ladd, subL, subN, decN, eqM, Mle, mulL, nI_add, nI_ltI, nI_leI, nI_eq, nI_clamp, up2_at, nltT, nltF, nleT, nleF, neqT, neqF, ↓reduceIte, true_or, or_true, false_or, or_false, or_self, true_and, and_true, false_and, and_false, and_self, not_true, not_false_eq_true, i10, i01, im0, im12, im21, m1lt, m2lt, m1le, m2le, i00, i0le0, i1le0, i2le0, i3le0, eq_self, Int32.add_zero]
      rewrite [f_X1_addOpened_15]
      repeat (first | with_reducible refine bnE ?_ | with_reducible refine exI ?_ | with_reducible refine exJ ?_ | with_reducible refine bs (hend) ?_ | with_reducible refine bs (hcd) ?_ | with_reducible refine bs (har) ?_ | with_reducible refine bs (hco) ?_ | ((with_reducible refine iN ?_ ?_); · simp (disch := omega) only [ltL, Llt, leL, Lle, eqL, addL, Ladd, subL, subN, decN, eqM, Mle, mulL, nI_add, nI_ltI, nI_leI, nI_eq, nI_clamp, up2_at, nltT, nltF, nleT, nleF, neqT, neqF, ↓reduceIte, true_or, or_true, false_or, or_false, or_self, true_and, and_true, false_and, and_false, and_self, not_true, not_false_eq_true, i10, i01, im0, im12, im21, m1lt, m2lt, m1le, m2le, i00, i0le0, i1le0, i2le0, i3le0, eq_self, hno]) | ((with_reducible refine ip ?_ ?_); · simp (disch := omega) only [ltL, Llt, leL, Lle, eqL, addL, Ladd, subL, subN, decN, eqM, Mle, mulL, nI_add, nI_ltI, nI_leI, nI_eq, nI_clamp, up2_at, nltT, nltF, nleT, nleF, neqT, neqF, ↓reduceIte, true_or, or_true, false_or, or_false, or_self, true_and, and_true, false_and, and_false, and_self, not_true, not_false_eq_true, i10, i01, im0, im12, im21, m1lt, m2lt, m1le, m2le, i00, i0le0, i1le0, i2le0, i3le0, eq_self, hno]))
      rewrite [f_X1_addOpened_50]
      repeat (first | with_reducible refine bnE ?_ | with_reducible refine exI ?_ | with_reducible refine exJ ?_ | with_reducible refine bs (hac) ?_ | with_reducible refine bs (hcd') ?_ | with_reducible refine bs (hpass) ?_ | ((with_reducible refine iN ?_ ?_); · simp (disch := omega) only [ltL, Llt, leL, Lle, eqL, addL, Ladd, subL, subN, decN, eqM, Mle, mulL, nI_add, nI_ltI, nI_leI, nI_eq, nI_clamp, up2_at, nltT, nltF, nleT, nleF, neqT, neqF, ↓reduceIte, true_or, or_true, false_or, or_false, or_self, true_and, and_true, false_and, and_false, and_self, not_true, not_false_eq_true, i10, i01, im0, im12, im21, m1lt, m2lt, m1le, m2le, i00, i0le0, i1le0, i2le0, i3le0, eq_self]) | ((with_reducible refine ip ?_ ?_); · simp (disch := omega) only [ltL, Llt, leL, Lle, eqL, addL, Ladd, subL, subN, decN, eqM, Mle, mulL, nI_add, nI_ltI, nI_leI, nI_eq, nI_clamp, up2_at, nltT, nltF, nleT, nleF, neqT, neqF, ↓reduceIte, true_or, or_true, false_or, or_false, or_self, true_and, and_true, false_and, and_false, and_self, not_true, not_false_eq_true, i10, i01, im0, im12, im21, m1lt, m2lt, m1le, m2le, i00, i0le0, i1le0, i2le0, i3le0, eq_self]))
      simp (disch := omega) only [ltL, Llt, leL, Lle, eqL, addL, Ladd, subL, subN, decN, eqM, Mle, mulL, nI_add, nI_ltI, nI_leI, nI_eq, nI_clamp, up2_at, nltT, nltF, nleT, nleF, neqT, neqF, ↓reduceIte, true_or, or_true, false_or, or_false, or_self, true_and, and_true, false_and, and_false, and_self, not_true, not_false_eq_true, i10, i01, im0, im12, im21, m1lt, m2lt, m1le, m2le, i00, i0le0, i1le0, i2le0, i3le0, eq_self, ]
    · have hno' : ¬ σ0 20 a = nI (4 * bd) := fun z => hno (s1.trans z)
      rw [s1] at a4
      rewrite [f_X5_open_93]
      simp (disch := omega) only [addL, nI_clamp, f2, (k6 (i + 1) (by omega)).2]
      repeat (first | with_reducible refine bnE ?_ | with_reducible refine exI ?_ | with_reducible refine exJ ?_ | ((with_reducible refine iN ?_ ?_); · simp (disch := omega) only [ltL, Llt, leL, Lle, eqL, addL, Ladd, subL, subN, decN, eqM, Mle, mulL, nI_add, nI_ltI, nI_leI, nI_eq, nI_clamp, up2_at, nltT, nltF, nleT, nleF, neqT, neqF, ↓reduceIte, true_or, or_true, false_or, or_false, or_self, true_and, and_true, false_and, and_false, and_self, not_true, not_false_eq_true, i10, i01, im0, im12, im21, m1lt, m2lt, m1le, m2le, i00, i0le0, i1le0, i2le0, i3le0, eq_self]) | ((with_reducible refine ip ?_ ?_); · simp (disch := omega) only [ltL, Llt, leL, Lle, eqL, addL, Ladd, subL, subN, decN, eqM, Mle, mulL, nI_add, nI_ltI, nI_leI, nI_eq, nI_clamp, up2_at, nltT, nltF, nleT, nleF, neqT, neqF, ↓reduceIte, true_or, or_true, false_or, or_false, or_self, true_and, and_true, false_and, and_false, and_self, not_true, not_false_eq_true, i10, i01, im0, im12, im21, m1lt, m2lt, m1le, m2le, i00, i0le0, i1le0, i2le0, i3le0, eq_self]))
      rewrite [popO_loop (c := bd) (by omega) (fun z q => by obtain ⟨u, e1, e2, e3⟩ := htop z q; exact ⟨u, e1, by omega, e3⟩) M N hM hM' (by omega) hst]
      rewrite [f_X5_open_131]
      simp (disch := omega) only [nI_clamp, f6, f7, mulL]
      repeat (first | with_reducible refine bnE ?_ | with_reducible refine exI ?_ | with_reducible refine exJ ?_ | with_reducible refine bs (a4) ?_ | ((with_reducible refine iN ?_ ?_); · simp (disch := omega) only [ltL, Llt, leL, Lle, eqL, addL, Ladd, subL, subN, decN, eqM, Mle, mulL, nI_add, nI_ltI, nI_leI, nI_eq, nI_clamp, up2_at, nltT, nltF, nleT, nleF, neqT, neqF, ↓reduceIte, true_or, or_true, false_or, or_false, or_self, true_and, and_true, false_and, and_false, and_self, not_true, not_false_eq_true, i10, i01, im0, im12, im21, m1lt, m2lt, m1le, m2le, i00, i0le0, i1le0, i2le0, i3le0, eq_self, hno']) | ((with_reducible refine ip ?_ ?_); · simp (disch := omega) only [ltL, Llt, leL, Lle, eqL, addL, Ladd, subL, subN, decN, eqM, Mle, mulL, nI_add, nI_ltI, nI_leI, nI_eq, nI_clamp, up2_at, nltT, nltF, nleT, nleF, neqT, neqF, ↓reduceIte, true_or, or_true, false_or, or_false, or_self, true_and, and_true, false_and, and_false, and_self, not_true, not_false_eq_true, i10, i01, im0, im12, im21, m1lt, m2lt, m1le, m2le, i00, i0le0, i1le0, i2le0, i3le0, eq_self, hno']))
      rfl
  have leafEnd : ∀ (σ : St) f' a bd p, σ 20 a = t0 0 a → a < s m → t0 0 a ≠ -2 → f_X5_open_186 N (f_X5_open_93 N f') σ (nI i) (nI l) (nI bd) (nI a) p = f_X5_open_93 N f' σ (nI i) (nI l) p (nI bd) (nI (a + 1)) := by
    intro σ f' a bd p h20 ha hne
    have hne' : ¬ σ 20 a = -2 := fun z => hne (h20.symm.trans z)
    rewrite [f_X5_open_186]
    repeat (first | with_reducible refine bnE ?_ | with_reducible refine exI ?_ | with_reducible refine exJ ?_ | ((with_reducible refine iN ?_ ?_); · simp (disch := omega) only [ltL, Llt, leL, Lle, eqL, addL, Ladd, subL, subN, decN, eqM, Mle, mulL, nI_add, nI_ltI, nI_leI, nI_eq, nI_clamp, up2_at, nltT, nltF, nleT, nleF, neqT, neqF, ↓reduceIte, true_or, or_true, false_or, or_false, or_self, true_and, and_true, false_and, and_false, and_self, not_true, not_false_eq_true, i10, i01, im0, im12, im21, m1lt, m2lt, m1le, m2le, i00, i0le0, i1le0, i2le0, i3le0, eq_self, hne']) | ((with_reducible refine ip ?_ ?_); · simp (disch := omega) only [ltL, Llt, leL, Lle, eqL, addL, Ladd, subL, subN, decN, eqM, Mle, mulL, nI_add, nI_ltI, nI_leI, nI_eq, nI_clamp, up2_at, nltT, nltF, nleT, nleF, neqT, neqF, ↓reduceIte, true_or, or_true, false_or, or_false, or_self, true_and, and_true, false_and, and_false, and_self, not_true, not_false_eq_true, i10, i01, im0, im12, im21, m1lt, m2lt, m1le, m2le, i00, i0le0, i1le0, i2le0, i3le0, eq_self, hne']))
    rewrite [f_X5_open_218]
    simp (disch := omega) only [ltL, Llt, leL, Lle, eqL, addL, Ladd, subL, subN, decN, eqM, Mle, mulL, nI_add, nI_ltI, nI_leI, nI_eq, nI_clamp, up2_at, nltT, nltF, nleT, nleF, neqT, neqF, ↓reduceIte, true_or, or_true, false_or, or_false, or_self, true_and, and_true, false_and, and_false, and_self, not_true, not_false_eq_true, i10, i01, im0, im12, im21, m1lt, m2lt, m1le, m2le, i00, i0le0, i1le0, i2le0, i3le0, eq_self, ]
  refine Tm.ind (c := t0 0) (P := fun r h a b => ∀ bd, r = bd + 1 → ∀ e L t k σ p f f' d c M, Bd (QT n y σ0) e (s m) L t0 σ0 t σ p → k 3 0 = nI d → k 2 0 = nI c → k 4 0 = nI bd → c + 1 ≤ d → d + h ≤ 122 → bd ≤ d → bd ≤ M → M ≤ 121 → (∀ z, bd = z + 1 → ∃ u, σ 24 z = nI u ∧ b ≤ u ∧ u < 2 ^ 31) → (∀ z, bd ≤ z → z < M → ∃ u, σ 24 z = nI u ∧ u ≤ a) → b ≤ s (i + 1) → s (i + 1) - a < f → s (i + 1) - a < f' → ∃ e' L' h' t' σ' p' k' M', (∀ z, z < L → e' z = e z) ∧ Tm e' bd h' L L' ∧ f_X1_addOpened_15 N f t k (nI i) (nI l) (nI a) = f_X1_addOpened_15 N (f - (b - a)) t' k' (nI i) (nI l) (nI b) ∧ f_X5_open_93 N f' σ (nI i) (nI l) p (nI M) (nI a) = f_X5_open_93 N (f' - (b - a)) σ' (nI i) (nI l) p' (nI M') (nI b) ∧ Bd (QT n y σ0) e' (s m) L' t0 σ0 t' σ' p' ∧ (c = 0 ∨ Pop2 k c k') ∧ bd ≤ M' ∧ M' ≤ 121 ∧ (∀ z, z < bd → σ' 24 z = σ 24 z) ∧ (∀ z, bd ≤ z → z < M' → ∃ u, σ' 24 z = nI u ∧ u ≤ b)) ?_ ?_ ?_ T
  · intro r a o bd hr e L t k σ p f f' d c M hB h3' h2 h4 hc hd hbd hM hM' htop hst hb hf hf'
    subst hr
    obtain ⟨f, rfl⟩ : ∃ z, f = z + 1 := ⟨f - 1, by omega⟩
    obtain ⟨f', rfl⟩ : ∃ z, f' = z + 1 := ⟨f' - 1, by omega⟩
    have z1 : f + 1 - (a + 1 - a) = f := by omega
    have z2 : f' + 1 - (a + 1 - a) = f' := by omega
    rw [z1, z2]
    obtain ⟨kk, p1, p2⟩ := pass_leaf2 (N := N) (v := t0 0 a) o.ne1 o.ne2 h2 (by omega)
    have hpop : c = 0 ∨ Pop2 k c kk := by
      rcases p2 with ⟨q, -⟩ | ⟨-, q⟩
      · exact Or.inl q
      · exact Or.inr q
    by_cases hit : t0 0 a = nI (4 * bd)
    · obtain ⟨f1, f2, f3⟩ := frame hB
      obtain ⟨f4, f5, f6, f7⟩ := f3 a (by omega)
      obtain ⟨s1, s2⟩ := i5.src (by omega : a < s m)
      have hend := end_ok (N := N) (t := t) (k := k) (by omega : i < 512)
      rw [f1, (k6 (i + 1) (by omega)).1] at hend
      obtain ⟨e', t', σ', p', a1, a2, a3, a4, a5, a6⟩ := Bd.copy1 (N := N) (k := k) (u := s l) (v := s (l + 1)) B hN hB (by omega) l7 (fun z hz => i5.src (by omega))
      have T' := T3.shift (c' := e') (a' := L) (fun z _ => a2 z)
      have hl20 := leafEnd σ' f' a bd p' (by rw [(a5.1.2.2 a (by omega)).1]; exact s1.symm) (by omega) o.ne2
      refine ⟨e', _, h3, t', σ', p', kk, bd, a1, T'.mono (Nat.zero_le _), ?_, ?_, a5, hpop, Nat.le_refl _, by omega, fun z _ => by rw [a6], fun z q1 q2 => absurd q1 (by omega)⟩
      · have hcd := code_ok (N := N) (t := t) (k := k) (by omega : a < 30000)
        rw [f4] at hcd
        have hcd' := code_ok (N := N) (t := t') (k := k) (by omega : a < 30000)
        rw [(a5.2.2.1 a (by omega)).1] at hcd'
        have sA := start_ok (N := N) (t := t) (k := k) (by omega : l < 513)
        have sB := end_ok (N := N) (t := t) (k := k) (by omega : l < 512)
        rw [f1, (k6 l (by omega)).1] at sA
        rw [f1, (k6 (l + 1) (by omega)).1] at sB
        have hac : f_X1_addOrCopy N t k (nI a) 1 (nI l) = some (t', k) := by
          rewrite [f_X1_addOrCopy]
          repeat (first | with_reducible refine bnE ?_ | with_reducible refine exI ?_ | with_reducible refine exJ ?_ | with_reducible refine bs (sA) ?_ | with_reducible refine bs (sB) ?_ | with_reducible refine bs (a3) ?_ | ((with_reducible refine iN ?_ ?_); · simp (disch := omega) only [ltL, Llt, leL, Lle, eqL, addL, Ladd, subL, subN, decN, eqM, Mle, mulL, nI_add, nI_ltI, nI_leI, nI_eq, nI_clamp, up2_at, nltT, nltF, nleT, nleF, neqT, neqF, ↓reduceIte, true_or, or_true, false_or, or_false, or_self, true_and, and_true, false_and, and_false, and_self, not_true, not_false_eq_true, i10, i01, im0, im12, im21, m1lt, m2lt, m1le, m2le, i00, i0le0, i1le0, i2le0, i3le0, eq_self]) | ((with_reducible refine ip ?_ ?_); · simp (disch := omega) only [ltL, Llt, leL, Lle, eqL, addL, Ladd, subL, subN, decN, eqM, Mle, mulL, nI_add, nI_ltI, nI_leI, nI_eq, nI_clamp, up2_at, nltT, nltF, nleT, nleF, neqT, neqF, ↓reduceIte, true_or, or_true, false_or, or_false, or_self, true_and, and_true, false_and, and_false, and_self, not_true, not_false_eq_true, i10, i01, im0, im12, im21, m1lt, m2lt, m1le, m2le, i00, i0le0, i1le0, i2le0, i3le0, eq_self]))
          rfl
        have har : f_X3_around N k = some (nI bd, k) := by rw [f_X3_around, h4]
        have hco : f_X4_codeOf N 0 (nI bd) = some (nI (4 * bd), ()) := by
          rewrite [f_X4_codeOf]; simp (disch := omega) only [ltL, Llt, leL, Lle, eqL, addL, Ladd, subL, subN, decN, eqM, Mle, mulL, nI_add, nI_ltI, nI_leI, nI_eq, nI_clamp, up2_at, nltT, nltF, nleT, nleF, neqT, neqF, ↓reduceIte, true_or, or_true, false_or, or_false, or_self, true_and, and_true, false_and, and_false, and_self, not_true, not_false_eq_true, i10, i01, im0, im12, im21, m1lt, m2lt, m1le, m2le, i00, i0le0, i1le0, i2le0, i3le0, eq_self, Int32.add_zero]
        rewrite [f_X1_addOpened_15]
        repeat (first | with_reducible refine bnE ?_ | with_reducible refine exI ?_ | with_reducible refine exJ ?_ | with_reducible refine bs (hend) ?_ | with_reducible refine bs (hcd) ?_ | with_reducible refine bs (har) ?_ | with_reducible refine bs (hco) ?_ | ((with_reducible refine iN ?_ ?_); · simp (disch := omega) only [ltL, Llt, leL, Lle, eqL, addL, Ladd, subL, subN, decN, eqM, Mle, mulL, nI_add, nI_ltI, nI_leI, nI_eq, nI_clamp, up2_at, nltT, nltF, nleT, nleF, neqT, neqF, ↓reduceIte, true_or, or_true, false_or, or_false, or_self, true_and, and_true, false_and, and_false, and_self, not_true, not_false_eq_true, i10, i01, im0, im12, im21, m1lt, m2lt, m1le, m2le, i00, i0le0, i1le0, i2le0, i3le0, eq_self, hit]) | ((with_reducible refine ip ?_ ?_); · simp (disch := omega) only [ltL, Llt, leL, Lle, eqL, addL, Ladd, subL, subN, decN, eqM, Mle, mulL, nI_add, nI_ltI, nI_leI, nI_eq, nI_clamp, up2_at, nltT, nltF, nleT, nleF, neqT, neqF, ↓reduceIte, true_or, or_true, false_or, or_false, or_self, true_and, and_true, false_and, and_false, and_self, not_true, not_false_eq_true, i10, i01, im0, im12, im21, m1lt, m2lt, m1le, m2le, i00, i0le0, i1le0, i2le0, i3le0, eq_self, hit]))
        rewrite [f_X1_addOpened_50]
        repeat (first | with_reducible refine bnE ?_ | with_reducible refine exI ?_ | with_reducible refine exJ ?_ | with_reducible refine bs (hac) ?_ | with_reducible refine bs (hcd') ?_ | with_reducible refine bs (p1) ?_ | ((with_reducible refine iN ?_ ?_); · simp (disch := omega) only [ltL, Llt, leL, Lle, eqL, addL, Ladd, subL, subN, decN, eqM, Mle, mulL, nI_add, nI_ltI, nI_leI, nI_eq, nI_clamp, up2_at, nltT, nltF, nleT, nleF, neqT, neqF, ↓reduceIte, true_or, or_true, false_or, or_false, or_self, true_and, and_true, false_and, and_false, and_self, not_true, not_false_eq_true, i10, i01, im0, im12, im21, m1lt, m2lt, m1le, m2le, i00, i0le0, i1le0, i2le0, i3le0, eq_self]) | ((with_reducible refine ip ?_ ?_); · simp (disch := omega) only [ltL, Llt, leL, Lle, eqL, addL, Ladd, subL, subN, decN, eqM, Mle, mulL, nI_add, nI_ltI, nI_leI, nI_eq, nI_clamp, up2_at, nltT, nltF, nleT, nleF, neqT, neqF, ↓reduceIte, true_or, or_true, false_or, or_false, or_self, true_and, and_true, false_and, and_false, and_self, not_true, not_false_eq_true, i10, i01, im0, im12, im21, m1lt, m2lt, m1le, m2le, i00, i0le0, i1le0, i2le0, i3le0, eq_self]))
        simp (disch := omega) only [ltL, Llt, leL, Lle, eqL, addL, Ladd, subL, subN, decN, eqM, Mle, mulL, nI_add, nI_ltI, nI_leI, nI_eq, nI_clamp, up2_at, nltT, nltF, nleT, nleF, neqT, neqF, ↓reduceIte, true_or, or_true, false_or, or_false, or_self, true_and, and_true, false_and, and_false, and_self, not_true, not_false_eq_true, i10, i01, im0, im12, im21, m1lt, m2lt, m1le, m2le, i00, i0le0, i1le0, i2le0, i3le0, eq_self, ]
      · have hit' : σ0 20 a = nI (4 * bd) := s1.symm.trans hit
        rewrite [f_X5_open_93]
        simp (disch := omega) only [addL, nI_clamp, f2, (k6 (i + 1) (by omega)).2]
        repeat (first | with_reducible refine bnE ?_ | with_reducible refine exI ?_ | with_reducible refine exJ ?_ | ((with_reducible refine iN ?_ ?_); · simp (disch := omega) only [ltL, Llt, leL, Lle, eqL, addL, Ladd, subL, subN, decN, eqM, Mle, mulL, nI_add, nI_ltI, nI_leI, nI_eq, nI_clamp, up2_at, nltT, nltF, nleT, nleF, neqT, neqF, ↓reduceIte, true_or, or_true, false_or, or_false, or_self, true_and, and_true, false_and, and_false, and_self, not_true, not_false_eq_true, i10, i01, im0, im12, im21, m1lt, m2lt, m1le, m2le, i00, i0le0, i1le0, i2le0, i3le0, eq_self]) | ((with_reducible refine ip ?_ ?_); · simp (disch := omega) only [ltL, Llt, leL, Lle, eqL, addL, Ladd, subL, subN, decN, eqM, Mle, mulL, nI_add, nI_ltI, nI_leI, nI_eq, nI_clamp, up2_at, nltT, nltF, nleT, nleF, neqT, neqF, ↓reduceIte, true_or, or_true, false_or, or_false, or_self, true_and, and_true, false_and, and_false, and_self, not_true, not_false_eq_true, i10, i01, im0, im12, im21, m1lt, m2lt, m1le, m2le, i00, i0le0, i1le0, i2le0, i3le0, eq_self]))
        rewrite [popO_loop (c := bd) (by omega) (fun z q => by obtain ⟨u, e1, e2, e3⟩ := htop z q; exact ⟨u, e1, by omega, e3⟩) M N hM hM' (by omega) hst]
        rewrite [f_X5_open_131]
        simp (disch := omega) only [nI_clamp, f6, f7, mulL, addL, f2, (k6 l (by omega)).2, (k6 (l + 1) (by omega)).2]
        repeat (first | with_reducible refine bnE ?_ | with_reducible refine exI ?_ | with_reducible refine exJ ?_ | with_reducible refine bs (a4) ?_ | ((with_reducible refine iN ?_ ?_); · simp (disch := omega) only [ltL, Llt, leL, Lle, eqL, addL, Ladd, subL, subN, decN, eqM, Mle, mulL, nI_add, nI_ltI, nI_leI, nI_eq, nI_clamp, up2_at, nltT, nltF, nleT, nleF, neqT, neqF, ↓reduceIte, true_or, or_true, false_or, or_false, or_self, true_and, and_true, false_and, and_false, and_self, not_true, not_false_eq_true, i10, i01, im0, im12, im21, m1lt, m2lt, m1le, m2le, i00, i0le0, i1le0, i2le0, i3le0, eq_self, hit']) | ((with_reducible refine ip ?_ ?_); · simp (disch := omega) only [ltL, Llt, leL, Lle, eqL, addL, Ladd, subL, subN, decN, eqM, Mle, mulL, nI_add, nI_ltI, nI_leI, nI_eq, nI_clamp, up2_at, nltT, nltF, nleT, nleF, neqT, neqF, ↓reduceIte, true_or, or_true, false_or, or_false, or_self, true_and, and_true, false_and, and_false, and_self, not_true, not_false_eq_true, i10, i01, im0, im12, im21, m1lt, m2lt, m1le, m2le, i00, i0le0, i1le0, i2le0, i3le0, eq_self, hit']))
        exact hl20
    · obtain ⟨e', t', σ', p', a1, a2, a3, a4, a5, a6⟩ := sym e L t k kk σ p f f' a (a + 1) bd M hB (by omega) hb h4 hM hM' htop hst hit p1
      obtain ⟨s1, s2⟩ := i5.src (by omega : a < s m)
      have hl20 := leafEnd σ' f' a bd p' (by rw [(a5.1.2.2 a (by omega)).1]; exact s1.symm) (by omega) o.ne2
      refine ⟨e', L + 1, 1, t', σ', p', kk, bd, a1, Tm.leaf ?_, a3, a4.trans hl20, a5, hpop, Nat.le_refl _, by omega, fun z _ => by rw [a6], fun z q1 q2 => absurd q1 (by omega)⟩
      rw [a2]
      obtain ⟨v, hv, ev, o⟩ := o
      refine ⟨v, hv, ev, ?_⟩
      rcases o with ⟨o1, o2⟩ | o
      · left
        refine ⟨o1, ?_⟩
        have : v ≠ 4 * bd := fun z => hit (by rw [ev, z])
        omega
      · exact Or.inr o
  · intro r h a b e0 T ih bd hr e L t k σ p f f' d c M hB h3' h2 h4 hc hd hbd hM hM' htop hst hb hf hf'
    subst hr
    have hlt := T.lt
    obtain ⟨f, rfl⟩ : ∃ z, f = z + 1 := ⟨f - 1, by omega⟩
    obtain ⟨f', rfl⟩ : ∃ z, f' = z + 1 := ⟨f' - 1, by omega⟩
    obtain ⟨k1', p1, p2, p3, p4, p5, p6, p7⟩ := pass_abs2 (N := N) h3' h4
    obtain ⟨e1, t1, σ1, p1', a1, a2, a3, a4, a5, a6⟩ := sym e L t k k1' σ p f f' a b bd M hB (by omega) hb h4 hM hM' htop hst (by rw [e0]; exact fun z => nI_ne_m2 (by omega) z.symm) (by rw [e0]; exact p1)
    obtain ⟨s1, s2⟩ := i5.src (by omega : a < s m)
    have h20 : σ1 20 a = -2 := by rw [(a5.1.2.2 a (by omega)).1, ← s1]; exact e0
    have TM' : Tm (σ1 20) (bd + 1) (h + 1) a b := (Tm.abs e0 T).congr (fun z q1 q2 => by
      rw [(a5.1.2.2 z (by omega)).1]; exact (i5.src (by omega : z < s m)).1.symm)
    have hend := endOf_ok (N := N) TM' (by omega) hN
    have hstep : f_X5_open_186 N (f_X5_open_93 N f') σ1 (nI i) (nI l) (nI bd) (nI a) p1' = f_X5_open_93 N f' (up2 σ1 24 bd (nI b)) (nI i) (nI l) p1' (nI (bd + 1)) (nI (a + 1)) := by
      rewrite [f_X5_open_186]
      repeat (first | with_reducible refine bnE ?_ | with_reducible refine exI ?_ | with_reducible refine exJ ?_ | with_reducible refine bs (hend) ?_ | ((with_reducible refine iN ?_ ?_); · simp (disch := omega) only [ltL, Llt, leL, Lle, eqL, addL, Ladd, subL, subN, decN, eqM, Mle, mulL, nI_add, nI_ltI, nI_leI, nI_eq, nI_clamp, up2_at, nltT, nltF, nleT, nleF, neqT, neqF, ↓reduceIte, true_or, or_true, false_or, or_false, or_self, true_and, and_true, false_and, and_false, and_self, not_true, not_false_eq_true, i10, i01, im0, im12, im21, m1lt, m2lt, m1le, m2le, i00, i0le0, i1le0, i2le0, i3le0, eq_self, h20]) | ((with_reducible refine ip ?_ ?_); · simp (disch := omega) only [ltL, Llt, leL, Lle, eqL, addL, Ladd, subL, subN, decN, eqM, Mle, mulL, nI_add, nI_ltI, nI_leI, nI_eq, nI_clamp, up2_at, nltT, nltF, nleT, nleF, neqT, neqF, ↓reduceIte, true_or, or_true, false_or, or_false, or_self, true_and, and_true, false_and, and_false, and_self, not_true, not_false_eq_true, i10, i01, im0, im12, im21, m1lt, m2lt, m1le, m2le, i00, i0le0, i1le0, i2le0, i3le0, eq_self, h20]))
      rewrite [f_X5_open_218]
      simp (disch := omega) only [ltL, Llt, leL, Lle, eqL, addL, Ladd, subL, subN, decN, eqM, Mle, mulL, nI_add, nI_ltI, nI_leI, nI_eq, nI_clamp, up2_at, nltT, nltF, nleT, nleF, neqT, neqF, ↓reduceIte, true_or, or_true, false_or, or_false, or_self, true_and, and_true, false_and, and_false, and_self, not_true, not_false_eq_true, i10, i01, im0, im12, im21, m1lt, m2lt, m1le, m2le, i00, i0le0, i1le0, i2le0, i3le0, eq_self, ]
    obtain ⟨e2, L2, h2', t2, σ2, p2', k2', M2, b1, b2, b3, b4, b5, b6, b7, b8, b9, b10⟩ := ih (bd + 1) rfl e1 (L + 1) t1 k1' (up2 σ1 24 bd (nI b)) p1' f f' (d + 1) c (bd + 1) (a5.row24 _ _) p2 (by rw [p4]; exact h2) p3 (by omega) (by omega) (by omega) (Nat.le_refl _) (by omega) (fun z q => ⟨b, by obtain rfl : bd = z := (by omega); simp (disch := omega) only [ltL, Llt, leL, Lle, eqL, addL, Ladd, subL, subN, decN, eqM, Mle, mulL, nI_add, nI_ltI, nI_leI, nI_eq, nI_clamp, up2_at, nltT, nltF, nleT, nleF, neqT, neqF, ↓reduceIte, true_or, or_true, false_or, or_false, or_self, true_and, and_true, false_and, and_false, and_self, not_true, not_false_eq_true, i10, i01, im0, im12, im21, m1lt, m2lt, m1le, m2le, i00, i0le0, i1le0, i2le0, i3le0, eq_self, ], Nat.le_refl _, by omega⟩) (fun z q1 q2 => absurd q1 (by omega)) hb (by omega) (by omega)
    have z1 : f + 1 - (b - a) = f - (b - (a + 1)) := by omega
    have z2 : f' + 1 - (b - a) = f' - (b - (a + 1)) := by omega
    rw [z1, z2]
    refine ⟨e2, L2, h2' + 1, t2, σ2, p2', k2', M2, fun z hz => by rw [b1 z (by omega), a1 z hz], Tm.abs (by rw [b1 L (by omega), a2]; exact e0) b2, a3.trans b3, (a4.trans hstep).trans b4, b5, ?_, by omega, b8, fun z hz => ?_, fun z q1 q2 => ?_⟩
    · rcases b6 with q | ⟨q1, q2, q3, q4, q5⟩
      · exact Or.inl q
      · rw [p5] at q1
        rw [p6] at q2
        rw [p7] at q4
        rw [p5, p6] at q5
        exact Or.inr ⟨q1, q2, q3, q4, q5⟩
    · rw [b9 z (by omega), ← a6]
      simp (disch := omega) only [ltL, Llt, leL, Lle, eqL, addL, Ladd, subL, subN, decN, eqM, Mle, mulL, nI_add, nI_ltI, nI_leI, nI_eq, nI_clamp, up2_at, nltT, nltF, nleT, nleF, neqT, neqF, ↓reduceIte, true_or, or_true, false_or, or_false, or_self, true_and, and_true, false_and, and_false, and_self, not_true, not_false_eq_true, i10, i01, im0, im12, im21, m1lt, m2lt, m1le, m2le, i00, i0le0, i1le0, i2le0, i3le0, eq_self, (by omega : ¬ z = bd)]
    · by_cases q : z = bd
      · subst q
        refine ⟨b, ?_, Nat.le_refl _⟩
        rw [b9 z (by omega)]
        simp (disch := omega) only [ltL, Llt, leL, Lle, eqL, addL, Ladd, subL, subN, decN, eqM, Mle, mulL, nI_add, nI_ltI, nI_leI, nI_eq, nI_clamp, up2_at, nltT, nltF, nleT, nleF, neqT, neqF, ↓reduceIte, true_or, or_true, false_or, or_false, or_self, true_and, and_true, false_and, and_false, and_self, not_true, not_false_eq_true, i10, i01, im0, im12, im21, m1lt, m2lt, m1le, m2le, i00, i0le0, i1le0, i2le0, i3le0, eq_self, ]
      · exact b10 z (by omega) q2
  · intro r h1 h2 a mm b e0 T1 T2 j1 j2 bd hr e L t k σ p f f' d c M hB h3' hk2 h4 hc hd hbd hM hM' htop hst hb hf hf'
    subst hr
    have hlt1 := T1.lt
    have hlt2 := T2.lt
    obtain ⟨f, rfl⟩ : ∃ z, f = z + 1 := ⟨f - 1, by omega⟩
    obtain ⟨f', rfl⟩ : ∃ z, f' = z + 1 := ⟨f' - 1, by omega⟩
    obtain ⟨k1', p1, p2, p3, p4, p5, p6, p7, p8⟩ := pass_app2 (N := N) h3' hk2 (by omega)
    obtain ⟨e1, t1, σ1, p1', a1, a2, a3, a4, a5, a6⟩ := sym e L t k k1' σ p f f' a b bd M hB (by omega) hb h4 hM hM' htop hst (by rw [e0]; exact fun z => nI_ne_m1 (by omega) z.symm) (by rw [e0]; exact p1)
    obtain ⟨s1, s2⟩ := i5.src (by omega : a < s m)
    have hstep := leafEnd σ1 f' a bd p1' (by rw [(a5.1.2.2 a (by omega)).1]; exact s1.symm) (by omega) (by rw [e0]; decide)
    obtain ⟨e2, L2, h2', t2, σ2, p2', k2', M2, b1, b2, b3, b4, b5, b6, b7, b8, b9, b10⟩ := j1 bd rfl e1 (L + 1) t1 k1' σ1 p1' f f' (d + 1) (c + 1) bd a5 p2 p3 (by rw [p6]; exact h4) (by omega) (by omega) (by omega) (Nat.le_refl _) (by omega) (fun z q => by obtain ⟨u, q1, q2, q3⟩ := htop z q; exact ⟨u, by rw [a6]; exact q1, by omega, q3⟩) (fun z q1 q2 => absurd q1 (by omega)) (by omega) (by omega) (by omega)
    have b6' : Pop2 k1' (c + 1) k2' := by
      rcases b6 with q | q
      · omega
      · exact q
    obtain ⟨q1, q2, q3, q4, q5⟩ := b6'
    rw [Nat.add_sub_cancel] at q1 q2 q3 q5
    obtain ⟨e3, L3, h3', t3, σ3, p3', k3', M3, c1, c2, c3, c4, c5, c6, c7, c8, c9, c10⟩ := j2 bd rfl e2 L2 t2 k2' σ2 p2' (f - (mm - (a + 1))) (f' - (mm - (a + 1))) (d + 1) c M2 b5 (by rw [q1]; exact p4) q3 (by rw [q2, p5]; exact h4) (by omega) (by omega) (by omega) b7 b8 (fun z q => by obtain ⟨u, r1, r2, r3⟩ := htop z q; exact ⟨u, by rw [b9 z (by omega), a6]; exact r1, r2, r3⟩) b10 hb (by omega) (by omega)
    have hb2 := b2.lt
    have z1 : f + 1 - (b - a) = f - (mm - (a + 1)) - (b - mm) := by omega
    have z2 : f' + 1 - (b - a) = f' - (mm - (a + 1)) - (b - mm) := by omega
    rw [z1, z2]
    refine ⟨e3, L3, 1 + max h2' h3', t3, σ3, p3', k3', M3, fun z hz => by rw [c1 z (by omega), b1 z (by omega), a1 z hz], Tm.app (by rw [c1 L (by omega), b1 L (by omega), a2]; exact e0) (b2.congr (fun z q1 q2 => c1 z q2)) c2, (a3.trans b3).trans c3, ((a4.trans hstep).trans b4).trans c4, c5, ?_, c7, c8, fun z hz => by rw [c9 z hz, b9 z hz, a6], c10⟩
    rcases c6 with q | ⟨r1, r2, r3, r4, r5⟩
    · exact Or.inl q
    · by_cases c0 : c = 0
      · exact Or.inl c0
      · refine Or.inr ⟨?_, ?_, r3, by rw [r4, q4, p7], fun z hz => ?_⟩
        · rw [r1, (q5 _ (by omega)).1, (p8 _ (by omega)).1]
        · rw [r2, (q5 _ (by omega)).2, (p8 _ (by omega)).2]
        · rw [(r5 z hz).1, (r5 z hz).2, (q5 z (by omega)).1, (q5 z (by omega)).2]; exact p8 z (by omega)
