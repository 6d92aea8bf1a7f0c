/-! PURE: abstraction's loop; a building that failed after types were made -/
theorem popA_loop {N c at' : Nat} {σ : St} {k106 : St → Int32 → Int32 → Int32 → Int32 → Int32 → Int32 → Int32 → Int32 → Option (Int32 × St)} {x1 x2 x3 x4 x5 x6 : Int32} (ha : at' < 2 ^ 31) (htop : ∀ z, c = z + 1 → ∃ u, σ 24 z = nI u ∧ at' < u ∧ u < 2 ^ 31) : ∀ M f, c ≤ M → M ≤ 121 → M - c < f → (∀ j, c ≤ j → j < M → ∃ u, σ 24 j = nI u ∧ u ≤ at') → f_X5_abstraction_119 N k106 f σ x1 x2 x3 x4 x5 x6 (nI M) (nI at') = f_X5_abstraction_144 N k106 σ x1 x2 x3 x4 x5 x6 (nI c) (nI at') := by
  intro M
  induction M with
  | zero =>
    intro f h1 h2 h3 h4
    obtain ⟨f, rfl⟩ : ∃ z, f = z + 1 := ⟨f - 1, by omega⟩
    have : c = 0 := by omega
    subst this
    rewrite [f_X5_abstraction_119]
    repeat (first | with_reducible refine bnE ?_ | with_reducible refine exI ?_ | with_reducible refine exJ ?_ | ((with_reducible refine iN ?_ ?_); · simp (disch := omega) only [ltL, Llt, leL, Lle, eqL, addL, Ladd, subL, subN, decN, eqM, Mle, mulL, nI_add, nI_ltI, nI_leI, nI_eq, nI_clamp, up2_at, nltT, nltF, nleT, nleF, neqT, neqF, ↓reduceIte, true_or, or_true, false_or, or_false, or_self, true_and, and_true, false_and, and_false, and_self, not_true, not_false_eq_true, i10, i01, im0, im12, im21, m1lt, m2lt, m1le, m2le, i00, i0le0, i1le0, i2le0, i3le0, eq_self]) | ((with_reducible refine ip ?_ ?_); · simp (disch := omega) only [ltL, Llt, leL, Lle, eqL, addL, Ladd, subL, subN, decN, eqM, Mle, mulL, nI_add, nI_ltI, nI_leI, nI_eq, nI_clamp, up2_at, nltT, nltF, nleT, nleF, neqT, neqF, ↓reduceIte, true_or, or_true, false_or, or_false, or_self, true_and, and_true, false_and, and_false, and_self, not_true, not_false_eq_true, i10, i01, im0, im12, im21, m1lt, m2lt, m1le, m2le, i00, i0le0, i1le0, i2le0, i3le0, eq_self]))
    rfl
  | succ M ih =>
    intro f h1 h2 h3 h4
    obtain ⟨f, rfl⟩ : ∃ z, f = z + 1 := ⟨f - 1, by omega⟩
    by_cases e : c = M + 1
    · subst e
      obtain ⟨u, e1, e2, e3⟩ := htop M rfl
      rewrite [f_X5_abstraction_119]
      repeat (first | with_reducible refine bnE ?_ | with_reducible refine exI ?_ | with_reducible refine exJ ?_ | ((with_reducible refine iN ?_ ?_); · simp (disch := omega) only [ltL, Llt, leL, Lle, eqL, addL, Ladd, subL, subN, decN, eqM, Mle, mulL, nI_add, nI_ltI, nI_leI, nI_eq, nI_clamp, up2_at, nltT, nltF, nleT, nleF, neqT, neqF, ↓reduceIte, true_or, or_true, false_or, or_false, or_self, true_and, and_true, false_and, and_false, and_self, not_true, not_false_eq_true, i10, i01, im0, im12, im21, m1lt, m2lt, m1le, m2le, i00, i0le0, i1le0, i2le0, i3le0, eq_self, Nat.add_sub_cancel, e1]) | ((with_reducible refine ip ?_ ?_); · simp (disch := omega) only [ltL, Llt, leL, Lle, eqL, addL, Ladd, subL, subN, decN, eqM, Mle, mulL, nI_add, nI_ltI, nI_leI, nI_eq, nI_clamp, up2_at, nltT, nltF, nleT, nleF, neqT, neqF, ↓reduceIte, true_or, or_true, false_or, or_false, or_self, true_and, and_true, false_and, and_false, and_self, not_true, not_false_eq_true, i10, i01, im0, im12, im21, m1lt, m2lt, m1le, m2le, i00, i0le0, i1le0, i2le0, i3le0, eq_self, Nat.add_sub_cancel, e1]))
      rfl
    · obtain ⟨u, e1, e2⟩ := h4 M (by omega) (by omega)
      rewrite [f_X5_abstraction_119]
      repeat (first | with_reducible refine bnE ?_ | with_reducible refine exI ?_ | with_reducible refine exJ ?_ | ((with_reducible refine iN ?_ ?_); · simp (disch := omega) only [ltL, Llt, leL, Lle, eqL, addL, Ladd, subL, subN, decN, eqM, Mle, mulL, nI_add, nI_ltI, nI_leI, nI_eq, nI_clamp, up2_at, nltT, nltF, nleT, nleF, neqT, neqF, ↓reduceIte, true_or, or_true, false_or, or_false, or_self, true_and, and_true, false_and, and_false, and_self, not_true, not_false_eq_true, i10, i01, im0, im12, im21, m1lt, m2lt, m1le, m2le, i00, i0le0, i1le0, i2le0, i3le0, eq_self, Nat.add_sub_cancel, e1]) | ((with_reducible refine ip ?_ ?_); · simp (disch := omega) only [ltL, Llt, leL, Lle, eqL, addL, Ladd, subL, subN, decN, eqM, Mle, mulL, nI_add, nI_ltI, nI_leI, nI_eq, nI_clamp, up2_at, nltT, nltF, nleT, nleF, neqT, neqF, ↓reduceIte, true_or, or_true, false_or, or_false, or_self, true_and, and_true, false_and, and_false, and_self, not_true, not_false_eq_true, i10, i01, im0, im12, im21, m1lt, m2lt, m1le, m2le, i00, i0le0, i1le0, i2le0, i3le0, eq_self, Nat.add_sub_cancel, e1]))
      simp (disch := omega) only [ltL, Llt, leL, Lle, eqL, addL, Ladd, subL, subN, decN, eqM, Mle, mulL, nI_add, nI_ltI, nI_leI, nI_eq, nI_clamp, up2_at, nltT, nltF, nleT, nleF, neqT, neqF, ↓reduceIte, true_or, or_true, false_or, or_false, or_self, true_and, and_true, false_and, and_false, and_self, not_true, not_false_eq_true, i10, i01, im0, im12, im21, m1lt, m2lt, m1le, m2le, i00, i0le0, i1le0, i2le0, i3le0, eq_self, Nat.add_sub_cancel]
      exact ih f (by omega) (by omega) (by omega) (fun j a1 a2 => h4 j a1 (by omega))
theorem bind_loop {N m i l E : Nat} {s : Nat → Nat} {Q : Int32 → Int32 → Int32 → Prop} {t0 σ0 : St} {x4 x5 : Int32} (hN : 34100 < N) (hm : m < 512) (B : Bs m (s m) t0 σ0) (k6 : ∀ z, z ≤ m → t0 2 z = nI (s z) ∧ σ0 19 z = nI (s z)) (c20 : ∀ z, z < s m → t0 0 z = σ0 20 z) (hhit : ∀ z, z < s m → ((t0 0 z = t0 0 (s i) ∧ t0 1 z = t0 1 (s i)) ↔ (σ0 20 z = σ0 20 (s i) ∧ σ0 21 z = σ0 21 (s i)))) (hQ : ∀ z, z < s m → ∀ c, c ≠ -2 ∨ c = t0 0 z → Q c (t0 1 z) (σ0 21 z)) (hi : i < m) (hl : l < m) (eE : E = s (l + 1)) (l2 : s (l + 1) ≤ s m) (l3 : s i < s m) (hfree : ∃ c, c < 1000 ∧ t0 0 (s i) = nI (4 * c + 1)) {r h a b : Nat} (T : Tm (t0 0) r h a b) :
    ∀ bd, r = bd → ∀ e L t k σ p f f' d c M, Bd Q e (s m) L t0 σ0 t σ p → k 3 0 = nI d → k 2 0 = nI c → k 4 0 = nI bd → c + 1 ≤ d → d + h ≤ 122 → bd ≤ d → bd ≤ M → M ≤ 121 → (∀ z, bd = z + 1 → ∃ u, σ 24 z = nI u ∧ b ≤ u ∧ u < 2 ^ 31) → (∀ z, bd ≤ z → z < M → ∃ u, σ 24 z = nI u ∧ u ≤ a) → b ≤ E → E - a < f → E - a < f' → ∃ e' L' h' t' σ' p' k' M', (∀ z, z < L → e' z = e z) ∧ Tm e' (bd + 1) h' L L' ∧ f_X1_addBinding_13 N f t k (nI i) (nI l) (nI a) = f_X1_addBinding_13 N (f - (b - a)) t' k' (nI i) (nI l) (nI b) ∧ f_X5_abstraction_106 N f' σ (nI i) (nI l) (t0 0 (s i)) x4 x5 p (nI M) (nI a) = f_X5_abstraction_106 N (f' - (b - a)) σ' (nI i) (nI l) (t0 0 (s i)) x4 x5 p' (nI M') (nI b) ∧ Bd Q e' (s m) L' t0 σ0 t' σ' p' ∧ (c = 0 ∨ Pop2 k c k') ∧ bd ≤ M' ∧ M' ≤ 121 ∧ (∀ z, z < bd → σ' 24 z = σ 24 z) ∧ (∀ z, bd ≤ z → z < M' → ∃ u, σ' 24 z = nI u ∧ u ≤ b) := by
  have hS : s m ≤ 30000 := B.2.1
  subst eE
  have frame : ∀ {e L t σ p}, Bd Q e (s m) L t0 σ0 t σ p → (t 2 = t0 2) ∧ (σ 19 = σ0 19) ∧ (∀ z, z < s m → t 0 z = t0 0 z ∧ t 1 z = t0 1 z ∧ σ 20 z = σ0 20 z ∧ σ 21 z = σ0 21 z) := by
    intro e L t σ p hB
    exact ⟨hB.2.1 2 (by decide) (by decide) (by decide) (by decide), hB.1.2.1 19 (by decide) (by decide) (by decide), fun z hz => ⟨(hB.2.2.1 z hz).1, (hB.2.2.1 z hz).2, (hB.1.2.2 z hz).1, (hB.1.2.2 z hz).2⟩⟩
  -- any symbol: cc is what is written
  have sym : ∀ e L t k k1 σ p f f' a b bd M cc, Bd Q e (s m) L t0 σ0 t σ p → a < b → b ≤ s (l + 1) → k 4 0 = nI bd → bd ≤ M → M ≤ 121 → (∀ z, bd = z + 1 → ∃ u, σ 24 z = nI u ∧ b ≤ u ∧ u < 2 ^ 31) → (∀ z, bd ≤ z → z < M → ∃ u, σ 24 z = nI u ∧ u ≤ a) → cc = (if t0 0 a = t0 0 (s i) ∧ t0 1 a = t0 1 (s i) then nI (4 * bd) else t0 0 a) → f_X3_pass N k cc = some k1 → ∃ e' t' σ' p', (∀ z, z < L → e' z = e z) ∧ e' L = cc ∧ f_X1_addBinding_13 N (f + 1) t k (nI i) (nI l) (nI a) = f_X1_addBinding_13 N f t' k1 (nI i) (nI l) (nI (a + 1)) ∧ f_X5_abstraction_106 N (f' + 1) σ (nI i) (nI l) (t0 0 (s i)) x4 x5 p (nI M) (nI a) = f_X5_abstraction_199 N (f_X5_abstraction_106 N f') σ' (nI i) (nI l) (t0 0 (s i)) x4 x5 (nI bd) (nI a) p' ∧ Bd Q e' (s m) (L + 1) t0 σ0 t' σ' p' ∧ σ' 24 = σ 24 := by
    intro e L t k k1 σ p f f' a b bd M cc hB hab hb h4 hM hM' htop hst hcc hpass
    obtain ⟨f1, f2, f3⟩ := frame hB
    obtain ⟨f4, f5, f6, f7⟩ := f3 a (by omega)
    obtain ⟨g4, g5, g6, g7⟩ := f3 (s i) l3
    have s1 := c20 a (by omega)
    have s3 := c20 (s i) l3
    have hend := end_ok (N := N) (t := t) (k := k) (by omega : l < 512)
    rw [f1, (k6 (l + 1) (by omega)).1] at hend
    have hC := isVarC (N := N) (k := k) (t := t) (by omega : i < 513) (by rw [f1]; exact (k6 i (by omega)).1) (by omega) (by omega : a < 30000)
    rw [f4, f5, g4, g5] at hC
    have hM0 := isVarM (N := N) (σ := σ) (c := t0 0 (s i)) (ty := σ0 21 (s i)) (by omega : a < 34100)
    have hiff := hhit a (by omega)
    rw [f6, f7, s3] at hM0
    have htopT := topType_ok (N := N) (σ := σ) (by omega : i < 4201) (by rw [f2]; exact (k6 i (by omega)).2) (by omega)
    rw [g7] at htopT
    have hQa : Q cc (t0 1 a) (σ0 21 a) := by
      refine hQ a (by omega) cc ?_
      rw [hcc]
      split
      · exact Or.inl (nI_ne_m2 (by omega))
      · exact Or.inr rfl
    obtain ⟨e', t', σ', p', a1, a2, a3, a4, a5, a6⟩ := Bd.add1 (N := N) (k := k) cc B hB hQa
    have hcd := code_ok (N := N) (t := t) (k := k) (by omega : a < 30000)
    have hsy := sty_ok (N := N) (t := t) (k := k) (by omega : a < 30000)
    rw [f4] at hcd
    rw [f5] at hsy
    have har : f_X3_around N k = some (nI bd, k) := by rw [f_X3_around, h4]
    have hco : f_X4_codeOf N 0 (nI bd) = some (nI (4 * bd), ()) := by
      rewrite [f_X4_codeOf]; simp (disch := omega) only [ltL, Llt, leL, Lle, eqL, addL, Ladd, subL, subN, decN, eqM, Mle, mulL, nI_add, nI_ltI, nI_leI, nI_eq, nI_clamp, up2_at, nltT, nltF, nleT, nleF, neqT, neqF, ↓reduceIte, true_or, or_true, false_or, or_false, or_self, true_and, and_true, false_and, and_false, and_self, not_true, not_false_eq_true, i10, i01, im0, im12, im21, m1lt, m2lt, m1le, m2le, i00, i0le0, i1le0, i2le0, i3le0, eq_self, Int32.add_zero]
    refine ⟨e', t', σ', p', a1, a2, ?_, ?_, a5, a6⟩
    · by_cases hit : t0 0 a = t0 0 (s i) ∧ t0 1 a = t0 1 (s i)
      · rw [if_pos hit] at hC hcc
        subst hcc
        rewrite [f_X1_addBinding_13]
        repeat (first | with_reducible refine bnE ?_ | with_reducible refine exI ?_ | with_reducible refine exJ ?_ | with_reducible refine bs (hend) ?_ | with_reducible refine bs (hC) ?_ | with_reducible refine bs (har) ?_ | with_reducible refine bs (hco) ?_ | ((with_reducible refine iN ?_ ?_); · simp (disch := omega) only [ltL, Llt, leL, Lle, eqL, addL, Ladd, subL, subN, decN, eqM, Mle, mulL, nI_add, nI_ltI, nI_leI, nI_eq, nI_clamp, up2_at, nltT, nltF, nleT, nleF, neqT, neqF, ↓reduceIte, true_or, or_true, false_or, or_false, or_self, true_and, and_true, false_and, and_false, and_self, not_true, not_false_eq_true, i10, i01, im0, im12, im21, m1lt, m2lt, m1le, m2le, i00, i0le0, i1le0, i2le0, i3le0, eq_self]) | ((with_reducible refine ip ?_ ?_); · simp (disch := omega) only [ltL, Llt, leL, Lle, eqL, addL, Ladd, subL, subN, decN, eqM, Mle, mulL, nI_add, nI_ltI, nI_leI, nI_eq, nI_clamp, up2_at, nltT, nltF, nleT, nleF, neqT, neqF, ↓reduceIte, true_or, or_true, false_or, or_false, or_self, true_and, and_true, false_and, and_false, and_self, not_true, not_false_eq_true, i10, i01, im0, im12, im21, m1lt, m2lt, m1le, m2le, i00, i0le0, i1le0, i2le0, i3le0, eq_self]))
        rewrite [f_X1_addBinding_50]
        repeat (first | with_reducible refine bnE ?_ | with_reducible refine exI ?_ | with_reducible refine exJ ?_ | with_reducible refine bs (hsy) ?_ | with_reducible refine bs (a3) ?_ | with_reducible refine bs (hpass) ?_ | ((with_reducible refine iN ?_ ?_); · simp (disch := omega) only [ltL, Llt, leL, Lle, eqL, addL, Ladd, subL, subN, decN, eqM, Mle, mulL, nI_add, nI_ltI, nI_leI, nI_eq, nI_clamp, up2_at, nltT, nltF, nleT, nleF, neqT, neqF, ↓reduceIte, true_or, or_true, false_or, or_false, or_self, true_and, and_true, false_and, and_false, and_self, not_true, not_false_eq_true, i10, i01, im0, im12, im21, m1lt, m2lt, m1le, m2le, i00, i0le0, i1le0, i2le0, i3le0, eq_self]) | ((with_reducible refine ip ?_ ?_); · simp (disch := omega) only [ltL, Llt, leL, Lle, eqL, addL, Ladd, subL, subN, decN, eqM, Mle, mulL, nI_add, nI_ltI, nI_leI, nI_eq, nI_clamp, up2_at, nltT, nltF, nleT, nleF, neqT, neqF, ↓reduceIte, true_or, or_true, false_or, or_false, or_self, true_and, and_true, false_and, and_false, and_self, not_true, not_false_eq_true, i10, i01, im0, im12, im21, m1lt, m2lt, m1le, m2le, i00, i0le0, i1le0, i2le0, i3le0, eq_self]))
        simp (disch := omega) only [ltL, Llt, leL, Lle, eqL, addL, Ladd, subL, subN, decN, eqM, Mle, mulL, nI_add, nI_ltI, nI_leI, nI_eq, nI_clamp, up2_at, nltT, nltF, nleT, nleF, neqT, neqF, ↓reduceIte, true_or, or_true, false_or, or_false, or_self, true_and, and_true, false_and, and_false, and_self, not_true, not_false_eq_true, i10, i01, im0, im12, im21, m1lt, m2lt, m1le, m2le, i00, i0le0, i1le0, i2le0, i3le0, eq_self, ]
      · rw [if_neg hit] at hC hcc
        subst hcc
        rewrite [f_X1_addBinding_13]
        repeat (first | with_reducible refine bnE ?_ | with_reducible refine exI ?_ | with_reducible refine exJ ?_ | with_reducible refine bs (hend) ?_ | with_reducible refine bs (hC) ?_ | with_reducible refine bs (hcd) ?_ | ((with_reducible refine iN ?_ ?_); · simp (disch := omega) only [ltL, Llt, leL, Lle, eqL, addL, Ladd, subL, subN, decN, eqM, Mle, mulL, nI_add, nI_ltI, nI_leI, nI_eq, nI_clamp, up2_at, nltT, nltF, nleT, nleF, neqT, neqF, ↓reduceIte, true_or, or_true, false_or, or_false, or_self, true_and, and_true, false_and, and_false, and_self, not_true, not_false_eq_true, i10, i01, im0, im12, im21, m1lt, m2lt, m1le, m2le, i00, i0le0, i1le0, i2le0, i3le0, eq_self]) | ((with_reducible refine ip ?_ ?_); · simp (disch := omega) only [ltL, Llt, leL, Lle, eqL, addL, Ladd, subL, subN, decN, eqM, Mle, mulL, nI_add, nI_ltI, nI_leI, nI_eq, nI_clamp, up2_at, nltT, nltF, nleT, nleF, neqT, neqF, ↓reduceIte, true_or, or_true, false_or, or_false, or_self, true_and, and_true, false_and, and_false, and_self, not_true, not_false_eq_true, i10, i01, im0, im12, im21, m1lt, m2lt, m1le, m2le, i00, i0le0, i1le0, i2le0, i3le0, eq_self]))
        rewrite [f_X1_addBinding_50]
        repeat (first | with_reducible refine bnE ?_ | with_reducible refine exI ?_ | with_reducible refine exJ ?_ | with_reducible refine bs (hsy) ?_ | with_reducible refine bs (a3) ?_ | with_reducible refine bs (hpass) ?_ | ((with_reducible refine iN ?_ ?_); · simp (disch := omega) only [ltL, Llt, leL, Lle, eqL, addL, Ladd, subL, subN, decN, eqM, Mle, mulL, nI_add, nI_ltI, nI_leI, nI_eq, nI_clamp, up2_at, nltT, nltF, nleT, nleF, neqT, neqF, ↓reduceIte, true_or, or_true, false_or, or_false, or_self, true_and, and_true, false_and, and_false, and_self, not_true, not_false_eq_true, i10, i01, im0, im12, im21, m1lt, m2lt, m1le, m2le, i00, i0le0, i1le0, i2le0, i3le0, eq_self]) | ((with_reducible refine ip ?_ ?_); · simp (disch := omega) only [ltL, Llt, leL, Lle, eqL, addL, Ladd, subL, subN, decN, eqM, Mle, mulL, nI_add, nI_ltI, nI_leI, nI_eq, nI_clamp, up2_at, nltT, nltF, nleT, nleF, neqT, neqF, ↓reduceIte, true_or, or_true, false_or, or_false, or_self, true_and, and_true, false_and, and_false, and_self, not_true, not_false_eq_true, i10, i01, im0, im12, im21, m1lt, m2lt, m1le, m2le, i00, i0le0, i1le0, i2le0, i3le0, eq_self]))
        simp (disch := omega) only [ltL, Llt, leL, Lle, eqL, addL, Ladd, subL, subN, decN, eqM, Mle, mulL, nI_add, nI_ltI, nI_leI, nI_eq, nI_clamp, up2_at, nltT, nltF, nleT, nleF, neqT, neqF, ↓reduceIte, true_or, or_true, false_or, or_false, or_self, true_and, and_true, false_and, and_false, and_self, not_true, not_false_eq_true, i10, i01, im0, im12, im21, m1lt, m2lt, m1le, m2le, i00, i0le0, i1le0, i2le0, i3le0, eq_self, ]
    · rewrite [f_X5_abstraction_106]
      simp (disch := omega) only [addL, nI_clamp, f2, (k6 (l + 1) (by omega)).2]
      repeat (first | with_reducible refine bnE ?_ | with_reducible refine exI ?_ | with_reducible refine exJ ?_ | ((with_reducible refine iN ?_ ?_); · simp (disch := omega) only [ltL, Llt, leL, Lle, eqL, addL, Ladd, subL, subN, decN, eqM, Mle, mulL, nI_add, nI_ltI, nI_leI, nI_eq, nI_clamp, up2_at, nltT, nltF, nleT, nleF, neqT, neqF, ↓reduceIte, true_or, or_true, false_or, or_false, or_self, true_and, and_true, false_and, and_false, and_self, not_true, not_false_eq_true, i10, i01, im0, im12, im21, m1lt, m2lt, m1le, m2le, i00, i0le0, i1le0, i2le0, i3le0, eq_self]) | ((with_reducible refine ip ?_ ?_); · simp (disch := omega) only [ltL, Llt, leL, Lle, eqL, addL, Ladd, subL, subN, decN, eqM, Mle, mulL, nI_add, nI_ltI, nI_leI, nI_eq, nI_clamp, up2_at, nltT, nltF, nleT, nleF, neqT, neqF, ↓reduceIte, true_or, or_true, false_or, or_false, or_self, true_and, and_true, false_and, and_false, and_self, not_true, not_false_eq_true, i10, i01, im0, im12, im21, m1lt, m2lt, m1le, m2le, i00, i0le0, i1le0, i2le0, i3le0, eq_self]))
      rewrite [popA_loop (c := bd) (by omega) (fun z q => by obtain ⟨u, e1, e2, e3⟩ := htop z q; exact ⟨u, e1, by omega, e3⟩) M N hM hM' (by omega) hst]
      by_cases hit : t0 0 a = t0 0 (s i) ∧ t0 1 a = t0 1 (s i)
      · rw [if_pos hit] at hcc
        rw [if_pos (hiff.mp hit), ← s3] at hM0
        subst hcc
        rewrite [f_X5_abstraction_144]
        repeat (first | with_reducible refine bnE ?_ | with_reducible refine exI ?_ | with_reducible refine exJ ?_ | with_reducible refine bs (htopT) ?_ | with_reducible refine bs (hM0) ?_ | ((with_reducible refine iN ?_ ?_); · simp (disch := omega) only [ltL, Llt, leL, Lle, eqL, addL, Ladd, subL, subN, decN, eqM, Mle, mulL, nI_add, nI_ltI, nI_leI, nI_eq, nI_clamp, up2_at, nltT, nltF, nleT, nleF, neqT, neqF, ↓reduceIte, true_or, or_true, false_or, or_false, or_self, true_and, and_true, false_and, and_false, and_self, not_true, not_false_eq_true, i10, i01, im0, im12, im21, m1lt, m2lt, m1le, m2le, i00, i0le0, i1le0, i2le0, i3le0, eq_self]) | ((with_reducible refine ip ?_ ?_); · simp (disch := omega) only [ltL, Llt, leL, Lle, eqL, addL, Ladd, subL, subN, decN, eqM, Mle, mulL, nI_add, nI_ltI, nI_leI, nI_eq, nI_clamp, up2_at, nltT, nltF, nleT, nleF, neqT, neqF, ↓reduceIte, true_or, or_true, false_or, or_false, or_self, true_and, and_true, false_and, and_false, and_self, not_true, not_false_eq_true, i10, i01, im0, im12, im21, m1lt, m2lt, m1le, m2le, i00, i0le0, i1le0, i2le0, i3le0, eq_self]))
        simp (disch := omega) only [nI_clamp, f6, f7, mulL]
        repeat (first | with_reducible refine bnE ?_ | with_reducible refine exI ?_ | with_reducible refine exJ ?_ | with_reducible refine bs (a4) ?_ | ((with_reducible refine iN ?_ ?_); · simp (disch := omega) only [ltL, Llt, leL, Lle, eqL, addL, Ladd, subL, subN, decN, eqM, Mle, mulL, nI_add, nI_ltI, nI_leI, nI_eq, nI_clamp, up2_at, nltT, nltF, nleT, nleF, neqT, neqF, ↓reduceIte, true_or, or_true, false_or, or_false, or_self, true_and, and_true, false_and, and_false, and_self, not_true, not_false_eq_true, i10, i01, im0, im12, im21, m1lt, m2lt, m1le, m2le, i00, i0le0, i1le0, i2le0, i3le0, eq_self]) | ((with_reducible refine ip ?_ ?_); · simp (disch := omega) only [ltL, Llt, leL, Lle, eqL, addL, Ladd, subL, subN, decN, eqM, Mle, mulL, nI_add, nI_ltI, nI_leI, nI_eq, nI_clamp, up2_at, nltT, nltF, nleT, nleF, neqT, neqF, ↓reduceIte, true_or, or_true, false_or, or_false, or_self, true_and, and_true, false_and, and_false, and_self, not_true, not_false_eq_true, i10, i01, im0, im12, im21, m1lt, m2lt, m1le, m2le, i00, i0le0, i1le0, i2le0, i3le0, eq_self]))
        rfl
      · rw [if_neg hit] at hcc
        rw [if_neg (fun z => hit (hiff.mpr z)), ← s3] at hM0
        subst hcc
        rw [s1] at a4
        rewrite [f_X5_abstraction_144]
        repeat (first | with_reducible refine bnE ?_ | with_reducible refine exI ?_ | with_reducible refine exJ ?_ | with_reducible refine bs (htopT) ?_ | with_reducible refine bs (hM0) ?_ | ((with_reducible refine iN ?_ ?_); · simp (disch := omega) only [ltL, Llt, leL, Lle, eqL, addL, Ladd, subL, subN, decN, eqM, Mle, mulL, nI_add, nI_ltI, nI_leI, nI_eq, nI_clamp, up2_at, nltT, nltF, nleT, nleF, neqT, neqF, ↓reduceIte, true_or, or_true, false_or, or_false, or_self, true_and, and_true, false_and, and_false, and_self, not_true, not_false_eq_true, i10, i01, im0, im12, im21, m1lt, m2lt, m1le, m2le, i00, i0le0, i1le0, i2le0, i3le0, eq_self]) | ((with_reducible refine ip ?_ ?_); · simp (disch := omega) only [ltL, Llt, leL, Lle, eqL, addL, Ladd, subL, subN, decN, eqM, Mle, mulL, nI_add, nI_ltI, nI_leI, nI_eq, nI_clamp, up2_at, nltT, nltF, nleT, nleF, neqT, neqF, ↓reduceIte, true_or, or_true, false_or, or_false, or_self, true_and, and_true, false_and, and_false, and_self, not_true, not_false_eq_true, i10, i01, im0, im12, im21, m1lt, m2lt, m1le, m2le, i00, i0le0, i1le0, i2le0, i3le0, eq_self]))
        simp (disch := omega) only [nI_clamp, f6, f7]
        repeat (first | with_reducible refine bnE ?_ | with_reducible refine exI ?_ | with_reducible refine exJ ?_ | with_reducible refine bs (a4) ?_ | ((with_reducible refine iN ?_ ?_); · simp (disch := omega) only [ltL, Llt, leL, Lle, eqL, addL, Ladd, subL, subN, decN, eqM, Mle, mulL, nI_add, nI_ltI, nI_leI, nI_eq, nI_clamp, up2_at, nltT, nltF, nleT, nleF, neqT, neqF, ↓reduceIte, true_or, or_true, false_or, or_false, or_self, true_and, and_true, false_and, and_false, and_self, not_true, not_false_eq_true, i10, i01, im0, im12, im21, m1lt, m2lt, m1le, m2le, i00, i0le0, i1le0, i2le0, i3le0, eq_self]) | ((with_reducible refine ip ?_ ?_); · simp (disch := omega) only [ltL, Llt, leL, Lle, eqL, addL, Ladd, subL, subN, decN, eqM, Mle, mulL, nI_add, nI_ltI, nI_leI, nI_eq, nI_clamp, up2_at, nltT, nltF, nleT, nleF, neqT, neqF, ↓reduceIte, true_or, or_true, false_or, or_false, or_self, true_and, and_true, false_and, and_false, and_self, not_true, not_false_eq_true, i10, i01, im0, im12, im21, m1lt, m2lt, m1le, m2le, i00, i0le0, i1le0, i2le0, i3le0, eq_self]))
        rfl
  have leafEnd : ∀ (σ : St) f' a bd p, σ 20 a = t0 0 a → a < s m → t0 0 a ≠ -2 → f_X5_abstraction_199 N (f_X5_abstraction_106 N f') σ (nI i) (nI l) (t0 0 (s i)) x4 x5 (nI bd) (nI a) p = f_X5_abstraction_106 N f' σ (nI i) (nI l) (t0 0 (s i)) x4 x5 p (nI bd) (nI (a + 1)) := by
    intro σ f' a bd p h20 ha hne
    have hne' : ¬ σ 20 a = -2 := fun z => hne (h20.symm.trans z)
    rewrite [f_X5_abstraction_199]
    repeat (first | with_reducible refine bnE ?_ | with_reducible refine exI ?_ | with_reducible refine exJ ?_ | ((with_reducible refine iN ?_ ?_); · simp (disch := omega) only [ltL, Llt, leL, Lle, eqL, addL, Ladd, subL, subN, decN, eqM, Mle, mulL, nI_add, nI_ltI, nI_leI, nI_eq, nI_clamp, up2_at, nltT, nltF, nleT, nleF, neqT, neqF, ↓reduceIte, true_or, or_true, false_or, or_false, or_self, true_and, and_true, false_and, and_false, and_self, not_true, not_false_eq_true, i10, i01, im0, im12, im21, m1lt, m2lt, m1le, m2le, i00, i0le0, i1le0, i2le0, i3le0, eq_self, hne']) | ((with_reducible refine ip ?_ ?_); · simp (disch := omega) only [ltL, Llt, leL, Lle, eqL, addL, Ladd, subL, subN, decN, eqM, Mle, mulL, nI_add, nI_ltI, nI_leI, nI_eq, nI_clamp, up2_at, nltT, nltF, nleT, nleF, neqT, neqF, ↓reduceIte, true_or, or_true, false_or, or_false, or_self, true_and, and_true, false_and, and_false, and_self, not_true, not_false_eq_true, i10, i01, im0, im12, im21, m1lt, m2lt, m1le, m2le, i00, i0le0, i1le0, i2le0, i3le0, eq_self, hne']))
    rewrite [f_X5_abstraction_232]
    simp (disch := omega) only [ltL, Llt, leL, Lle, eqL, addL, Ladd, subL, subN, decN, eqM, Mle, mulL, nI_add, nI_ltI, nI_leI, nI_eq, nI_clamp, up2_at, nltT, nltF, nleT, nleF, neqT, neqF, ↓reduceIte, true_or, or_true, false_or, or_false, or_self, true_and, and_true, false_and, and_false, and_self, not_true, not_false_eq_true, i10, i01, im0, im12, im21, m1lt, m2lt, m1le, m2le, i00, i0le0, i1le0, i2le0, i3le0, eq_self, ]
  refine Tm.ind (c := t0 0) (P := fun r h a b => ∀ bd, r = bd → ∀ e L t k σ p f f' d c M, Bd Q e (s m) L t0 σ0 t σ p → k 3 0 = nI d → k 2 0 = nI c → k 4 0 = nI bd → c + 1 ≤ d → d + h ≤ 122 → bd ≤ d → bd ≤ M → M ≤ 121 → (∀ z, bd = z + 1 → ∃ u, σ 24 z = nI u ∧ b ≤ u ∧ u < 2 ^ 31) → (∀ z, bd ≤ z → z < M → ∃ u, σ 24 z = nI u ∧ u ≤ a) → b ≤ s (l + 1) → s (l + 1) - a < f → s (l + 1) - a < f' → ∃ e' L' h' t' σ' p' k' M', (∀ z, z < L → e' z = e z) ∧ Tm e' (bd + 1) h' L L' ∧ f_X1_addBinding_13 N f t k (nI i) (nI l) (nI a) = f_X1_addBinding_13 N (f - (b - a)) t' k' (nI i) (nI l) (nI b) ∧ f_X5_abstraction_106 N f' σ (nI i) (nI l) (t0 0 (s i)) x4 x5 p (nI M) (nI a) = f_X5_abstraction_106 N (f' - (b - a)) σ' (nI i) (nI l) (t0 0 (s i)) x4 x5 p' (nI M') (nI b) ∧ Bd Q e' (s m) L' t0 σ0 t' σ' p' ∧ (c = 0 ∨ Pop2 k c k') ∧ bd ≤ M' ∧ M' ≤ 121 ∧ (∀ z, z < bd → σ' 24 z = σ 24 z) ∧ (∀ z, bd ≤ z → z < M' → ∃ u, σ' 24 z = nI u ∧ u ≤ b)) ?_ ?_ ?_ T
  · intro r a o bd hr e L t k σ p f f' d c M hB h3' h2 h4 hc hd hbd hM hM' htop hst hb hf hf'
    subst hr
    obtain ⟨f, rfl⟩ : ∃ z, f = z + 1 := ⟨f - 1, by omega⟩
    obtain ⟨f', rfl⟩ : ∃ z, f' = z + 1 := ⟨f' - 1, by omega⟩
    have z1 : f + 1 - (a + 1 - a) = f := by omega
    have z2 : f' + 1 - (a + 1 - a) = f' := by omega
    rw [z1, z2]
    have s1 := c20 a (by omega)
    obtain ⟨cc, hcc⟩ : ∃ cc, cc = (if t0 0 a = t0 0 (s i) ∧ t0 1 a = t0 1 (s i) then nI (4 * r) else t0 0 a) := ⟨_, rfl⟩
    have occ : Okl (r + 1) cc := by
      rw [hcc]
      split
      · exact ⟨4 * r, by omega, rfl, by omega⟩
      · exact o.mono (by omega)
    obtain ⟨kk, p1, p2⟩ := pass_leaf2 (N := N) (v := cc) occ.ne1 occ.ne2 h2 (by omega)
    have hpop : c = 0 ∨ Pop2 k c kk := by
      rcases p2 with ⟨q, -⟩ | ⟨-, q⟩
      · exact Or.inl q
      · exact Or.inr q
    obtain ⟨e', t', σ', p', a1, a2, a3, a4, a5, a6⟩ := sym e L t k kk σ p f f' a (a + 1) r M cc hB (by omega) hb h4 hM hM' htop hst hcc p1
    have hl20 := leafEnd σ' f' a r p' (by rw [(a5.1.2.2 a (by omega)).1]; exact s1.symm) (by omega) o.ne2
    exact ⟨e', L + 1, 1, t', σ', p', kk, r, a1, Tm.leaf (by rw [a2]; exact occ), a3, a4.trans hl20, a5, hpop, Nat.le_refl _, by omega, fun z _ => by rw [a6], fun z q1 q2 => absurd q1 (by omega)⟩
  · intro r h a b e0 T ih bd hr e L t k σ p f f' d c M hB h3' h2 h4 hc hd hbd hM hM' htop hst hb hf hf'
    subst hr
    have hlt := T.lt
    obtain ⟨f, rfl⟩ : ∃ z, f = z + 1 := ⟨f - 1, by omega⟩
    obtain ⟨f', rfl⟩ : ∃ z, f' = z + 1 := ⟨f' - 1, by omega⟩
    obtain ⟨k1', p1, p2, p3, p4, p5, p6, p7⟩ := pass_abs2 (N := N) h3' h4
    have hno : ¬ (t0 0 a = t0 0 (s i) ∧ t0 1 a = t0 1 (s i)) := fun z => by
      obtain ⟨c, hc, ec⟩ := hfree
      rw [e0, ec] at z
      exact nI_ne_m2 (by omega) z.1.symm
    obtain ⟨e1, t1, σ1, p1', a1, a2, a3, a4, a5, a6⟩ := sym e L t k k1' σ p f f' a b r M (t0 0 a) hB (by omega) hb h4 hM hM' htop hst (by rw [if_neg hno]) (by rw [e0]; exact p1)
    have s1 := c20 a (by omega)
    have h20 : σ1 20 a = -2 := by rw [(a5.1.2.2 a (by omega)).1, ← s1]; exact e0
    have TM' : Tm (σ1 20) r (h + 1) a b := (Tm.abs e0 T).congr (fun z q1 q2 => by
      rw [(a5.1.2.2 z (by omega)).1]; exact (c20 z (by omega)).symm)
    have hend := endOf_ok (N := N) TM' (by omega) hN
    have hstep : f_X5_abstraction_199 N (f_X5_abstraction_106 N f') σ1 (nI i) (nI l) (t0 0 (s i)) x4 x5 (nI r) (nI a) p1' = f_X5_abstraction_106 N f' (up2 σ1 24 r (nI b)) (nI i) (nI l) (t0 0 (s i)) x4 x5 p1' (nI (r + 1)) (nI (a + 1)) := by
      rewrite [f_X5_abstraction_199]
      repeat (first | with_reducible refine bnE ?_ | with_reducible refine exI ?_ | with_reducible refine exJ ?_ | with_reducible refine bs (hend) ?_ | ((with_reducible refine iN ?_ ?_); · simp (disch := omega) only [ltL, Llt, leL, Lle, eqL, addL, Ladd, subL, subN, decN, eqM, Mle, mulL, nI_add, nI_ltI, nI_leI, nI_eq, nI_clamp, up2_at, nltT, nltF, nleT, nleF, neqT, neqF, ↓reduceIte, true_or, or_true, false_or, or_false, or_self, true_and, and_true, false_and, and_false, and_self, not_true, not_false_eq_true, i10, i01, im0, im12, im21, m1lt, m2lt, m1le, m2le, i00, i0le0, i1le0, i2le0, i3le0, eq_self, h20]) | ((with_reducible refine ip ?_ ?_); · simp (disch := omega) only [ltL, Llt, leL, Lle, eqL, addL, Ladd, subL, subN, decN, eqM, Mle, mulL, nI_add, nI_ltI, nI_leI, nI_eq, nI_clamp, up2_at, nltT, nltF, nleT, nleF, neqT, neqF, ↓reduceIte, true_or, or_true, false_or, or_false, or_self, true_and, and_true, false_and, and_false, and_self, not_true, not_false_eq_true, i10, i01, im0, im12, im21, m1lt, m2lt, m1le, m2le, i00, i0le0, i1le0, i2le0, i3le0, eq_self, h20]))
      rewrite [f_X5_abstraction_232]
      simp (disch := omega) only [ltL, Llt, leL, Lle, eqL, addL, Ladd, subL, subN, decN, eqM, Mle, mulL, nI_add, nI_ltI, nI_leI, nI_eq, nI_clamp, up2_at, nltT, nltF, nleT, nleF, neqT, neqF, ↓reduceIte, true_or, or_true, false_or, or_false, or_self, true_and, and_true, false_and, and_false, and_self, not_true, not_false_eq_true, i10, i01, im0, im12, im21, m1lt, m2lt, m1le, m2le, i00, i0le0, i1le0, i2le0, i3le0, eq_self, ]
    obtain ⟨e2, L2, h2', t2, σ2, p2', k2', M2, b1, b2, b3, b4, b5, b6, b7, b8, b9, b10⟩ := ih (r + 1) rfl e1 (L + 1) t1 k1' (up2 σ1 24 r (nI b)) p1' f f' (d + 1) c (r + 1) (a5.row24 _ _) p2 (by rw [p4]; exact h2) p3 (by omega) (by omega) (by omega) (Nat.le_refl _) (by omega) (fun z q => ⟨b, by obtain rfl : r = z := (by omega); simp (disch := omega) only [ltL, Llt, leL, Lle, eqL, addL, Ladd, subL, subN, decN, eqM, Mle, mulL, nI_add, nI_ltI, nI_leI, nI_eq, nI_clamp, up2_at, nltT, nltF, nleT, nleF, neqT, neqF, ↓reduceIte, true_or, or_true, false_or, or_false, or_self, true_and, and_true, false_and, and_false, and_self, not_true, not_false_eq_true, i10, i01, im0, im12, im21, m1lt, m2lt, m1le, m2le, i00, i0le0, i1le0, i2le0, i3le0, eq_self, ], Nat.le_refl _, by omega⟩) (fun z q1 q2 => absurd q1 (by omega)) hb (by omega) (by omega)
    have z1 : f + 1 - (b - a) = f - (b - (a + 1)) := by omega
    have z2 : f' + 1 - (b - a) = f' - (b - (a + 1)) := by omega
    rw [z1, z2]
    refine ⟨e2, L2, h2' + 1, t2, σ2, p2', k2', M2, fun z hz => by rw [b1 z (by omega), a1 z hz], Tm.abs (by rw [b1 L (by omega), a2]; exact e0) b2, a3.trans b3, (a4.trans hstep).trans b4, b5, ?_, by omega, b8, fun z hz => ?_, fun z q1 q2 => ?_⟩
    · rcases b6 with q | ⟨q1, q2, q3, q4, q5⟩
      · exact Or.inl q
      · rw [p5] at q1
        rw [p6] at q2
        rw [p7] at q4
        rw [p5, p6] at q5
        exact Or.inr ⟨q1, q2, q3, q4, q5⟩
    · rw [b9 z (by omega), ← a6]
      simp (disch := omega) only [ltL, Llt, leL, Lle, eqL, addL, Ladd, subL, subN, decN, eqM, Mle, mulL, nI_add, nI_ltI, nI_leI, nI_eq, nI_clamp, up2_at, nltT, nltF, nleT, nleF, neqT, neqF, ↓reduceIte, true_or, or_true, false_or, or_false, or_self, true_and, and_true, false_and, and_false, and_self, not_true, not_false_eq_true, i10, i01, im0, im12, im21, m1lt, m2lt, m1le, m2le, i00, i0le0, i1le0, i2le0, i3le0, eq_self, (by omega : ¬ z = r)]
    · by_cases q : z = r
      · subst q
        refine ⟨b, ?_, Nat.le_refl _⟩
        rw [b9 z (by omega)]
        simp (disch := omega) only [ltL, Llt, leL, Lle, eqL, addL, Ladd, subL, subN, decN, eqM, Mle, mulL, nI_add, nI_ltI, nI_leI, nI_eq, nI_clamp, up2_at, nltT, nltF, nleT, nleF, neqT, neqF, ↓reduceIte, true_or, or_true, false_or, or_false, or_self, true_and, and_true, false_and, and_false, and_self, not_true, not_false_eq_true, i10, i01, im0, im12, im21, m1lt, m2lt, m1le, m2le, i00, i0le0, i1le0, i2le0, i3le0, eq_self, ]
      · exact b10 z (by omega) q2
  · intro r h1 h2 a mm b e0 T1 T2 j1 j2 bd hr e L t k σ p f f' d c M hB h3' hk2 h4 hc hd hbd hM hM' htop hst hb hf hf'
    subst hr
    have hlt1 := T1.lt
    have hlt2 := T2.lt
    obtain ⟨f, rfl⟩ : ∃ z, f = z + 1 := ⟨f - 1, by omega⟩
    obtain ⟨f', rfl⟩ : ∃ z, f' = z + 1 := ⟨f' - 1, by omega⟩
    obtain ⟨k1', p1, p2, p3, p4, p5, p6, p7, p8⟩ := pass_app2 (N := N) h3' hk2 (by omega)
    have hno : ¬ (t0 0 a = t0 0 (s i) ∧ t0 1 a = t0 1 (s i)) := fun z => by
      obtain ⟨c, hc, ec⟩ := hfree
      rw [e0, ec] at z
      exact nI_ne_m1 (by omega) z.1.symm
    obtain ⟨e1, t1, σ1, p1', a1, a2, a3, a4, a5, a6⟩ := sym e L t k k1' σ p f f' a b r M (t0 0 a) hB (by omega) hb h4 hM hM' htop hst (by rw [if_neg hno]) (by rw [e0]; exact p1)
    have s1 := c20 a (by omega)
    have hstep := leafEnd σ1 f' a r p1' (by rw [(a5.1.2.2 a (by omega)).1]; exact s1.symm) (by omega) (by rw [e0]; decide)
    obtain ⟨e2, L2, h2', t2, σ2, p2', k2', M2, b1, b2, b3, b4, b5, b6, b7, b8, b9, b10⟩ := j1 r rfl e1 (L + 1) t1 k1' σ1 p1' f f' (d + 1) (c + 1) r a5 p2 p3 (by rw [p6]; exact h4) (by omega) (by omega) (by omega) (Nat.le_refl _) (by omega) (fun z q => by obtain ⟨u, q1, q2, q3⟩ := htop z q; exact ⟨u, by rw [a6]; exact q1, by omega, q3⟩) (fun z q1 q2 => absurd q1 (by omega)) (by omega) (by omega) (by omega)
    have b6' : Pop2 k1' (c + 1) k2' := by
      rcases b6 with q | q
      · omega
      · exact q
    obtain ⟨q1, q2, q3, q4, q5⟩ := b6'
    rw [Nat.add_sub_cancel] at q1 q2 q3 q5
    obtain ⟨e3, L3, h3', t3, σ3, p3', k3', M3, c1, c2, c3, c4, c5, c6, c7, c8, c9, c10⟩ := j2 r rfl e2 L2 t2 k2' σ2 p2' (f - (mm - (a + 1))) (f' - (mm - (a + 1))) (d + 1) c M2 b5 (by rw [q1]; exact p4) q3 (by rw [q2, p5]; exact h4) (by omega) (by omega) (by omega) b7 b8 (fun z q => by obtain ⟨u, r1, r2, r3⟩ := htop z q; exact ⟨u, by rw [b9 z (by omega), a6]; exact r1, r2, r3⟩) b10 hb (by omega) (by omega)
    have hb2 := b2.lt
    have z1 : f + 1 - (b - a) = f - (mm - (a + 1)) - (b - mm) := by omega
    have z2 : f' + 1 - (b - a) = f' - (mm - (a + 1)) - (b - mm) := by omega
    rw [z1, z2]
    refine ⟨e3, L3, 1 + max h2' h3', t3, σ3, p3', k3', M3, fun z hz => by rw [c1 z (by omega), b1 z (by omega), a1 z hz], Tm.app (by rw [c1 L (by omega), b1 L (by omega), a2]; exact e0) (b2.congr (fun z q1 q2 => c1 z q2)) c2, (a3.trans b3).trans c3, ((a4.trans hstep).trans b4).trans c4, c5, ?_, c7, c8, fun z hz => by rw [c9 z hz, b9 z hz, a6], c10⟩
    rcases c6 with q | ⟨r1, r2, r3, r4, r5⟩
    · exact Or.inl q
    · by_cases c0 : c = 0
      · exact Or.inl c0
      · refine Or.inr ⟨?_, ?_, r3, by rw [r4, q4, p7], fun z hz => ?_⟩
        · rw [r1, (q5 _ (by omega)).1, (p8 _ (by omega)).1]
        · rw [r2, (q5 _ (by omega)).2, (p8 _ (by omega)).2]
        · rw [(r5 z hz).1, (r5 z hz).2, (q5 z (by omega)).1, (q5 z (by omega)).2]; exact p8 z (by omega)
/-- rows of the reference that a failed building leaves -/
def SameN (σ σ' : St) : Prop := σ' 1 = σ 1 ∧ σ' 2 = σ 2 ∧ σ' 3 = σ 3 ∧ σ' 4 = σ 4 ∧ σ' 13 = σ 13 ∧ σ' 14 = σ 14 ∧ σ' 15 = σ 15 ∧ σ' 18 = σ 18 ∧ σ' 19 = σ 19 ∧ σ' 26 = σ 26 ∧ σ' 28 = σ 28 ∧ σ' 29 = σ 29
theorem term_fail {N w n q p hc tot m f nc n1 : Nat} {s : Nat → Nat} {x y t b σ y1 σ1 t' : St} (hN : 16000 < N) (hn : n ≤ 8000) (i1 : I1 n (x 3) q y σ) (i2 : I2 q x σ) (i3 : I3 p n x y σ) (i4 : I4 w hc tot n y σ) (i5 : I5 w m s n y t σ) (i6 : I6 f (s m) t b σ) (TC1 : TC nc y1) (hnc : n ≤ nc) (TM1 : TM n1 σ1) (hn1 : n ≤ n1) (mo : Mo n y σ n1 y1 σ1) (sn : SameN σ σ1) (e9 : y1 9 = y 9 ∧ y1 12 = y 12 ∧ y1 13 = y 13) (low : ∀ j, j < s m → t' 0 j = t 0 j ∧ t' 1 j = t 1 j ∧ σ1 20 j = σ 20 j ∧ σ1 21 j = σ 21 j) (frt : t' 2 = t 2 ∧ t' 3 = t 3 ∧ t' 5 = t 5) (w' : Nat) (hw' : w ≤ w') (i7' : I7 w' y1) :
    ∃ z ζ, f_X2_forgetFrom N y1 (nI n) = some z ∧ f_X5_cut N σ1 (nI n) = some ζ ∧ ζ 0 0 = σ1 0 0 ∧ Inv w' x z t' b ζ := by
  obtain ⟨z, hz, Tz, frz⟩ := forget_ok (N := N) TC1 hnc (by omega)
  obtain ⟨ζ, hζ, Tζ, frζ⟩ := cut_ok (N := N) TM1 hn1 (by omega)
  have tz : tC z = tC y1 := by show tT _ _ _ = tT _ _ _; rw [frz 0 (by decide) (by decide), frz 1 (by decide) (by decide), frz 2 (by decide) (by decide)]
  have tζ : tM ζ = tM σ1 := by
    show tT _ _ _ = tT _ _ _; rw [frζ 6 (by decide) (by decide), frζ 7 (by decide) (by decide), frζ 8 (by decide) (by decide)]
  have mo' : Mo n y σ n z ζ := ⟨Nat.le_refl _, fun i hi => by rw [tz]; exact mo.2.1 i hi, fun i hi => by rw [tζ]; exact mo.2.2 i hi⟩
  obtain ⟨a1, a2, a3, a4, a13, a14, a15, a18, a19, a26, a28, a29⟩ := sn
  refine ⟨z, ζ, hz, hζ, by rw [frζ 0 (by decide) (by decide)], n, q, p, hc, tot, m, s, f, hn, I1_restore i1 Tz Tζ mo', ?_, i3.tr mo' (by simp (disch := decide) only [up2_row, upR_row, and_self, eq_self, frζ, a3, a4]), i4.tr hw' mo' (by simp (disch := decide) only [up2_row, upR_row, and_self, eq_self, frζ, a13, a14, a15, frz, e9.1, e9.2.1, e9.2.2]), i5.tr hw' mo' ⟨by rw [frt.2.2], by simp (disch := decide) only [up2_row, upR_row, and_self, eq_self, frζ, a18], fun i _ => by simp (disch := decide) only [up2_row, upR_row, and_self, eq_self, frζ, a19, frt.1], fun i _ => by rw [frt.2.1], fun k hk => ?_⟩, i6.tr (Nat.le_refl _) (fun k hk => (low k hk).1) rfl (by simp (disch := decide) only [up2_row, upR_row, and_self, eq_self, frζ, a26, a28, a29]), i7'.tr (Nat.le_refl _) (by simp (disch := decide) only [up2_row, upR_row, and_self, eq_self, frz])⟩
  · obtain ⟨b1, b2, b3, b4, b5, b6⟩ := i2
    refine ⟨b1, b2, b3, ?_, b5, ?_⟩
    · rw [frζ 1 (by decide) (by decide), a1]; exact b4
    · rw [frζ 2 (by decide) (by decide), a2]; exact b6
  · rw [frζ 20 (by decide) (by decide), frζ 21 (by decide) (by decide)]; exact low k hk
