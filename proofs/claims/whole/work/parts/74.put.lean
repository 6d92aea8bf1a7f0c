/-! PURE: put -/
theorem put_loop {N w m n q i j l E : Nat} {s : Nat → Nat} {g : Nat → Int32} {y t0 σ0 : St} (hN : 34100 < N) (hw : w < 512) (i1 : I1 n g q y σ0) (i5 : I5 w m s n y t0 σ0) (hi : i < m) (hj : j < m) (hl : l < m) (eE : E = s (i + 1)) (hfree : ∃ c, c < 1000 ∧ t0 0 (s j) = nI (4 * c + 1)) {r h a b : Nat} (T : Tm (t0 0) r h a b) :
    ∀ e L t k σ p f f', Bd (QT n y σ0) e (s m) L t0 σ0 t σ p → b ≤ E → E - a < f → E - a < f' → ∃ e' L' h' t' σ' p', (∀ z, z < L → e' z = e z) ∧ Tm e' r h' L L' ∧ f_X1_addReplaced_7 N f t k (nI i) (nI j) (nI l) (nI a) = f_X1_addReplaced_7 N (f - (b - a)) t' k (nI i) (nI j) (nI l) (nI b) ∧ f_X5_put_97 N f' σ (nI i) (nI j) (nI l) (t0 0 (s j)) p (nI a) = f_X5_put_97 N (f' - (b - a)) σ' (nI i) (nI j) (nI l) (t0 0 (s j)) p' (nI b) ∧ Bd (QT n y σ0) e' (s m) L' t0 σ0 t' σ' p' := by
  have sm := i5.smono
  have B := Inv.bs hw i5
  obtain ⟨k1, k2, k3, k4, k5, k6, k7, k8⟩ := id i5
  have l2 := sm (i + 1) m (by omega) (by omega)
  have l3 := sm (j + 1) m (by omega) (by omega)
  have l4 := (k7 j hj).1
  obtain ⟨l5, l6, h3, hh3, -, T3⟩ := k7 l hl
  have l7 := sm (l + 1) m (by omega) (by omega)
  subst eE
  have frame : ∀ {e L t σ p}, Bd (QT n y σ0) e (s m) L t0 σ0 t σ p → (t 2 = t0 2) ∧ (σ 19 = σ0 19) ∧ (∀ z, z < s m → t 0 z = t0 0 z ∧ t 1 z = t0 1 z ∧ σ 20 z = σ0 20 z ∧ σ 21 z = σ0 21 z) := by
    intro e L t σ p hB
    exact ⟨hB.2.1 2 (by decide) (by decide) (by decide) (by decide), hB.1.2.1 19 (by decide) (by decide) (by decide), fun z hz => ⟨(hB.2.2.1 z hz).1, (hB.2.2.1 z hz).2, (hB.1.2.2 z hz).1, (hB.1.2.2 z hz).2⟩⟩
  -- a symbol that is not the variable
  have sym : ∀ e L t k σ p f f' a, Bd (QT n y σ0) e (s m) L t0 σ0 t σ p → a < s (i + 1) → ¬ (t0 0 a = t0 0 (s j) ∧ t0 1 a = t0 1 (s j)) → ∃ e' t' σ' p', (∀ z, z < L → e' z = e z) ∧ e' L = t0 0 a ∧ f_X1_addReplaced_7 N (f + 1) t k (nI i) (nI j) (nI l) (nI a) = f_X1_addReplaced_7 N f t' k (nI i) (nI j) (nI l) (nI (a + 1)) ∧ f_X5_put_97 N (f' + 1) σ (nI i) (nI j) (nI l) (t0 0 (s j)) p (nI a) = f_X5_put_97 N f' σ' (nI i) (nI j) (nI l) (t0 0 (s j)) p' (nI (a + 1)) ∧ Bd (QT n y σ0) e' (s m) (L + 1) t0 σ0 t' σ' p' := by
    intro e L t k σ p f f' a hB ha hno
    obtain ⟨f1, f2, f3⟩ := frame hB
    obtain ⟨f4, f5, f6, f7⟩ := f3 a (by omega)
    obtain ⟨g4, g5, g6, g7⟩ := f3 (s j) (by omega)
    obtain ⟨s1, s2⟩ := i5.src (by omega : a < s m)
    obtain ⟨s3, -⟩ := i5.src (by omega : s j < s m)
    have hend := end_ok (N := N) (t := t) (k := k) (by omega : i < 512)
    rw [f1, (k6 (i + 1) (by omega)).1] at hend
    have hC := isVarC (N := N) (k := k) (t := t) (by omega : j < 513) (by rw [f1]; exact (k6 j (by omega)).1) (by omega) (by omega : a < 30000)
    rw [f4, f5, g4, g5, if_neg hno] at hC
    have hM := isVarM (N := N) (σ := σ) (c := t0 0 (s j)) (ty := σ0 21 (s j)) (by omega : a < 34100)
    have hiff := hit_iff i1 i5 (by omega : a < s m) (by omega : s j < s m)
    rw [f6, f7, s3, if_neg (fun z => hno (hiff.mpr z)), ← s3] at hM
    have htop := topType_ok (N := N) (σ := σ) (by omega : j < 4201) (by rw [f2]; exact (k6 j (by omega)).2) (by omega)
    rw [g7] at htop
    obtain ⟨e', t', σ', p', a1, a2, a3, a4, a5, -⟩ := Bd.add1 (N := N) (k := k) (t0 0 a) B hB s2
    refine ⟨e', t', σ', p', a1, a2, ?_, ?_, a5⟩
    · have hcd := code_ok (N := N) (t := t) (k := k) (by omega : a < 30000)
      have hst := sty_ok (N := N) (t := t) (k := k) (by omega : a < 30000)
      rw [f4] at hcd
      rw [f5] at hst
      have hac : f_X1_addOrCopy N t k (nI a) 0 (nI l) = some (t', k) := by
        rewrite [f_X1_addOrCopy]
        repeat (first | with_reducible refine bnE ?_ | with_reducible refine exI ?_ | with_reducible refine exJ ?_ | with_reducible refine bs (hcd) ?_ | with_reducible refine bs (hst) ?_ | with_reducible refine bs (a3) ?_ | ((with_reducible refine iN ?_ ?_); · simp (disch := omega) only [ltL, Llt, leL, Lle, eqL, addL, Ladd, subL, subN, decN, eqM, Mle, mulL, nI_add, nI_ltI, nI_leI, nI_eq, nI_clamp, up2_at, nltT, nltF, nleT, nleF, neqT, neqF, ↓reduceIte, true_or, or_true, false_or, or_false, or_self, true_and, and_true, false_and, and_false, and_self, not_true, not_false_eq_true, i10, i01, im0, im12, im21, m1lt, m2lt, m1le, m2le, i00, i0le0, i1le0, i2le0, i3le0, eq_self]) | ((with_reducible refine ip ?_ ?_); · simp (disch := omega) only [ltL, Llt, leL, Lle, eqL, addL, Ladd, subL, subN, decN, eqM, Mle, mulL, nI_add, nI_ltI, nI_leI, nI_eq, nI_clamp, up2_at, nltT, nltF, nleT, nleF, neqT, neqF, ↓reduceIte, true_or, or_true, false_or, or_false, or_self, true_and, and_true, false_and, and_false, and_self, not_true, not_false_eq_true, i10, i01, im0, im12, im21, m1lt, m2lt, m1le, m2le, i00, i0le0, i1le0, i2le0, i3le0, eq_self]))
        rfl
      rewrite [f_X1_addReplaced_7]
      repeat (first | with_reducible refine bnE ?_ | with_reducible refine exI ?_ | with_reducible refine exJ ?_ | with_reducible refine bs (hend) ?_ | with_reducible refine bs (hC) ?_ | with_reducible refine bs (hac) ?_ | ((with_reducible refine iN ?_ ?_); · simp (disch := omega) only [ltL, Llt, leL, Lle, eqL, addL, Ladd, subL, subN, decN, eqM, Mle, mulL, nI_add, nI_ltI, nI_leI, nI_eq, nI_clamp, up2_at, nltT, nltF, nleT, nleF, neqT, neqF, ↓reduceIte, true_or, or_true, false_or, or_false, or_self, true_and, and_true, false_and, and_false, and_self, not_true, not_false_eq_true, i10, i01, im0, im12, im21, m1lt, m2lt, m1le, m2le, i00, i0le0, i1le0, i2le0, i3le0, eq_self]) | ((with_reducible refine ip ?_ ?_); · simp (disch := omega) only [ltL, Llt, leL, Lle, eqL, addL, Ladd, subL, subN, decN, eqM, Mle, mulL, nI_add, nI_ltI, nI_leI, nI_eq, nI_clamp, up2_at, nltT, nltF, nleT, nleF, neqT, neqF, ↓reduceIte, true_or, or_true, false_or, or_false, or_self, true_and, and_true, false_and, and_false, and_self, not_true, not_false_eq_true, i10, i01, im0, im12, im21, m1lt, m2lt, m1le, m2le, i00, i0le0, i1le0, i2le0, i3le0, eq_self]))
      simp (disch := omega) only [ltL, Llt, leL, Lle, eqL, addL, Ladd, subL, subN, decN, eqM, Mle, mulL, nI_add, nI_ltI, nI_leI, nI_eq, nI_clamp, up2_at, nltT, nltF, nleT, nleF, neqT, neqF, ↓reduceIte, true_or, or_true, false_or, or_false, or_self, true_and, and_true, false_and, and_false, and_self, not_true, not_false_eq_true, i10, i01, im0, im12, im21, m1lt, m2lt, m1le, m2le, i00, i0le0, i1le0, i2le0, i3le0, eq_self, ]
    · rw [s1] at a4
      rewrite [f_X5_put_97]
      simp (disch := omega) only [addL, nI_clamp, f2, (k6 (i + 1) (by omega)).2]
      repeat (first | with_reducible refine bnE ?_ | with_reducible refine exI ?_ | with_reducible refine exJ ?_ | with_reducible refine bs (htop) ?_ | with_reducible refine bs (hM) ?_ | ((with_reducible refine iN ?_ ?_); · simp (disch := omega) only [ltL, Llt, leL, Lle, eqL, addL, Ladd, subL, subN, decN, eqM, Mle, mulL, nI_add, nI_ltI, nI_leI, nI_eq, nI_clamp, up2_at, nltT, nltF, nleT, nleF, neqT, neqF, ↓reduceIte, true_or, or_true, false_or, or_false, or_self, true_and, and_true, false_and, and_false, and_self, not_true, not_false_eq_true, i10, i01, im0, im12, im21, m1lt, m2lt, m1le, m2le, i00, i0le0, i1le0, i2le0, i3le0, eq_self]) | ((with_reducible refine ip ?_ ?_); · simp (disch := omega) only [ltL, Llt, leL, Lle, eqL, addL, Ladd, subL, subN, decN, eqM, Mle, mulL, nI_add, nI_ltI, nI_leI, nI_eq, nI_clamp, up2_at, nltT, nltF, nleT, nleF, neqT, neqF, ↓reduceIte, true_or, or_true, false_or, or_false, or_self, true_and, and_true, false_and, and_false, and_self, not_true, not_false_eq_true, i10, i01, im0, im12, im21, m1lt, m2lt, m1le, m2le, i00, i0le0, i1le0, i2le0, i3le0, eq_self]))
      simp only [f6, f7]
      repeat (first | with_reducible refine bnE ?_ | with_reducible refine exI ?_ | with_reducible refine exJ ?_ | with_reducible refine bs (a4) ?_ | ((with_reducible refine iN ?_ ?_); · simp (disch := omega) only [ltL, Llt, leL, Lle, eqL, addL, Ladd, subL, subN, decN, eqM, Mle, mulL, nI_add, nI_ltI, nI_leI, nI_eq, nI_clamp, up2_at, nltT, nltF, nleT, nleF, neqT, neqF, ↓reduceIte, true_or, or_true, false_or, or_false, or_self, true_and, and_true, false_and, and_false, and_self, not_true, not_false_eq_true, i10, i01, im0, im12, im21, m1lt, m2lt, m1le, m2le, i00, i0le0, i1le0, i2le0, i3le0, eq_self]) | ((with_reducible refine ip ?_ ?_); · simp (disch := omega) only [ltL, Llt, leL, Lle, eqL, addL, Ladd, subL, subN, decN, eqM, Mle, mulL, nI_add, nI_ltI, nI_leI, nI_eq, nI_clamp, up2_at, nltT, nltF, nleT, nleF, neqT, neqF, ↓reduceIte, true_or, or_true, false_or, or_false, or_self, true_and, and_true, false_and, and_false, and_self, not_true, not_false_eq_true, i10, i01, im0, im12, im21, m1lt, m2lt, m1le, m2le, i00, i0le0, i1le0, i2le0, i3le0, eq_self]))
      rewrite [f_X5_put_169]
      simp (disch := omega) only [ltL, Llt, leL, Lle, eqL, addL, Ladd, subL, subN, decN, eqM, Mle, mulL, nI_add, nI_ltI, nI_leI, nI_eq, nI_clamp, up2_at, nltT, nltF, nleT, nleF, neqT, neqF, ↓reduceIte, true_or, or_true, false_or, or_false, or_self, true_and, and_true, false_and, and_false, and_self, not_true, not_false_eq_true, i10, i01, im0, im12, im21, m1lt, m2lt, m1le, m2le, i00, i0le0, i1le0, i2le0, i3le0, eq_self, ]
  refine Tm.ind (c := t0 0) (P := fun r h a b => ∀ e L t k σ p f f', Bd (QT n y σ0) e (s m) L t0 σ0 t σ p → b ≤ s (i + 1) → s (i + 1) - a < f → s (i + 1) - a < f' → ∃ e' L' h' t' σ' p', (∀ z, z < L → e' z = e z) ∧ Tm e' r h' L L' ∧ f_X1_addReplaced_7 N f t k (nI i) (nI j) (nI l) (nI a) = f_X1_addReplaced_7 N (f - (b - a)) t' k (nI i) (nI j) (nI l) (nI b) ∧ f_X5_put_97 N f' σ (nI i) (nI j) (nI l) (t0 0 (s j)) p (nI a) = f_X5_put_97 N (f' - (b - a)) σ' (nI i) (nI j) (nI l) (t0 0 (s j)) p' (nI b) ∧ Bd (QT n y σ0) e' (s m) L' t0 σ0 t' σ' p') ?_ ?_ ?_ T
  · intro r a o e L t k σ p f f' hB hb hf hf'
    obtain ⟨f, rfl⟩ : ∃ z, f = z + 1 := ⟨f - 1, by omega⟩
    obtain ⟨f', rfl⟩ : ∃ z, f' = z + 1 := ⟨f' - 1, by omega⟩
    have z1 : f + 1 - (a + 1 - a) = f := by omega
    have z2 : f' + 1 - (a + 1 - a) = f' := by omega
    rw [z1, z2]
    by_cases hit : t0 0 a = t0 0 (s j) ∧ t0 1 a = t0 1 (s j)
    · obtain ⟨f1, f2, f3⟩ := frame hB
      obtain ⟨f4, f5, f6, f7⟩ := f3 a (by omega)
      obtain ⟨g4, g5, g6, g7⟩ := f3 (s j) (by omega)
      obtain ⟨s3, -⟩ := i5.src (by omega : s j < s m)
      have hend := end_ok (N := N) (t := t) (k := k) (by omega : i < 512)
      rw [f1, (k6 (i + 1) (by omega)).1] at hend
      have hC := isVarC (N := N) (k := k) (t := t) (by omega : j < 513) (by rw [f1]; exact (k6 j (by omega)).1) (by omega) (by omega : a < 30000)
      rw [f4, f5, g4, g5, if_pos hit] at hC
      have hM := isVarM (N := N) (σ := σ) (c := t0 0 (s j)) (ty := σ0 21 (s j)) (by omega : a < 34100)
      have hiff := hit_iff i1 i5 (by omega : a < s m) (by omega : s j < s m)
      rw [f6, f7, s3, if_pos (hiff.mp hit), ← s3] at hM
      have htop := topType_ok (N := N) (σ := σ) (by omega : j < 4201) (by rw [f2]; exact (k6 j (by omega)).2) (by omega)
      rw [g7] at htop
      obtain ⟨e', t', σ', p', a1, a2, a3, a4, a5, -⟩ := Bd.copy1 (N := N) (k := k) (u := s l) (v := s (l + 1)) B hN hB (by omega) l7 (fun z hz => i5.src (by omega))
      have T' := T3.shift (c' := e') (a' := L) (fun z _ => a2 z)
      refine ⟨e', _, h3, t', σ', p', a1, T'.mono (Nat.zero_le _), ?_, ?_, a5⟩
      · have sA := start_ok (N := N) (t := t) (k := k) (by omega : l < 513)
        have sB := end_ok (N := N) (t := t) (k := k) (by omega : l < 512)
        rw [f1, (k6 l (by omega)).1] at sA
        rw [f1, (k6 (l + 1) (by omega)).1] at sB
        have hac : f_X1_addOrCopy N t k (nI a) 1 (nI l) = some (t', k) := by
          rewrite [f_X1_addOrCopy]
          repeat (first | with_reducible refine bnE ?_ | with_reducible refine exI ?_ | with_reducible refine exJ ?_ | with_reducible refine bs (sA) ?_ | with_reducible refine bs (sB) ?_ | with_reducible refine bs (a3) ?_ | ((with_reducible refine iN ?_ ?_); · simp (disch := omega) only [ltL, Llt, leL, Lle, eqL, addL, Ladd, subL, subN, decN, eqM, Mle, mulL, nI_add, nI_ltI, nI_leI, nI_eq, nI_clamp, up2_at, nltT, nltF, nleT, nleF, neqT, neqF, ↓reduceIte, true_or, or_true, false_or, or_false, or_self, true_and, and_true, false_and, and_false, and_self, not_true, not_false_eq_true, i10, i01, im0, im12, im21, m1lt, m2lt, m1le, m2le, i00, i0le0, i1le0, i2le0, i3le0, eq_self]) | ((with_reducible refine ip ?_ ?_); · simp (disch := omega) only [ltL, Llt, leL, Lle, eqL, addL, Ladd, subL, subN, decN, eqM, Mle, mulL, nI_add, nI_ltI, nI_leI, nI_eq, nI_clamp, up2_at, nltT, nltF, nleT, nleF, neqT, neqF, ↓reduceIte, true_or, or_true, false_or, or_false, or_self, true_and, and_true, false_and, and_false, and_self, not_true, not_false_eq_true, i10, i01, im0, im12, im21, m1lt, m2lt, m1le, m2le, i00, i0le0, i1le0, i2le0, i3le0, eq_self]))
          rfl
        rewrite [f_X1_addReplaced_7]
        repeat (first | with_reducible refine bnE ?_ | with_reducible refine exI ?_ | with_reducible refine exJ ?_ | with_reducible refine bs (hend) ?_ | with_reducible refine bs (hC) ?_ | with_reducible refine bs (hac) ?_ | ((with_reducible refine iN ?_ ?_); · simp (disch := omega) only [ltL, Llt, leL, Lle, eqL, addL, Ladd, subL, subN, decN, eqM, Mle, mulL, nI_add, nI_ltI, nI_leI, nI_eq, nI_clamp, up2_at, nltT, nltF, nleT, nleF, neqT, neqF, ↓reduceIte, true_or, or_true, false_or, or_false, or_self, true_and, and_true, false_and, and_false, and_self, not_true, not_false_eq_true, i10, i01, im0, im12, im21, m1lt, m2lt, m1le, m2le, i00, i0le0, i1le0, i2le0, i3le0, eq_self]) | ((with_reducible refine ip ?_ ?_); · simp (disch := omega) only [ltL, Llt, leL, Lle, eqL, addL, Ladd, subL, subN, decN, eqM, Mle, mulL, nI_add, nI_ltI, nI_leI, nI_eq, nI_clamp, up2_at, nltT, nltF, nleT, nleF, neqT, neqF, ↓reduceIte, true_or, or_true, false_or, or_false, or_self, true_and, and_true, false_and, and_false, and_self, not_true, not_false_eq_true, i10, i01, im0, im12, im21, m1lt, m2lt, m1le, m2le, i00, i0le0, i1le0, i2le0, i3le0, eq_self]))
        simp (disch := omega) only [ltL, Llt, leL, Lle, eqL, addL, Ladd, subL, subN, decN, eqM, Mle, mulL, nI_add, nI_ltI, nI_leI, nI_eq, nI_clamp, up2_at, nltT, nltF, nleT, nleF, neqT, neqF, ↓reduceIte, true_or, or_true, false_or, or_false, or_self, true_and, and_true, false_and, and_false, and_self, not_true, not_false_eq_true, i10, i01, im0, im12, im21, m1lt, m2lt, m1le, m2le, i00, i0le0, i1le0, i2le0, i3le0, eq_self, ]
      · rewrite [f_X5_put_97]
        simp (disch := omega) only [addL, nI_clamp, f2, (k6 (i + 1) (by omega)).2]
        repeat (first | with_reducible refine bnE ?_ | with_reducible refine exI ?_ | with_reducible refine exJ ?_ | with_reducible refine bs (htop) ?_ | with_reducible refine bs (hM) ?_ | ((with_reducible refine iN ?_ ?_); · simp (disch := omega) only [ltL, Llt, leL, Lle, eqL, addL, Ladd, subL, subN, decN, eqM, Mle, mulL, nI_add, nI_ltI, nI_leI, nI_eq, nI_clamp, up2_at, nltT, nltF, nleT, nleF, neqT, neqF, ↓reduceIte, true_or, or_true, false_or, or_false, or_self, true_and, and_true, false_and, and_false, and_self, not_true, not_false_eq_true, i10, i01, im0, im12, im21, m1lt, m2lt, m1le, m2le, i00, i0le0, i1le0, i2le0, i3le0, eq_self]) | ((with_reducible refine ip ?_ ?_); · simp (disch := omega) only [ltL, Llt, leL, Lle, eqL, addL, Ladd, subL, subN, decN, eqM, Mle, mulL, nI_add, nI_ltI, nI_leI, nI_eq, nI_clamp, up2_at, nltT, nltF, nleT, nleF, neqT, neqF, ↓reduceIte, true_or, or_true, false_or, or_false, or_self, true_and, and_true, false_and, and_false, and_self, not_true, not_false_eq_true, i10, i01, im0, im12, im21, m1lt, m2lt, m1le, m2le, i00, i0le0, i1le0, i2le0, i3le0, eq_self]))
        simp (disch := omega) only [addL, nI_clamp, f2, (k6 l (by omega)).2, (k6 (l + 1) (by omega)).2]
        repeat (first | with_reducible refine bnE ?_ | with_reducible refine exI ?_ | with_reducible refine exJ ?_ | with_reducible refine bs (a4) ?_ | ((with_reducible refine iN ?_ ?_); · simp (disch := omega) only [ltL, Llt, leL, Lle, eqL, addL, Ladd, subL, subN, decN, eqM, Mle, mulL, nI_add, nI_ltI, nI_leI, nI_eq, nI_clamp, up2_at, nltT, nltF, nleT, nleF, neqT, neqF, ↓reduceIte, true_or, or_true, false_or, or_false, or_self, true_and, and_true, false_and, and_false, and_self, not_true, not_false_eq_true, i10, i01, im0, im12, im21, m1lt, m2lt, m1le, m2le, i00, i0le0, i1le0, i2le0, i3le0, eq_self]) | ((with_reducible refine ip ?_ ?_); · simp (disch := omega) only [ltL, Llt, leL, Lle, eqL, addL, Ladd, subL, subN, decN, eqM, Mle, mulL, nI_add, nI_ltI, nI_leI, nI_eq, nI_clamp, up2_at, nltT, nltF, nleT, nleF, neqT, neqF, ↓reduceIte, true_or, or_true, false_or, or_false, or_self, true_and, and_true, false_and, and_false, and_self, not_true, not_false_eq_true, i10, i01, im0, im12, im21, m1lt, m2lt, m1le, m2le, i00, i0le0, i1le0, i2le0, i3le0, eq_self]))
        rewrite [f_X5_put_169]
        simp (disch := omega) only [ltL, Llt, leL, Lle, eqL, addL, Ladd, subL, subN, decN, eqM, Mle, mulL, nI_add, nI_ltI, nI_leI, nI_eq, nI_clamp, up2_at, nltT, nltF, nleT, nleF, neqT, neqF, ↓reduceIte, true_or, or_true, false_or, or_false, or_self, true_and, and_true, false_and, and_false, and_self, not_true, not_false_eq_true, i10, i01, im0, im12, im21, m1lt, m2lt, m1le, m2le, i00, i0le0, i1le0, i2le0, i3le0, eq_self, ]
    · obtain ⟨e', t', σ', p', a1, a2, a3, a4, a5⟩ := sym e L t k σ p f f' a hB (by omega) hit
      exact ⟨e', L + 1, 1, t', σ', p', a1, Tm.leaf (by rw [a2]; exact o), a3, a4, a5⟩
  · intro r h a b e T ih e1 L t k σ p f f' hB hb hf hf'
    have hlt := T.lt
    obtain ⟨f, rfl⟩ : ∃ z, f = z + 1 := ⟨f - 1, by omega⟩
    obtain ⟨f', rfl⟩ : ∃ z, f' = z + 1 := ⟨f' - 1, by omega⟩
    have hno : ¬ (t0 0 a = t0 0 (s j) ∧ t0 1 a = t0 1 (s j)) := fun z => by
      obtain ⟨c, hc, ec⟩ := hfree
      rw [e, ec] at z
      exact nI_ne_m2 (by omega) z.1.symm
    obtain ⟨e2, t2, σ2, p2, a1, a2, a3, a4, a5⟩ := sym e1 L t k σ p f f' a hB (by omega) hno
    obtain ⟨e3, L3, h3', t3, σ3, p3, b1, b2, b3, b4, b5⟩ := ih e2 (L + 1) t2 k σ2 p2 f f' a5 hb (by omega) (by omega)
    have z1 : f + 1 - (b - a) = f - (b - (a + 1)) := by omega
    have z2 : f' + 1 - (b - a) = f' - (b - (a + 1)) := by omega
    rw [z1, z2]
    exact ⟨e3, L3, h3' + 1, t3, σ3, p3, fun z hz => by rw [b1 z (by omega), a1 z hz], Tm.abs (by rw [b1 L (by omega), a2]; exact e) b2, a3.trans b3, a4.trans b4, b5⟩
  · intro r h1 h2 a mm b e T1 T2 j1 j2 e1 L t k σ p f f' hB hb hf hf'
    have hlt1 := T1.lt
    have hlt2 := T2.lt
    obtain ⟨f, rfl⟩ : ∃ z, f = z + 1 := ⟨f - 1, by omega⟩
    obtain ⟨f', rfl⟩ : ∃ z, f' = z + 1 := ⟨f' - 1, by omega⟩
    have hno : ¬ (t0 0 a = t0 0 (s j) ∧ t0 1 a = t0 1 (s j)) := fun z => by
      obtain ⟨c, hc, ec⟩ := hfree
      rw [e, ec] at z
      exact nI_ne_m1 (by omega) z.1.symm
    obtain ⟨e2, t2, σ2, p2, a1, a2, a3, a4, a5⟩ := sym e1 L t k σ p f f' a hB (by omega) hno
    obtain ⟨e3, L3, h3', t3, σ3, p3, b1, b2, b3, b4, b5⟩ := j1 e2 (L + 1) t2 k σ2 p2 f f' a5 (by omega) (by omega) (by omega)
    obtain ⟨e4, L4, h4', t4, σ4, p4, c1, c2, c3, c4, c5⟩ := j2 e3 L3 t3 k σ3 p3 (f - (mm - (a + 1))) (f' - (mm - (a + 1))) b5 hb (by omega) (by omega)
    have hb2 := b2.lt
    have z1 : f + 1 - (b - a) = f - (mm - (a + 1)) - (b - mm) := by omega
    have z2 : f' + 1 - (b - a) = f' - (mm - (a + 1)) - (b - mm) := by omega
    rw [z1, z2]
    exact ⟨e4, L4, 1 + max h3' h4', t4, σ4, p4, fun z hz => by rw [c1 z (by omega), b1 z (by omega), a1 z hz], Tm.app (by rw [c1 L (by omega), b1 L (by omega), a2]; exact e) (b2.congr (fun z q1 q2 => c1 z q2)) c2, (a3.trans b3).trans c3, (a4.trans b4).trans c4, c5⟩
theorem put_sim {N w : Nat} {x y t k b σ : St} (hN : 34100 < N) (hw : w < 512) (hI : Inv w x y t b σ) (a d z : Int32) : Sim (fun e => if e = 2 then 1 else if e = 0 then 2 else if e = 1 then 3 else 0) (w + 1) (f_X4_put N x y t k b a d z) (f_X5_put N σ a d z) := by
  obtain ⟨n, q, p, hc, tot, m, s, f, hn, i1, i2, i3, i4, i5, i6, i7⟩ := hI.code0 0
  have sm := i5.smono
  obtain ⟨k1, k2, k3, k4, k5, k6, k7, k8⟩ := id i5
  have hfail : ∀ (z : St) (e : Int32), f_X5_fail N z e = some (0, up2 z 0 0 e) := fun z e => by rw [f_X5_fail]; rfl
  have two : ∀ e : Int32, up2 (up2 σ 0 0 0) 0 0 e = up2 σ 0 0 e := fun e => by
    funext r j; rw [up2_at, up2_at, up2_at]; split <;> rfl
  have bad1 : f_X4_put N x y t k b a d z = some (.inr 2, (x, y, t, k, b)) → f_X5_put N σ a d z = f_X5_put_29 N (up2 σ 0 0 0) → Sim (fun e => if e = 2 then 1 else if e = 0 then 2 else if e = 1 then 3 else 0) (w + 1) (f_X4_put N x y t k b a d z) (f_X5_put N σ a d z) := by
    intro q1 q2
    refine ⟨.inr 2, x, y, t, k, b, 0, up2 σ 0 0 1, q1, ?_, hI.code 1, Or.inr ⟨2, rfl, rfl, by decide⟩⟩
    rewrite [q2, f_X5_put_29]
    repeat (first | with_reducible refine bnE ?_ | with_reducible refine exI ?_ | with_reducible refine exJ ?_ | with_reducible refine bs (hfail (up2 σ 0 0 0) 1) ?_ | ((with_reducible refine iN ?_ ?_); · simp (disch := omega) only [ltL, Llt, leL, Lle, eqL, addL, Ladd, subL, subN, decN, eqM, Mle, mulL, nI_add, nI_ltI, nI_leI, nI_eq, nI_clamp, up2_at, nltT, nltF, nleT, nleF, neqT, neqF, ↓reduceIte, true_or, or_true, false_or, or_false, or_self, true_and, and_true, false_and, and_false, and_self, not_true, not_false_eq_true, i10, i01, im0, im12, im21, m1lt, m2lt, m1le, m2le, i00, i0le0, i1le0, i2le0, i3le0, eq_self]) | ((with_reducible refine ip ?_ ?_); · simp (disch := omega) only [ltL, Llt, leL, Lle, eqL, addL, Ladd, subL, subN, decN, eqM, Mle, mulL, nI_add, nI_ltI, nI_leI, nI_eq, nI_clamp, up2_at, nltT, nltF, nleT, nleF, neqT, neqF, ↓reduceIte, true_or, or_true, false_or, or_false, or_self, true_and, and_true, false_and, and_false, and_self, not_true, not_false_eq_true, i10, i01, im0, im12, im21, m1lt, m2lt, m1le, m2le, i00, i0le0, i1le0, i2le0, i3le0, eq_self]))
    rw [two]
  have bad2 : f_X4_put N x y t k b a d z = some (.inr 0, (x, y, t, k, b)) → f_X5_put N σ a d z = f_X5_put_59 N (up2 σ 0 0 0) → Sim (fun e => if e = 2 then 1 else if e = 0 then 2 else if e = 1 then 3 else 0) (w + 1) (f_X4_put N x y t k b a d z) (f_X5_put N σ a d z) := by
    intro q1 q2
    refine ⟨.inr 0, x, y, t, k, b, 0, up2 σ 0 0 2, q1, ?_, hI.code 2, Or.inr ⟨0, rfl, rfl, by decide⟩⟩
    rewrite [q2, f_X5_put_59]
    repeat (first | with_reducible refine bnE ?_ | with_reducible refine exI ?_ | with_reducible refine exJ ?_ | with_reducible refine bs (hfail (up2 σ 0 0 0) 2) ?_ | ((with_reducible refine iN ?_ ?_); · simp (disch := omega) only [ltL, Llt, leL, Lle, eqL, addL, Ladd, subL, subN, decN, eqM, Mle, mulL, nI_add, nI_ltI, nI_leI, nI_eq, nI_clamp, up2_at, nltT, nltF, nleT, nleF, neqT, neqF, ↓reduceIte, true_or, or_true, false_or, or_false, or_self, true_and, and_true, false_and, and_false, and_self, not_true, not_false_eq_true, i10, i01, im0, im12, im21, m1lt, m2lt, m1le, m2le, i00, i0le0, i1le0, i2le0, i3le0, eq_self]) | ((with_reducible refine ip ?_ ?_); · simp (disch := omega) only [ltL, Llt, leL, Lle, eqL, addL, Ladd, subL, subN, decN, eqM, Mle, mulL, nI_add, nI_ltI, nI_leI, nI_eq, nI_clamp, up2_at, nltT, nltF, nleT, nleF, neqT, neqF, ↓reduceIte, true_or, or_true, false_or, or_false, or_self, true_and, and_true, false_and, and_false, and_self, not_true, not_false_eq_true, i10, i01, im0, im12, im21, m1lt, m2lt, m1le, m2le, i00, i0le0, i1le0, i2le0, i3le0, eq_self]))
    rw [two]
  rcases term_cases (N := N) (x := x) (y := y) (k := k) (b := b) k2 k3 (by omega) a with ⟨i, hi, rfl, hr, ht⟩ | ⟨hr, ht⟩
  · have ht := ht (z := up2 σ 0 0 0) rfl
    rcases term_cases (N := N) (x := x) (y := y) (k := k) (b := b) k2 k3 (by omega) d with ⟨j, hj, rfl, hr', ht'⟩ | ⟨hr', ht'⟩
    · have ht' := ht' (z := up2 σ 0 0 0) rfl
      rcases term_cases (N := N) (x := x) (y := y) (k := k) (b := b) k2 k3 (by omega) z with ⟨l, hl, rfl, hr2, ht2⟩ | ⟨hr2, ht2⟩
      · have ht2 := ht2 (z := up2 σ 0 0 0) rfl
        obtain ⟨l1, l4, h1, hh1, l3, T1⟩ := k7 i hi
        obtain ⟨m1, m4, h2, hh2, m3, T2⟩ := k7 j hj
        have l2 := sm (i + 1) m (by omega) (by omega)
        have r2 := sm (j + 1) m (by omega) (by omega)
        have n2 := sm (l + 1) m (by omega) (by omega)
        have n1 := (k7 l hl).1
        rcases free_cases (N := N) (x := x) (y := y) (k := k) (b := b) (σ := up2 σ 0 0 0) (by omega) (k6 j (by omega)).1 (k6 j (by omega)).2 (k6 (j + 1) (by omega)).2 T2 (by omega) (k8 (s j) (by omega)).1 with ⟨c, hc, ec, ev, g1, g2⟩ | ⟨g1, g2⟩
        · have hrt := rootType_ok (N := N) (k := k) (by omega : j < 513) (k6 j (by omega)).1 (by omega)
          have hrt' := rootType_ok (N := N) (k := k) (by omega : l < 513) (k6 l (by omega)).1 (by omega)
          have htop := topType_ok (N := N) (by omega : j < 4201) (k6 j (by omega)).2 (by omega)
          have htop' := topType_ok (N := N) (by omega : l < 4201) (k6 l (by omega)).2 (by omega)
          have R1 := (k8 (s j) (by omega)).2.1
          have R2 := (k8 (s l) (by omega)).2.1
          have hiff := RT.iff i1 R1 R2
          have hs := same_ok (N := N) (up2 σ 0 0 0 21 (s j)) (up2 σ 0 0 0 21 (s l))
          by_cases hsame : t 1 (s j) = t 1 (s l)
          · rw [if_pos (hiff.mp hsame)] at hs
            have B := Inv.bs hw i5
            obtain ⟨t1, b1, B1⟩ := begin_ok (N := N) (k := k) (Q := QT n y (up2 σ 0 0 0)) (e := fun _ => 0) B
            obtain ⟨e', L', h', t', σ', p', c1, c2, c3, c4, c5⟩ := put_loop hN hw i1 i5 hi hj hl rfl ⟨c, hc, ec⟩ T1 _ 0 t1 k (up2 σ 0 0 0) (nI (s m)) N N B1 (Nat.le_refl _) (by omega) (by omega)
            obtain ⟨r, tk, kk, v', σ2, res, d1, d2, d3, d4, d5⟩ := term_end (k := k) 3 hN hw hn i1 i2 i3 i4 i5 i6 i7 (by simp (disch := omega) only [ltL, Llt, leL, Lle, eqL, addL, Ladd, subL, subN, decN, eqM, Mle, mulL, nI_add, nI_ltI, nI_leI, nI_eq, nI_clamp, up2_at, nltT, nltF, nleT, nleF, neqT, neqF, ↓reduceIte, true_or, or_true, false_or, or_false, or_self, true_and, and_true, false_and, and_false, and_self, not_true, not_false_eq_true, i10, i01, im0, im12, im21, m1lt, m2lt, m1le, m2le, i00, i0le0, i1le0, i2le0, i3le0, eq_self, ]) c5 c2
            have hcnt := count_ok (N := N) i1.1.2.1
            have hst : f_X1_start N t1 k (nI i) = some (nI (s i), (t1, k)) := by
              have := start_ok (N := N) (t := t1) (k := k) (by omega : i < 513)
              rw [B1.2.1 2 (by decide) (by decide) (by decide) (by decide), (k6 i (by omega)).1] at this
              exact this
            obtain ⟨F, hF⟩ : ∃ F, N - (s (i + 1) - s i) = F + 1 := ⟨N - (s (i + 1) - s i) - 1, by omega⟩
            rw [hF] at c3 c4
            have hend := end_ok (N := N) (t := t') (k := k) (by omega : i < 512)
            rw [c5.2.1 2 (by decide) (by decide) (by decide) (by decide), (k6 (i + 1) (by omega)).1] at hend
            have hadd : f_X1_addReplaced N t1 k (nI i) (nI j) (nI l) = some (t', k) := by
              rewrite [f_X1_addReplaced]
              refine bs hst ?_
              refine Eq.trans c3 ?_
              rewrite [f_X1_addReplaced_7]
              repeat (first | with_reducible refine bnE ?_ | with_reducible refine exI ?_ | with_reducible refine exJ ?_ | with_reducible refine bs (hend) ?_ | ((with_reducible refine iN ?_ ?_); · simp (disch := omega) only [ltL, Llt, leL, Lle, eqL, addL, Ladd, subL, subN, decN, eqM, Mle, mulL, nI_add, nI_ltI, nI_leI, nI_eq, nI_clamp, up2_at, nltT, nltF, nleT, nleF, neqT, neqF, ↓reduceIte, true_or, or_true, false_or, or_false, or_self, true_and, and_true, false_and, and_false, and_self, not_true, not_false_eq_true, i10, i01, im0, im12, im21, m1lt, m2lt, m1le, m2le, i00, i0le0, i1le0, i2le0, i3le0, eq_self]) | ((with_reducible refine ip ?_ ?_); · simp (disch := omega) only [ltL, Llt, leL, Lle, eqL, addL, Ladd, subL, subN, decN, eqM, Mle, mulL, nI_add, nI_ltI, nI_leI, nI_eq, nI_clamp, up2_at, nltT, nltF, nleT, nleF, neqT, neqF, ↓reduceIte, true_or, or_true, false_or, or_false, or_self, true_and, and_true, false_and, and_false, and_self, not_true, not_false_eq_true, i10, i01, im0, im12, im21, m1lt, m2lt, m1le, m2le, i00, i0le0, i1le0, i2le0, i3le0, eq_self]))
              rfl
            have k3' : σ 18 0 = nI m := k3
            have n19 : ∀ {z : Nat}, z ≤ m → σ 19 z = nI (s z) := fun {z} hz => (k6 z hz).2
            have n20 : σ 20 (s j) = t 0 (s j) := (k8 (s j) (by omega)).1
            have e19 : σ' 19 (i + 1) = nI (s (i + 1)) := by rw [c5.1.2.1 19 (by decide) (by decide) (by decide)]; exact (k6 (i + 1) (by omega)).2
            refine ⟨res, x, y, tk, kk, b, v', σ2, ?_, ?_, d4, ?_⟩
            · rewrite [f_X4_put]
              repeat (first | with_reducible refine bnE ?_ | with_reducible refine exI ?_ | with_reducible refine exJ ?_ | with_reducible refine bs (hr) ?_ | with_reducible refine bs (hr') ?_ | with_reducible refine bs (hr2) ?_ | with_reducible refine bs (g1) ?_ | with_reducible refine bs (hrt) ?_ | with_reducible refine bs (hrt') ?_ | with_reducible refine bs (b1) ?_ | with_reducible refine bs (hadd) ?_ | with_reducible refine bs (d1) ?_ | with_reducible refine bs (hcnt) ?_ | with_reducible refine bs (d2) ?_ | ((with_reducible refine iN ?_ ?_); · simp (disch := omega) only [ltL, Llt, leL, Lle, eqL, addL, Ladd, subL, subN, decN, eqM, Mle, mulL, nI_add, nI_ltI, nI_leI, nI_eq, nI_clamp, up2_at, nltT, nltF, nleT, nleF, neqT, neqF, ↓reduceIte, true_or, or_true, false_or, or_false, or_self, true_and, and_true, false_and, and_false, and_self, not_true, not_false_eq_true, i10, i01, im0, im12, im21, m1lt, m2lt, m1le, m2le, i00, i0le0, i1le0, i2le0, i3le0, eq_self, hsame]) | ((with_reducible refine ip ?_ ?_); · simp (disch := omega) only [ltL, Llt, leL, Lle, eqL, addL, Ladd, subL, subN, decN, eqM, Mle, mulL, nI_add, nI_ltI, nI_leI, nI_eq, nI_clamp, up2_at, nltT, nltF, nleT, nleF, neqT, neqF, ↓reduceIte, true_or, or_true, false_or, or_false, or_self, true_and, and_true, false_and, and_false, and_self, not_true, not_false_eq_true, i10, i01, im0, im12, im21, m1lt, m2lt, m1le, m2le, i00, i0le0, i1le0, i2le0, i3le0, eq_self, hsame]))
              rcases d5 with ⟨rfl, -⟩ | ⟨rfl, -⟩ <;> rfl
            · rewrite [f_X5_put]
              repeat (first | with_reducible refine bnE ?_ | with_reducible refine exI ?_ | with_reducible refine exJ ?_ | with_reducible refine bs (ht) ?_ | with_reducible refine bs (ht') ?_ | with_reducible refine bs (ht2) ?_ | with_reducible refine bs (g2) ?_ | with_reducible refine bs (htop) ?_ | with_reducible refine bs (htop') ?_ | with_reducible refine bs (hs) ?_ | ((with_reducible refine iN ?_ ?_); · simp (disch := omega) only [ltL, Llt, leL, Lle, eqL, addL, Ladd, subL, subN, decN, eqM, Mle, mulL, nI_add, nI_ltI, nI_leI, nI_eq, nI_clamp, up2_at, nltT, nltF, nleT, nleF, neqT, neqF, ↓reduceIte, true_or, or_true, false_or, or_false, or_self, true_and, and_true, false_and, and_false, and_self, not_true, not_false_eq_true, i10, i01, im0, im12, im21, m1lt, m2lt, m1le, m2le, i00, i0le0, i1le0, i2le0, i3le0, eq_self, n19 (by omega : j ≤ m), k3']) | ((with_reducible refine ip ?_ ?_); · simp (disch := omega) only [ltL, Llt, leL, Lle, eqL, addL, Ladd, subL, subN, decN, eqM, Mle, mulL, nI_add, nI_ltI, nI_leI, nI_eq, nI_clamp, up2_at, nltT, nltF, nleT, nleF, neqT, neqF, ↓reduceIte, true_or, or_true, false_or, or_false, or_self, true_and, and_true, false_and, and_false, and_self, not_true, not_false_eq_true, i10, i01, im0, im12, im21, m1lt, m2lt, m1le, m2le, i00, i0le0, i1le0, i2le0, i3le0, eq_self, n19 (by omega : j ≤ m), k3']))
              simp (disch := omega) only [nI_clamp, up2_at, Nat.reduceEqDiff, false_and, ↓reduceIte, n19 (by omega : j ≤ m), n19 (by omega : i ≤ m), n19 (Nat.le_refl m), k3', n20]
              refine Eq.trans c4 ?_
              rewrite [f_X5_put_97]
              repeat (first | with_reducible refine bnE ?_ | with_reducible refine exI ?_ | with_reducible refine exJ ?_ | with_reducible refine bs (d3) ?_ | ((with_reducible refine iN ?_ ?_); · simp (disch := omega) only [ltL, Llt, leL, Lle, eqL, addL, Ladd, subL, subN, decN, eqM, Mle, mulL, nI_add, nI_ltI, nI_leI, nI_eq, nI_clamp, up2_at, nltT, nltF, nleT, nleF, neqT, neqF, ↓reduceIte, true_or, or_true, false_or, or_false, or_self, true_and, and_true, false_and, and_false, and_self, not_true, not_false_eq_true, i10, i01, im0, im12, im21, m1lt, m2lt, m1le, m2le, i00, i0le0, i1le0, i2le0, i3le0, eq_self, e19]) | ((with_reducible refine ip ?_ ?_); · simp (disch := omega) only [ltL, Llt, leL, Lle, eqL, addL, Ladd, subL, subN, decN, eqM, Mle, mulL, nI_add, nI_ltI, nI_leI, nI_eq, nI_clamp, up2_at, nltT, nltF, nleT, nleF, neqT, neqF, ↓reduceIte, true_or, or_true, false_or, or_false, or_self, true_and, and_true, false_and, and_false, and_self, not_true, not_false_eq_true, i10, i01, im0, im12, im21, m1lt, m2lt, m1le, m2le, i00, i0le0, i1le0, i2le0, i3le0, eq_self, e19]))
              rfl
            · rcases d5 with ⟨rfl, h⟩ | ⟨rfl, h⟩
              · exact Or.inl ⟨_, rfl, h, rfl⟩
              · exact Or.inr ⟨1, rfl, by rw [h]; decide, by decide⟩
          · rw [if_neg (fun z => hsame (hiff.mpr z))] at hs
            refine bad2 ?_ ?_
            · rewrite [f_X4_put]
              repeat (first | with_reducible refine bnE ?_ | with_reducible refine exI ?_ | with_reducible refine exJ ?_ | with_reducible refine bs (hr) ?_ | with_reducible refine bs (hr') ?_ | with_reducible refine bs (hr2) ?_ | with_reducible refine bs (g1) ?_ | with_reducible refine bs (hrt) ?_ | with_reducible refine bs (hrt') ?_ | ((with_reducible refine iN ?_ ?_); · simp (disch := omega) only [ltL, Llt, leL, Lle, eqL, addL, Ladd, subL, subN, decN, eqM, Mle, mulL, nI_add, nI_ltI, nI_leI, nI_eq, nI_clamp, up2_at, nltT, nltF, nleT, nleF, neqT, neqF, ↓reduceIte, true_or, or_true, false_or, or_false, or_self, true_and, and_true, false_and, and_false, and_self, not_true, not_false_eq_true, i10, i01, im0, im12, im21, m1lt, m2lt, m1le, m2le, i00, i0le0, i1le0, i2le0, i3le0, eq_self, hsame]) | ((with_reducible refine ip ?_ ?_); · simp (disch := omega) only [ltL, Llt, leL, Lle, eqL, addL, Ladd, subL, subN, decN, eqM, Mle, mulL, nI_add, nI_ltI, nI_leI, nI_eq, nI_clamp, up2_at, nltT, nltF, nleT, nleF, neqT, neqF, ↓reduceIte, true_or, or_true, false_or, or_false, or_self, true_and, and_true, false_and, and_false, and_self, not_true, not_false_eq_true, i10, i01, im0, im12, im21, m1lt, m2lt, m1le, m2le, i00, i0le0, i1le0, i2le0, i3le0, eq_self, hsame]))
              rfl
            · rewrite [f_X5_put]
              repeat (first | with_reducible refine bnE ?_ | with_reducible refine exI ?_ | with_reducible refine exJ ?_ | with_reducible refine bs (ht) ?_ | with_reducible refine bs (ht') ?_ | with_reducible refine bs (ht2) ?_ | with_reducible refine bs (g2) ?_ | with_reducible refine bs (htop) ?_ | with_reducible refine bs (htop') ?_ | with_reducible refine bs (hs) ?_ | ((with_reducible refine iN ?_ ?_); · simp (disch := omega) only [ltL, Llt, leL, Lle, eqL, addL, Ladd, subL, subN, decN, eqM, Mle, mulL, nI_add, nI_ltI, nI_leI, nI_eq, nI_clamp, up2_at, nltT, nltF, nleT, nleF, neqT, neqF, ↓reduceIte, true_or, or_true, false_or, or_false, or_self, true_and, and_true, false_and, and_false, and_self, not_true, not_false_eq_true, i10, i01, im0, im12, im21, m1lt, m2lt, m1le, m2le, i00, i0le0, i1le0, i2le0, i3le0, eq_self]) | ((with_reducible refine ip ?_ ?_); · simp (disch := omega) only [ltL, Llt, leL, Lle, eqL, addL, Ladd, subL, subN, decN, eqM, Mle, mulL, nI_add, nI_ltI, nI_leI, nI_eq, nI_clamp, up2_at, nltT, nltF, nleT, nleF, neqT, neqF, ↓reduceIte, true_or, or_true, false_or, or_false, or_self, true_and, and_true, false_and, and_false, and_self, not_true, not_false_eq_true, i10, i01, im0, im12, im21, m1lt, m2lt, m1le, m2le, i00, i0le0, i1le0, i2le0, i3le0, eq_self]))
              rfl
        · refine bad2 ?_ ?_
          · rewrite [f_X4_put]
            repeat (first | with_reducible refine bnE ?_ | with_reducible refine exI ?_ | with_reducible refine exJ ?_ | with_reducible refine bs (hr) ?_ | with_reducible refine bs (hr') ?_ | with_reducible refine bs (hr2) ?_ | with_reducible refine bs (g1) ?_ | ((with_reducible refine iN ?_ ?_); · simp (disch := omega) only [ltL, Llt, leL, Lle, eqL, addL, Ladd, subL, subN, decN, eqM, Mle, mulL, nI_add, nI_ltI, nI_leI, nI_eq, nI_clamp, up2_at, nltT, nltF, nleT, nleF, neqT, neqF, ↓reduceIte, true_or, or_true, false_or, or_false, or_self, true_and, and_true, false_and, and_false, and_self, not_true, not_false_eq_true, i10, i01, im0, im12, im21, m1lt, m2lt, m1le, m2le, i00, i0le0, i1le0, i2le0, i3le0, eq_self]) | ((with_reducible refine ip ?_ ?_); · simp (disch := omega) only [ltL, Llt, leL, Lle, eqL, addL, Ladd, subL, subN, decN, eqM, Mle, mulL, nI_add, nI_ltI, nI_leI, nI_eq, nI_clamp, up2_at, nltT, nltF, nleT, nleF, neqT, neqF, ↓reduceIte, true_or, or_true, false_or, or_false, or_self, true_and, and_true, false_and, and_false, and_self, not_true, not_false_eq_true, i10, i01, im0, im12, im21, m1lt, m2lt, m1le, m2le, i00, i0le0, i1le0, i2le0, i3le0, eq_self]))
            rfl
          · rewrite [f_X5_put]
            repeat (first | with_reducible refine bnE ?_ | with_reducible refine exI ?_ | with_reducible refine exJ ?_ | with_reducible refine bs (ht) ?_ | with_reducible refine bs (ht') ?_ | with_reducible refine bs (ht2) ?_ | with_reducible refine bs (g2) ?_ | ((with_reducible refine iN ?_ ?_); · simp (disch := omega) only [ltL, Llt, leL, Lle, eqL, addL, Ladd, subL, subN, decN, eqM, Mle, mulL, nI_add, nI_ltI, nI_leI, nI_eq, nI_clamp, up2_at, nltT, nltF, nleT, nleF, neqT, neqF, ↓reduceIte, true_or, or_true, false_or, or_false, or_self, true_and, and_true, false_and, and_false, and_self, not_true, not_false_eq_true, i10, i01, im0, im12, im21, m1lt, m2lt, m1le, m2le, i00, i0le0, i1le0, i2le0, i3le0, eq_self]) | ((with_reducible refine ip ?_ ?_); · simp (disch := omega) only [ltL, Llt, leL, Lle, eqL, addL, Ladd, subL, subN, decN, eqM, Mle, mulL, nI_add, nI_ltI, nI_leI, nI_eq, nI_clamp, up2_at, nltT, nltF, nleT, nleF, neqT, neqF, ↓reduceIte, true_or, or_true, false_or, or_false, or_self, true_and, and_true, false_and, and_false, and_self, not_true, not_false_eq_true, i10, i01, im0, im12, im21, m1lt, m2lt, m1le, m2le, i00, i0le0, i1le0, i2le0, i3le0, eq_self]))
            rfl
      · refine bad1 ?_ ?_
        · rewrite [f_X4_put]
          repeat (first | with_reducible refine bnE ?_ | with_reducible refine exI ?_ | with_reducible refine exJ ?_ | with_reducible refine bs (hr) ?_ | with_reducible refine bs (hr') ?_ | with_reducible refine bs (hr2) ?_ | ((with_reducible refine iN ?_ ?_); · simp (disch := omega) only [ltL, Llt, leL, Lle, eqL, addL, Ladd, subL, subN, decN, eqM, Mle, mulL, nI_add, nI_ltI, nI_leI, nI_eq, nI_clamp, up2_at, nltT, nltF, nleT, nleF, neqT, neqF, ↓reduceIte, true_or, or_true, false_or, or_false, or_self, true_and, and_true, false_and, and_false, and_self, not_true, not_false_eq_true, i10, i01, im0, im12, im21, m1lt, m2lt, m1le, m2le, i00, i0le0, i1le0, i2le0, i3le0, eq_self]) | ((with_reducible refine ip ?_ ?_); · simp (disch := omega) only [ltL, Llt, leL, Lle, eqL, addL, Ladd, subL, subN, decN, eqM, Mle, mulL, nI_add, nI_ltI, nI_leI, nI_eq, nI_clamp, up2_at, nltT, nltF, nleT, nleF, neqT, neqF, ↓reduceIte, true_or, or_true, false_or, or_false, or_self, true_and, and_true, false_and, and_false, and_self, not_true, not_false_eq_true, i10, i01, im0, im12, im21, m1lt, m2lt, m1le, m2le, i00, i0le0, i1le0, i2le0, i3le0, eq_self]))
          rfl
        · rewrite [f_X5_put]
          repeat (first | with_reducible refine bnE ?_ | with_reducible refine exI ?_ | with_reducible refine exJ ?_ | with_reducible refine bs (ht) ?_ | with_reducible refine bs (ht') ?_ | with_reducible refine bs (ht2 (z := up2 σ 0 0 0) rfl) ?_ | ((with_reducible refine iN ?_ ?_); · simp (disch := omega) only [ltL, Llt, leL, Lle, eqL, addL, Ladd, subL, subN, decN, eqM, Mle, mulL, nI_add, nI_ltI, nI_leI, nI_eq, nI_clamp, up2_at, nltT, nltF, nleT, nleF, neqT, neqF, ↓reduceIte, true_or, or_true, false_or, or_false, or_self, true_and, and_true, false_and, and_false, and_self, not_true, not_false_eq_true, i10, i01, im0, im12, im21, m1lt, m2lt, m1le, m2le, i00, i0le0, i1le0, i2le0, i3le0, eq_self]) | ((with_reducible refine ip ?_ ?_); · simp (disch := omega) only [ltL, Llt, leL, Lle, eqL, addL, Ladd, subL, subN, decN, eqM, Mle, mulL, nI_add, nI_ltI, nI_leI, nI_eq, nI_clamp, up2_at, nltT, nltF, nleT, nleF, neqT, neqF, ↓reduceIte, true_or, or_true, false_or, or_false, or_self, true_and, and_true, false_and, and_false, and_self, not_true, not_false_eq_true, i10, i01, im0, im12, im21, m1lt, m2lt, m1le, m2le, i00, i0le0, i1le0, i2le0, i3le0, eq_self]))
          rfl
    · refine bad1 ?_ ?_
      · rewrite [f_X4_put]
        repeat (first | with_reducible refine bnE ?_ | with_reducible refine exI ?_ | with_reducible refine exJ ?_ | with_reducible refine bs (hr) ?_ | with_reducible refine bs (hr') ?_ | ((with_reducible refine iN ?_ ?_); · simp (disch := omega) only [ltL, Llt, leL, Lle, eqL, addL, Ladd, subL, subN, decN, eqM, Mle, mulL, nI_add, nI_ltI, nI_leI, nI_eq, nI_clamp, up2_at, nltT, nltF, nleT, nleF, neqT, neqF, ↓reduceIte, true_or, or_true, false_or, or_false, or_self, true_and, and_true, false_and, and_false, and_self, not_true, not_false_eq_true, i10, i01, im0, im12, im21, m1lt, m2lt, m1le, m2le, i00, i0le0, i1le0, i2le0, i3le0, eq_self]) | ((with_reducible refine ip ?_ ?_); · simp (disch := omega) only [ltL, Llt, leL, Lle, eqL, addL, Ladd, subL, subN, decN, eqM, Mle, mulL, nI_add, nI_ltI, nI_leI, nI_eq, nI_clamp, up2_at, nltT, nltF, nleT, nleF, neqT, neqF, ↓reduceIte, true_or, or_true, false_or, or_false, or_self, true_and, and_true, false_and, and_false, and_self, not_true, not_false_eq_true, i10, i01, im0, im12, im21, m1lt, m2lt, m1le, m2le, i00, i0le0, i1le0, i2le0, i3le0, eq_self]))
        rfl
      · rewrite [f_X5_put]
        repeat (first | with_reducible refine bnE ?_ | with_reducible refine exI ?_ | with_reducible refine exJ ?_ | with_reducible refine bs (ht) ?_ | with_reducible refine bs (ht' (z := up2 σ 0 0 0) rfl) ?_ | ((with_reducible refine iN ?_ ?_); · simp (disch := omega) only [ltL, Llt, leL, Lle, eqL, addL, Ladd, subL, subN, decN, eqM, Mle, mulL, nI_add, nI_ltI, nI_leI, nI_eq, nI_clamp, up2_at, nltT, nltF, nleT, nleF, neqT, neqF, ↓reduceIte, true_or, or_true, false_or, or_false, or_self, true_and, and_true, false_and, and_false, and_self, not_true, not_false_eq_true, i10, i01, im0, im12, im21, m1lt, m2lt, m1le, m2le, i00, i0le0, i1le0, i2le0, i3le0, eq_self]) | ((with_reducible refine ip ?_ ?_); · simp (disch := omega) only [ltL, Llt, leL, Lle, eqL, addL, Ladd, subL, subN, decN, eqM, Mle, mulL, nI_add, nI_ltI, nI_leI, nI_eq, nI_clamp, up2_at, nltT, nltF, nleT, nleF, neqT, neqF, ↓reduceIte, true_or, or_true, false_or, or_false, or_self, true_and, and_true, false_and, and_false, and_self, not_true, not_false_eq_true, i10, i01, im0, im12, im21, m1lt, m2lt, m1le, m2le, i00, i0le0, i1le0, i2le0, i3le0, eq_self]))
        rfl
  · refine bad1 ?_ ?_
    · rewrite [f_X4_put]
      repeat (first | with_reducible refine bnE ?_ | with_reducible refine exI ?_ | with_reducible refine exJ ?_ | with_reducible refine bs (hr) ?_ | ((with_reducible refine iN ?_ ?_); · simp (disch := omega) only [ltL, Llt, leL, Lle, eqL, addL, Ladd, subL, subN, decN, eqM, Mle, mulL, nI_add, nI_ltI, nI_leI, nI_eq, nI_clamp, up2_at, nltT, nltF, nleT, nleF, neqT, neqF, ↓reduceIte, true_or, or_true, false_or, or_false, or_self, true_and, and_true, false_and, and_false, and_self, not_true, not_false_eq_true, i10, i01, im0, im12, im21, m1lt, m2lt, m1le, m2le, i00, i0le0, i1le0, i2le0, i3le0, eq_self]) | ((with_reducible refine ip ?_ ?_); · simp (disch := omega) only [ltL, Llt, leL, Lle, eqL, addL, Ladd, subL, subN, decN, eqM, Mle, mulL, nI_add, nI_ltI, nI_leI, nI_eq, nI_clamp, up2_at, nltT, nltF, nleT, nleF, neqT, neqF, ↓reduceIte, true_or, or_true, false_or, or_false, or_self, true_and, and_true, false_and, and_false, and_self, not_true, not_false_eq_true, i10, i01, im0, im12, im21, m1lt, m2lt, m1le, m2le, i00, i0le0, i1le0, i2le0, i3le0, eq_self]))
      rfl
    · rewrite [f_X5_put]
      repeat (first | with_reducible refine bnE ?_ | with_reducible refine exI ?_ | with_reducible refine exJ ?_ | with_reducible refine bs (ht (z := up2 σ 0 0 0) rfl) ?_ | ((with_reducible refine iN ?_ ?_); · simp (disch := omega) only [ltL, Llt, leL, Lle, eqL, addL, Ladd, subL, subN, decN, eqM, Mle, mulL, nI_add, nI_ltI, nI_leI, nI_eq, nI_clamp, up2_at, nltT, nltF, nleT, nleF, neqT, neqF, ↓reduceIte, true_or, or_true, false_or, or_false, or_self, true_and, and_true, false_and, and_false, and_self, not_true, not_false_eq_true, i10, i01, im0, im12, im21, m1lt, m2lt, m1le, m2le, i00, i0le0, i1le0, i2le0, i3le0, eq_self]) | ((with_reducible refine ip ?_ ?_); · simp (disch := omega) only [ltL, Llt, leL, Lle, eqL, addL, Ladd, subL, subN, decN, eqM, Mle, mulL, nI_add, nI_ltI, nI_leI, nI_eq, nI_clamp, up2_at, nltT, nltF, nleT, nleF, neqT, neqF, ↓reduceIte, true_or, or_true, false_or, or_false, or_self, true_and, and_true, false_and, and_false, and_self, not_true, not_false_eq_true, i10, i01, im0, im12, im21, m1lt, m2lt, m1le, m2le, i00, i0le0, i1le0, i2le0, i3le0, eq_self]))
      rfl
