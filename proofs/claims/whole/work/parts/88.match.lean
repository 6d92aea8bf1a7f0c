/-! PURE: match -/
theorem pieces5 {w n q p hc tot m : Nat} {s : Nat → Nat} {x y t σ y' σ' : St} (i1 : I1 n (x 3) q y σ) (i2 : I2 q x σ) (i3 : I3 p n x y σ) (i4 : I4 w hc tot n y σ) (i5 : I5 w m s n y t σ) (hy : ∀ r, r ≠ 7 → r ≠ 8 → r ≠ 11 → y' r = y r) (hs : ∀ r, r ≠ 0 → r ≠ 22 → r ≠ 23 → r ≠ 24 → r ≠ 25 → r ≠ 26 → r ≠ 27 → r ≠ 28 → r ≠ 29 → σ' r = σ r) : I1 n (x 3) q y' σ' ∧ I2 q x σ' ∧ I3 p n x y' σ' ∧ I4 w hc tot n y' σ' ∧ I5 w m s n y' t σ' := by
  obtain ⟨T, ht⟩ := i1.2.1.congr (σ' := σ') (by simp (disch := decide) only [up2_row, upR_row, and_self, eq_self, hs])
  obtain ⟨T', ht'⟩ := i1.1.congr (y' := y') (by simp (disch := decide) only [up2_row, upR_row, and_self, eq_self, hy])
  have mo : Mo n y σ n y' σ' := ⟨Nat.le_refl _, fun _ _ => by rw [ht'], fun _ _ => by rw [ht]⟩
  refine ⟨I1_restore i1 T' T mo, ?_, i3.tr mo (by simp (disch := decide) only [up2_row, upR_row, and_self, eq_self, hs]), i4.tr (Nat.le_refl w) mo (by simp (disch := decide) only [up2_row, upR_row, and_self, eq_self, hs, hy]), i5.tr (Nat.le_refl w) mo ⟨rfl, by simp (disch := decide) only [up2_row, upR_row, and_self, eq_self, hs], fun i _ => by simp (disch := decide) only [up2_row, upR_row, and_self, eq_self, hs], fun _ _ => rfl, fun k _ => by simp (disch := decide) only [up2_row, upR_row, and_self, eq_self, hs]⟩⟩
  obtain ⟨b1, b2, b3, b4, b5, b6⟩ := i2
  refine ⟨b1, b2, b3, ?_, b5, ?_⟩
  · rw [hs 1 (by decide) (by decide) (by decide) (by decide) (by decide) (by decide) (by decide) (by decide) (by decide)]; exact b4
  · rw [hs 2 (by decide) (by decide) (by decide) (by decide) (by decide) (by decide) (by decide) (by decide) (by decide)]; exact b6
theorem match_stop {N fu : Nat} {σ : St} {x3 x5 : Int32} {p E : Nat} (hp : p < 4200) (e : σ 19 (p + 1) = nI E) : f_X5_match_61 N (fu + 1) σ (nI p) x3 0 x5 = some (-1, up2 σ 26 0 (-1)) := by
  have fin : f_X5_match_162 N σ 0 = some (-1, up2 σ 26 0 (-1)) := by
    rewrite [f_X5_match_162]
    refine ip rfl (bnE ?_)
    rewrite [f_X5_match_172]
    simp (disch := omega) only [ltL, Llt, leL, Lle, eqL, addL, Ladd, subL, subN, decN, eqM, Mle, mulL, nI_add, nI_ltI, nI_leI, nI_eq, nI_clamp, up2_at, nltT, nltF, nleT, nleF, neqT, neqF, ↓reduceIte, true_or, or_true, false_or, or_false, or_self, true_and, and_true, false_and, and_false, and_self, not_true, not_false_eq_true, i10, i01, im0, im12, im21, m1lt, m2lt, m1le, m2le, i00, i0le0, i1le0, i2le0, i3le0, eq_self, ]
  have hin : ¬ (nI p + 1 < 0 ∨ 4201 ≤ (nI p + 1).toNatClampNeg) := by rw [nI_add1]; exact nI_in (by omega) (by omega)
  rewrite [f_X5_match_61]
  refine iN hin ?_
  by_cases q : σ 19 (nI p + 1).toNatClampNeg ≤ x5
  · exact ip q fin
  · exact iN q (ip rfl fin)
theorem match_loop {N w n q u m p E : Nat} {s : Nat → Nat} {x yb σb t : St} (hN : 34100 < N) (hw : w < 512) (I : I1 n (x 3) q yb σb) (i2 : I2 q x σb) (i5 : I5 w m s n yb t σb) (hp : p < m) (eE : E = s (p + 1)) {R0 h a b : Nat} (T : Tm (t 0) R0 h a b) :
    ∀ R h' a' b' y bb σ k f hs fu fu', Tm (t 0) R h' a' b' → h' ≤ 120 → b' ≤ s m → b' - a' ≤ 4000 → MaI n u f m s hs yb σb t y bb σ → 2 * f + (b - a) + 1 ≤ 4001 → b ≤ E → E - a < fu → E - a + 1 < fu' →
      (∃ y' bb' σ' k' f' hs', f_X4_wholeFits_19 N fu x y t k bb (nI p) (nI a') (nI a) = f_X4_wholeFits_19 N (fu - (b - a)) x y' t k' bb' (nI p) (nI b') (nI b) ∧ f_X5_match_61 N fu' σ (nI p) (nI a') 1 (nI a) = f_X5_match_61 N (fu' - (b - a)) σ' (nI p) (nI b') 1 (nI b) ∧ MaI n u f' m s hs' yb σb t y' bb' σ' ∧ 2 * f' ≤ 2 * f + (b - a) + 1) ∨ (∃ y' bb' σ' k', f_X4_wholeFits_19 N fu x y t k bb (nI p) (nI a') (nI a) = some (0, (x, y', t, k', bb')) ∧ f_X5_match_61 N fu' σ (nI p) (nI a') 1 (nI a) = some (-1, up2 σ' 26 0 (-1)) ∧ MF u yb σb y' bb' σ') := by
  have sm := i5.smono
  have l2 := sm (p + 1) m (by omega) (by omega)
  obtain ⟨k1, k2, k3, k4, k5, k6, k7, k8⟩ := id i5
  subst eE
  have hend : ∀ k, f_X1_end N t k (nI p) = some (nI (s (p + 1)), (t, k)) := fun k => by
    have := end_ok (N := N) (t := t) (k := k) (by omega : p < 512)
    rw [(k6 (p + 1) (by omega)).1] at this; exact this
  have e19 : ∀ {σ : St}, SM σb σ → σ 19 (p + 1) = nI (s (p + 1)) := fun {σ} hs => by
    rw [hs 19 (by decide) (by decide) (by decide) (by decide) (by decide) (by decide) (by decide) (by decide)]; exact (k6 (p + 1) (by omega)).2
  -- a symbol that is no free variable
  have non : ∀ (y bb σ k : St) f hs fu fu' a c, MaI n u f m s hs yb σb t y bb σ → a < s (p + 1) → c < s m → (t 0 a = -1 ∨ t 0 a = -2 ∨ ∃ v, v < 4000 ∧ t 0 a = nI v ∧ v % 4 ≠ 1) → (∃ y' σ', f_X4_wholeFits_19 N (fu + 1) x y t k bb (nI p) (nI c) (nI a) = f_X4_wholeFits_19 N fu x y' t k bb (nI p) (nI (c + 1)) (nI (a + 1)) ∧ f_X5_match_61 N (fu' + 1) σ (nI p) (nI c) 1 (nI a) = f_X5_match_61 N fu' σ' (nI p) (nI (c + 1)) 1 (nI (a + 1)) ∧ MaI n u f m s hs yb σb t y' bb σ' ∧ t 0 a = t 0 c) ∨ (∃ y' σ', f_X4_wholeFits_19 N (fu + 1) x y t k bb (nI p) (nI c) (nI a) = some (0, (x, y', t, k, bb)) ∧ f_X5_match_61 N (fu' + 1) σ (nI p) (nI c) 1 (nI a) = f_X5_match_61 N fu' σ' (nI p) (nI (c + 1)) 0 (nI (a + 1)) ∧ MF u yb σb y' bb σ') := by
    intro y bb σ k f hs fu fu' a c hMI ha hc hno
    obtain ⟨r, y', σ', r0, g1, g2, g3, g4⟩ := mfit (k := k) hN hw I i2 i5 hMI (by omega : a < s m) hc hno
    have s20 : σ 20 a = t 0 a := by
      rw [hMI.2.1 20 (by decide) (by decide) (by decide) (by decide) (by decide) (by decide) (by decide) (by decide)]; exact (i5.src (by omega)).1.symm
    have e19' := e19 hMI.2.1
    have hinA : ¬ (nI a < 0 ∨ 34100 ≤ (nI a).toNatClampNeg) := nI_in (by omega) (by omega)
    have hR : f_X5_match_61 N (fu' + 1) σ (nI p) (nI c) 1 (nI a) = f_X5_match_61 N fu' σ' (nI p) (nI (c + 1)) r (nI (a + 1)) := by
      have h106 : f_X5_match_106 N (f_X5_match_61 N fu') σ (nI p) (nI c) (nI a) = f_X5_match_61 N fu' σ' (nI p) (nI (c + 1)) r (nI (a + 1)) := by
        rewrite [f_X5_match_106, f_X5_match_107]
        refine ip rfl ?_
        rewrite [f_X5_match_125]
        refine ip rfl (bs g2 ?_)
        rewrite [f_X5_match_151]
        simp (disch := omega) only [ltL, Llt, leL, Lle, eqL, addL, Ladd, subL, subN, decN, eqM, Mle, mulL, nI_add, nI_ltI, nI_leI, nI_eq, nI_clamp, up2_at, nltT, nltF, nleT, nleF, neqT, neqF, ↓reduceIte, true_or, or_true, false_or, or_false, or_self, true_and, and_true, false_and, and_false, and_self, not_true, not_false_eq_true, i10, i01, im0, im12, im21, m1lt, m2lt, m1le, m2le, i00, i0le0, i1le0, i2le0, i3le0, eq_self, ]
      rewrite [f_X5_match_61]
      rcases hno with e | e | ⟨v, hv, e, hk⟩
      · have : σ 20 a < 0 := by rw [s20, e]; decide
        repeat (first | with_reducible refine bnE ?_ | with_reducible refine exI ?_ | with_reducible refine exJ ?_ | ((with_reducible refine iN ?_ ?_); · simp (disch := omega) only [ltL, Llt, leL, Lle, eqL, addL, Ladd, subL, subN, decN, eqM, Mle, mulL, nI_add, nI_ltI, nI_leI, nI_eq, nI_clamp, up2_at, nltT, nltF, nleT, nleF, neqT, neqF, ↓reduceIte, true_or, or_true, false_or, or_false, or_self, true_and, and_true, false_and, and_false, and_self, not_true, not_false_eq_true, i10, i01, im0, im12, im21, m1lt, m2lt, m1le, m2le, i00, i0le0, i1le0, i2le0, i3le0, eq_self, e19', this]) | ((with_reducible refine ip ?_ ?_); · simp (disch := omega) only [ltL, Llt, leL, Lle, eqL, addL, Ladd, subL, subN, decN, eqM, Mle, mulL, nI_add, nI_ltI, nI_leI, nI_eq, nI_clamp, up2_at, nltT, nltF, nleT, nleF, neqT, neqF, ↓reduceIte, true_or, or_true, false_or, or_false, or_self, true_and, and_true, false_and, and_false, and_self, not_true, not_false_eq_true, i10, i01, im0, im12, im21, m1lt, m2lt, m1le, m2le, i00, i0le0, i1le0, i2le0, i3le0, eq_self, e19', this]))
        exact h106
      · have : σ 20 a < 0 := by rw [s20, e]; decide
        repeat (first | with_reducible refine bnE ?_ | with_reducible refine exI ?_ | with_reducible refine exJ ?_ | ((with_reducible refine iN ?_ ?_); · simp (disch := omega) only [ltL, Llt, leL, Lle, eqL, addL, Ladd, subL, subN, decN, eqM, Mle, mulL, nI_add, nI_ltI, nI_leI, nI_eq, nI_clamp, up2_at, nltT, nltF, nleT, nleF, neqT, neqF, ↓reduceIte, true_or, or_true, false_or, or_false, or_self, true_and, and_true, false_and, and_false, and_self, not_true, not_false_eq_true, i10, i01, im0, im12, im21, m1lt, m2lt, m1le, m2le, i00, i0le0, i1le0, i2le0, i3le0, eq_self, e19', this]) | ((with_reducible refine ip ?_ ?_); · simp (disch := omega) only [ltL, Llt, leL, Lle, eqL, addL, Ladd, subL, subN, decN, eqM, Mle, mulL, nI_add, nI_ltI, nI_leI, nI_eq, nI_clamp, up2_at, nltT, nltF, nleT, nleF, neqT, neqF, ↓reduceIte, true_or, or_true, false_or, or_false, or_self, true_and, and_true, false_and, and_false, and_self, not_true, not_false_eq_true, i10, i01, im0, im12, im21, m1lt, m2lt, m1le, m2le, i00, i0le0, i1le0, i2le0, i3le0, eq_self, e19', this]))
        exact h106
      · have n1 : ¬ σ 20 a < 0 := by rw [s20, e]; exact nn (by omega)
        have n2 : ¬ σ 20 a - σ 20 a / 4 * 4 = 1 := by
          rw [s20, e, rem4 (by omega)]
          exact fun z => hk ((nI_eq (b := 1) (by omega) (by omega)).mp z)
        repeat (first | with_reducible refine bnE ?_ | with_reducible refine exI ?_ | with_reducible refine exJ ?_ | ((with_reducible refine iN ?_ ?_); · simp (disch := omega) only [ltL, Llt, leL, Lle, eqL, addL, Ladd, subL, subN, decN, eqM, Mle, mulL, nI_add, nI_ltI, nI_leI, nI_eq, nI_clamp, up2_at, nltT, nltF, nleT, nleF, neqT, neqF, ↓reduceIte, true_or, or_true, false_or, or_false, or_self, true_and, and_true, false_and, and_false, and_self, not_true, not_false_eq_true, i10, i01, im0, im12, im21, m1lt, m2lt, m1le, m2le, i00, i0le0, i1le0, i2le0, i3le0, eq_self, e19', n1, n2]) | ((with_reducible refine ip ?_ ?_); · simp (disch := omega) only [ltL, Llt, leL, Lle, eqL, addL, Ladd, subL, subN, decN, eqM, Mle, mulL, nI_add, nI_ltI, nI_leI, nI_eq, nI_clamp, up2_at, nltT, nltF, nleT, nleF, neqT, neqF, ↓reduceIte, true_or, or_true, false_or, or_false, or_self, true_and, and_true, false_and, and_false, and_self, not_true, not_false_eq_true, i10, i01, im0, im12, im21, m1lt, m2lt, m1le, m2le, i00, i0le0, i1le0, i2le0, i3le0, eq_self, e19', n1, n2]))
        exact h106
    rcases r0 with rfl | rfl
    · refine Or.inr ⟨y', σ', ?_, hR, g3 rfl⟩
      rewrite [f_X4_wholeFits_19]
      repeat (first | with_reducible refine bnE ?_ | with_reducible refine exI ?_ | with_reducible refine exJ ?_ | with_reducible refine bs (hend _) ?_ | with_reducible refine bs (g1) ?_ | ((with_reducible refine iN ?_ ?_); · simp (disch := omega) only [ltL, Llt, leL, Lle, eqL, addL, Ladd, subL, subN, decN, eqM, Mle, mulL, nI_add, nI_ltI, nI_leI, nI_eq, nI_clamp, up2_at, nltT, nltF, nleT, nleF, neqT, neqF, ↓reduceIte, true_or, or_true, false_or, or_false, or_self, true_and, and_true, false_and, and_false, and_self, not_true, not_false_eq_true, i10, i01, im0, im12, im21, m1lt, m2lt, m1le, m2le, i00, i0le0, i1le0, i2le0, i3le0, eq_self]) | ((with_reducible refine ip ?_ ?_); · simp (disch := omega) only [ltL, Llt, leL, Lle, eqL, addL, Ladd, subL, subN, decN, eqM, Mle, mulL, nI_add, nI_ltI, nI_leI, nI_eq, nI_clamp, up2_at, nltT, nltF, nleT, nleF, neqT, neqF, ↓reduceIte, true_or, or_true, false_or, or_false, or_self, true_and, and_true, false_and, and_false, and_self, not_true, not_false_eq_true, i10, i01, im0, im12, im21, m1lt, m2lt, m1le, m2le, i00, i0le0, i1le0, i2le0, i3le0, eq_self]))
      rfl
    · refine Or.inl ⟨y', σ', ?_, hR, (g4 rfl).1, (g4 rfl).2⟩
      have nc : ¬ nI (c + 1) = -1 := nI_ne_m1 (by omega)
      have g1' : f_X4_behindFitting N x y t k bb (nI a) (nI c) = some (nI (c + 1), (x, y', t, k, bb)) := g1
      rewrite [f_X4_wholeFits_19]
      repeat (first | with_reducible refine bnE ?_ | with_reducible refine exI ?_ | with_reducible refine exJ ?_ | with_reducible refine bs (hend _) ?_ | with_reducible refine bs (g1') ?_ | ((with_reducible refine iN ?_ ?_); · simp (disch := omega) only [ltL, Llt, leL, Lle, eqL, addL, Ladd, subL, subN, decN, eqM, Mle, mulL, nI_add, nI_ltI, nI_leI, nI_eq, nI_clamp, up2_at, nltT, nltF, nleT, nleF, neqT, neqF, ↓reduceIte, true_or, or_true, false_or, or_false, or_self, true_and, and_true, false_and, and_false, and_self, not_true, not_false_eq_true, i10, i01, im0, im12, im21, m1lt, m2lt, m1le, m2le, i00, i0le0, i1le0, i2le0, i3le0, eq_self, nc]) | ((with_reducible refine ip ?_ ?_); · simp (disch := omega) only [ltL, Llt, leL, Lle, eqL, addL, Ladd, subL, subN, decN, eqM, Mle, mulL, nI_add, nI_ltI, nI_leI, nI_eq, nI_clamp, up2_at, nltT, nltF, nleT, nleF, neqT, neqF, ↓reduceIte, true_or, or_true, false_or, or_false, or_self, true_and, and_true, false_and, and_false, and_self, not_true, not_false_eq_true, i10, i01, im0, im12, im21, m1lt, m2lt, m1le, m2le, i00, i0le0, i1le0, i2le0, i3le0, eq_self, nc]))
      simp (disch := omega) only [ltL, Llt, leL, Lle, eqL, addL, Ladd, subL, subN, decN, eqM, Mle, mulL, nI_add, nI_ltI, nI_leI, nI_eq, nI_clamp, up2_at, nltT, nltF, nleT, nleF, neqT, neqF, ↓reduceIte, true_or, or_true, false_or, or_false, or_self, true_and, and_true, false_and, and_false, and_self, not_true, not_false_eq_true, i10, i01, im0, im12, im21, m1lt, m2lt, m1le, m2le, i00, i0le0, i1le0, i2le0, i3le0, eq_self, ]
  refine Tm.ind (c := t 0) (P := fun R0 h a b => ∀ R h' a' b' y bb σ k f hs fu fu', Tm (t 0) R h' a' b' → h' ≤ 120 → b' ≤ s m → b' - a' ≤ 4000 → MaI n u f m s hs yb σb t y bb σ → 2 * f + (b - a) + 1 ≤ 4001 → b ≤ s (p + 1) → s (p + 1) - a < fu → s (p + 1) - a + 1 < fu' → (∃ y' bb' σ' k' f' hs', f_X4_wholeFits_19 N fu x y t k bb (nI p) (nI a') (nI a) = f_X4_wholeFits_19 N (fu - (b - a)) x y' t k' bb' (nI p) (nI b') (nI b) ∧ f_X5_match_61 N fu' σ (nI p) (nI a') 1 (nI a) = f_X5_match_61 N (fu' - (b - a)) σ' (nI p) (nI b') 1 (nI b) ∧ MaI n u f' m s hs' yb σb t y' bb' σ' ∧ 2 * f' ≤ 2 * f + (b - a) + 1) ∨ (∃ y' bb' σ' k', f_X4_wholeFits_19 N fu x y t k bb (nI p) (nI a') (nI a) = some (0, (x, y', t, k', bb')) ∧ f_X5_match_61 N fu' σ (nI p) (nI a') 1 (nI a) = some (-1, up2 σ' 26 0 (-1)) ∧ MF u yb σb y' bb' σ')) ?_ ?_ ?_ T
  · intro R0 a o R h' a' b' y bb σ k f hs fu fu' T' hh hb' hlen hMI hf hb hfu hfu'
    have hl' := T'.lt
    obtain ⟨fu, rfl⟩ : ∃ z, fu = z + 1 := ⟨fu - 1, by omega⟩
    obtain ⟨fu', rfl⟩ : ∃ z, fu' = z + 1 + 1 := ⟨fu' - 2, by omega⟩
    have z1 : fu + 1 - (a + 1 - a) = fu := by omega
    have z2 : fu' + 1 + 1 - (a + 1 - a) = fu' + 1 := by omega
    rw [z1, z2]
    obtain ⟨v, hv, ev, ov⟩ := id o
    by_cases k1v : v % 4 = 1
    · -- a free variable
      have ec : t 0 a = nI (4 * (v / 4) + 1) := by rw [ev]; congr 1; omega
      obtain ⟨r, y', bb', σ', k', r0, g1, g2, g3, g4⟩ := mfree (k := k) hN hw I i2 i5 hMI (by omega : a < s m) (by omega : v / 4 < 1000) ec T' hb' hh hlen (by omega)
      have s20 : σ 20 a = nI v := by
        rw [hMI.2.1 20 (by decide) (by decide) (by decide) (by decide) (by decide) (by decide) (by decide) (by decide)]; exact (i5.src (by omega)).1.symm.trans ev
      have e19' := e19 hMI.2.1
      have TM' : Tm (σ 20) R h' a' b' := T'.congr (fun z q1 q2 => by
        rw [hMI.2.1 20 (by decide) (by decide) (by decide) (by decide) (by decide) (by decide) (by decide) (by decide)]; exact (i5.src (by omega)).1.symm)
      have hen := endOf_ok (N := N) TM' (by omega) hN
      have hR : f_X5_match_61 N (fu' + 1 + 1) σ (nI p) (nI a') 1 (nI a) = f_X5_match_61 N (fu' + 1) σ' (nI p) (nI b') r (nI (a + 1)) := by
        have n1 : ¬ σ 20 a < 0 := by rw [s20]; exact nn (by omega)
        have n2 : σ 20 a - σ 20 a / 4 * 4 = 1 := by rw [s20, rem4 (by omega), k1v]; rfl
        rewrite [f_X5_match_61]
        repeat (first | with_reducible refine bnE ?_ | with_reducible refine exI ?_ | with_reducible refine exJ ?_ | ((with_reducible refine iN ?_ ?_); · simp (disch := omega) only [ltL, Llt, leL, Lle, eqL, addL, Ladd, subL, subN, decN, eqM, Mle, mulL, nI_add, nI_ltI, nI_leI, nI_eq, nI_clamp, up2_at, nltT, nltF, nleT, nleF, neqT, neqF, ↓reduceIte, true_or, or_true, false_or, or_false, or_self, true_and, and_true, false_and, and_false, and_self, not_true, not_false_eq_true, i10, i01, im0, im12, im21, m1lt, m2lt, m1le, m2le, i00, i0le0, i1le0, i2le0, i3le0, eq_self, e19', n1, n2]) | ((with_reducible refine ip ?_ ?_); · simp (disch := omega) only [ltL, Llt, leL, Lle, eqL, addL, Ladd, subL, subN, decN, eqM, Mle, mulL, nI_add, nI_ltI, nI_leI, nI_eq, nI_clamp, up2_at, nltT, nltF, nleT, nleF, neqT, neqF, ↓reduceIte, true_or, or_true, false_or, or_false, or_self, true_and, and_true, false_and, and_false, and_self, not_true, not_false_eq_true, i10, i01, im0, im12, im21, m1lt, m2lt, m1le, m2le, i00, i0le0, i1le0, i2le0, i3le0, eq_self, e19', n1, n2]))
        rewrite [f_X5_match_107]
        refine iN (by decide) (bs hen ?_)
        rewrite [f_X5_match_125]
        refine iN (by decide) (bs g2 ?_)
        rewrite [f_X5_match_151]
        simp (disch := omega) only [ltL, Llt, leL, Lle, eqL, addL, Ladd, subL, subN, decN, eqM, Mle, mulL, nI_add, nI_ltI, nI_leI, nI_eq, nI_clamp, up2_at, nltT, nltF, nleT, nleF, neqT, neqF, ↓reduceIte, true_or, or_true, false_or, or_false, or_self, true_and, and_true, false_and, and_false, and_self, not_true, not_false_eq_true, i10, i01, im0, im12, im21, m1lt, m2lt, m1le, m2le, i00, i0le0, i1le0, i2le0, i3le0, eq_self, ]
      rcases r0 with rfl | rfl
      · refine Or.inr ⟨y', bb', σ', k', ?_, hR.trans (match_stop (by omega) (e19 (g3 rfl).2.1)), g3 rfl⟩
        rewrite [f_X4_wholeFits_19]
        repeat (first | with_reducible refine bnE ?_ | with_reducible refine exI ?_ | with_reducible refine exJ ?_ | with_reducible refine bs (hend _) ?_ | with_reducible refine bs (g1) ?_ | ((with_reducible refine iN ?_ ?_); · simp (disch := omega) only [ltL, Llt, leL, Lle, eqL, addL, Ladd, subL, subN, decN, eqM, Mle, mulL, nI_add, nI_ltI, nI_leI, nI_eq, nI_clamp, up2_at, nltT, nltF, nleT, nleF, neqT, neqF, ↓reduceIte, true_or, or_true, false_or, or_false, or_self, true_and, and_true, false_and, and_false, and_self, not_true, not_false_eq_true, i10, i01, im0, im12, im21, m1lt, m2lt, m1le, m2le, i00, i0le0, i1le0, i2le0, i3le0, eq_self]) | ((with_reducible refine ip ?_ ?_); · simp (disch := omega) only [ltL, Llt, leL, Lle, eqL, addL, Ladd, subL, subN, decN, eqM, Mle, mulL, nI_add, nI_ltI, nI_leI, nI_eq, nI_clamp, up2_at, nltT, nltF, nleT, nleF, neqT, neqF, ↓reduceIte, true_or, or_true, false_or, or_false, or_self, true_and, and_true, false_and, and_false, and_self, not_true, not_false_eq_true, i10, i01, im0, im12, im21, m1lt, m2lt, m1le, m2le, i00, i0le0, i1le0, i2le0, i3le0, eq_self]))
        rfl
      · obtain ⟨f', hs', w1, w2⟩ := g4 rfl
        refine Or.inl ⟨y', bb', σ', k', f', hs', ?_, hR, w1, by omega⟩
        have nb : ¬ nI b' = -1 := nI_ne_m1 (by omega)
        have g1' : f_X4_behindFitting N x y t k bb (nI a) (nI a') = some (nI b', (x, y', t, k', bb')) := g1
        rewrite [f_X4_wholeFits_19]
        repeat (first | with_reducible refine bnE ?_ | with_reducible refine exI ?_ | with_reducible refine exJ ?_ | with_reducible refine bs (hend _) ?_ | with_reducible refine bs (g1') ?_ | ((with_reducible refine iN ?_ ?_); · simp (disch := omega) only [ltL, Llt, leL, Lle, eqL, addL, Ladd, subL, subN, decN, eqM, Mle, mulL, nI_add, nI_ltI, nI_leI, nI_eq, nI_clamp, up2_at, nltT, nltF, nleT, nleF, neqT, neqF, ↓reduceIte, true_or, or_true, false_or, or_false, or_self, true_and, and_true, false_and, and_false, and_self, not_true, not_false_eq_true, i10, i01, im0, im12, im21, m1lt, m2lt, m1le, m2le, i00, i0le0, i1le0, i2le0, i3le0, eq_self, nb]) | ((with_reducible refine ip ?_ ?_); · simp (disch := omega) only [ltL, Llt, leL, Lle, eqL, addL, Ladd, subL, subN, decN, eqM, Mle, mulL, nI_add, nI_ltI, nI_leI, nI_eq, nI_clamp, up2_at, nltT, nltF, nleT, nleF, neqT, neqF, ↓reduceIte, true_or, or_true, false_or, or_false, or_self, true_and, and_true, false_and, and_false, and_self, not_true, not_false_eq_true, i10, i01, im0, im12, im21, m1lt, m2lt, m1le, m2le, i00, i0le0, i1le0, i2le0, i3le0, eq_self, nb]))
        simp (disch := omega) only [ltL, Llt, leL, Lle, eqL, addL, Ladd, subL, subN, decN, eqM, Mle, mulL, nI_add, nI_ltI, nI_leI, nI_eq, nI_clamp, up2_at, nltT, nltF, nleT, nleF, neqT, neqF, ↓reduceIte, true_or, or_true, false_or, or_false, or_self, true_and, and_true, false_and, and_false, and_self, not_true, not_false_eq_true, i10, i01, im0, im12, im21, m1lt, m2lt, m1le, m2le, i00, i0le0, i1le0, i2le0, i3le0, eq_self, ]
    · rcases non y bb σ k f hs fu (fu' + 1) a a' hMI (by omega) (by omega) (Or.inr (Or.inr ⟨v, hv, ev, k1v⟩)) with ⟨y', σ', g1, g2, g3, g4⟩ | ⟨y', σ', g1, g2, g3⟩
      · have : b' = a' + 1 := by
          rcases T'.inv with ⟨-, -, e⟩ | ⟨e, -⟩ | ⟨e, -⟩
          · exact e
          · rw [← g4, ev] at e; exact absurd e (nI_ne_m2 (by omega))
          · rw [← g4, ev] at e; exact absurd e (nI_ne_m1 (by omega))
        subst this
        exact Or.inl ⟨y', bb, σ', k, f, hs, g1, g2, g3, by omega⟩
      · exact Or.inr ⟨y', bb, σ', k, g1, g2.trans (match_stop (by omega) (e19 g3.2.1)), g3⟩
  · intro R0 h a b e0 T ih R h' a' b' y bb σ k f hs fu fu' T' hh hb' hlen hMI hf hb hfu hfu'
    have hl := T.lt
    have hl' := T'.lt
    obtain ⟨fu, rfl⟩ : ∃ z, fu = z + 1 := ⟨fu - 1, by omega⟩
    obtain ⟨fu', rfl⟩ : ∃ z, fu' = z + 1 + 1 := ⟨fu' - 2, by omega⟩
    rcases non y bb σ k f hs fu (fu' + 1) a a' hMI (by omega) (by omega) (Or.inr (Or.inl e0)) with ⟨y', σ', g1, g2, g3, g4⟩ | ⟨y', σ', g1, g2, g3⟩
    · rcases T'.inv with ⟨o, -⟩ | ⟨-, h2, eh, T2⟩ | ⟨e, -⟩
      · rw [← g4] at o; exact absurd e0 o.ne2
      · have z1 : fu + 1 - (b - a) = fu - (b - (a + 1)) := by omega
        have z2 : fu' + 1 + 1 - (b - a) = fu' + 1 - (b - (a + 1)) := by omega
        rw [z1, z2, g1, g2]
        rcases ih (R + 1) h2 (a' + 1) b' y' bb σ' k f hs fu (fu' + 1) T2 (by omega) hb' (by omega) g3 (by omega) hb (by omega) (by omega) with ⟨y2, bb2, σ2, k2, f2, hs2, w1, w2, w3, w4⟩ | w
        · exact Or.inl ⟨y2, bb2, σ2, k2, f2, hs2, w1, w2, w3, by omega⟩
        · exact Or.inr w
      · rw [← g4, e0] at e; exact absurd e (by decide)
    · exact Or.inr ⟨y', bb, σ', k, g1, g2.trans (match_stop (by omega) (e19 g3.2.1)), g3⟩
  · intro R0 h1 h2 a mm b e0 T1 T2 j1 j2 R h' a' b' y bb σ k f hs fu fu' T' hh hb' hlen hMI hf hb hfu hfu'
    have hl1 := T1.lt
    have hl2 := T2.lt
    have hl' := T'.lt
    obtain ⟨fu, rfl⟩ : ∃ z, fu = z + 1 := ⟨fu - 1, by omega⟩
    obtain ⟨fu', rfl⟩ : ∃ z, fu' = z + 1 + 1 := ⟨fu' - 2, by omega⟩
    rcases non y bb σ k f hs fu (fu' + 1) a a' hMI (by omega) (by omega) (Or.inl e0) with ⟨y', σ', g1, g2, g3, g4⟩ | ⟨y', σ', g1, g2, g3⟩
    · rcases T'.inv with ⟨o, -⟩ | ⟨e, -⟩ | ⟨-, hA, hB, mm', eh, S1, S2⟩
      · rw [← g4] at o; exact absurd e0 o.ne1
      · rw [← g4, e0] at e; exact absurd e (by decide)
      · have ls1 := S1.lt
        have ls2 := S2.lt
        have z1 : fu + 1 - (b - a) = fu - (mm - (a + 1)) - (b - mm) := by omega
        have z2 : fu' + 1 + 1 - (b - a) = fu' + 1 - (mm - (a + 1)) - (b - mm) := by omega
        rw [z1, z2, g1, g2]
        rcases j1 R hA (a' + 1) mm' y' bb σ' k f hs fu (fu' + 1) S1 (by omega) (by omega) (by omega) g3 (by omega) (by omega) (by omega) (by omega) with ⟨y2, bb2, σ2, k2, f2, hs2, w1, w2, w3, w4⟩ | w
        · rw [w1, w2]
          rcases j2 R hB mm' b' y2 bb2 σ2 k2 f2 hs2 (fu - (mm - (a + 1))) (fu' + 1 - (mm - (a + 1))) S2 (by omega) hb' (by omega) w3 (by omega) hb (by omega) (by omega) with ⟨y3, bb3, σ3, k3, f3, hs3, x1, x2, x3, x4⟩ | x
          · exact Or.inl ⟨y3, bb3, σ3, k3, f3, hs3, x1, x2, x3, by omega⟩
          · exact Or.inr x
        · exact Or.inr w
    · exact Or.inr ⟨y', bb, σ', k, g1, g2.trans (match_stop (by omega) (e19 g3.2.1)), g3⟩
theorem match_sim {N w : Nat} {x y t k b σ : St} (hN : 34100 < N) (hw : w < 512) (hI : Inv w x y t b σ) (a d : Int32) : Sim (fun e => if e = 2 then 1 else 0) (w + 1) (f_X4_match N x y t k b a d) (f_X5_match N σ a d) := by
  obtain ⟨n, q, p, hc, tot, m, s, f, hn, i1, i2, i3, i4, i5, i6, i7⟩ := hI.code0 0
  have sm := i5.smono
  obtain ⟨k1, k2, k3, k4, k5, k6, k7, k8⟩ := id i5
  have k3 : σ 18 0 = nI m := k3
  have bad : f_X4_match N x y t k b a d = some (.inr 2, (x, y, t, k, b)) → f_X5_match N σ a d = f_X5_match_21 N σ a d → Sim (fun e => if e = 2 then 1 else 0) (w + 1) (f_X4_match N x y t k b a d) (f_X5_match N σ a d) := by
    intro h1 h2
    refine ⟨.inr 2, x, y, t, k, b, 0, up2 σ 0 0 1, h1, ?_, hI.code 1, Or.inr ⟨2, rfl, rfl, by decide⟩⟩
    rewrite [h2, f_X5_match_21, f_X5_match_22]
    repeat (first | with_reducible refine bnE ?_ | with_reducible refine exI ?_ | with_reducible refine exJ ?_ | ((with_reducible refine iN ?_ ?_); · simp (disch := omega) only [ltL, Llt, leL, Lle, eqL, addL, Ladd, subL, subN, decN, eqM, Mle, mulL, nI_add, nI_ltI, nI_leI, nI_eq, nI_clamp, up2_at, nltT, nltF, nleT, nleF, neqT, neqF, ↓reduceIte, true_or, or_true, false_or, or_false, or_self, true_and, and_true, false_and, and_false, and_self, not_true, not_false_eq_true, i10, i01, im0, im12, im21, m1lt, m2lt, m1le, m2le, i00, i0le0, i1le0, i2le0, i3le0, eq_self]) | ((with_reducible refine ip ?_ ?_); · simp (disch := omega) only [ltL, Llt, leL, Lle, eqL, addL, Ladd, subL, subN, decN, eqM, Mle, mulL, nI_add, nI_ltI, nI_leI, nI_eq, nI_clamp, up2_at, nltT, nltF, nleT, nleF, neqT, neqF, ↓reduceIte, true_or, or_true, false_or, or_false, or_self, true_and, and_true, false_and, and_false, and_self, not_true, not_false_eq_true, i10, i01, im0, im12, im21, m1lt, m2lt, m1le, m2le, i00, i0le0, i1le0, i2le0, i3le0, eq_self]))
    rfl
  rcases term_cases (N := N) (x := x) (y := y) (k := k) (b := b) k2 k3 (by omega) a with ⟨i, hi, rfl, hr, ht⟩ | ⟨hr, ht⟩
  · have ht := ht (z := σ) rfl
    rcases term_cases (N := N) (x := x) (y := y) (k := k) (b := b) k2 k3 (by omega) d with ⟨j, hj, rfl, hr', ht'⟩ | ⟨hr', ht'⟩
    · have ht' := ht' (z := σ) rfl
      obtain ⟨l1, l4, h1, hh1, l3, T1⟩ := k7 i hi
      obtain ⟨m1, m4, h2, hh2, m3, T2⟩ := k7 j hj
      have l2 := sm (i + 1) m (by omega) (by omega)
      have r2 := sm (j + 1) m (by omega) (by omega)
      obtain ⟨u, hu, hbeg, h8⟩ := i7.begin hw
      rw [← begin_eq (N := N)] at hbeg
      obtain ⟨σf, hf1, hf2, hf3⟩ := freeTypes_ok (N := N) (σ := up2 σ 0 0 0) hN
      obtain ⟨f1, f2, f3, f4, f5, f6⟩ := id i6
      obtain ⟨b0, hforget, BT0⟩ := forget_bt (N := N) hN f1 f2 f5 f6 (fun _ => 0)
      obtain ⟨c1, c2, c3, c4, c5⟩ := pieces5 (y' := up2 y 11 0 (nI u)) (σ' := up2 σf 26 0 0) i1 i2 i3 i4 i5 (fun r h7 h8 h11 => up2_row h11) (fun r r0 r22 r23 r24 r25 r26 r27 r28 r29 => by rw [up2_row r26]; exact hf2 r r25)
      have e11 : up2 y 11 0 (nI u) 11 0 = nI u := by simp (disch := omega) only [ltL, Llt, leL, Lle, eqL, addL, Ladd, subL, subN, decN, eqM, Mle, mulL, nI_add, nI_ltI, nI_leI, nI_eq, nI_clamp, up2_at, nltT, nltF, nleT, nleF, neqT, neqF, ↓reduceIte, true_or, or_true, false_or, or_false, or_self, true_and, and_true, false_and, and_false, and_self, not_true, not_false_eq_true, i10, i01, im0, im12, im21, m1lt, m2lt, m1le, m2le, i00, i0le0, i1le0, i2le0, i3le0, eq_self, ]
      have F0 : FI n u (up2 y 11 0 (nI u)) (up2 σf 26 0 0) (up2 y 11 0 (nI u)) (up2 σf 26 0 0) := FI.start e11 (by omega) (fun k hk => by rw [up2_row (by decide)]; exact h8 k hk) hn (fun v hv => by rw [up2_row (by decide)]; exact hf3 v hv)
      have M0 : MaI n u 0 m s (fun _ => 0) (up2 y 11 0 (nI u)) (up2 σf 26 0 0) t (up2 y 11 0 (nI u)) b0 (up2 σf 26 0 0) := ⟨fun _ _ _ => rfl, fun _ _ _ _ _ _ _ _ _ => rfl, fun _ => Or.inl rfl, F0, BT0, by simp (disch := omega) only [ltL, Llt, leL, Lle, eqL, addL, Ladd, subL, subN, decN, eqM, Mle, mulL, nI_add, nI_ltI, nI_leI, nI_eq, nI_clamp, up2_at, nltT, nltF, nleT, nleF, neqT, neqF, ↓reduceIte, true_or, or_true, false_or, or_false, or_self, true_and, and_true, false_and, and_false, and_self, not_true, not_false_eq_true, i10, i01, im0, im12, im21, m1lt, m2lt, m1le, m2le, i00, i0le0, i1le0, i2le0, i3le0, eq_self, ]; rfl, fun i hi => absurd hi (by omega), fun i j hi => absurd hi (by omega)⟩
      have hml := match_loop (p := i) hN hw c1 c2 c5 hi rfl T1 0 h2 (s j) (s (j + 1)) (up2 y 11 0 (nI u)) b0 (up2 σf 26 0 0) k 0 (fun _ => 0) N N T2 hh2 r2 m4 M0 (by omega) (Nat.le_refl _) (by omega) (by omega)
      have hst1 := start_ok (N := N) (t := t) (k := k) (by omega : j < 513)
      rw [(k6 j (by omega)).1] at hst1
      have hst2 := start_ok (N := N) (t := t) (k := k) (by omega : i < 513)
      rw [(k6 i (by omega)).1] at hst2
      have z19 : ∀ {z : Nat}, z ≤ m → up2 σf 26 0 0 19 z = nI (s z) := fun {z} hz => (c5.2.2.2.2.2.1 z hz).2
      have toR : f_X5_match N σ (nI i) (nI j) = f_X5_match_61 N N (up2 σf 26 0 0) (nI i) (nI (s j)) 1 (nI (s i)) := by
        rewrite [f_X5_match]
        repeat (first | with_reducible refine bnE ?_ | with_reducible refine exI ?_ | with_reducible refine exJ ?_ | with_reducible refine bs (ht) ?_ | with_reducible refine bs (ht') ?_ | ((with_reducible refine iN ?_ ?_); · simp (disch := omega) only [ltL, Llt, leL, Lle, eqL, addL, Ladd, subL, subN, decN, eqM, Mle, mulL, nI_add, nI_ltI, nI_leI, nI_eq, nI_clamp, up2_at, nltT, nltF, nleT, nleF, neqT, neqF, ↓reduceIte, true_or, or_true, false_or, or_false, or_self, true_and, and_true, false_and, and_false, and_self, not_true, not_false_eq_true, i10, i01, im0, im12, im21, m1lt, m2lt, m1le, m2le, i00, i0le0, i1le0, i2le0, i3le0, eq_self]) | ((with_reducible refine ip ?_ ?_); · simp (disch := omega) only [ltL, Llt, leL, Lle, eqL, addL, Ladd, subL, subN, decN, eqM, Mle, mulL, nI_add, nI_ltI, nI_leI, nI_eq, nI_clamp, up2_at, nltT, nltF, nleT, nleF, neqT, neqF, ↓reduceIte, true_or, or_true, false_or, or_false, or_self, true_and, and_true, false_and, and_false, and_self, not_true, not_false_eq_true, i10, i01, im0, im12, im21, m1lt, m2lt, m1le, m2le, i00, i0le0, i1le0, i2le0, i3le0, eq_self]))
        rewrite [f_X5_match_22]
        repeat (first | with_reducible refine bnE ?_ | with_reducible refine exI ?_ | with_reducible refine exJ ?_ | with_reducible refine bs (hf1) ?_ | ((with_reducible refine iN ?_ ?_); · simp (disch := omega) only [ltL, Llt, leL, Lle, eqL, addL, Ladd, subL, subN, decN, eqM, Mle, mulL, nI_add, nI_ltI, nI_leI, nI_eq, nI_clamp, up2_at, nltT, nltF, nleT, nleF, neqT, neqF, ↓reduceIte, true_or, or_true, false_or, or_false, or_self, true_and, and_true, false_and, and_false, and_self, not_true, not_false_eq_true, i10, i01, im0, im12, im21, m1lt, m2lt, m1le, m2le, i00, i0le0, i1le0, i2le0, i3le0, eq_self]) | ((with_reducible refine ip ?_ ?_); · simp (disch := omega) only [ltL, Llt, leL, Lle, eqL, addL, Ladd, subL, subN, decN, eqM, Mle, mulL, nI_add, nI_ltI, nI_leI, nI_eq, nI_clamp, up2_at, nltT, nltF, nleT, nleF, neqT, neqF, ↓reduceIte, true_or, or_true, false_or, or_false, or_self, true_and, and_true, false_and, and_false, and_self, not_true, not_false_eq_true, i10, i01, im0, im12, im21, m1lt, m2lt, m1le, m2le, i00, i0le0, i1le0, i2le0, i3le0, eq_self]))
        rewrite [nI_clamp (by omega : j < 2 ^ 31), nI_clamp (by omega : i < 2 ^ 31), z19 (by omega), z19 (by omega)]
        rfl
      rcases hml with ⟨y', bb', σ', k', f', hs', w1, w2, w3, w4⟩ | ⟨y', bb', σ', k', w1, w2, w3⟩
      · obtain ⟨F, hF⟩ : ∃ F, N - (s (i + 1) - s i) = F + 1 := ⟨N - (s (i + 1) - s i) - 1, by omega⟩
        rw [hF] at w1 w2
        obtain ⟨n1, n2, n3, n4, n5, n6, n7, n8⟩ := id w3
        have hend := end_ok (N := N) (t := t) (k := k') (by omega : i < 512)
        rw [(k6 (i + 1) (by omega)).1] at hend
        have hwf : f_X4_wholeFits N x (up2 y 11 0 (nI u)) t k b0 (nI i) (nI j) = some (1, (x, y', t, k', bb')) := by
          rewrite [f_X4_wholeFits]
          refine bs hst1 (bs hst2 ?_)
          refine Eq.trans w1 ?_
          rewrite [f_X4_wholeFits_19]
          repeat (first | with_reducible refine bnE ?_ | with_reducible refine exI ?_ | with_reducible refine exJ ?_ | with_reducible refine bs (hend) ?_ | ((with_reducible refine iN ?_ ?_); · simp (disch := omega) only [ltL, Llt, leL, Lle, eqL, addL, Ladd, subL, subN, decN, eqM, Mle, mulL, nI_add, nI_ltI, nI_leI, nI_eq, nI_clamp, up2_at, nltT, nltF, nleT, nleF, neqT, neqF, ↓reduceIte, true_or, or_true, false_or, or_false, or_self, true_and, and_true, false_and, and_false, and_self, not_true, not_false_eq_true, i10, i01, im0, im12, im21, m1lt, m2lt, m1le, m2le, i00, i0le0, i1le0, i2le0, i3le0, eq_self]) | ((with_reducible refine ip ?_ ?_); · simp (disch := omega) only [ltL, Llt, leL, Lle, eqL, addL, Ladd, subL, subN, decN, eqM, Mle, mulL, nI_add, nI_ltI, nI_leI, nI_eq, nI_clamp, up2_at, nltT, nltF, nleT, nleF, neqT, neqF, ↓reduceIte, true_or, or_true, false_or, or_false, or_self, true_and, and_true, false_and, and_false, and_self, not_true, not_false_eq_true, i10, i01, im0, im12, im21, m1lt, m2lt, m1le, m2le, i00, i0le0, i1le0, i2le0, i3le0, eq_self]))
          rfl
        have hcb : f_X0_count N bb' = some (nI f', bb') := by rw [f_X0_count, n5.2.1]
        have e19 : σ' 19 (i + 1) = nI (s (i + 1)) := by
          rw [n2 19 (by decide) (by decide) (by decide) (by decide) (by decide) (by decide) (by decide) (by decide)]; exact z19 (by omega)
        have z0 : σ' 0 0 = 0 := by
          rw [n2 0 (by decide) (by decide) (by decide) (by decide) (by decide) (by decide) (by decide) (by decide), up2_row (by decide), hf2 0 (by decide)]; simp (disch := omega) only [ltL, Llt, leL, Lle, eqL, addL, Ladd, subL, subN, decN, eqM, Mle, mulL, nI_add, nI_ltI, nI_leI, nI_eq, nI_clamp, up2_at, nltT, nltF, nleT, nleF, neqT, neqF, ↓reduceIte, true_or, or_true, false_or, or_false, or_self, true_and, and_true, false_and, and_false, and_self, not_true, not_false_eq_true, i10, i01, im0, im12, im21, m1lt, m2lt, m1le, m2le, i00, i0le0, i1le0, i2le0, i3le0, eq_self, ]
        refine ⟨.inl (nI f'), x, y', t, k', bb', nI f', σ', ?_, ?_, ?_, Or.inl ⟨_, rfl, z0, rfl⟩⟩
        · rewrite [f_X4_match]
          repeat (first | with_reducible refine bnE ?_ | with_reducible refine exI ?_ | with_reducible refine exJ ?_ | with_reducible refine bs (hr) ?_ | with_reducible refine bs (hr') ?_ | with_reducible refine bs (hforget) ?_ | with_reducible refine bs (hbeg) ?_ | with_reducible refine bs (hwf) ?_ | with_reducible refine bs (hcb) ?_ | ((with_reducible refine iN ?_ ?_); · simp (disch := omega) only [ltL, Llt, leL, Lle, eqL, addL, Ladd, subL, subN, decN, eqM, Mle, mulL, nI_add, nI_ltI, nI_leI, nI_eq, nI_clamp, up2_at, nltT, nltF, nleT, nleF, neqT, neqF, ↓reduceIte, true_or, or_true, false_or, or_false, or_self, true_and, and_true, false_and, and_false, and_self, not_true, not_false_eq_true, i10, i01, im0, im12, im21, m1lt, m2lt, m1le, m2le, i00, i0le0, i1le0, i2le0, i3le0, eq_self]) | ((with_reducible refine ip ?_ ?_); · simp (disch := omega) only [ltL, Llt, leL, Lle, eqL, addL, Ladd, subL, subN, decN, eqM, Mle, mulL, nI_add, nI_ltI, nI_leI, nI_eq, nI_clamp, up2_at, nltT, nltF, nleT, nleF, neqT, neqF, ↓reduceIte, true_or, or_true, false_or, or_false, or_self, true_and, and_true, false_and, and_false, and_self, not_true, not_false_eq_true, i10, i01, im0, im12, im21, m1lt, m2lt, m1le, m2le, i00, i0le0, i1le0, i2le0, i3le0, eq_self]))
          rfl
        · rewrite [toR]
          refine Eq.trans w2 ?_
          rewrite [f_X5_match_61]
          repeat (first | with_reducible refine bnE ?_ | with_reducible refine exI ?_ | with_reducible refine exJ ?_ | ((with_reducible refine iN ?_ ?_); · simp (disch := omega) only [ltL, Llt, leL, Lle, eqL, addL, Ladd, subL, subN, decN, eqM, Mle, mulL, nI_add, nI_ltI, nI_leI, nI_eq, nI_clamp, up2_at, nltT, nltF, nleT, nleF, neqT, neqF, ↓reduceIte, true_or, or_true, false_or, or_false, or_self, true_and, and_true, false_and, and_false, and_self, not_true, not_false_eq_true, i10, i01, im0, im12, im21, m1lt, m2lt, m1le, m2le, i00, i0le0, i1le0, i2le0, i3le0, eq_self, e19]) | ((with_reducible refine ip ?_ ?_); · simp (disch := omega) only [ltL, Llt, leL, Lle, eqL, addL, Ladd, subL, subN, decN, eqM, Mle, mulL, nI_add, nI_ltI, nI_leI, nI_eq, nI_clamp, up2_at, nltT, nltF, nleT, nleF, neqT, neqF, ↓reduceIte, true_or, or_true, false_or, or_false, or_self, true_and, and_true, false_and, and_false, and_self, not_true, not_false_eq_true, i10, i01, im0, im12, im21, m1lt, m2lt, m1le, m2le, i00, i0le0, i1le0, i2le0, i3le0, eq_self, e19]))
          rewrite [f_X5_match_162]
          refine iN (by decide) ?_
          rewrite [f_X5_match_172, n6]
          rfl
        · obtain ⟨d1, d2, d3, d4, d5⟩ := pieces5 (y' := y') (σ' := σ') i1 i2 i3 i4 i5 (fun r h7 h8 h11 => by rw [n1 r h7 h8, up2_row h11]) (fun r r0 r22 r23 r24 r25 r26 r27 r28 r29 => by rw [n2 r r22 r23 r24 r25 r26 r27 r28 r29, up2_row r26]; exact hf2 r r25)
          have d7 : I7 (w + 1) y' := I7.stamps hu h8 e11 (n1 11 (by decide) (by decide)) (fun k => by
            rcases n3 k with e | e
            · left; rw [e, up2_row (by decide)]
            · exact Or.inr e)
          obtain ⟨g1, g2⟩ := BT.codes n5
          refine ⟨n, q, p, hc, tot, m, s, f', hn, d1, d2, d3, d4.tr (Nat.le_succ w) Mo.rfl ⟨rfl, rfl, rfl, rfl, rfl, rfl⟩, d5.tr (Nat.le_succ w) Mo.rfl ⟨rfl, rfl, fun _ _ => ⟨rfl, rfl⟩, fun _ _ => rfl, fun _ _ => ⟨rfl, rfl, rfl, rfl⟩⟩, ⟨n5.1, n5.2.1, Or.inl n6, fun l hl => ?_, g1, g2⟩, d7⟩
          obtain ⟨pos', a3, u3, v3, hh3, o1, o2, o3, o4, o5, o6, o7, o8, o9, o10, o11, o12, o13, o14, o15, o16⟩ := n7 l hl
          exact ⟨u3, v3, hh3, o9, o10, o11, o12, o13, o14, o15, o16⟩
      · obtain ⟨n1, n2, n3, fx, hsx, n5⟩ := w3
        obtain ⟨g1, g2⟩ := BT.codes n5
        obtain ⟨b2, hforget2, BT2⟩ := forget_bt (N := N) hN n5.1 n5.2.1 g1 g2 (fun _ => 0)
        have hwf : f_X4_wholeFits N x (up2 y 11 0 (nI u)) t k b0 (nI i) (nI j) = some (0, (x, y', t, k', bb')) := by
          rewrite [f_X4_wholeFits]
          refine bs hst1 (bs hst2 ?_)
          exact w1
        have z0 : up2 σ' 26 0 (-1) 0 0 = 0 := by
          rw [up2_row (by decide), n2 0 (by decide) (by decide) (by decide) (by decide) (by decide) (by decide) (by decide) (by decide), up2_row (by decide), hf2 0 (by decide)]; simp (disch := omega) only [ltL, Llt, leL, Lle, eqL, addL, Ladd, subL, subN, decN, eqM, Mle, mulL, nI_add, nI_ltI, nI_leI, nI_eq, nI_clamp, up2_at, nltT, nltF, nleT, nleF, neqT, neqF, ↓reduceIte, true_or, or_true, false_or, or_false, or_self, true_and, and_true, false_and, and_false, and_self, not_true, not_false_eq_true, i10, i01, im0, im12, im21, m1lt, m2lt, m1le, m2le, i00, i0le0, i1le0, i2le0, i3le0, eq_self, ]
        refine ⟨.inl (-1), x, y', t, k', b2, -1, up2 σ' 26 0 (-1), ?_, toR.trans w2, ?_, Or.inl ⟨_, rfl, z0, rfl⟩⟩
        · rewrite [f_X4_match]
          repeat (first | with_reducible refine bnE ?_ | with_reducible refine exI ?_ | with_reducible refine exJ ?_ | with_reducible refine bs (hr) ?_ | with_reducible refine bs (hr') ?_ | with_reducible refine bs (hforget) ?_ | with_reducible refine bs (hbeg) ?_ | with_reducible refine bs (hwf) ?_ | with_reducible refine bs (hforget2) ?_ | ((with_reducible refine iN ?_ ?_); · simp (disch := omega) only [ltL, Llt, leL, Lle, eqL, addL, Ladd, subL, subN, decN, eqM, Mle, mulL, nI_add, nI_ltI, nI_leI, nI_eq, nI_clamp, up2_at, nltT, nltF, nleT, nleF, neqT, neqF, ↓reduceIte, true_or, or_true, false_or, or_false, or_self, true_and, and_true, false_and, and_false, and_self, not_true, not_false_eq_true, i10, i01, im0, im12, im21, m1lt, m2lt, m1le, m2le, i00, i0le0, i1le0, i2le0, i3le0, eq_self]) | ((with_reducible refine ip ?_ ?_); · simp (disch := omega) only [ltL, Llt, leL, Lle, eqL, addL, Ladd, subL, subN, decN, eqM, Mle, mulL, nI_add, nI_ltI, nI_leI, nI_eq, nI_clamp, up2_at, nltT, nltF, nleT, nleF, neqT, neqF, ↓reduceIte, true_or, or_true, false_or, or_false, or_self, true_and, and_true, false_and, and_false, and_self, not_true, not_false_eq_true, i10, i01, im0, im12, im21, m1lt, m2lt, m1le, m2le, i00, i0le0, i1le0, i2le0, i3le0, eq_self]))
          rfl
        · obtain ⟨d1, d2, d3, d4, d5⟩ := pieces5 (y' := y') (σ' := up2 σ' 26 0 (-1)) i1 i2 i3 i4 i5 (fun r h7 h8 h11 => by rw [n1 r h7 h8, up2_row h11]) (fun r r0 r22 r23 r24 r25 r26 r27 r28 r29 => by rw [up2_row r26, n2 r r22 r23 r24 r25 r26 r27 r28 r29, up2_row r26]; exact hf2 r r25)
          have d7 : I7 (w + 1) y' := I7.stamps hu h8 e11 (n1 11 (by decide) (by decide)) (fun k => by
            rcases n3 k with e | e
            · left; rw [e, up2_row (by decide)]
            · exact Or.inr e)
          obtain ⟨g3, g4⟩ := BT.codes BT2
          exact ⟨n, q, p, hc, tot, m, s, 0, hn, d1, d2, d3, d4.tr (Nat.le_succ w) Mo.rfl ⟨rfl, rfl, rfl, rfl, rfl, rfl⟩, d5.tr (Nat.le_succ w) Mo.rfl ⟨rfl, rfl, fun _ _ => ⟨rfl, rfl⟩, fun _ _ => rfl, fun _ _ => ⟨rfl, rfl, rfl, rfl⟩⟩, ⟨by omega, BT2.2.1, Or.inr ⟨rfl, by simp (disch := omega) only [ltL, Llt, leL, Lle, eqL, addL, Ladd, subL, subN, decN, eqM, Mle, mulL, nI_add, nI_ltI, nI_leI, nI_eq, nI_clamp, up2_at, nltT, nltF, nleT, nleF, neqT, neqF, ↓reduceIte, true_or, or_true, false_or, or_false, or_self, true_and, and_true, false_and, and_false, and_self, not_true, not_false_eq_true, i10, i01, im0, im12, im21, m1lt, m2lt, m1le, m2le, i00, i0le0, i1le0, i2le0, i3le0, eq_self, ]⟩, fun l hl => absurd hl (by omega), g3, g4⟩, d7⟩
    · refine bad ?_ ?_
      · rewrite [f_X4_match]
        repeat (first | with_reducible refine bnE ?_ | with_reducible refine exI ?_ | with_reducible refine exJ ?_ | with_reducible refine bs (hr) ?_ | with_reducible refine bs (hr') ?_ | ((with_reducible refine iN ?_ ?_); · simp (disch := omega) only [ltL, Llt, leL, Lle, eqL, addL, Ladd, subL, subN, decN, eqM, Mle, mulL, nI_add, nI_ltI, nI_leI, nI_eq, nI_clamp, up2_at, nltT, nltF, nleT, nleF, neqT, neqF, ↓reduceIte, true_or, or_true, false_or, or_false, or_self, true_and, and_true, false_and, and_false, and_self, not_true, not_false_eq_true, i10, i01, im0, im12, im21, m1lt, m2lt, m1le, m2le, i00, i0le0, i1le0, i2le0, i3le0, eq_self]) | ((with_reducible refine ip ?_ ?_); · simp (disch := omega) only [ltL, Llt, leL, Lle, eqL, addL, Ladd, subL, subN, decN, eqM, Mle, mulL, nI_add, nI_ltI, nI_leI, nI_eq, nI_clamp, up2_at, nltT, nltF, nleT, nleF, neqT, neqF, ↓reduceIte, true_or, or_true, false_or, or_false, or_self, true_and, and_true, false_and, and_false, and_self, not_true, not_false_eq_true, i10, i01, im0, im12, im21, m1lt, m2lt, m1le, m2le, i00, i0le0, i1le0, i2le0, i3le0, eq_self]))
        rfl
      · rewrite [f_X5_match]
        repeat (first | with_reducible refine bnE ?_ | with_reducible refine exI ?_ | with_reducible refine exJ ?_ | with_reducible refine bs (ht) ?_ | with_reducible refine bs (ht' (z := σ) rfl) ?_ | ((with_reducible refine iN ?_ ?_); · simp (disch := omega) only [ltL, Llt, leL, Lle, eqL, addL, Ladd, subL, subN, decN, eqM, Mle, mulL, nI_add, nI_ltI, nI_leI, nI_eq, nI_clamp, up2_at, nltT, nltF, nleT, nleF, neqT, neqF, ↓reduceIte, true_or, or_true, false_or, or_false, or_self, true_and, and_true, false_and, and_false, and_self, not_true, not_false_eq_true, i10, i01, im0, im12, im21, m1lt, m2lt, m1le, m2le, i00, i0le0, i1le0, i2le0, i3le0, eq_self]) | ((with_reducible refine ip ?_ ?_); · simp (disch := omega) only [ltL, Llt, leL, Lle, eqL, addL, Ladd, subL, subN, decN, eqM, Mle, mulL, nI_add, nI_ltI, nI_leI, nI_eq, nI_clamp, up2_at, nltT, nltF, nleT, nleF, neqT, neqF, ↓reduceIte, true_or, or_true, false_or, or_false, or_self, true_and, and_true, false_and, and_false, and_self, not_true, not_false_eq_true, i10, i01, im0, im12, im21, m1lt, m2lt, m1le, m2le, i00, i0le0, i1le0, i2le0, i3le0, eq_self]))
        rfl
  · refine bad ?_ ?_
    · rewrite [f_X4_match]
      repeat (first | with_reducible refine bnE ?_ | with_reducible refine exI ?_ | with_reducible refine exJ ?_ | with_reducible refine bs (hr) ?_ | ((with_reducible refine iN ?_ ?_); · simp (disch := omega) only [ltL, Llt, leL, Lle, eqL, addL, Ladd, subL, subN, decN, eqM, Mle, mulL, nI_add, nI_ltI, nI_leI, nI_eq, nI_clamp, up2_at, nltT, nltF, nleT, nleF, neqT, neqF, ↓reduceIte, true_or, or_true, false_or, or_false, or_self, true_and, and_true, false_and, and_false, and_self, not_true, not_false_eq_true, i10, i01, im0, im12, im21, m1lt, m2lt, m1le, m2le, i00, i0le0, i1le0, i2le0, i3le0, eq_self]) | ((with_reducible refine ip ?_ ?_); · simp (disch := omega) only [ltL, Llt, leL, Lle, eqL, addL, Ladd, subL, subN, decN, eqM, Mle, mulL, nI_add, nI_ltI, nI_leI, nI_eq, nI_clamp, up2_at, nltT, nltF, nleT, nleF, neqT, neqF, ↓reduceIte, true_or, or_true, false_or, or_false, or_self, true_and, and_true, false_and, and_false, and_self, not_true, not_false_eq_true, i10, i01, im0, im12, im21, m1lt, m2lt, m1le, m2le, i00, i0le0, i1le0, i2le0, i3le0, eq_self]))
      rfl
    · rewrite [f_X5_match]
      repeat (first | with_reducible refine bnE ?_ | with_reducible refine exI ?_ | with_reducible refine exJ ?_ | with_reducible refine bs (ht (z := σ) rfl) ?_ | ((with_reducible refine iN ?_ ?_); · simp (disch := omega) only [ltL, Llt, leL, Lle, eqL, addL, Ladd, subL, subN, decN, eqM, Mle, mulL, nI_add, nI_ltI, nI_leI, nI_eq, nI_clamp, up2_at, nltT, nltF, nleT, nleF, neqT, neqF, ↓reduceIte, true_or, or_true, false_or, or_false, or_self, true_and, and_true, false_and, and_false, and_self, not_true, not_false_eq_true, i10, i01, im0, im12, im21, m1lt, m2lt, m1le, m2le, i00, i0le0, i1le0, i2le0, i3le0, eq_self]) | ((with_reducible refine ip ?_ ?_); · simp (disch := omega) only [ltL, Llt, leL, Lle, eqL, addL, Ladd, subL, subN, decN, eqM, Mle, mulL, nI_add, nI_ltI, nI_leI, nI_eq, nI_clamp, up2_at, nltT, nltF, nleT, nleF, neqT, neqF, ↓reduceIte, true_or, or_true, false_or, or_false, or_self, true_and, and_true, false_and, and_false, and_self, not_true, not_false_eq_true, i10, i01, im0, im12, im21, m1lt, m2lt, m1le, m2le, i00, i0le0, i1le0, i2le0, i3le0, eq_self]))
      rfl
