/-! PURE: retype -/
theorem retC_loop {N n u n1 m s i E : Nat} {h0 : Int32} {τ0 : Ty} {y0 t0 σ0 : St} {ρ : Nat → Ty} {G : Nat → Prop} (hN : 34100 < N) (T0 : TC n y0) (h11 : y0 11 0 = nI u) (hu : u < 2 ^ 31) (h8 : ∀ j, j < n → y0 1 j = -1 → y0 2 j = -1) (hG : ∀ k, k < n → G k → n1 ≤ 8000 ∧ sz (sb h0 τ0 (tC y0 (nI k))) ≤ 200 ∧ hg (sb h0 τ0 (tC y0 (nI k))) ≤ 24 ∧ ∃ j, j < n1 ∧ ρ j = sb h0 τ0 (tC y0 (nI k))) (hGk : ∀ k, k < n → G k → (∀ l, y0 1 k = nI l → l < n → G l) ∧ (∀ l, y0 2 k = nI l → l < n → G l)) (B : Bs m s t0 σ0) (hi : i < 512) (hE : E ≤ s) (e2 : t0 2 (i + 1) = nI E) (hty : ∀ z, z < E → ∃ l, l < n ∧ t0 1 z = nI l) :
    ∀ d a y nc t k L f, a + d = E → d < f → MMi n u nc h0 τ0 y0 y → CB s L t0 t → ∃ (y' t' : St) (nc' : Nat), MMi n u nc' h0 τ0 y0 y' ∧ nc ≤ nc' ∧ (∀ k, k < n → y 8 k = nI u → y' 8 k = nI u ∧ y' 7 k = y 7 k) ∧ ((f_X1_addRetyped_6 N f t k y (nI i) (nI a) = some (1, (t', k, y')) ∧ CB s (L + d) t0 t' ∧ (∀ j, j < L → t' 0 (s + j) = t 0 (s + j) ∧ t' 1 (s + j) = t 1 (s + j)) ∧ (∀ z, a ≤ z → z < E → ∀ l, t0 1 z = nI l → l < n → y' 8 l = nI u ∧ y' 7 l ≠ -1) ∧ (∀ j, j < d → L + d ≤ 4000 ∧ s + (L + d) ≤ 30000 → t' 0 (s + (L + j)) = t0 0 (a + j) ∧ ∀ l, t0 1 (a + j) = nI l → l < n → t' 1 (s + (L + j)) = y' 7 l) ∧ ((∀ z, a ≤ z → z < E → ∀ l, t0 1 z = nI l → l < n → G l) → NoF n u y → AllR n1 nc ρ y → NoF n u y' ∧ AllR n1 nc' ρ y')) ∨ (f_X1_addRetyped_6 N f t k y (nI i) (nI a) = some (0, (t', k, y')) ∧ (∃ L', CB s L' t0 t') ∧ ¬ ((∀ z, a ≤ z → z < E → ∀ l, t0 1 z = nI l → l < n → G l) ∧ NoF n u y ∧ AllR n1 nc ρ y))) := by
  have hs := B.2.1
  have hn := T0.1
  have hsz := T0.2.2.2.2.2
  intro d
  induction d with
  | zero =>
    intro a y nc t k L f ha hf M hC
    obtain ⟨f, rfl⟩ : ∃ z, f = z + 1 := ⟨f - 1, by omega⟩
    have hend := end_ok (N := N) (t := t) (k := k) hi
    rw [hC.1 2 (by decide) (by decide) (by decide) (by decide), e2] at hend
    refine ⟨y, t, nc, M, Nat.le_refl _, fun _ _ h => ⟨h, rfl⟩, Or.inl ⟨?_, hC, fun _ _ => ⟨rfl, rfl⟩, fun z q1 q2 => absurd q1 (by omega), fun j hj => absurd hj (by omega), fun _ h1 h2 => ⟨h1, h2⟩⟩⟩
    rewrite [f_X1_addRetyped_6]
    repeat (first | with_reducible refine bnE ?_ | with_reducible refine exI ?_ | with_reducible refine exJ ?_ | with_reducible refine bs (hend) ?_ | ((with_reducible refine iN ?_ ?_); · simp (disch := omega) only [ltL, Llt, leL, Lle, eqL, addL, Ladd, subL, subN, decN, eqM, Mle, mulL, nI_add, nI_ltI, nI_leI, nI_eq, nI_clamp, up2_at, nltT, nltF, nleT, nleF, neqT, neqF, ↓reduceIte, true_or, or_true, false_or, or_false, or_self, true_and, and_true, false_and, and_false, and_self, not_true, not_false_eq_true, i10, i01, im0, im12, im21, m1lt, m2lt, m1le, m2le, i00, i0le0, i1le0, i2le0, i3le0, eq_self]) | ((with_reducible refine ip ?_ ?_); · simp (disch := omega) only [ltL, Llt, leL, Lle, eqL, addL, Ladd, subL, subN, decN, eqM, Mle, mulL, nI_add, nI_ltI, nI_leI, nI_eq, nI_clamp, up2_at, nltT, nltF, nleT, nleF, neqT, neqF, ↓reduceIte, true_or, or_true, false_or, or_false, or_self, true_and, and_true, false_and, and_false, and_self, not_true, not_false_eq_true, i10, i01, im0, im12, im21, m1lt, m2lt, m1le, m2le, i00, i0le0, i1le0, i2le0, i3le0, eq_self]))
    rfl
  | succ d ih =>
    intro a y nc t k L f ha hf M hC
    obtain ⟨f, rfl⟩ : ∃ z, f = z + 1 := ⟨f - 1, by omega⟩
    have hend := end_ok (N := N) (t := t) (k := k) hi
    rw [hC.1 2 (by decide) (by decide) (by decide) (by decide), e2] at hend
    obtain ⟨l, hl, el⟩ := hty a (by omega)
    have hst := sty_ok (N := N) (t := t) (k := k) (by omega : a < 30000)
    have hcd := code_ok (N := N) (t := t) (k := k) (by omega : a < 30000)
    rw [(hC.2.1 a (by omega)).2, el] at hst
    rw [(hC.2.1 a (by omega)).1] at hcd
    obtain ⟨r, y1, nc1, g0, g1, g2, g3, g4, g5, g6, g7, g8⟩ := img_ok (ρ := ρ) (G := G) (n1 := n1) hN T0 h11 hu h8 hG hGk l y nc 24 25 hl M (hsz l hl).2.2.2 (by omega) (by omega)
    have g0' : f_X2_image N y (nI l) = some (r, y1) := by rewrite [f_X2_image]; exact bs g0 rfl
    by_cases q : r = -1
    · refine ⟨y1, t, nc1, g1, g2, g6, Or.inr ⟨?_, ⟨L, hC⟩, fun ⟨h1, h2, h3⟩ => ?_⟩⟩
      · rewrite [f_X1_addRetyped_6]
        repeat (first | with_reducible refine bnE ?_ | with_reducible refine exI ?_ | with_reducible refine exJ ?_ | with_reducible refine bs (hend) ?_ | with_reducible refine bs (hst) ?_ | with_reducible refine bs (g0') ?_ | ((with_reducible refine iN ?_ ?_); · simp (disch := omega) only [ltL, Llt, leL, Lle, eqL, addL, Ladd, subL, subN, decN, eqM, Mle, mulL, nI_add, nI_ltI, nI_leI, nI_eq, nI_clamp, up2_at, nltT, nltF, nleT, nleF, neqT, neqF, ↓reduceIte, true_or, or_true, false_or, or_false, or_self, true_and, and_true, false_and, and_false, and_self, not_true, not_false_eq_true, i10, i01, im0, im12, im21, m1lt, m2lt, m1le, m2le, i00, i0le0, i1le0, i2le0, i3le0, eq_self, q]) | ((with_reducible refine ip ?_ ?_); · simp (disch := omega) only [ltL, Llt, leL, Lle, eqL, addL, Ladd, subL, subN, decN, eqM, Mle, mulL, nI_add, nI_ltI, nI_leI, nI_eq, nI_clamp, up2_at, nltT, nltF, nleT, nleF, neqT, neqF, ↓reduceIte, true_or, or_true, false_or, or_false, or_self, true_and, and_true, false_and, and_false, and_self, not_true, not_false_eq_true, i10, i01, im0, im12, im21, m1lt, m2lt, m1le, m2le, i00, i0le0, i1le0, i2le0, i3le0, eq_self, q]))
        rfl
      · obtain ⟨w1, -⟩ := g8 (h1 a (Nat.le_refl _) (by omega) l el hl) h2 h3
        exact w1 l hl g4 (g5.trans q)
    · obtain ⟨t1, c1, c2, c3, c4⟩ := CB.add (N := N) (k := k) (c := t0 0 a) (u := r) B hC
      obtain ⟨y', t', nc', w1, w2, w3, w4⟩ := ih (a + 1) y1 nc1 t1 k (L + 1) f (by omega) (by omega) g1 c2
      have step : f_X1_addRetyped_6 N (f + 1) t k y (nI i) (nI a) = f_X1_addRetyped_6 N f t1 k y1 (nI i) (nI (a + 1)) := by
        rewrite [f_X1_addRetyped_6]
        repeat (first | with_reducible refine bnE ?_ | with_reducible refine exI ?_ | with_reducible refine exJ ?_ | with_reducible refine bs (hend) ?_ | with_reducible refine bs (hst) ?_ | with_reducible refine bs (g0') ?_ | with_reducible refine bs (hcd) ?_ | with_reducible refine bs (c1) ?_ | ((with_reducible refine iN ?_ ?_); · simp (disch := omega) only [ltL, Llt, leL, Lle, eqL, addL, Ladd, subL, subN, decN, eqM, Mle, mulL, nI_add, nI_ltI, nI_leI, nI_eq, nI_clamp, up2_at, nltT, nltF, nleT, nleF, neqT, neqF, ↓reduceIte, true_or, or_true, false_or, or_false, or_self, true_and, and_true, false_and, and_false, and_self, not_true, not_false_eq_true, i10, i01, im0, im12, im21, m1lt, m2lt, m1le, m2le, i00, i0le0, i1le0, i2le0, i3le0, eq_self, q]) | ((with_reducible refine ip ?_ ?_); · simp (disch := omega) only [ltL, Llt, leL, Lle, eqL, addL, Ladd, subL, subN, decN, eqM, Mle, mulL, nI_add, nI_ltI, nI_leI, nI_eq, nI_clamp, up2_at, nltT, nltF, nleT, nleF, neqT, neqF, ↓reduceIte, true_or, or_true, false_or, or_false, or_self, true_and, and_true, false_and, and_false, and_self, not_true, not_false_eq_true, i10, i01, im0, im12, im21, m1lt, m2lt, m1le, m2le, i00, i0le0, i1le0, i2le0, i3le0, eq_self, q]))
        simp (disch := omega) only [ltL, Llt, leL, Lle, eqL, addL, Ladd, subL, subN, decN, eqM, Mle, mulL, nI_add, nI_ltI, nI_leI, nI_eq, nI_clamp, up2_at, nltT, nltF, nleT, nleF, neqT, neqF, ↓reduceIte, true_or, or_true, false_or, or_false, or_self, true_and, and_true, false_and, and_false, and_self, not_true, not_false_eq_true, i10, i01, im0, im12, im21, m1lt, m2lt, m1le, m2le, i00, i0le0, i1le0, i2le0, i3le0, eq_self, ]
      refine ⟨y', t', nc', w1, by omega, fun kk hk h => ?_, ?_⟩
      · obtain ⟨v1, v2⟩ := g6 kk hk h
        obtain ⟨v3, v4⟩ := w3 kk hk v1
        exact ⟨v3, v4.trans v2⟩
      · have eL : L + 1 + d = L + (d + 1) := by omega
        obtain ⟨v3, v4⟩ := w3 l hl g4
        rcases w4 with ⟨x1, x2, x3, x4, x5, x6⟩ | ⟨x1, x2, x3⟩
        · refine Or.inl ⟨step.trans x1, by rw [← eL]; exact x2, fun j hj => ?_, fun z q1 q2 l' el' hl' => ?_, fun j hj hr => ?_, fun h1 h2 h3 => ?_⟩
          · have q1 := x3 j (by omega)
            have q2 := c3 j hj
            exact ⟨q1.1.trans q2.1, q1.2.trans q2.2⟩
          · by_cases e : z = a
            · subst e
              have : l' = l := (nI_eq (by omega) (by omega)).mp (el'.symm.trans el)
              subst this
              exact ⟨v3, by rw [v4, g5]; exact q⟩
            · exact x4 z (by omega) q2 l' el' hl'
          · by_cases e : j = 0
            · subst e
              have q1 := x3 L (by omega)
              have q2 := c4 (by omega)
              refine ⟨q1.1.trans q2.1, fun l' el' hl' => ?_⟩
              have : l' = l := (nI_eq (by omega) (by omega)).mp (el'.symm.trans el)
              subst this
              rw [v4, g5]; exact q1.2.trans q2.2
            · have q1 := x5 (j - 1) (by omega) (by omega)
              have z1 : L + 1 + (j - 1) = L + j := by omega
              have z2 : a + 1 + (j - 1) = a + j := by omega
              rw [z1, z2] at q1; exact q1
          · obtain ⟨v5, v6⟩ := g8 (h1 a (Nat.le_refl _) (by omega) l el hl) h2 h3
            exact x6 (fun z q1 q2 => h1 z (by omega) q2) v5 v6
        · refine Or.inr ⟨step.trans x1, x2, fun ⟨h1, h2, h3⟩ => ?_⟩
          obtain ⟨v5, v6⟩ := g8 (h1 a (Nat.le_refl _) (by omega) l el hl) h2 h3
          exact x3 ⟨fun z q1 q2 => h1 z (by omega) q2, v5, v6⟩
theorem sb_ne {h0 : Int32} {τ0 : Ty} (h : τ0 ≠ Term.null) {g : Nat → Int32} {q : Nat} {τ : Ty} (hA : AT g q τ) : sb h0 τ0 τ ≠ Term.null := by
  obtain ⟨hh, A, B, e, -⟩ := hA
  rw [e, sb_nd]
  split
  · exact h
  · exact nd_ne
theorem CB.begin {N m s : Nat} {t0 k σ0 : St} (B : Bs m s t0 σ0) : ∃ t, f_X1_begin N t0 k = some (t, k) ∧ CB s 0 t0 t := by
  obtain ⟨t, h1, h2⟩ := begin_ok (N := N) (k := k) (Q := fun _ _ _ => True) (e := fun _ => 0) B
  obtain ⟨-, c1, c2, c3⟩ := h2
  refine ⟨t, h1, c1, c2, ?_⟩
  rcases c3 with ⟨a1, a2, a3, a4, -⟩ | a
  · exact Or.inl ⟨a1, a2, a3, a4⟩
  · exact Or.inr a
