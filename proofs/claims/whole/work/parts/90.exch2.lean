/-! PURE: the images, bottom up -/
theorem old_rows {n nc : Nat} {σ0 σ : St} (T0 : TM n σ0) (T : TM nc σ) (hn : n ≤ nc) (ht : ∀ i, Kid n i → tM σ i = tM σ0 i) : ∀ z, z < n → σ 6 z = σ0 6 z ∧ σ 7 z = σ0 7 z ∧ σ 8 z = σ0 8 z := by
  intro z hz
  have hb := T.1
  have e1 : tM σ (nI z) = nd (σ 6 z) (tM σ (σ 7 z)) (tM σ (σ 8 z)) := tT_nd (hd := σ 6) T.2.2.2.1 (by omega) (by omega)
  have e2 : tM σ0 (nI z) = nd (σ0 6 z) (tM σ0 (σ0 7 z)) (tM σ0 (σ0 8 z)) := tT_nd (hd := σ0 6) T0.2.2.2.1 (by omega) hz
  have e3 := ht (nI z) (Or.inr ⟨z, hz, rfl⟩)
  rw [e1, e2] at e3
  obtain ⟨p1, p2, p3⟩ := nd_inj e3
  have k1 := (T0.2.2.2.1 z hz).1.mono (by omega : z ≤ n)
  have k2 := (T0.2.2.2.1 z hz).2.mono (by omega : z ≤ n)
  rw [← ht _ k1] at p2
  rw [← ht _ k2] at p3
  exact ⟨p1, tT_inj T.2.2.2.1 T.2.2.2.2.1 (by omega) _ _ ((T.2.2.2.1 z (by omega)).1.mono (by omega)) (k1.mono hn) p2, tT_inj T.2.2.2.1 T.2.2.2.2.1 (by omega) _ _ ((T.2.2.2.1 z (by omega)).2.mono (by omega)) (k2.mono hn) p3⟩
abbrev R16 (σ σ' : St) : Prop := ∀ r, r ≠ 5 → r ≠ 6 → r ≠ 7 → r ≠ 8 → r ≠ 9 → r ≠ 10 → r ≠ 11 → r ≠ 12 → r ≠ 16 → σ' r = σ r
/-- the images of the used nodes below z -/
def XI16 (n nc z : Nat) (h0 : Int32) (τ0 : Ty) (σ0 σ : St) : Prop := TM nc σ ∧ n ≤ nc ∧ nc ≤ n + z ∧ (∀ i, Kid n i → tM σ i = tM σ0 i) ∧ R16 σ0 σ ∧ (∀ j, j < z → σ0 17 j ≠ 0 → ∃ g, g < nc ∧ σ 16 j = nI g ∧ tM σ (nI g) = sb h0 τ0 (tM σ0 (nI j))) ∧ ∀ j, n ≤ j → j < nc → ∃ i, i < n ∧ σ0 17 i ≠ 0 ∧ tM σ (nI j) = sb h0 τ0 (tM σ0 (nI i))
theorem ex151 {N n b0 : Nat} {v : Int32} {τ0 : Ty} {σ0 : St} (hN : 34100 < N) (hn : n ≤ 8000) (T0 : TM n σ0) (hb0 : b0 < n) (eτ : tM σ0 (nI b0) = τ0) (hτ : hg τ0 ≤ 24) (hH : ∀ j, j < n → hg (tM σ0 (nI j)) ≤ 24) (hvar : ∀ j, j < n → σ0 6 j = -1 - v → σ0 7 j = -1) (h8 : ∀ j, j < n → σ0 7 j = -1 → σ0 8 j = -1) (hC : ∀ j, j < n → σ0 17 j ≠ 0 → (∀ l, σ0 7 j = nI l → l < n → σ0 17 l ≠ 0) ∧ (∀ l, σ0 8 j = nI l → l < n → σ0 17 l ≠ 0)) :
    ∀ d z f σ nc, z + d = n → d < f → XI16 n nc z (-1 - v) τ0 σ0 σ → ∃ σ' nc', f_X5_exchange_151 N f σ v (nI b0) (nI n) (nI z) = some σ' ∧ XI16 n nc' n (-1 - v) τ0 σ0 σ' := by
  intro d
  induction d with
  | zero =>
    intro z f σ nc hz hf hX
    obtain ⟨f, rfl⟩ : ∃ z, f = z + 1 := ⟨f - 1, by omega⟩
    obtain rfl : z = n := by omega
    refine ⟨σ, nc, ?_, hX⟩
    rewrite [f_X5_exchange_151]
    repeat (first | with_reducible refine bnE ?_ | with_reducible refine exI ?_ | with_reducible refine exJ ?_ | ((with_reducible refine iN ?_ ?_); · simp (disch := omega) only [ltL, Llt, leL, Lle, eqL, addL, Ladd, subL, subN, decN, eqM, Mle, mulL, nI_add, nI_ltI, nI_leI, nI_eq, nI_clamp, up2_at, nltT, nltF, nleT, nleF, neqT, neqF, ↓reduceIte, true_or, or_true, false_or, or_false, or_self, true_and, and_true, false_and, and_false, and_self, not_true, not_false_eq_true, i10, i01, im0, im12, im21, m1lt, m2lt, m1le, m2le, i00, i0le0, i1le0, i2le0, i3le0, eq_self]) | ((with_reducible refine ip ?_ ?_); · simp (disch := omega) only [ltL, Llt, leL, Lle, eqL, addL, Ladd, subL, subN, decN, eqM, Mle, mulL, nI_add, nI_ltI, nI_leI, nI_eq, nI_clamp, up2_at, nltT, nltF, nleT, nleF, neqT, neqF, ↓reduceIte, true_or, or_true, false_or, or_false, or_self, true_and, and_true, false_and, and_false, and_self, not_true, not_false_eq_true, i10, i01, im0, im12, im21, m1lt, m2lt, m1le, m2le, i00, i0le0, i1le0, i2le0, i3le0, eq_self]))
    rfl
  | succ d ih =>
    intro z f σ nc hz hf hX
    obtain ⟨f, rfl⟩ : ∃ z, f = z + 1 := ⟨f - 1, by omega⟩
    obtain ⟨TMc, x1, x2, x3, x4, x5, x6⟩ := id hX
    obtain ⟨r6, r7, r8⟩ := old_rows T0 TMc x1 x3 z (by omega)
    have r17 : σ 17 z = σ0 17 z := by rw [x4 17 (by decide) (by decide) (by decide) (by decide) (by decide) (by decide) (by decide) (by decide) (by decide)]
    have hcl : (nI z).toNatClampNeg = z := nI_clamp (by omega)
    have hin : ¬ (nI z < 0 ∨ 16000 ≤ (nI z).toNatClampNeg) := nI_in (by omega) (by omega)
    have hin2 : ¬ (nI z < 0 ∨ 16000 ≤ z) := by rw [hcl] at hin; exact hin
    have etree : tM σ0 (nI z) = nd (σ0 6 z) (tM σ0 (σ0 7 z)) (tM σ0 (σ0 8 z)) := tT_nd (hd := σ0 6) T0.2.2.2.1 (by omega) (by omega)
    -- go on with image g of z
    have go : ∀ (σ2 : St) (n2 g : Nat), TM n2 σ2 → nc ≤ n2 → n2 ≤ nc + 1 → (∀ i, Kid nc i → tM σ2 i = tM σ i) → (∀ r, r ≠ 5 → r ≠ 6 → r ≠ 7 → r ≠ 8 → r ≠ 9 → r ≠ 10 → r ≠ 11 → r ≠ 12 → r ≠ 16 → σ2 r = σ r) → (∀ j, j ≠ z → σ2 16 j = σ 16 j) → σ2 16 z = nI g → g < n2 → tM σ2 (nI g) = sb (-1 - v) τ0 (tM σ0 (nI z)) → (n2 = nc ∨ tM σ2 (nI nc) = sb (-1 - v) τ0 (tM σ0 (nI z))) → σ0 17 z ≠ 0 → f_X5_exchange_151 N (f + 1) σ v (nI b0) (nI n) (nI z) = f_X5_exchange_151 N f σ2 v (nI b0) (nI n) (nI (z + 1)) → ∃ σ' nc', f_X5_exchange_151 N (f + 1) σ v (nI b0) (nI n) (nI z) = some σ' ∧ XI16 n nc' n (-1 - v) τ0 σ0 σ' := by
      intro σ2 n2 g g1 g2 g3 g4 g5 g6 g7 g8 g9 g10 gu g11
      have hX2 : XI16 n n2 (z + 1) (-1 - v) τ0 σ0 σ2 := by
        refine ⟨g1, by omega, by omega, fun i hi => by rw [g4 i (hi.mono x1)]; exact x3 i hi, fun r a5 a6 a7 a8 a9 a10 a11 a12 a16 => by rw [g5 r a5 a6 a7 a8 a9 a10 a11 a12 a16]; exact x4 r a5 a6 a7 a8 a9 a10 a11 a12 a16, fun j hj hu => ?_, fun j q1 q2 => ?_⟩
        · by_cases e : j = z
          · subst e; exact ⟨g, g8, g7, g9⟩
          · obtain ⟨gg, a1, a2, a3⟩ := x5 j (by omega) hu
            exact ⟨gg, by omega, by rw [g6 j e]; exact a2, by rw [g4 _ (Or.inr ⟨gg, a1, rfl⟩)]; exact a3⟩
        · by_cases e : j < nc
          · obtain ⟨i, a1, a2, a3⟩ := x6 j q1 e
            exact ⟨i, a1, a2, by rw [g4 _ (Or.inr ⟨j, e, rfl⟩)]; exact a3⟩
          · obtain rfl : j = nc := by omega
            rcases g10 with e2 | e2
            · omega
            · exact ⟨z, by omega, gu, e2⟩
      obtain ⟨σ', nc', w1, w2⟩ := ih (z + 1) f σ2 n2 (by omega) (by omega) hX2
      exact ⟨σ', nc', g11.trans w1, w2⟩
    by_cases u0 : σ0 17 z = 0
    · obtain ⟨σ', nc', w1, w2⟩ := ih (z + 1) f σ nc (by omega) (by omega) ⟨TMc, x1, by omega, x3, x4, fun j hj hu => by
        by_cases e : j = z
        · subst e; exact absurd u0 hu
        · exact x5 j (by omega) hu, x6⟩
      refine ⟨σ', nc', ?_, w2⟩
      have u0' : σ 17 z = 0 := r17.trans u0
      rewrite [f_X5_exchange_151]
      repeat (first | with_reducible refine bnE ?_ | with_reducible refine exI ?_ | with_reducible refine exJ ?_ | ((with_reducible refine iN ?_ ?_); · simp (disch := omega) only [ltL, Llt, leL, Lle, eqL, addL, Ladd, subL, subN, decN, eqM, Mle, mulL, nI_add, nI_ltI, nI_leI, nI_eq, nI_clamp, up2_at, nltT, nltF, nleT, nleF, neqT, neqF, ↓reduceIte, true_or, or_true, false_or, or_false, or_self, true_and, and_true, false_and, and_false, and_self, not_true, not_false_eq_true, i10, i01, im0, im12, im21, m1lt, m2lt, m1le, m2le, i00, i0le0, i1le0, i2le0, i3le0, eq_self, u0']) | ((with_reducible refine ip ?_ ?_); · simp (disch := omega) only [ltL, Llt, leL, Lle, eqL, addL, Ladd, subL, subN, decN, eqM, Mle, mulL, nI_add, nI_ltI, nI_leI, nI_eq, nI_clamp, up2_at, nltT, nltF, nleT, nleF, neqT, neqF, ↓reduceIte, true_or, or_true, false_or, or_false, or_self, true_and, and_true, false_and, and_false, and_self, not_true, not_false_eq_true, i10, i01, im0, im12, im21, m1lt, m2lt, m1le, m2le, i00, i0le0, i1le0, i2le0, i3le0, eq_self, u0']))
      rewrite [f_X5_exchange_300, nI_add1]
      exact w1
    · have u0' : ¬ σ 17 z = 0 := by rw [r17]; exact u0
      -- image s2, and no parts, or parts that stay
      have st16 : ∀ (s2 : Int32), ∃ σ1 : St, σ1 = up2 σ 16 z s2 ∧ TM nc σ1 ∧ (∀ i, Kid nc i → tM σ1 i = tM σ i) ∧ (∀ r, r ≠ 16 → σ1 r = σ r) ∧ (∀ j, j ≠ z → σ1 16 j = σ 16 j) ∧ σ1 16 z = s2 := by
        intro s2
        obtain ⟨TM1, ht1⟩ := TMc.congr (σ' := up2 σ 16 z s2) (by simp (disch := decide) only [up2_row, upR_row, and_self, eq_self, ])
        exact ⟨_, rfl, TM1, fun i _ => by rw [ht1], fun r hr => up2_row hr, fun j hj => by simp (disch := omega) only [ltL, Llt, leL, Lle, eqL, addL, Ladd, subL, subN, decN, eqM, Mle, mulL, nI_add, nI_ltI, nI_leI, nI_eq, nI_clamp, up2_at, nltT, nltF, nleT, nleF, neqT, neqF, ↓reduceIte, true_or, or_true, false_or, or_false, or_self, true_and, and_true, false_and, and_false, and_self, not_true, not_false_eq_true, i10, i01, im0, im12, im21, m1lt, m2lt, m1le, m2le, i00, i0le0, i1le0, i2le0, i3le0, eq_self, hj], by simp (disch := omega) only [ltL, Llt, leL, Lle, eqL, addL, Ladd, subL, subN, decN, eqM, Mle, mulL, nI_add, nI_ltI, nI_leI, nI_eq, nI_clamp, up2_at, nltT, nltF, nleT, nleF, neqT, neqF, ↓reduceIte, true_or, or_true, false_or, or_false, or_self, true_and, and_true, false_and, and_false, and_self, not_true, not_false_eq_true, i10, i01, im0, im12, im21, m1lt, m2lt, m1le, m2le, i00, i0le0, i1le0, i2le0, i3le0, eq_self, ]⟩
      by_cases hh0 : σ0 6 z = -1 - v
      · -- the variable
        obtain ⟨σ1, eσ1, a1, a2, a3, a4, a5⟩ := st16 (nI b0)
        have k1 := hvar z (by omega) hh0
        refine go σ1 nc b0 a1 (Nat.le_refl _) (by omega) a2 (fun r _ _ _ _ _ _ _ _ h16 => a3 r h16) a4 a5 (by omega) ?_ (Or.inl rfl) u0 ?_
        · rw [a2 _ (Or.inr ⟨b0, by omega, rfl⟩), x3 _ (Or.inr ⟨b0, hb0, rfl⟩), eτ, etree, sb_nd, if_pos hh0]
        · have e6 : σ 6 z = -1 - v := r6.trans hh0
          have e7 : σ 7 z = -1 := r7.trans k1
          have e7' : up2 σ 16 z (nI b0) 7 z = -1 := by rw [up2_row (by decide)]; exact e7
          rewrite [f_X5_exchange_151]
          repeat (first | with_reducible refine bnE ?_ | with_reducible refine exI ?_ | with_reducible refine exJ ?_ | ((with_reducible refine iN ?_ ?_); · simp (disch := omega) only [ltL, Llt, leL, Lle, eqL, addL, Ladd, subL, subN, decN, eqM, Mle, mulL, nI_add, nI_ltI, nI_leI, nI_eq, nI_clamp, up2_at, nltT, nltF, nleT, nleF, neqT, neqF, ↓reduceIte, true_or, or_true, false_or, or_false, or_self, true_and, and_true, false_and, and_false, and_self, not_true, not_false_eq_true, i10, i01, im0, im12, im21, m1lt, m2lt, m1le, m2le, i00, i0le0, i1le0, i2le0, i3le0, eq_self, u0', e6]) | ((with_reducible refine ip ?_ ?_); · simp (disch := omega) only [ltL, Llt, leL, Lle, eqL, addL, Ladd, subL, subN, decN, eqM, Mle, mulL, nI_add, nI_ltI, nI_leI, nI_eq, nI_clamp, up2_at, nltT, nltF, nleT, nleF, neqT, neqF, ↓reduceIte, true_or, or_true, false_or, or_false, or_self, true_and, and_true, false_and, and_false, and_self, not_true, not_false_eq_true, i10, i01, im0, im12, im21, m1lt, m2lt, m1le, m2le, i00, i0le0, i1le0, i2le0, i3le0, eq_self, u0', e6]))
          rewrite [f_X5_exchange_196, hcl]
          repeat (first | with_reducible refine bnE ?_ | with_reducible refine exI ?_ | with_reducible refine exJ ?_ | ((with_reducible refine iN ?_ ?_); · simp (disch := omega) only [ltL, Llt, leL, Lle, eqL, addL, Ladd, subL, subN, decN, eqM, Mle, mulL, nI_add, nI_ltI, nI_leI, nI_eq, nI_clamp, up2_at, nltT, nltF, nleT, nleF, neqT, neqF, ↓reduceIte, true_or, or_true, false_or, or_false, or_self, true_and, and_true, false_and, and_false, and_self, not_true, not_false_eq_true, i10, i01, im0, im12, im21, m1lt, m2lt, m1le, m2le, i00, i0le0, i1le0, i2le0, i3le0, eq_self, e7]) | ((with_reducible refine ip ?_ ?_); · simp (disch := omega) only [ltL, Llt, leL, Lle, eqL, addL, Ladd, subL, subN, decN, eqM, Mle, mulL, nI_add, nI_ltI, nI_leI, nI_eq, nI_clamp, up2_at, nltT, nltF, nleT, nleF, neqT, neqF, ↓reduceIte, true_or, or_true, false_or, or_false, or_self, true_and, and_true, false_and, and_false, and_self, not_true, not_false_eq_true, i10, i01, im0, im12, im21, m1lt, m2lt, m1le, m2le, i00, i0le0, i1le0, i2le0, i3le0, eq_self, e7]))
          rewrite [f_X5_exchange_300, nI_add1, eσ1]
          rfl
      · obtain ⟨σ1, eσ1, a1, a2, a3, a4, a5⟩ := st16 (nI z)
        have e6 : ¬ σ 6 z = -1 - v := by rw [r6]; exact hh0
        have to196 : f_X5_exchange_151 N (f + 1) σ v (nI b0) (nI n) (nI z) = f_X5_exchange_196 N (f_X5_exchange_151 N f) σ v (nI b0) (nI n) (nI z) (nI z) (nI z) := by
          rewrite [f_X5_exchange_151]
          repeat (first | with_reducible refine bnE ?_ | with_reducible refine exI ?_ | with_reducible refine exJ ?_ | ((with_reducible refine iN ?_ ?_); · simp (disch := omega) only [ltL, Llt, leL, Lle, eqL, addL, Ladd, subL, subN, decN, eqM, Mle, mulL, nI_add, nI_ltI, nI_leI, nI_eq, nI_clamp, up2_at, nltT, nltF, nleT, nleF, neqT, neqF, ↓reduceIte, true_or, or_true, false_or, or_false, or_self, true_and, and_true, false_and, and_false, and_self, not_true, not_false_eq_true, i10, i01, im0, im12, im21, m1lt, m2lt, m1le, m2le, i00, i0le0, i1le0, i2le0, i3le0, eq_self, u0', e6]) | ((with_reducible refine ip ?_ ?_); · simp (disch := omega) only [ltL, Llt, leL, Lle, eqL, addL, Ladd, subL, subN, decN, eqM, Mle, mulL, nI_add, nI_ltI, nI_leI, nI_eq, nI_clamp, up2_at, nltT, nltF, nleT, nleF, neqT, neqF, ↓reduceIte, true_or, or_true, false_or, or_false, or_self, true_and, and_true, false_and, and_false, and_self, not_true, not_false_eq_true, i10, i01, im0, im12, im21, m1lt, m2lt, m1le, m2le, i00, i0le0, i1le0, i2le0, i3le0, eq_self, u0', e6]))
          rfl
        have ztree : tM σ (nI z) = tM σ0 (nI z) := x3 _ (Or.inr ⟨z, by omega, rfl⟩)
        rcases (T0.2.2.2.1 z (by omega)).1 with k1 | ⟨p1, hp1, ep1⟩
        · have k2 := h8 z (by omega) k1
          refine go σ1 nc z a1 (Nat.le_refl _) (by omega) a2 (fun r _ _ _ _ _ _ _ _ h16 => a3 r h16) a4 a5 (by omega) ?_ (Or.inl rfl) u0 ?_
          · rw [a2 _ (Or.inr ⟨z, by omega, rfl⟩), ztree, etree, sb_nd, if_neg hh0, k1, k2, null_M, sb_null]
          · have e7 : σ 7 z = -1 := r7.trans k1
            rewrite [to196, f_X5_exchange_196, hcl]
            repeat (first | with_reducible refine bnE ?_ | with_reducible refine exI ?_ | with_reducible refine exJ ?_ | ((with_reducible refine iN ?_ ?_); · simp (disch := omega) only [ltL, Llt, leL, Lle, eqL, addL, Ladd, subL, subN, decN, eqM, Mle, mulL, nI_add, nI_ltI, nI_leI, nI_eq, nI_clamp, up2_at, nltT, nltF, nleT, nleF, neqT, neqF, ↓reduceIte, true_or, or_true, false_or, or_false, or_self, true_and, and_true, false_and, and_false, and_self, not_true, not_false_eq_true, i10, i01, im0, im12, im21, m1lt, m2lt, m1le, m2le, i00, i0le0, i1le0, i2le0, i3le0, eq_self, e7]) | ((with_reducible refine ip ?_ ?_); · simp (disch := omega) only [ltL, Llt, leL, Lle, eqL, addL, Ladd, subL, subN, decN, eqM, Mle, mulL, nI_add, nI_ltI, nI_leI, nI_eq, nI_clamp, up2_at, nltT, nltF, nleT, nleF, neqT, neqF, ↓reduceIte, true_or, or_true, false_or, or_false, or_self, true_and, and_true, false_and, and_false, and_self, not_true, not_false_eq_true, i10, i01, im0, im12, im21, m1lt, m2lt, m1le, m2le, i00, i0le0, i1le0, i2le0, i3le0, eq_self, e7]))
            rewrite [f_X5_exchange_300, nI_add1, eσ1]
            rfl
        · have e7 : σ 7 z = nI p1 := r7.trans ep1
          have n1 : ¬ nI p1 = -1 := nI_ne_m1 (by omega)
          obtain ⟨g1, hg1, eg1, tg1⟩ := x5 p1 hp1 ((hC z (by omega) u0).1 p1 ep1 (by omega))
          have z16 : ∀ (l : Nat), l < z → up2 σ 16 z (nI z) 16 l = σ 16 l := fun l hl => by simp (disch := omega) only [ltL, Llt, leL, Lle, eqL, addL, Ladd, subL, subN, decN, eqM, Mle, mulL, nI_add, nI_ltI, nI_leI, nI_eq, nI_clamp, up2_at, nltT, nltF, nleT, nleF, neqT, neqF, ↓reduceIte, true_or, or_true, false_or, or_false, or_self, true_and, and_true, false_and, and_false, and_self, not_true, not_false_eq_true, i10, i01, im0, im12, im21, m1lt, m2lt, m1le, m2le, i00, i0le0, i1le0, i2le0, i3le0, eq_self, (by omega : ¬ l = z)]
          have et7 : tM σ0 (σ0 7 z) = tM σ0 (nI p1) := by rw [ep1]
          -- the second part's image, or none
          have second : ∃ s0, (Kid nc s0) ∧ tM σ s0 = sb (-1 - v) τ0 (tM σ0 (σ0 8 z)) ∧ f_X5_exchange_151 N (f + 1) σ v (nI b0) (nI n) (nI z) = f_X5_exchange_252 N (f_X5_exchange_151 N f) σ1 v (nI b0) (nI n) (nI z) (nI g1) s0 := by
            rcases (T0.2.2.2.1 z (by omega)).2 with k2 | ⟨p2, hp2, ep2⟩
            · have e8 : σ 8 z = -1 := r8.trans k2
              refine ⟨-1, Or.inl rfl, by rw [k2, null_M, null_M, sb_null], ?_⟩
              rewrite [to196, f_X5_exchange_196, hcl]
              repeat (first | with_reducible refine bnE ?_ | with_reducible refine exI ?_ | with_reducible refine exJ ?_ | ((with_reducible refine iN ?_ ?_); · simp (disch := omega) only [ltL, Llt, leL, Lle, eqL, addL, Ladd, subL, subN, decN, eqM, Mle, mulL, nI_add, nI_ltI, nI_leI, nI_eq, nI_clamp, up2_at, nltT, nltF, nleT, nleF, neqT, neqF, ↓reduceIte, true_or, or_true, false_or, or_false, or_self, true_and, and_true, false_and, and_false, and_self, not_true, not_false_eq_true, i10, i01, im0, im12, im21, m1lt, m2lt, m1le, m2le, i00, i0le0, i1le0, i2le0, i3le0, eq_self, e7, n1, e8]) | ((with_reducible refine ip ?_ ?_); · simp (disch := omega) only [ltL, Llt, leL, Lle, eqL, addL, Ladd, subL, subN, decN, eqM, Mle, mulL, nI_add, nI_ltI, nI_leI, nI_eq, nI_clamp, up2_at, nltT, nltF, nleT, nleF, neqT, neqF, ↓reduceIte, true_or, or_true, false_or, or_false, or_self, true_and, and_true, false_and, and_false, and_self, not_true, not_false_eq_true, i10, i01, im0, im12, im21, m1lt, m2lt, m1le, m2le, i00, i0le0, i1le0, i2le0, i3le0, eq_self, e7, n1, e8]))
              simp (disch := omega) only [up2_row (by decide : (7 : Nat) ≠ 16), e7, nI_clamp, z16 p1 hp1, eg1]
              rewrite [eσ1]
              rfl
            · have e8 : σ 8 z = nI p2 := r8.trans ep2
              have n2 : ¬ nI p2 = -1 := nI_ne_m1 (by omega)
              obtain ⟨g2, hg2, eg2, tg2⟩ := x5 p2 hp2 ((hC z (by omega) u0).2 p2 ep2 (by omega))
              refine ⟨nI g2, Or.inr ⟨g2, hg2, rfl⟩, by rw [ep2]; exact tg2, ?_⟩
              rewrite [to196, f_X5_exchange_196, hcl]
              repeat (first | with_reducible refine bnE ?_ | with_reducible refine exI ?_ | with_reducible refine exJ ?_ | ((with_reducible refine iN ?_ ?_); · simp (disch := omega) only [ltL, Llt, leL, Lle, eqL, addL, Ladd, subL, subN, decN, eqM, Mle, mulL, nI_add, nI_ltI, nI_leI, nI_eq, nI_clamp, up2_at, nltT, nltF, nleT, nleF, neqT, neqF, ↓reduceIte, true_or, or_true, false_or, or_false, or_self, true_and, and_true, false_and, and_false, and_self, not_true, not_false_eq_true, i10, i01, im0, im12, im21, m1lt, m2lt, m1le, m2le, i00, i0le0, i1le0, i2le0, i3le0, eq_self, e7, n1, e8, n2]) | ((with_reducible refine ip ?_ ?_); · simp (disch := omega) only [ltL, Llt, leL, Lle, eqL, addL, Ladd, subL, subN, decN, eqM, Mle, mulL, nI_add, nI_ltI, nI_leI, nI_eq, nI_clamp, up2_at, nltT, nltF, nleT, nleF, neqT, neqF, ↓reduceIte, true_or, or_true, false_or, or_false, or_self, true_and, and_true, false_and, and_false, and_self, not_true, not_false_eq_true, i10, i01, im0, im12, im21, m1lt, m2lt, m1le, m2le, i00, i0le0, i1le0, i2le0, i3le0, eq_self, e7, n1, e8, n2]))
              simp (disch := omega) only [up2_row (by decide : (7 : Nat) ≠ 16), up2_row (by decide : (8 : Nat) ≠ 16), e7, e8, nI_clamp, z16 p1 hp1, z16 p2 hp2, eg1, eg2]
              rewrite [eσ1]
              rfl
          obtain ⟨s0, hk0, ts0, h252⟩ := second
          have r7' : σ1 7 z = nI p1 := by rw [a3 7 (by decide)]; exact e7
          have r8' : σ1 8 z = σ 8 z := by rw [a3 8 (by decide)]
          have hsb : sb (-1 - v) τ0 (tM σ0 (nI z)) = nd (σ0 6 z) (tM σ (nI g1)) (tM σ s0) := by
            rw [etree, sb_nd, if_neg hh0, tg1, ts0, et7]
          by_cases same : nI g1 = nI p1 ∧ s0 = σ 8 z
          · refine go σ1 nc z a1 (Nat.le_refl _) (by omega) a2 (fun r _ _ _ _ _ _ _ _ h16 => a3 r h16) a4 a5 (by omega) ?_ (Or.inl rfl) u0 ?_
            · rw [hsb, same.1, same.2, r8, a2 _ (Or.inr ⟨z, by omega, rfl⟩), ztree, etree, ep1, x3 _ (Or.inr ⟨p1, by omega, rfl⟩), x3 _ ((T0.2.2.2.1 z (by omega)).2.mono (by omega))]
            · rewrite [h252, f_X5_exchange_252]
              refine iN hin (ip (by rw [hcl, r7']; exact same.1) (iN hin (ip (by rw [hcl, r8']; exact same.2) ?_)))
              rewrite [f_X5_exchange_300, nI_add1]
              rfl
          · have h278 : f_X5_exchange_252 N (f_X5_exchange_151 N f) σ1 v (nI b0) (nI n) (nI z) (nI g1) s0 = f_X5_exchange_278 N (f_X5_exchange_151 N f) σ1 v (nI b0) (nI n) (nI z) (nI g1) s0 := by
              rewrite [f_X5_exchange_252]
              refine iN hin ?_
              by_cases q : nI g1 = nI p1
              · refine ip (by rw [hcl, r7']; exact q) (iN hin (iN ?_ rfl))
                rw [hcl, r8']
                exact fun e => same ⟨q, e⟩
              · exact iN (by rw [hcl, r7']; exact q) rfl
            have e61 : σ1 6 z = σ0 6 z := by rw [a3 6 (by decide)]; exact r6
            have k1' : Kid nc (nI g1) := Or.inr ⟨g1, hg1, rfl⟩
            have tA : tM σ1 (nI g1) = tM σ (nI g1) := a2 _ k1'
            have tB : tM σ1 s0 = tM σ s0 := a2 _ hk0
            have hh : hg (nd (σ0 6 z) (tM σ1 (nI g1)) (tM σ1 s0)) ≤ 16000 := by
              rw [tA, tB, ← hsb]
              have := sb_hg (h0 := -1 - v) (τ0 := τ0) (tM σ0 (nI z))
              have := hH z (by omega)
              omega
            rcases node_ok (N := N) a1 (by omega) (by omega) k1' hk0 (σ0 6 z) hh with ⟨jn, hjn, ejn, hnode⟩ | ⟨hno, σ2, hnode, T2, e2, old2, fr2⟩
            · obtain ⟨TM3, ht3⟩ := a1.congr (σ' := up2 σ1 16 z (nI jn)) (by simp (disch := decide) only [up2_row, upR_row, and_self, eq_self, ])
              refine go (up2 σ1 16 z (nI jn)) nc jn TM3 (Nat.le_refl _) (by omega) (fun i hi => by rw [ht3]; exact a2 i hi) (fun r _ _ _ _ _ _ _ _ h16 => by rw [up2_row h16]; exact a3 r h16) (fun j hj => by rw [← a4 j hj]; simp (disch := omega) only [ltL, Llt, leL, Lle, eqL, addL, Ladd, subL, subN, decN, eqM, Mle, mulL, nI_add, nI_ltI, nI_leI, nI_eq, nI_clamp, up2_at, nltT, nltF, nleT, nleF, neqT, neqF, ↓reduceIte, true_or, or_true, false_or, or_false, or_self, true_and, and_true, false_and, and_false, and_self, not_true, not_false_eq_true, i10, i01, im0, im12, im21, m1lt, m2lt, m1le, m2le, i00, i0le0, i1le0, i2le0, i3le0, eq_self, hj]) (by simp (disch := omega) only [ltL, Llt, leL, Lle, eqL, addL, Ladd, subL, subN, decN, eqM, Mle, mulL, nI_add, nI_ltI, nI_leI, nI_eq, nI_clamp, up2_at, nltT, nltF, nleT, nleF, neqT, neqF, ↓reduceIte, true_or, or_true, false_or, or_false, or_self, true_and, and_true, false_and, and_false, and_self, not_true, not_false_eq_true, i10, i01, im0, im12, im21, m1lt, m2lt, m1le, m2le, i00, i0le0, i1le0, i2le0, i3le0, eq_self, ]) hjn (by rw [ht3, ejn, tA, tB, hsb]) (Or.inl rfl) u0 ?_
              rewrite [h252, h278, f_X5_exchange_278]
              refine iN hin ?_
              rewrite [hcl, e61]
              refine bs hnode (iN hin2 (bnE ?_))
              rewrite [f_X5_exchange_300, nI_add1]
              rfl
            · obtain ⟨TM3, ht3⟩ := T2.congr (σ' := up2 σ2 16 z (nI nc)) (by simp (disch := decide) only [up2_row, upR_row, and_self, eq_self, ])
              have t3 : tM (up2 σ2 16 z (nI nc)) (nI nc) = sb (-1 - v) τ0 (tM σ0 (nI z)) := by rw [ht3, e2, tA, tB, hsb]
              refine go (up2 σ2 16 z (nI nc)) (nc + 1) nc TM3 (by omega) (by omega) (fun i hi => by rw [ht3, old2 i hi]; exact a2 i hi) (fun r h5 h6 h7 h8 h9 h10 h11 h12 h16 => by rw [up2_row h16, fr2 r h5 h6 h7 h8 h9 h10 h11 h12]; exact a3 r h16) (fun j hj => ?_) (by simp (disch := omega) only [ltL, Llt, leL, Lle, eqL, addL, Ladd, subL, subN, decN, eqM, Mle, mulL, nI_add, nI_ltI, nI_leI, nI_eq, nI_clamp, up2_at, nltT, nltF, nleT, nleF, neqT, neqF, ↓reduceIte, true_or, or_true, false_or, or_false, or_self, true_and, and_true, false_and, and_false, and_self, not_true, not_false_eq_true, i10, i01, im0, im12, im21, m1lt, m2lt, m1le, m2le, i00, i0le0, i1le0, i2le0, i3le0, eq_self, ]) (by omega) t3 (Or.inr t3) u0 ?_
              · rw [← a4 j hj, ← fr2 16 (by decide) (by decide) (by decide) (by decide) (by decide) (by decide) (by decide) (by decide)]
                simp (disch := omega) only [ltL, Llt, leL, Lle, eqL, addL, Ladd, subL, subN, decN, eqM, Mle, mulL, nI_add, nI_ltI, nI_leI, nI_eq, nI_clamp, up2_at, nltT, nltF, nleT, nleF, neqT, neqF, ↓reduceIte, true_or, or_true, false_or, or_false, or_self, true_and, and_true, false_and, and_false, and_self, not_true, not_false_eq_true, i10, i01, im0, im12, im21, m1lt, m2lt, m1le, m2le, i00, i0le0, i1le0, i2le0, i3le0, eq_self, hj]
              · rewrite [h252, h278, f_X5_exchange_278]
                refine iN hin ?_
                rewrite [hcl, e61]
                refine bs hnode (iN hin2 (bnE ?_))
                rewrite [f_X5_exchange_300, nI_add1]
                rfl
