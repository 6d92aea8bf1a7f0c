/-! PURE: nodes are taken out again, the newest first -/
theorem sub_add (n : Nat) : nI n + (-1) = nI n - 1 := by
  cases n with
  | zero => decide
  | succ n => rw [nI_dec, nI_pred]
theorem pred_lt {n : Nat} (h : n < 2 ^ 31) : nI n - 1 < nI n := by
  cases n with
  | zero => decide
  | succ n => rw [nI_pred]; exact (nI_ltI (by omega) h).mpr (by omega)
theorem popC {n : Nat} {y : St} (T : TC (n + 1) y) : TC n (up2 (up2 y 6 (hY y n) (y 5 n)) 10 0 (nI n)) := by
  obtain ⟨hn, h10, hC, hL, hU, hS⟩ := T
  have r : ∀ k, k ≠ 6 → k ≠ 10 → up2 (up2 y 6 (hY y n) (y 5 n)) 10 0 (nI n) k = y k := fun k a b => by
    unfold up2; rw [if_neg b, if_neg a]
  have r0 := r 0 (by decide) (by decide)
  have r1 := r 1 (by decide) (by decide)
  have r2 := r 2 (by decide) (by decide)
  refine ⟨by omega, by rw [up2_at, if_pos ⟨rfl, rfl⟩], ⟨fun c hc => ?_, fun k hk => ?_⟩, ?_, ?_, fun k hk => ?_⟩
  · have hH : hY (up2 (up2 y 6 (hY y n) (y 5 n)) 10 0 (nI n)) = hY y := by funext k; show hX _ _ _ = _; rw [r0, r1, r2]
    rw [hH, up2_at, if_neg (by omega), up2_at]
    by_cases e : c = hY y n
    · rw [if_pos ⟨rfl, e⟩, hC.2 n (by omega), e]
    · rw [if_neg (fun q => e q.2), hC.1 c hc, lst, if_neg (fun q => e q.symm)]
  · have hH : hY (up2 (up2 y 6 (hY y n) (y 5 n)) 10 0 (nI n)) = hY y := by funext k; show hX _ _ _ = _; rw [r0, r1, r2]
    rw [hH, r 5 (by decide) (by decide)]
    exact hC.2 k (by omega)
  · rw [r1, r2]; exact fun k hk => hL k (by omega)
  · rw [r0, r1, r2]; exact fun i j hi hj => hU i j (by omega) (by omega)
  · rw [r 3 (by decide) (by decide), r 4 (by decide) (by decide)]
    show y 3 k = nI (sz (tT _ _ _ (nI k))) ∧ y 4 k = nI (hg (tT _ _ _ (nI k))) ∧ sz (tT _ _ _ (nI k)) ≤ 200 ∧ hg (tT _ _ _ (nI k)) ≤ 24
    rw [r0, r1, r2]
    exact hS k (by omega)
theorem forget_7 {N mark : Nat} : ∀ (d : Nat) (y : St) (fuel : Nat), d < fuel → TC (mark + d) y → ∃ z, f_X2_forgetFrom_15 N fuel y (nI mark) (nI (mark + d) - 1) = some z ∧ TC mark z ∧ ∀ r, r ≠ 6 → r ≠ 10 → z r = y r := by
  intro d
  induction d with
  | zero =>
    intro y fuel hf T
    obtain ⟨f, rfl⟩ : ∃ f, fuel = f + 1 := ⟨fuel - 1, by omega⟩
    have hm : mark ≤ 8000 := T.1
    refine ⟨y, ?_, T, fun _ _ _ => rfl⟩
    rewrite [f_X2_forgetFrom_15]
    exact ip (pred_lt (n := mark) (by omega)) rfl
  | succ d ih =>
    intro y fuel hf T
    obtain ⟨f, rfl⟩ : ∃ f, fuel = f + 1 := ⟨fuel - 1, by omega⟩
    have hm : mark + (d + 1) ≤ 8000 := T.1
    have e : nI (mark + (d + 1)) - 1 = nI (mark + d) := nI_pred (mark + d)
    have oo : ¬ (nI (mark + d) < 0 ∨ 8000 ≤ (nI (mark + d)).toNatClampNeg) := oob_no (by omega) (by omega)
    have cl : (nI (mark + d)).toNatClampNeg = mark + d := nI_clamp (by omega)
    have hk := (hX_lt (y 0 (mark + d)) (y 1 (mark + d)) (y 2 (mark + d))).1
    have ob9 : ¬ (nI (hY y (mark + d)) < 0 ∨ 4096 ≤ (nI (hY y (mark + d))).toNatClampNeg) := oob_no hk (by omega)
    obtain ⟨z, hz, hT, hr⟩ := ih _ f (by omega) (popC (n := mark + d) T)
    refine ⟨z, ?_, hT, fun r a b => ?_⟩
    · rewrite [e, f_X2_forgetFrom_15]
      repeat (first | with_reducible refine bnE ?_ | with_reducible refine bs (bucket_eq _ _ _) ?_ | ((with_reducible refine iN ?_ ?_); · simp (disch := omega) only [ltL, Llt, leL, Lle, eqL, addL, Ladd, subL, subN, decN, eqM, Mle, mulL, nI_add, nI_ltI, nI_leI, nI_eq, nI_clamp, up2_at, nltT, nltF, nleT, nleF, neqT, neqF, ↓reduceIte, true_or, or_true, false_or, or_false, or_self, true_and, and_true, false_and, and_false, and_self, not_true, not_false_eq_true, i10, i01, im0, im12, im21, m1lt, m2lt, m1le, m2le, i00, i0le0, i1le0, i2le0, i3le0, eq_self]) | ((with_reducible refine ip ?_ ?_); · simp (disch := omega) only [ltL, Llt, leL, Lle, eqL, addL, Ladd, subL, subN, decN, eqM, Mle, mulL, nI_add, nI_ltI, nI_leI, nI_eq, nI_clamp, up2_at, nltT, nltF, nleT, nleF, neqT, neqF, ↓reduceIte, true_or, or_true, false_or, or_false, or_self, true_and, and_true, false_and, and_false, and_self, not_true, not_false_eq_true, i10, i01, im0, im12, im21, m1lt, m2lt, m1le, m2le, i00, i0le0, i1le0, i2le0, i3le0, eq_self]))
      simp (disch := omega) only [nI_clamp]
      rw [sub_add]
      exact hz
    · rw [hr r a b]; unfold up2; rw [if_neg b, if_neg a]
theorem min8000 {n : Nat} (h : n ≤ 8000) : (if (8000 : Int32) < nI n then (8000 : Int32) else nI n) = nI n := if_neg (fun q => by
  have q2 : (8000 : Nat) < n := (Llt (a := n) (k := 8000) (by omega) (by decide)).mp q
  omega)
theorem forget_ok {N n mark : Nat} {y : St} (T : TC n y) (hm : mark ≤ n) (hN : 8000 < N) : ∃ z, f_X2_forgetFrom N y (nI mark) = some z ∧ TC mark z ∧ ∀ r, r ≠ 6 → r ≠ 10 → z r = y r := by
  obtain ⟨d, rfl⟩ : ∃ d, n = mark + d := ⟨n - mark, by omega⟩
  have hn : mark + d ≤ 8000 := T.1
  obtain ⟨z, h1, h2, h3⟩ := forget_7 (N := N) d y N (by omega) T
  refine ⟨z, ?_, h2, h3⟩
  rw [f_X2_forgetFrom, T.2.1, min8000 hn]
  exact h1
theorem popM {n : Nat} {σ : St} (T : TM (n + 1) σ) : TM n (up2 (up2 σ 5 0 (nI n)) 12 (hZ σ n) (σ 11 n)) := by
  obtain ⟨hn, h5, hC, hL, hU, hS⟩ := T
  have r : ∀ k, k ≠ 5 → k ≠ 12 → up2 (up2 σ 5 0 (nI n)) 12 (hZ σ n) (σ 11 n) k = σ k := fun k a b => by
    unfold up2; rw [if_neg b, if_neg a]
  have r6 := r 6 (by decide) (by decide)
  have r7 := r 7 (by decide) (by decide)
  have r8 := r 8 (by decide) (by decide)
  have hH : hZ (up2 (up2 σ 5 0 (nI n)) 12 (hZ σ n) (σ 11 n)) = hZ σ := by funext k; show hM _ _ _ = _; rw [r6, r7, r8]
  refine ⟨by omega, by rw [up2_at, if_neg (by omega), up2_at, if_pos ⟨rfl, rfl⟩], ⟨fun c hc => ?_, fun k hk => ?_⟩, ?_, ?_, fun k hk => ?_⟩
  · rw [hH, up2_at]
    by_cases e : c = hZ σ n
    · rw [if_pos ⟨rfl, e⟩, hC.2 n (by omega), e]
    · rw [if_neg (fun q => e q.2), up2_at, if_neg (by omega), hC.1 c hc, lst, if_neg (fun q => e q.symm)]
  · rw [hH, r 11 (by decide) (by decide)]
    exact hC.2 k (by omega)
  · rw [r7, r8]; exact fun k hk => hL k (by omega)
  · rw [r6, r7, r8]; exact fun i j hi hj => hU i j (by omega) (by omega)
  · rw [r 9 (by decide) (by decide), r 10 (by decide) (by decide)]
    show σ 9 k = nI (min (sz (tT _ _ _ (nI k))) 1000) ∧ σ 10 k = nI (hg (tT _ _ _ (nI k))) ∧ hg (tT _ _ _ (nI k)) ≤ 16000
    rw [r6, r7, r8]
    exact hS k (by omega)
theorem cut_0 {N mark : Nat} : ∀ (d : Nat) (σ : St) (fuel : Nat), d < fuel → TM (mark + d) σ → ∃ z, f_X5_cut_0 N fuel σ (nI mark) = some z ∧ TM mark z ∧ ∀ r, r ≠ 5 → r ≠ 12 → z r = σ r := by
  intro d
  induction d with
  | zero =>
    intro σ fuel hf T
    obtain ⟨f, rfl⟩ : ∃ f, fuel = f + 1 := ⟨fuel - 1, by omega⟩
    have hm : mark ≤ 16000 := T.1
    refine ⟨σ, ?_, T, fun _ _ _ => rfl⟩
    have h5 : σ 5 0 = nI mark := T.2.1
    rw [f_X5_cut_0, h5, if_pos ((nI_leI (by omega) (by omega)).mpr (Nat.le_refl _))]
  | succ d ih =>
    intro σ fuel hf T
    obtain ⟨f, rfl⟩ : ∃ f, fuel = f + 1 := ⟨fuel - 1, by omega⟩
    have hm : mark + (d + 1) ≤ 16000 := T.1
    have h5 : σ 5 0 = nI (mark + d + 1) := T.2.1
    have oo : ¬ (nI (mark + d) < 0 ∨ 16000 ≤ (nI (mark + d)).toNatClampNeg) := oob_no (by omega) (by omega)
    have cl : (nI (mark + d)).toNatClampNeg = mark + d := nI_clamp (by omega)
    have hk := (hM_lt (σ 6 (mark + d)) (σ 7 (mark + d)) (σ 8 (mark + d))).1
    have ob9 : ¬ (nI (hZ σ (mark + d)) < 0 ∨ 4096 ≤ (nI (hZ σ (mark + d))).toNatClampNeg) := oob_no hk (by omega)
    obtain ⟨z, hz, hT, hr⟩ := ih _ f (by omega) (popM (n := mark + d) T)
    refine ⟨z, ?_, hT, fun r a b => ?_⟩
    · rewrite [f_X5_cut_0]
      have hk' : hZ σ (mark + d) < 4096 := hk
      repeat (first | with_reducible refine bnE ?_ | ((with_reducible refine iN ?_ ?_); · simp (disch := omega) only [ltL, Llt, leL, Lle, eqL, addL, Ladd, subL, subN, decN, eqM, Mle, mulL, nI_add, nI_ltI, nI_leI, nI_eq, nI_clamp, up2_at, nltT, nltF, nleT, nleF, neqT, neqF, ↓reduceIte, true_or, or_true, false_or, or_false, or_self, true_and, and_true, false_and, and_false, and_self, not_true, not_false_eq_true, i10, i01, im0, im12, im21, m1lt, m2lt, m1le, m2le, i00, i0le0, i1le0, i2le0, i3le0, eq_self, h5, Nat.add_sub_cancel]) | ((with_reducible refine ip ?_ ?_); · simp (disch := omega) only [ltL, Llt, leL, Lle, eqL, addL, Ladd, subL, subN, decN, eqM, Mle, mulL, nI_add, nI_ltI, nI_leI, nI_eq, nI_clamp, up2_at, nltT, nltF, nleT, nleF, neqT, neqF, ↓reduceIte, true_or, or_true, false_or, or_false, or_self, true_and, and_true, false_and, and_false, and_self, not_true, not_false_eq_true, i10, i01, im0, im12, im21, m1lt, m2lt, m1le, m2le, i00, i0le0, i1le0, i2le0, i3le0, eq_self, h5, Nat.add_sub_cancel]) | ((with_reducible apply bs); · ((try simp (disch := omega) only [ltL, Llt, leL, Lle, eqL, addL, Ladd, subL, subN, decN, eqM, Mle, mulL, nI_add, nI_ltI, nI_leI, nI_eq, nI_clamp, up2_at, nltT, nltF, nleT, nleF, neqT, neqF, ↓reduceIte, true_or, or_true, false_or, or_false, or_self, true_and, and_true, false_and, and_false, and_self, not_true, not_false_eq_true, i10, i01, im0, im12, im21, m1lt, m2lt, m1le, m2le, i00, i0le0, i1le0, i2le0, i3le0, eq_self, h5, Nat.add_sub_cancel]); exact chain_eq _ _ _)))
      simp (disch := omega) only [ltL, Llt, leL, Lle, eqL, addL, Ladd, subL, subN, decN, eqM, Mle, mulL, nI_add, nI_ltI, nI_leI, nI_eq, nI_clamp, up2_at, nltT, nltF, nleT, nleF, neqT, neqF, ↓reduceIte, true_or, or_true, false_or, or_false, or_self, true_and, and_true, false_and, and_false, and_self, not_true, not_false_eq_true, i10, i01, im0, im12, im21, m1lt, m2lt, m1le, m2le, i00, i0le0, i1le0, i2le0, i3le0, eq_self, h5, Nat.add_sub_cancel]
      exact hz
    · rw [hr r a b]; unfold up2; rw [if_neg b, if_neg a]
theorem cut_ok {N n mark : Nat} {σ : St} (T : TM n σ) (hm : mark ≤ n) (hN : 16000 < N) : ∃ z, f_X5_cut N σ (nI mark) = some z ∧ TM mark z ∧ ∀ r, r ≠ 5 → r ≠ 12 → z r = σ r := by
  obtain ⟨d, rfl⟩ : ∃ d, n = mark + d := ⟨n - mark, by omega⟩
  have hn : mark + d ≤ 16000 := T.1
  exact cut_0 (N := N) d σ N (by omega) T
