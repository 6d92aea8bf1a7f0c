/-! PURE: retype, the reference's exchange -/
/-- a tree with τ0 put in for the variable whose head is h0 -/
def sb (h0 : Int32) (τ0 : Ty) : Ty → Ty
  | .add (.int h) (.add A B) => if h = h0 then τ0 else nd h (sb h0 τ0 A) (sb h0 τ0 B)
  | t => t
theorem sb_nd {h0 h : Int32} {τ0 A B : Ty} : sb h0 τ0 (nd h A B) = if h = h0 then τ0 else nd h (sb h0 τ0 A) (sb h0 τ0 B) := by
  rw [nd, sb]
theorem sb_null {h0 : Int32} {τ0 : Ty} : sb h0 τ0 Term.null = Term.null := by rw [sb]; intro _ _ _ e; cases e
theorem sb_hg {h0 : Int32} {τ0 : Ty} : ∀ τ : Ty, hg (sb h0 τ0 τ) ≤ hg τ + hg τ0
  | .add (.int h) (.add A B) => by
    have h1 := sb_hg (h0 := h0) (τ0 := τ0) A
    have h2 := sb_hg (h0 := h0) (τ0 := τ0) B
    show hg (sb h0 τ0 (nd h A B)) ≤ hg (nd h A B) + hg τ0
    rw [sb_nd]
    split
    · omega
    · rw [hg_nd, hg_nd]; omega
  | τ => by
    by_cases q : ∃ h A B, τ = .add (.int h) (.add A B)
    · obtain ⟨h, A, B, rfl⟩ := q
      have h1 := sb_hg (h0 := h0) (τ0 := τ0) A
      have h2 := sb_hg (h0 := h0) (τ0 := τ0) B
      show hg (sb h0 τ0 (nd h A B)) ≤ hg (nd h A B) + hg τ0
      rw [sb_nd]
      split
      · omega
      · rw [hg_nd, hg_nd]; omega
    · rw [sb]
      · omega
      · intro a b c z; exact q ⟨a, b, c, z⟩
abbrev R17 (σ σ' : St) : Prop := ∀ r, r ≠ 17 → σ' r = σ r
theorem ex9 {N n i : Nat} {x2 x3 : Int32} (hn : n ≤ 16000) (hi : i < 4200) : ∀ d z f σ, z + d = n → d < f → ∃ σ', f_X5_exchange_9 N f σ (nI i) x2 x3 (nI n) (nI z) = f_X5_exchange_38 N N σ' (nI i) x2 x3 (nI n) (σ' 19 i) ∧ R17 σ σ' ∧ (∀ j, j < z → σ' 17 j = σ 17 j) ∧ ∀ j, z ≤ j → j < n → σ' 17 j = 0 := by
  intro d
  induction d with
  | zero =>
    intro z f σ hz hf
    obtain ⟨f, rfl⟩ : ∃ z, f = z + 1 := ⟨f - 1, by omega⟩
    refine ⟨σ, ?_, fun _ _ => rfl, fun _ _ => rfl, fun j h1 h2 => absurd h1 (by omega)⟩
    rewrite [f_X5_exchange_9]
    repeat (first | with_reducible refine bnE ?_ | with_reducible refine exI ?_ | with_reducible refine exJ ?_ | ((with_reducible refine iN ?_ ?_); · simp (disch := omega) only [ltL, Llt, leL, Lle, eqL, addL, Ladd, subL, subN, decN, eqM, Mle, mulL, nI_add, nI_ltI, nI_leI, nI_eq, nI_clamp, up2_at, nltT, nltF, nleT, nleF, neqT, neqF, ↓reduceIte, true_or, or_true, false_or, or_false, or_self, true_and, and_true, false_and, and_false, and_self, not_true, not_false_eq_true, i10, i01, im0, im12, im21, m1lt, m2lt, m1le, m2le, i00, i0le0, i1le0, i2le0, i3le0, eq_self]) | ((with_reducible refine ip ?_ ?_); · simp (disch := omega) only [ltL, Llt, leL, Lle, eqL, addL, Ladd, subL, subN, decN, eqM, Mle, mulL, nI_add, nI_ltI, nI_leI, nI_eq, nI_clamp, up2_at, nltT, nltF, nleT, nleF, neqT, neqF, ↓reduceIte, true_or, or_true, false_or, or_false, or_self, true_and, and_true, false_and, and_false, and_self, not_true, not_false_eq_true, i10, i01, im0, im12, im21, m1lt, m2lt, m1le, m2le, i00, i0le0, i1le0, i2le0, i3le0, eq_self]))
    rewrite [nI_clamp (by omega)]
    rfl
  | succ d ih =>
    intro z f σ hz hf
    obtain ⟨f, rfl⟩ : ∃ z, f = z + 1 := ⟨f - 1, by omega⟩
    obtain ⟨σ', h1, h2, h3, h4⟩ := ih (z + 1) f (up2 σ 17 z 0) (by omega) (by omega)
    refine ⟨σ', ?_, fun r hr => by rw [h2 r hr, up2_row hr], fun j hj => ?_, fun j a1 a2 => ?_⟩
    · rewrite [f_X5_exchange_9]
      repeat (first | with_reducible refine bnE ?_ | with_reducible refine exI ?_ | with_reducible refine exJ ?_ | ((with_reducible refine iN ?_ ?_); · simp (disch := omega) only [ltL, Llt, leL, Lle, eqL, addL, Ladd, subL, subN, decN, eqM, Mle, mulL, nI_add, nI_ltI, nI_leI, nI_eq, nI_clamp, up2_at, nltT, nltF, nleT, nleF, neqT, neqF, ↓reduceIte, true_or, or_true, false_or, or_false, or_self, true_and, and_true, false_and, and_false, and_self, not_true, not_false_eq_true, i10, i01, im0, im12, im21, m1lt, m2lt, m1le, m2le, i00, i0le0, i1le0, i2le0, i3le0, eq_self]) | ((with_reducible refine ip ?_ ?_); · simp (disch := omega) only [ltL, Llt, leL, Lle, eqL, addL, Ladd, subL, subN, decN, eqM, Mle, mulL, nI_add, nI_ltI, nI_leI, nI_eq, nI_clamp, up2_at, nltT, nltF, nleT, nleF, neqT, neqF, ↓reduceIte, true_or, or_true, false_or, or_false, or_self, true_and, and_true, false_and, and_false, and_self, not_true, not_false_eq_true, i10, i01, im0, im12, im21, m1lt, m2lt, m1le, m2le, i00, i0le0, i1le0, i2le0, i3le0, eq_self]))
      simp (disch := omega) only [ltL, Llt, leL, Lle, eqL, addL, Ladd, subL, subN, decN, eqM, Mle, mulL, nI_add, nI_ltI, nI_leI, nI_eq, nI_clamp, up2_at, nltT, nltF, nleT, nleF, neqT, neqF, ↓reduceIte, true_or, or_true, false_or, or_false, or_self, true_and, and_true, false_and, and_false, and_self, not_true, not_false_eq_true, i10, i01, im0, im12, im21, m1lt, m2lt, m1le, m2le, i00, i0le0, i1le0, i2le0, i3le0, eq_self, ]
      exact h1
    · rw [h3 j (by omega)]
      simp (disch := omega) only [ltL, Llt, leL, Lle, eqL, addL, Ladd, subL, subN, decN, eqM, Mle, mulL, nI_add, nI_ltI, nI_leI, nI_eq, nI_clamp, up2_at, nltT, nltF, nleT, nleF, neqT, neqF, ↓reduceIte, true_or, or_true, false_or, or_false, or_self, true_and, and_true, false_and, and_false, and_self, not_true, not_false_eq_true, i10, i01, im0, im12, im21, m1lt, m2lt, m1le, m2le, i00, i0le0, i1le0, i2le0, i3le0, eq_self, (by omega : ¬ j = z)]
    · by_cases e : j = z
      · subst e; rw [h3 j (by omega)]; simp (disch := omega) only [ltL, Llt, leL, Lle, eqL, addL, Ladd, subL, subN, decN, eqM, Mle, mulL, nI_add, nI_ltI, nI_leI, nI_eq, nI_clamp, up2_at, nltT, nltF, nleT, nleF, neqT, neqF, ↓reduceIte, true_or, or_true, false_or, or_false, or_self, true_and, and_true, false_and, and_false, and_self, not_true, not_false_eq_true, i10, i01, im0, im12, im21, m1lt, m2lt, m1le, m2le, i00, i0le0, i1le0, i2le0, i3le0, eq_self, ]
      · exact h4 j (by omega) a2
theorem ex38 {N n i E : Nat} {x2 x3 : Int32} {Q : Nat → Prop} (hn : n ≤ 16000) (hi : i < 4200) (hE : E ≤ 34100) : ∀ d a f σ, a + d = E → d < f → σ 19 (i + 1) = nI E → (∀ z, a ≤ z → z < E → ∃ j, j < n ∧ σ 21 z = nI j ∧ Q j) → (∀ j, j < n → σ 17 j ≠ 0 → Q j) → ∃ σ', f_X5_exchange_38 N f σ (nI i) x2 x3 (nI n) (nI a) = f_X5_exchange_76 N N σ' x2 x3 (nI n) (nI n - 1) ∧ R17 σ σ' ∧ (∀ j, j < n → σ' 17 j ≠ 0 → Q j) ∧ (∀ j, σ 17 j ≠ 0 → σ' 17 j ≠ 0) ∧ ∀ z, a ≤ z → z < E → ∀ j, σ 21 z = nI j → j < n → σ' 17 j ≠ 0 := by
  intro d
  induction d with
  | zero =>
    intro a f σ ha hf e19 hQ hU
    obtain ⟨f, rfl⟩ : ∃ z, f = z + 1 := ⟨f - 1, by omega⟩
    refine ⟨σ, ?_, fun _ _ => rfl, hU, fun _ h => h, fun z h1 h2 => absurd h1 (by omega)⟩
    rewrite [f_X5_exchange_38]
    repeat (first | with_reducible refine bnE ?_ | with_reducible refine exI ?_ | with_reducible refine exJ ?_ | ((with_reducible refine iN ?_ ?_); · simp (disch := omega) only [ltL, Llt, leL, Lle, eqL, addL, Ladd, subL, subN, decN, eqM, Mle, mulL, nI_add, nI_ltI, nI_leI, nI_eq, nI_clamp, up2_at, nltT, nltF, nleT, nleF, neqT, neqF, ↓reduceIte, true_or, or_true, false_or, or_false, or_self, true_and, and_true, false_and, and_false, and_self, not_true, not_false_eq_true, i10, i01, im0, im12, im21, m1lt, m2lt, m1le, m2le, i00, i0le0, i1le0, i2le0, i3le0, eq_self, e19]) | ((with_reducible refine ip ?_ ?_); · simp (disch := omega) only [ltL, Llt, leL, Lle, eqL, addL, Ladd, subL, subN, decN, eqM, Mle, mulL, nI_add, nI_ltI, nI_leI, nI_eq, nI_clamp, up2_at, nltT, nltF, nleT, nleF, neqT, neqF, ↓reduceIte, true_or, or_true, false_or, or_false, or_self, true_and, and_true, false_and, and_false, and_self, not_true, not_false_eq_true, i10, i01, im0, im12, im21, m1lt, m2lt, m1le, m2le, i00, i0le0, i1le0, i2le0, i3le0, eq_self, e19]))
    rfl
  | succ d ih =>
    intro a f σ ha hf e19 hQ hU
    obtain ⟨f, rfl⟩ : ∃ z, f = z + 1 := ⟨f - 1, by omega⟩
    obtain ⟨j0, hj0, ej0, hQ0⟩ := hQ a (Nat.le_refl _) (by omega)
    have z17 : ∀ j, up2 σ 17 j0 1 17 j = if j = j0 then 1 else σ 17 j := fun j => by
      by_cases e : j = j0
      · subst e; rw [if_pos rfl]; simp (disch := omega) only [ltL, Llt, leL, Lle, eqL, addL, Ladd, subL, subN, decN, eqM, Mle, mulL, nI_add, nI_ltI, nI_leI, nI_eq, nI_clamp, up2_at, nltT, nltF, nleT, nleF, neqT, neqF, ↓reduceIte, true_or, or_true, false_or, or_false, or_self, true_and, and_true, false_and, and_false, and_self, not_true, not_false_eq_true, i10, i01, im0, im12, im21, m1lt, m2lt, m1le, m2le, i00, i0le0, i1le0, i2le0, i3le0, eq_self, ]
      · rw [if_neg e]; simp (disch := omega) only [ltL, Llt, leL, Lle, eqL, addL, Ladd, subL, subN, decN, eqM, Mle, mulL, nI_add, nI_ltI, nI_leI, nI_eq, nI_clamp, up2_at, nltT, nltF, nleT, nleF, neqT, neqF, ↓reduceIte, true_or, or_true, false_or, or_false, or_self, true_and, and_true, false_and, and_false, and_self, not_true, not_false_eq_true, i10, i01, im0, im12, im21, m1lt, m2lt, m1le, m2le, i00, i0le0, i1le0, i2le0, i3le0, eq_self, e]
    obtain ⟨σ', h1, h2, h3, h4, h5⟩ := ih (a + 1) f (up2 σ 17 j0 1) (by omega) (by omega) (by rw [up2_row (by decide)]; exact e19) (fun z q1 q2 => by rw [up2_row (by decide)]; exact hQ z (by omega) q2) (fun j hj hne => by
      rw [z17] at hne
      by_cases e : j = j0
      · subst e; exact hQ0
      · rw [if_neg e] at hne; exact hU j hj hne)
    have keep : ∀ j, σ 17 j ≠ 0 → σ' 17 j ≠ 0 := fun j hj => h4 j (by
      rw [z17]
      by_cases e : j = j0
      · rw [if_pos e]; decide
      · rw [if_neg e]; exact hj)
    refine ⟨σ', ?_, fun r hr => by rw [h2 r hr, up2_row hr], h3, keep, fun z q1 q2 j ej hj => ?_⟩
    · rewrite [f_X5_exchange_38]
      repeat (first | with_reducible refine bnE ?_ | with_reducible refine exI ?_ | with_reducible refine exJ ?_ | ((with_reducible refine iN ?_ ?_); · simp (disch := omega) only [ltL, Llt, leL, Lle, eqL, addL, Ladd, subL, subN, decN, eqM, Mle, mulL, nI_add, nI_ltI, nI_leI, nI_eq, nI_clamp, up2_at, nltT, nltF, nleT, nleF, neqT, neqF, ↓reduceIte, true_or, or_true, false_or, or_false, or_self, true_and, and_true, false_and, and_false, and_self, not_true, not_false_eq_true, i10, i01, im0, im12, im21, m1lt, m2lt, m1le, m2le, i00, i0le0, i1le0, i2le0, i3le0, eq_self, e19, ej0]) | ((with_reducible refine ip ?_ ?_); · simp (disch := omega) only [ltL, Llt, leL, Lle, eqL, addL, Ladd, subL, subN, decN, eqM, Mle, mulL, nI_add, nI_ltI, nI_leI, nI_eq, nI_clamp, up2_at, nltT, nltF, nleT, nleF, neqT, neqF, ↓reduceIte, true_or, or_true, false_or, or_false, or_self, true_and, and_true, false_and, and_false, and_self, not_true, not_false_eq_true, i10, i01, im0, im12, im21, m1lt, m2lt, m1le, m2le, i00, i0le0, i1le0, i2le0, i3le0, eq_self, e19, ej0]))
      rewrite [nI_clamp (by omega : a < 2 ^ 31), ej0, nI_clamp (by omega : j0 < 2 ^ 31), nI_add1]
      exact h1
    · by_cases e : z = a
      · subst e
        have : j = j0 := (nI_eq (by omega) (by omega)).mp (ej.symm.trans ej0)
        subst this
        exact h4 j (by rw [z17, if_pos rfl]; decide)
      · exact h5 z (by omega) q2 j (by rw [up2_row (by decide)]; exact ej) hj
theorem ex76 {N n : Nat} {x2 x3 : Int32} {Q : Nat → Prop} {σ0 : St} (hn : n ≤ 16000) (hL : Low n (σ0 7) (σ0 8)) (hQ : ∀ j, j < n → Q j → (∀ l, σ0 7 j = nI l → l < n → Q l) ∧ (∀ l, σ0 8 j = nI l → l < n → Q l)) (h8 : ∀ j, j < n → σ0 7 j = -1 → σ0 8 j = -1) : ∀ d f σ, d ≤ n → d < f → R17 σ0 σ → (∀ j, j < n → σ 17 j ≠ 0 → Q j) → (∀ j, d ≤ j → j < n → σ 17 j ≠ 0 → (∀ l, σ0 7 j = nI l → l < n → σ 17 l ≠ 0) ∧ (∀ l, σ0 8 j = nI l → l < n → σ 17 l ≠ 0)) → ∃ σ', f_X5_exchange_76 N f σ x2 x3 (nI n) (nI d - 1) = f_X5_exchange_151 N N σ' x2 x3 (nI n) 0 ∧ R17 σ0 σ' ∧ (∀ j, σ 17 j ≠ 0 → σ' 17 j ≠ 0) ∧ (∀ j, j < n → σ' 17 j ≠ 0 → Q j) ∧ ∀ j, j < n → σ' 17 j ≠ 0 → (∀ l, σ0 7 j = nI l → l < n → σ' 17 l ≠ 0) ∧ (∀ l, σ0 8 j = nI l → l < n → σ' 17 l ≠ 0) := by
  intro d
  induction d with
  | zero =>
    intro f σ hd hf fr hU hC
    obtain ⟨f, rfl⟩ : ∃ z, f = z + 1 := ⟨f - 1, by omega⟩
    refine ⟨σ, ?_, fr, fun _ h => h, hU, fun j hj hne => hC j (by omega) hj hne⟩
    rewrite [f_X5_exchange_76]
    exact ip (by decide) rfl
  | succ d ih =>
    intro f σ hd hf fr hU hC
    obtain ⟨f, rfl⟩ : ∃ z, f = z + 1 := ⟨f - 1, by omega⟩
    have e1 : nI (d + 1) - 1 = nI d := by
      have := subL (a := d + 1) (k := 1) (by show 1 ≤ d + 1; omega)
      rw [show nI (d + 1) - 1 = nI (d + 1 - 1) from this, Nat.add_sub_cancel]
    have e2 : nI d + -1 = nI d - 1 := sub_add d
    rw [e1]
    have r7 : σ 7 = σ0 7 := fr 7 (by decide)
    have r8 : σ 8 = σ0 8 := fr 8 (by decide)
    -- one node more is closed
    have go : ∀ σ1 : St, R17 σ0 σ1 → (∀ j, σ 17 j ≠ 0 → σ1 17 j ≠ 0) → (∀ j, j < n → σ1 17 j ≠ 0 → Q j) → (∀ j, d ≤ j → j < n → σ1 17 j ≠ 0 → (∀ l, σ0 7 j = nI l → l < n → σ1 17 l ≠ 0) ∧ (∀ l, σ0 8 j = nI l → l < n → σ1 17 l ≠ 0)) → f_X5_exchange_76 N (f + 1) σ x2 x3 (nI n) (nI d) = f_X5_exchange_76 N f σ1 x2 x3 (nI n) (nI d - 1) → ∃ σ', f_X5_exchange_76 N (f + 1) σ x2 x3 (nI n) (nI d) = f_X5_exchange_151 N N σ' x2 x3 (nI n) 0 ∧ R17 σ0 σ' ∧ (∀ j, σ 17 j ≠ 0 → σ' 17 j ≠ 0) ∧ (∀ j, j < n → σ' 17 j ≠ 0 → Q j) ∧ ∀ j, j < n → σ' 17 j ≠ 0 → (∀ l, σ0 7 j = nI l → l < n → σ' 17 l ≠ 0) ∧ (∀ l, σ0 8 j = nI l → l < n → σ' 17 l ≠ 0) := by
      intro σ1 g1 g2 g3 g4 g5
      obtain ⟨σ', h1, h2, h3, h4, h5⟩ := ih f σ1 (by omega) (by omega) g1 g3 g4
      exact ⟨σ', g5.trans h1, h2, fun j hj => h3 j (g2 j hj), h4, h5⟩
    by_cases u0 : σ 17 d = 0
    · refine go σ fr (fun _ h => h) hU (fun j q1 q2 q3 => ?_) ?_
      · by_cases e : j = d
        · subst e; exact absurd u0 q3
        · exact hC j (by omega) q2 q3
      · rewrite [f_X5_exchange_76]
        repeat (first | with_reducible refine bnE ?_ | with_reducible refine exI ?_ | with_reducible refine exJ ?_ | ((with_reducible refine iN ?_ ?_); · simp (disch := omega) only [ltL, Llt, leL, Lle, eqL, addL, Ladd, subL, subN, decN, eqM, Mle, mulL, nI_add, nI_ltI, nI_leI, nI_eq, nI_clamp, up2_at, nltT, nltF, nleT, nleF, neqT, neqF, ↓reduceIte, true_or, or_true, false_or, or_false, or_self, true_and, and_true, false_and, and_false, and_self, not_true, not_false_eq_true, i10, i01, im0, im12, im21, m1lt, m2lt, m1le, m2le, i00, i0le0, i1le0, i2le0, i3le0, eq_self, u0]) | ((with_reducible refine ip ?_ ?_); · simp (disch := omega) only [ltL, Llt, leL, Lle, eqL, addL, Ladd, subL, subN, decN, eqM, Mle, mulL, nI_add, nI_ltI, nI_leI, nI_eq, nI_clamp, up2_at, nltT, nltF, nleT, nleF, neqT, neqF, ↓reduceIte, true_or, or_true, false_or, or_false, or_self, true_and, and_true, false_and, and_false, and_self, not_true, not_false_eq_true, i10, i01, im0, im12, im21, m1lt, m2lt, m1le, m2le, i00, i0le0, i1le0, i2le0, i3le0, eq_self, u0]))
        rewrite [f_X5_exchange_142, e2]
        rfl
    · have hQd := hQ d (by omega) (hU d (by omega) u0)
      have hk := hL d (by omega)
      rcases hk.1 with k1 | ⟨a1, ha1, ea1⟩
      · have k2 := h8 d (by omega) k1
        refine go σ fr (fun _ h => h) hU (fun j q1 q2 q3 => ?_) ?_
        · by_cases e : j = d
          · subst e
            exact ⟨fun l el hl => absurd (el.symm.trans k1) (nI_ne_m1 (by omega)), fun l el hl => absurd (el.symm.trans k2) (nI_ne_m1 (by omega))⟩
          · exact hC j (by omega) q2 q3
        · have k1' : σ 7 d = -1 := by rw [r7]; exact k1
          rewrite [f_X5_exchange_76]
          repeat (first | with_reducible refine bnE ?_ | with_reducible refine exI ?_ | with_reducible refine exJ ?_ | ((with_reducible refine iN ?_ ?_); · simp (disch := omega) only [ltL, Llt, leL, Lle, eqL, addL, Ladd, subL, subN, decN, eqM, Mle, mulL, nI_add, nI_ltI, nI_leI, nI_eq, nI_clamp, up2_at, nltT, nltF, nleT, nleF, neqT, neqF, ↓reduceIte, true_or, or_true, false_or, or_false, or_self, true_and, and_true, false_and, and_false, and_self, not_true, not_false_eq_true, i10, i01, im0, im12, im21, m1lt, m2lt, m1le, m2le, i00, i0le0, i1le0, i2le0, i3le0, eq_self, u0, k1']) | ((with_reducible refine ip ?_ ?_); · simp (disch := omega) only [ltL, Llt, leL, Lle, eqL, addL, Ladd, subL, subN, decN, eqM, Mle, mulL, nI_add, nI_ltI, nI_leI, nI_eq, nI_clamp, up2_at, nltT, nltF, nleT, nleF, neqT, neqF, ↓reduceIte, true_or, or_true, false_or, or_false, or_self, true_and, and_true, false_and, and_false, and_self, not_true, not_false_eq_true, i10, i01, im0, im12, im21, m1lt, m2lt, m1le, m2le, i00, i0le0, i1le0, i2le0, i3le0, eq_self, u0, k1']))
          rewrite [f_X5_exchange_142, e2]
          rfl
      · have ea1' : σ 7 d = nI a1 := by rw [r7]; exact ea1
        have n1 : ¬ nI a1 = -1 := nI_ne_m1 (by omega)
        have zz : ∀ (σ : St) (a j : Nat), up2 σ 17 a 1 17 j = if j = a then 1 else σ 17 j := fun σ a j => by
          by_cases e : j = a
          · subst e; rw [if_pos rfl]; simp (disch := omega) only [ltL, Llt, leL, Lle, eqL, addL, Ladd, subL, subN, decN, eqM, Mle, mulL, nI_add, nI_ltI, nI_leI, nI_eq, nI_clamp, up2_at, nltT, nltF, nleT, nleF, neqT, neqF, ↓reduceIte, true_or, or_true, false_or, or_false, or_self, true_and, and_true, false_and, and_false, and_self, not_true, not_false_eq_true, i10, i01, im0, im12, im21, m1lt, m2lt, m1le, m2le, i00, i0le0, i1le0, i2le0, i3le0, eq_self, ]
          · rw [if_neg e]; simp (disch := omega) only [ltL, Llt, leL, Lle, eqL, addL, Ladd, subL, subN, decN, eqM, Mle, mulL, nI_add, nI_ltI, nI_leI, nI_eq, nI_clamp, up2_at, nltT, nltF, nleT, nleF, neqT, neqF, ↓reduceIte, true_or, or_true, false_or, or_false, or_self, true_and, and_true, false_and, and_false, and_self, not_true, not_false_eq_true, i10, i01, im0, im12, im21, m1lt, m2lt, m1le, m2le, i00, i0le0, i1le0, i2le0, i3le0, eq_self, e]
        rcases hk.2 with k2 | ⟨a2, ha2, ea2⟩
        · refine go (up2 σ 17 a1 1) (fun r hr => by rw [up2_row hr]; exact fr r hr) (fun j hj => ?_) (fun j hj hne => ?_) (fun j q1 q2 q3 => ?_) ?_
          · rw [zz]
            by_cases e : j = a1
            · rw [if_pos e]; decide
            · rw [if_neg e]; exact hj
          · rw [zz] at hne
            by_cases e : j = a1
            · subst e; exact hQd.1 j ea1 hj
            · rw [if_neg e] at hne; exact hU j hj hne
          · have mono : ∀ l, σ 17 l ≠ 0 → up2 σ 17 a1 1 17 l ≠ 0 := fun l hl => by
              rw [zz]
              by_cases e : l = a1
              · rw [if_pos e]; decide
              · rw [if_neg e]; exact hl
            by_cases e : j = d
            · subst e
              refine ⟨fun l el hl => ?_, fun l el hl => absurd (el.symm.trans k2) (nI_ne_m1 (by omega))⟩
              have : l = a1 := (nI_eq (by omega) (by omega)).mp (el.symm.trans ea1)
              rw [zz, if_pos this]; decide
            · rw [zz, if_neg (by omega)] at q3
              obtain ⟨g1, g2⟩ := hC j (by omega) q2 q3
              exact ⟨fun l el hl => mono l (g1 l el hl), fun l el hl => mono l (g2 l el hl)⟩
          · have k2' : up2 σ 17 a1 1 8 d = -1 := by rw [up2_row (by decide), r8]; exact k2
            rewrite [f_X5_exchange_76]
            repeat (first | with_reducible refine bnE ?_ | with_reducible refine exI ?_ | with_reducible refine exJ ?_ | ((with_reducible refine iN ?_ ?_); · simp (disch := omega) only [ltL, Llt, leL, Lle, eqL, addL, Ladd, subL, subN, decN, eqM, Mle, mulL, nI_add, nI_ltI, nI_leI, nI_eq, nI_clamp, up2_at, nltT, nltF, nleT, nleF, neqT, neqF, ↓reduceIte, true_or, or_true, false_or, or_false, or_self, true_and, and_true, false_and, and_false, and_self, not_true, not_false_eq_true, i10, i01, im0, im12, im21, m1lt, m2lt, m1le, m2le, i00, i0le0, i1le0, i2le0, i3le0, eq_self, u0, ea1', n1]) | ((with_reducible refine ip ?_ ?_); · simp (disch := omega) only [ltL, Llt, leL, Lle, eqL, addL, Ladd, subL, subN, decN, eqM, Mle, mulL, nI_add, nI_ltI, nI_leI, nI_eq, nI_clamp, up2_at, nltT, nltF, nleT, nleF, neqT, neqF, ↓reduceIte, true_or, or_true, false_or, or_false, or_self, true_and, and_true, false_and, and_false, and_self, not_true, not_false_eq_true, i10, i01, im0, im12, im21, m1lt, m2lt, m1le, m2le, i00, i0le0, i1le0, i2le0, i3le0, eq_self, u0, ea1', n1]))
            rewrite [nI_clamp (by omega : d < 2 ^ 31), ea1', nI_clamp (by omega : a1 < 2 ^ 31)]
            have k2s : σ 8 d = -1 := by rw [r8]; exact k2
            repeat (first | with_reducible refine bnE ?_ | with_reducible refine exI ?_ | with_reducible refine exJ ?_ | ((with_reducible refine iN ?_ ?_); · simp (disch := omega) only [ltL, Llt, leL, Lle, eqL, addL, Ladd, subL, subN, decN, eqM, Mle, mulL, nI_add, nI_ltI, nI_leI, nI_eq, nI_clamp, up2_at, nltT, nltF, nleT, nleF, neqT, neqF, ↓reduceIte, true_or, or_true, false_or, or_false, or_self, true_and, and_true, false_and, and_false, and_self, not_true, not_false_eq_true, i10, i01, im0, im12, im21, m1lt, m2lt, m1le, m2le, i00, i0le0, i1le0, i2le0, i3le0, eq_self, k2s]) | ((with_reducible refine ip ?_ ?_); · simp (disch := omega) only [ltL, Llt, leL, Lle, eqL, addL, Ladd, subL, subN, decN, eqM, Mle, mulL, nI_add, nI_ltI, nI_leI, nI_eq, nI_clamp, up2_at, nltT, nltF, nleT, nleF, neqT, neqF, ↓reduceIte, true_or, or_true, false_or, or_false, or_self, true_and, and_true, false_and, and_false, and_self, not_true, not_false_eq_true, i10, i01, im0, im12, im21, m1lt, m2lt, m1le, m2le, i00, i0le0, i1le0, i2le0, i3le0, eq_self, k2s]))
            rewrite [f_X5_exchange_142, e2]
            rfl
        · refine go (up2 (up2 σ 17 a1 1) 17 a2 1) (fun r hr => by rw [up2_row hr, up2_row hr]; exact fr r hr) (fun j hj => ?_) (fun j hj hne => ?_) (fun j q1 q2 q3 => ?_) ?_
          · rw [zz, zz]
            by_cases e : j = a2
            · rw [if_pos e]; decide
            · rw [if_neg e]
              by_cases e : j = a1
              · rw [if_pos e]; decide
              · rw [if_neg e]; exact hj
          · rw [zz, zz] at hne
            by_cases e : j = a2
            · subst e; exact hQd.2 j ea2 hj
            · rw [if_neg e] at hne
              by_cases e : j = a1
              · subst e; exact hQd.1 j ea1 hj
              · rw [if_neg e] at hne; exact hU j hj hne
          · have mono : ∀ l, σ 17 l ≠ 0 → up2 (up2 σ 17 a1 1) 17 a2 1 17 l ≠ 0 := fun l hl => by
              rw [zz, zz]
              by_cases e : l = a2
              · rw [if_pos e]; decide
              · rw [if_neg e]
                by_cases e : l = a1
                · rw [if_pos e]; decide
                · rw [if_neg e]; exact hl
            by_cases e : j = d
            · subst e
              refine ⟨fun l el hl => ?_, fun l el hl => ?_⟩
              · have : l = a1 := (nI_eq (by omega) (by omega)).mp (el.symm.trans ea1)
                rw [zz, zz]
                by_cases e2 : l = a2
                · rw [if_pos e2]; decide
                · rw [if_neg e2, if_pos this]; decide
              · have : l = a2 := (nI_eq (by omega) (by omega)).mp (el.symm.trans ea2)
                rw [zz, if_pos this]; decide
            · rw [zz, zz, if_neg (by omega), if_neg (by omega)] at q3
              obtain ⟨g1, g2⟩ := hC j (by omega) q2 q3
              exact ⟨fun l el hl => mono l (g1 l el hl), fun l el hl => mono l (g2 l el hl)⟩
          · have k2' : up2 σ 17 a1 1 8 d = nI a2 := by rw [up2_row (by decide), r8]; exact ea2
            have n2 : ¬ nI a2 = -1 := nI_ne_m1 (by omega)
            rewrite [f_X5_exchange_76]
            repeat (first | with_reducible refine bnE ?_ | with_reducible refine exI ?_ | with_reducible refine exJ ?_ | ((with_reducible refine iN ?_ ?_); · simp (disch := omega) only [ltL, Llt, leL, Lle, eqL, addL, Ladd, subL, subN, decN, eqM, Mle, mulL, nI_add, nI_ltI, nI_leI, nI_eq, nI_clamp, up2_at, nltT, nltF, nleT, nleF, neqT, neqF, ↓reduceIte, true_or, or_true, false_or, or_false, or_self, true_and, and_true, false_and, and_false, and_self, not_true, not_false_eq_true, i10, i01, im0, im12, im21, m1lt, m2lt, m1le, m2le, i00, i0le0, i1le0, i2le0, i3le0, eq_self, u0, ea1', n1]) | ((with_reducible refine ip ?_ ?_); · simp (disch := omega) only [ltL, Llt, leL, Lle, eqL, addL, Ladd, subL, subN, decN, eqM, Mle, mulL, nI_add, nI_ltI, nI_leI, nI_eq, nI_clamp, up2_at, nltT, nltF, nleT, nleF, neqT, neqF, ↓reduceIte, true_or, or_true, false_or, or_false, or_self, true_and, and_true, false_and, and_false, and_self, not_true, not_false_eq_true, i10, i01, im0, im12, im21, m1lt, m2lt, m1le, m2le, i00, i0le0, i1le0, i2le0, i3le0, eq_self, u0, ea1', n1]))
            rewrite [nI_clamp (by omega : d < 2 ^ 31), ea1', nI_clamp (by omega : a1 < 2 ^ 31)]
            have k2s : σ 8 d = nI a2 := by rw [r8]; exact ea2
            repeat (first | with_reducible refine bnE ?_ | with_reducible refine exI ?_ | with_reducible refine exJ ?_ | ((with_reducible refine iN ?_ ?_); · simp (disch := omega) only [ltL, Llt, leL, Lle, eqL, addL, Ladd, subL, subN, decN, eqM, Mle, mulL, nI_add, nI_ltI, nI_leI, nI_eq, nI_clamp, up2_at, nltT, nltF, nleT, nleF, neqT, neqF, ↓reduceIte, true_or, or_true, false_or, or_false, or_self, true_and, and_true, false_and, and_false, and_self, not_true, not_false_eq_true, i10, i01, im0, im12, im21, m1lt, m2lt, m1le, m2le, i00, i0le0, i1le0, i2le0, i3le0, eq_self, k2s, n2]) | ((with_reducible refine ip ?_ ?_); · simp (disch := omega) only [ltL, Llt, leL, Lle, eqL, addL, Ladd, subL, subN, decN, eqM, Mle, mulL, nI_add, nI_ltI, nI_leI, nI_eq, nI_clamp, up2_at, nltT, nltF, nleT, nleF, neqT, neqF, ↓reduceIte, true_or, or_true, false_or, or_false, or_self, true_and, and_true, false_and, and_false, and_self, not_true, not_false_eq_true, i10, i01, im0, im12, im21, m1lt, m2lt, m1le, m2le, i00, i0le0, i1le0, i2le0, i3le0, eq_self, k2s, n2]))
            rewrite [k2', nI_clamp (by omega : a2 < 2 ^ 31), f_X5_exchange_142, e2]
            rfl
