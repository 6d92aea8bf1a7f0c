/-! PURE: exchange, whole; the reference's writing of a retyped term -/
theorem exchange_ok {N n v b0 i : Nat} {s0 s1 : Nat} {τ0 : Ty} {σ : St} (hN : 34100 < N) (hn : n ≤ 8000) (T0 : TM n σ) (hb0 : b0 < n) (eτ : tM σ (nI b0) = τ0) (hτ : hg τ0 ≤ 24) (hH : ∀ j, j < n → hg (tM σ (nI j)) ≤ 24) (hvar : ∀ j, j < n → σ 6 j = -1 - nI v → σ 7 j = -1) (h8 : ∀ j, j < n → σ 7 j = -1 → σ 8 j = -1) (hi : i < 4200) (e0 : σ 19 i = nI s0) (e1 : σ 19 (i + 1) = nI s1) (h01 : s0 ≤ s1) (h1 : s1 ≤ 34100) (hty : ∀ z, s0 ≤ z → z < s1 → ∃ j, j < n ∧ σ 21 z = nI j) :
    ∃ (σ1 : St) (n1 : Nat) (U : Nat → Prop), f_X5_exchange N σ (nI i) (nI v) (nI b0) = some σ1 ∧ TM n1 σ1 ∧ n ≤ n1 ∧ (∀ i, Kid n i → tM σ1 i = tM σ i) ∧ (∀ r, r ≠ 5 → r ≠ 6 → r ≠ 7 → r ≠ 8 → r ≠ 9 → r ≠ 10 → r ≠ 11 → r ≠ 12 → r ≠ 16 → r ≠ 17 → σ1 r = σ r) ∧ (∀ j, j < n → U j → ∃ g, g < n1 ∧ σ1 16 j = nI g ∧ tM σ1 (nI g) = sb (-1 - nI v) τ0 (tM σ (nI j))) ∧ (∀ j, n ≤ j → j < n1 → ∃ i, i < n ∧ U i ∧ tM σ1 (nI j) = sb (-1 - nI v) τ0 (tM σ (nI i))) ∧ (∀ z, s0 ≤ z → z < s1 → ∀ j, σ 21 z = nI j → j < n → U j) ∧ (∀ j, j < n → U j → (∀ l, σ 7 j = nI l → l < n → U l) ∧ (∀ l, σ 8 j = nI l → l < n → U l)) ∧ ∀ Q : Nat → Prop, (∀ z, s0 ≤ z → z < s1 → ∀ j, j < n → σ 21 z = nI j → Q j) → (∀ j, j < n → Q j → (∀ l, σ 7 j = nI l → l < n → Q l) ∧ (∀ l, σ 8 j = nI l → l < n → Q l)) → ∀ j, j < n → U j → Q j := by
  have hs5 : σ 5 0 = nI n := T0.2.1
  obtain ⟨Q0, hQ0⟩ : ∃ Q0 : Nat → Prop, Q0 = fun j => ∀ Q : Nat → Prop, (∀ z, s0 ≤ z → z < s1 → ∀ j, j < n → σ 21 z = nI j → Q j) → (∀ j, j < n → Q j → (∀ l, σ 7 j = nI l → l < n → Q l) ∧ (∀ l, σ 8 j = nI l → l < n → Q l)) → Q j := ⟨_, rfl⟩
  obtain ⟨σ2, g1, g2, -, g4⟩ := ex9 (N := N) (x2 := nI v) (x3 := nI b0) (by omega : n ≤ 16000) hi n 0 N σ (by omega) (by omega)
  have r19 : σ2 19 = σ 19 := g2 19 (by decide)
  have r21 : σ2 21 = σ 21 := g2 21 (by decide)
  obtain ⟨σ3, k1, k2, k3, k4, k5⟩ := ex38 (N := N) (x2 := nI v) (x3 := nI b0) (Q := Q0) (by omega : n ≤ 16000) hi h1 (s1 - s0) s0 N σ2 (by omega) (by omega) (by rw [r19]; exact e1) (fun z q1 q2 => by
    obtain ⟨j, hj, ej⟩ := hty z q1 q2
    refine ⟨j, hj, by rw [r21]; exact ej, ?_⟩
    rw [hQ0]
    exact fun Q h1 _ => h1 z q1 q2 j hj ej) (fun j hj hne => absurd (g4 j (by omega) hj) hne)
  have fr3 : R17 σ σ3 := fun r hr => by rw [k2 r hr, g2 r hr]
  obtain ⟨σ4, w1, w2, w3, w4, w5⟩ := ex76 (N := N) (x2 := nI v) (x3 := nI b0) (Q := Q0) (σ0 := σ) (by omega : n ≤ 16000) T0.2.2.2.1 (fun j hj hq => by
    rw [hQ0] at hq ⊢
    exact ⟨fun l el hl Q h1 h2 => (h2 j hj (hq Q h1 h2)).1 l el hl, fun l el hl Q h1 h2 => (h2 j hj (hq Q h1 h2)).2 l el hl⟩) h8 n N σ3 (Nat.le_refl _) (by omega) fr3 k3 (fun j q1 q2 => absurd q1 (by omega))
  obtain ⟨T4, ht4⟩ := T0.congr (σ' := σ4) (by simp (disch := decide) only [up2_row, upR_row, and_self, eq_self, w2])
  have r6 : σ4 6 = σ 6 := w2 6 (by decide)
  have r7 : σ4 7 = σ 7 := w2 7 (by decide)
  have r8 : σ4 8 = σ 8 := w2 8 (by decide)
  obtain ⟨σ1, n1, x1, x2⟩ := ex151 (N := N) (b0 := b0) (v := nI v) (τ0 := τ0) hN hn T4 hb0 (by rw [ht4]; exact eτ) hτ (by rw [ht4]; exact hH) (by rw [r6, r7]; exact hvar) (by rw [r7, r8]; exact h8) (by rw [r7, r8]; exact w5) n 0 N σ4 n (by omega) (by omega) ⟨T4, Nat.le_refl _, by omega, fun _ _ => rfl, fun _ _ _ _ _ _ _ _ _ _ => rfl, fun j hj => absurd hj (by omega), fun j q1 q2 => absurd q1 (by omega)⟩
  obtain ⟨y1, y2, y3, y4, y5, y6, y7⟩ := x2
  rw [ht4] at y4 y6 y7
  refine ⟨σ1, n1, fun j => σ4 17 j ≠ 0, ?_, y1, y2, y4, fun r h5 h6 h7 h8 h9 h10 h11 h12 h16 h17 => by rw [y5 r h5 h6 h7 h8 h9 h10 h11 h12 h16]; exact w2 r h17, fun j hj hu => y6 j hj hu, y7, fun z q1 q2 j ej hj => w3 j (k5 z q1 q2 j (by rw [r21]; exact ej) hj), w5, fun Q h1 h2 j hj hu => ?_⟩
  · rewrite [f_X5_exchange, hs5]
    refine Eq.trans g1 ?_
    rw [r19, e0]
    refine Eq.trans k1 ?_
    exact Eq.trans w1 x1
  · have := w4 j hj hu
    rw [hQ0] at this
    exact this Q h1 h2
/-- the reference writes every symbol with its type's image -/
theorem retM_loop {N m s n1 i E A : Nat} {t0 σ1 : St} {x4 : Int32} {sm : Nat → Prop} (hN : 34100 < N) (B : Bs m s t0 σ1) (hi : i < 4200) (hE : E ≤ s) (e19 : σ1 19 (i + 1) = nI E) (TM1 : TM n1 σ1) (hty : ∀ z, A ≤ z → z < E → ∃ j g, j < 16000 ∧ σ1 21 z = nI j ∧ g < n1 ∧ σ1 16 j = nI g ∧ (sm z ↔ sz (tM σ1 (nI g)) ≤ 200 ∧ hg (tM σ1 (nI g)) ≤ 24)) : ∀ d a L f σ p (x5 : Int32), A ≤ a → a + d = E → d < f → (x5 = 0 ∨ x5 = 1) → BM s L σ1 σ p → ∃ σ' p' x5', f_X5_retype_86 N f σ (nI i) x4 x5 p (nI a) = f_X5_retype_86 N (f - d) σ' (nI i) x4 x5' p' (nI E) ∧ BM s (L + d) σ1 σ' p' ∧ ((x5' = x5 ∧ ∀ z, a ≤ z → z < E → x5 = 1 → sm z) ∨ (x5' = 0 ∧ (x5 = 0 ∨ ∃ z, a ≤ z ∧ z < E ∧ ¬ sm z))) ∧ (∀ j, j < L → σ' 20 (s + j) = σ 20 (s + j) ∧ σ' 21 (s + j) = σ 21 (s + j)) ∧ ∀ j, j < d → L + j ≤ 4000 → σ' 20 (s + (L + j)) = σ1 20 (a + j) ∧ ∀ l, σ1 21 (a + j) = nI l → l < 16000 → σ' 21 (s + (L + j)) = σ1 16 l := by
  have hs := B.2.1
  intro d
  induction d with
  | zero =>
    intro a L f σ p x5 hA ha hf h5 hB
    obtain rfl : a = E := by omega
    exact ⟨σ, p, x5, rfl, hB, Or.inl ⟨rfl, fun z q1 q2 => absurd q1 (by omega)⟩, fun _ _ => ⟨rfl, rfl⟩, fun j hj => absurd hj (by omega)⟩
  | succ d ih =>
    intro a L f σ p x5 hA ha hf h5 hB
    obtain ⟨f, rfl⟩ : ∃ z, f = z + 1 := ⟨f - 1, by omega⟩
    obtain ⟨j0, g, hj0, ej0, hg1, eg, hsm⟩ := hty a hA (by omega)
    obtain ⟨p1, p2, p3⟩ := id hB
    have r19 : σ 19 = σ1 19 := p2 19 (by decide) (by decide) (by decide)
    have r16 : σ 16 = σ1 16 := p2 16 (by decide) (by decide) (by decide)
    have e21 : σ 21 a = nI j0 := by rw [(p3 a (by omega)).2]; exact ej0
    have e20 : σ 20 a = σ1 20 a := (p3 a (by omega)).1
    have e16 : σ 16 j0 = nI g := by rw [r16]; exact eg
    have e19' : σ 19 (i + 1) = nI E := by rw [r19]; exact e19
    obtain ⟨σ2, p', w1, w2, w3, w4⟩ := BM.add (N := N) (c := σ1 20 a) (v := nI g) B hB
    obtain ⟨TMσ, htσ⟩ := TM1.congr (σ' := σ) (by simp (disch := decide) only [up2_row, upR_row, and_self, eq_self, p2])
    have hsmall := isSmall_ok (N := N) TMσ hg1
    rw [htσ] at hsmall
    -- the writing, whatever the flag
    have wr : ∀ x : Int32, f_X5_retype_128 N (f_X5_retype_86 N f) σ (nI i) x4 p (nI a) x = f_X5_retype_86 N f σ2 (nI i) x4 x p' (nI (a + 1)) := by
      intro x
      rewrite [f_X5_retype_128]
      repeat (first | with_reducible refine bnE ?_ | with_reducible refine exI ?_ | with_reducible refine exJ ?_ | ((with_reducible refine iN ?_ ?_); · simp (disch := omega) only [ltL, Llt, leL, Lle, eqL, addL, Ladd, subL, subN, decN, eqM, Mle, mulL, nI_add, nI_ltI, nI_leI, nI_eq, nI_clamp, up2_at, nltT, nltF, nleT, nleF, neqT, neqF, ↓reduceIte, true_or, or_true, false_or, or_false, or_self, true_and, and_true, false_and, and_false, and_self, not_true, not_false_eq_true, i10, i01, im0, im12, im21, m1lt, m2lt, m1le, m2le, i00, i0le0, i1le0, i2le0, i3le0, eq_self, e21]) | ((with_reducible refine ip ?_ ?_); · simp (disch := omega) only [ltL, Llt, leL, Lle, eqL, addL, Ladd, subL, subN, decN, eqM, Mle, mulL, nI_add, nI_ltI, nI_leI, nI_eq, nI_clamp, up2_at, nltT, nltF, nleT, nleF, neqT, neqF, ↓reduceIte, true_or, or_true, false_or, or_false, or_self, true_and, and_true, false_and, and_false, and_self, not_true, not_false_eq_true, i10, i01, im0, im12, im21, m1lt, m2lt, m1le, m2le, i00, i0le0, i1le0, i2le0, i3le0, eq_self, e21]))
      simp (disch := omega) only [nI_clamp, e21, e16, e20]
      repeat (first | with_reducible refine bnE ?_ | with_reducible refine exI ?_ | with_reducible refine exJ ?_ | with_reducible refine bs (w1) ?_ | ((with_reducible refine iN ?_ ?_); · simp (disch := omega) only [ltL, Llt, leL, Lle, eqL, addL, Ladd, subL, subN, decN, eqM, Mle, mulL, nI_add, nI_ltI, nI_leI, nI_eq, nI_clamp, up2_at, nltT, nltF, nleT, nleF, neqT, neqF, ↓reduceIte, true_or, or_true, false_or, or_false, or_self, true_and, and_true, false_and, and_false, and_self, not_true, not_false_eq_true, i10, i01, im0, im12, im21, m1lt, m2lt, m1le, m2le, i00, i0le0, i1le0, i2le0, i3le0, eq_self]) | ((with_reducible refine ip ?_ ?_); · simp (disch := omega) only [ltL, Llt, leL, Lle, eqL, addL, Ladd, subL, subN, decN, eqM, Mle, mulL, nI_add, nI_ltI, nI_leI, nI_eq, nI_clamp, up2_at, nltT, nltF, nleT, nleF, neqT, neqF, ↓reduceIte, true_or, or_true, false_or, or_false, or_self, true_and, and_true, false_and, and_false, and_self, not_true, not_false_eq_true, i10, i01, im0, im12, im21, m1lt, m2lt, m1le, m2le, i00, i0le0, i1le0, i2le0, i3le0, eq_self]))
      simp (disch := omega) only [ltL, Llt, leL, Lle, eqL, addL, Ladd, subL, subN, decN, eqM, Mle, mulL, nI_add, nI_ltI, nI_leI, nI_eq, nI_clamp, up2_at, nltT, nltF, nleT, nleF, neqT, neqF, ↓reduceIte, true_or, or_true, false_or, or_false, or_self, true_and, and_true, false_and, and_false, and_self, not_true, not_false_eq_true, i10, i01, im0, im12, im21, m1lt, m2lt, m1le, m2le, i00, i0le0, i1le0, i2le0, i3le0, eq_self, ]
    have hd : f + 1 - (d + 1) = f - d := by omega
    rw [hd]
    -- go on with flag x
    have go : ∀ x : Int32, (x = 0 ∨ x = 1) → ((x = x5 ∧ (x5 = 1 → sm a)) ∨ (x = 0 ∧ (x5 = 0 ∨ ¬ sm a))) → f_X5_retype_86 N (f + 1) σ (nI i) x4 x5 p (nI a) = f_X5_retype_86 N f σ2 (nI i) x4 x p' (nI (a + 1)) → ∃ σ' p' x5', f_X5_retype_86 N (f + 1) σ (nI i) x4 x5 p (nI a) = f_X5_retype_86 N (f - d) σ' (nI i) x4 x5' p' (nI E) ∧ BM s (L + (d + 1)) σ1 σ' p' ∧ ((x5' = x5 ∧ ∀ z, a ≤ z → z < E → x5 = 1 → sm z) ∨ (x5' = 0 ∧ (x5 = 0 ∨ ∃ z, a ≤ z ∧ z < E ∧ ¬ sm z))) ∧ (∀ j, j < L → σ' 20 (s + j) = σ 20 (s + j) ∧ σ' 21 (s + j) = σ 21 (s + j)) ∧ ∀ j, j < d + 1 → L + j ≤ 4000 → σ' 20 (s + (L + j)) = σ1 20 (a + j) ∧ ∀ l, σ1 21 (a + j) = nI l → l < 16000 → σ' 21 (s + (L + j)) = σ1 16 l := by
      intro x hx hxx he
      obtain ⟨σ', pp, x5', v1, v2, v3, v4, v5⟩ := ih (a + 1) (L + 1) f σ2 p' x (by omega) (by omega) (by omega) hx w2
      refine ⟨σ', pp, x5', he.trans v1, ?_, ?_, fun j hj => ?_, fun j hj hL => ?_⟩
      · have : L + (d + 1) = L + 1 + d := by omega
        rw [this]; exact v2
      · rcases v3 with ⟨v3, v6⟩ | ⟨v3, v6⟩
        · rcases hxx with ⟨h1, h2⟩ | ⟨h1, h2⟩
          · refine Or.inl ⟨v3.trans h1, fun z q1 q2 q3 => ?_⟩
            by_cases e : z = a
            · subst e; exact h2 q3
            · exact v6 z (by omega) q2 (h1.trans q3)
          · refine Or.inr ⟨v3.trans h1, ?_⟩
            rcases h2 with h2 | h2
            · exact Or.inl h2
            · exact Or.inr ⟨a, Nat.le_refl _, by omega, h2⟩
        · refine Or.inr ⟨v3, ?_⟩
          rcases v6 with v6 | ⟨z, q1, q2, q3⟩
          · rcases hxx with ⟨h1, h2⟩ | ⟨h1, h2⟩
            · exact Or.inl (h1.symm.trans v6)
            · rcases h2 with h2 | h2
              · exact Or.inl h2
              · exact Or.inr ⟨a, Nat.le_refl _, by omega, h2⟩
          · exact Or.inr ⟨z, by omega, q2, q3⟩
      · have q1 := v4 j (by omega)
        have q2 := w3 j hj
        exact ⟨q1.1.trans q2.1, q1.2.trans q2.2⟩
      · by_cases e : j = 0
        · subst e
          have q1 := v4 L (by omega)
          have q2 := w4 (by omega)
          refine ⟨q1.1.trans q2.1, fun l el hl => ?_⟩
          have : l = j0 := (nI_eq (by omega) (by omega)).mp (el.symm.trans ej0)
          subst this
          rw [eg]; exact q1.2.trans q2.2
        · have q1 := v5 (j - 1) (by omega) (by omega)
          have z1 : L + 1 + (j - 1) = L + j := by omega
          have z2 : a + 1 + (j - 1) = a + j := by omega
          rw [z1, z2] at q1; exact q1
    rcases h5 with rfl | rfl
    · refine go 0 (Or.inl rfl) (Or.inl ⟨rfl, fun q => absurd q (by decide)⟩) ?_
      rewrite [f_X5_retype_86]
      repeat (first | with_reducible refine bnE ?_ | with_reducible refine exI ?_ | with_reducible refine exJ ?_ | ((with_reducible refine iN ?_ ?_); · simp (disch := omega) only [ltL, Llt, leL, Lle, eqL, addL, Ladd, subL, subN, decN, eqM, Mle, mulL, nI_add, nI_ltI, nI_leI, nI_eq, nI_clamp, up2_at, nltT, nltF, nleT, nleF, neqT, neqF, ↓reduceIte, true_or, or_true, false_or, or_false, or_self, true_and, and_true, false_and, and_false, and_self, not_true, not_false_eq_true, i10, i01, im0, im12, im21, m1lt, m2lt, m1le, m2le, i00, i0le0, i1le0, i2le0, i3le0, eq_self, e19']) | ((with_reducible refine ip ?_ ?_); · simp (disch := omega) only [ltL, Llt, leL, Lle, eqL, addL, Ladd, subL, subN, decN, eqM, Mle, mulL, nI_add, nI_ltI, nI_leI, nI_eq, nI_clamp, up2_at, nltT, nltF, nleT, nleF, neqT, neqF, ↓reduceIte, true_or, or_true, false_or, or_false, or_self, true_and, and_true, false_and, and_false, and_self, not_true, not_false_eq_true, i10, i01, im0, im12, im21, m1lt, m2lt, m1le, m2le, i00, i0le0, i1le0, i2le0, i3le0, eq_self, e19']))
      rewrite [f_X5_retype_127]
      exact wr 0
    · by_cases q : sm a
      · rw [if_pos (hsm.mp q)] at hsmall
        refine go 1 (Or.inr rfl) (Or.inl ⟨rfl, fun _ => q⟩) ?_
        rewrite [f_X5_retype_86]
        repeat (first | with_reducible refine bnE ?_ | with_reducible refine exI ?_ | with_reducible refine exJ ?_ | ((with_reducible refine iN ?_ ?_); · simp (disch := omega) only [ltL, Llt, leL, Lle, eqL, addL, Ladd, subL, subN, decN, eqM, Mle, mulL, nI_add, nI_ltI, nI_leI, nI_eq, nI_clamp, up2_at, nltT, nltF, nleT, nleF, neqT, neqF, ↓reduceIte, true_or, or_true, false_or, or_false, or_self, true_and, and_true, false_and, and_false, and_self, not_true, not_false_eq_true, i10, i01, im0, im12, im21, m1lt, m2lt, m1le, m2le, i00, i0le0, i1le0, i2le0, i3le0, eq_self, e19', e21, e16]) | ((with_reducible refine ip ?_ ?_); · simp (disch := omega) only [ltL, Llt, leL, Lle, eqL, addL, Ladd, subL, subN, decN, eqM, Mle, mulL, nI_add, nI_ltI, nI_leI, nI_eq, nI_clamp, up2_at, nltT, nltF, nleT, nleF, neqT, neqF, ↓reduceIte, true_or, or_true, false_or, or_false, or_self, true_and, and_true, false_and, and_false, and_self, not_true, not_false_eq_true, i10, i01, im0, im12, im21, m1lt, m2lt, m1le, m2le, i00, i0le0, i1le0, i2le0, i3le0, eq_self, e19', e21, e16]) | ((with_reducible apply bs); · ((try simp (disch := omega) only [ltL, Llt, leL, Lle, eqL, addL, Ladd, subL, subN, decN, eqM, Mle, mulL, nI_add, nI_ltI, nI_leI, nI_eq, nI_clamp, up2_at, nltT, nltF, nleT, nleF, neqT, neqF, ↓reduceIte, true_or, or_true, false_or, or_false, or_self, true_and, and_true, false_and, and_false, and_self, not_true, not_false_eq_true, i10, i01, im0, im12, im21, m1lt, m2lt, m1le, m2le, i00, i0le0, i1le0, i2le0, i3le0, eq_self, e19', e21, e16]); exact hsmall)))
        exact wr 1
      · rw [if_neg (fun z => q (hsm.mpr z))] at hsmall
        refine go 0 (Or.inl rfl) (Or.inr ⟨rfl, Or.inr q⟩) ?_
        rewrite [f_X5_retype_86]
        repeat (first | with_reducible refine bnE ?_ | with_reducible refine exI ?_ | with_reducible refine exJ ?_ | ((with_reducible refine iN ?_ ?_); · simp (disch := omega) only [ltL, Llt, leL, Lle, eqL, addL, Ladd, subL, subN, decN, eqM, Mle, mulL, nI_add, nI_ltI, nI_leI, nI_eq, nI_clamp, up2_at, nltT, nltF, nleT, nleF, neqT, neqF, ↓reduceIte, true_or, or_true, false_or, or_false, or_self, true_and, and_true, false_and, and_false, and_self, not_true, not_false_eq_true, i10, i01, im0, im12, im21, m1lt, m2lt, m1le, m2le, i00, i0le0, i1le0, i2le0, i3le0, eq_self, e19', e21, e16]) | ((with_reducible refine ip ?_ ?_); · simp (disch := omega) only [ltL, Llt, leL, Lle, eqL, addL, Ladd, subL, subN, decN, eqM, Mle, mulL, nI_add, nI_ltI, nI_leI, nI_eq, nI_clamp, up2_at, nltT, nltF, nleT, nleF, neqT, neqF, ↓reduceIte, true_or, or_true, false_or, or_false, or_self, true_and, and_true, false_and, and_false, and_self, not_true, not_false_eq_true, i10, i01, im0, im12, im21, m1lt, m2lt, m1le, m2le, i00, i0le0, i1le0, i2le0, i3le0, eq_self, e19', e21, e16]) | ((with_reducible apply bs); · ((try simp (disch := omega) only [ltL, Llt, leL, Lle, eqL, addL, Ladd, subL, subN, decN, eqM, Mle, mulL, nI_add, nI_ltI, nI_leI, nI_eq, nI_clamp, up2_at, nltT, nltF, nleT, nleF, neqT, neqF, ↓reduceIte, true_or, or_true, false_or, or_false, or_self, true_and, and_true, false_and, and_false, and_self, not_true, not_false_eq_true, i10, i01, im0, im12, im21, m1lt, m2lt, m1le, m2le, i00, i0le0, i1le0, i2le0, i3le0, eq_self, e19', e21, e16]); exact hsmall)))
        rewrite [f_X5_retype_127]
        exact wr 0
/-- the class's building alone -/
def CB (s L : Nat) (t0 t : St) : Prop := (∀ r, r ≠ 0 → r ≠ 1 → r ≠ 6 → r ≠ 7 → t r = t0 r) ∧ (∀ k, k < s → t 0 k = t0 0 k ∧ t 1 k = t0 1 k) ∧ ((L ≤ 4000 ∧ s + L ≤ 30000 ∧ t 7 0 = 0 ∧ t 6 0 = nI (s + L)) ∨ (¬ (L ≤ 4000 ∧ s + L ≤ 30000) ∧ t 7 0 = 1))
theorem CB.add {N m s L : Nat} {t0 σ0 t k : St} {c u : Int32} (B : Bs m s t0 σ0) (h : CB s L t0 t) : ∃ t', f_X1_add N t k c u = some (t', k) ∧ CB s (L + 1) t0 t' ∧ (∀ j, j < L → t' 0 (s + j) = t 0 (s + j) ∧ t' 1 (s + j) = t 1 (s + j)) ∧ (L + 1 ≤ 4000 ∧ s + (L + 1) ≤ 30000 → t' 0 (s + L) = c ∧ t' 1 (s + L) = u) := by
  obtain ⟨h2, h3, h4⟩ := h
  obtain ⟨b1, b2, b3, b4, b5, b6⟩ := B
  have t5 : t 5 0 = nI m := by rw [h2 5 (by decide) (by decide) (by decide) (by decide)]; exact b3
  have t2 : t 2 m = nI s := by rw [h2 2 (by decide) (by decide) (by decide) (by decide)]; exact b4
  have fail : f_X1_add N t k c u = some (up2 t 7 0 1, k) → ¬ (L + 1 ≤ 4000 ∧ s + (L + 1) ≤ 30000) → ∃ t', f_X1_add N t k c u = some (t', k) ∧ CB s (L + 1) t0 t' ∧ (∀ j, j < L → t' 0 (s + j) = t 0 (s + j) ∧ t' 1 (s + j) = t 1 (s + j)) ∧ (L + 1 ≤ 4000 ∧ s + (L + 1) ≤ 30000 → t' 0 (s + L) = c ∧ t' 1 (s + L) = u) := fun q1 q2 => ⟨_, q1, ⟨fun r r0 r1 r6 r7 => by rw [up2_row r7]; exact h2 r r0 r1 r6 r7, fun k hk => by rw [up2_row (by decide), up2_row (by decide)]; exact h3 k hk, Or.inr ⟨q2, by simp (disch := omega) only [ltL, Llt, leL, Lle, eqL, addL, Ladd, subL, subN, decN, eqM, Mle, mulL, nI_add, nI_ltI, nI_leI, nI_eq, nI_clamp, up2_at, nltT, nltF, nleT, nleF, neqT, neqF, ↓reduceIte, true_or, or_true, false_or, or_false, or_self, true_and, and_true, false_and, and_false, and_self, not_true, not_false_eq_true, i10, i01, im0, im12, im21, m1lt, m2lt, m1le, m2le, i00, i0le0, i1le0, i2le0, i3le0, eq_self, ]⟩⟩, fun j _ => ⟨by rw [up2_row (by decide)], by rw [up2_row (by decide)]⟩, fun q => absurd q q2⟩
  rcases h4 with ⟨g1, g2, g3, g4⟩ | ⟨g1, g2⟩
  · have hr := room_ok (N := N) (k := k) (d := 1) b1 b2 t5 t2 g4 g1 (by omega)
    by_cases q : L + 1 ≤ 4000 ∧ s + (L + 1) ≤ 30000
    · rw [if_pos q] at hr
      refine ⟨up2 (up2 (up2 t 0 (s + L) c) 1 (s + L) u) 6 0 (nI (s + L + 1)), ?_, ⟨fun r r0 r1 r6 r7 => by rw [up2_row r6, up2_row r1, up2_row r0]; exact h2 r r0 r1 r6 r7, fun k hk => ?_, Or.inl ⟨q.1, q.2, ?_, ?_⟩⟩, fun j hj => ?_, fun _ => ⟨by simp (disch := omega) only [ltL, Llt, leL, Lle, eqL, addL, Ladd, subL, subN, decN, eqM, Mle, mulL, nI_add, nI_ltI, nI_leI, nI_eq, nI_clamp, up2_at, nltT, nltF, nleT, nleF, neqT, neqF, ↓reduceIte, true_or, or_true, false_or, or_false, or_self, true_and, and_true, false_and, and_false, and_self, not_true, not_false_eq_true, i10, i01, im0, im12, im21, m1lt, m2lt, m1le, m2le, i00, i0le0, i1le0, i2le0, i3le0, eq_self, ], by simp (disch := omega) only [ltL, Llt, leL, Lle, eqL, addL, Ladd, subL, subN, decN, eqM, Mle, mulL, nI_add, nI_ltI, nI_leI, nI_eq, nI_clamp, up2_at, nltT, nltF, nleT, nleF, neqT, neqF, ↓reduceIte, true_or, or_true, false_or, or_false, or_self, true_and, and_true, false_and, and_false, and_self, not_true, not_false_eq_true, i10, i01, im0, im12, im21, m1lt, m2lt, m1le, m2le, i00, i0le0, i1le0, i2le0, i3le0, eq_self, ]⟩⟩
      · rewrite [f_X1_add]
        refine ip g3 ?_
        refine bs hr ?_
        repeat (first | with_reducible refine bnE ?_ | with_reducible refine exI ?_ | with_reducible refine exJ ?_ | ((with_reducible refine iN ?_ ?_); · simp (disch := omega) only [ltL, Llt, leL, Lle, eqL, addL, Ladd, subL, subN, decN, eqM, Mle, mulL, nI_add, nI_ltI, nI_leI, nI_eq, nI_clamp, up2_at, nltT, nltF, nleT, nleF, neqT, neqF, ↓reduceIte, true_or, or_true, false_or, or_false, or_self, true_and, and_true, false_and, and_false, and_self, not_true, not_false_eq_true, i10, i01, im0, im12, im21, m1lt, m2lt, m1le, m2le, i00, i0le0, i1le0, i2le0, i3le0, eq_self, g4]) | ((with_reducible refine ip ?_ ?_); · simp (disch := omega) only [ltL, Llt, leL, Lle, eqL, addL, Ladd, subL, subN, decN, eqM, Mle, mulL, nI_add, nI_ltI, nI_leI, nI_eq, nI_clamp, up2_at, nltT, nltF, nleT, nleF, neqT, neqF, ↓reduceIte, true_or, or_true, false_or, or_false, or_self, true_and, and_true, false_and, and_false, and_self, not_true, not_false_eq_true, i10, i01, im0, im12, im21, m1lt, m2lt, m1le, m2le, i00, i0le0, i1le0, i2le0, i3le0, eq_self, g4]))
        simp (disch := omega) only [ltL, Llt, leL, Lle, eqL, addL, Ladd, subL, subN, decN, eqM, Mle, mulL, nI_add, nI_ltI, nI_leI, nI_eq, nI_clamp, up2_at, nltT, nltF, nleT, nleF, neqT, neqF, ↓reduceIte, true_or, or_true, false_or, or_false, or_self, true_and, and_true, false_and, and_false, and_self, not_true, not_false_eq_true, i10, i01, im0, im12, im21, m1lt, m2lt, m1le, m2le, i00, i0le0, i1le0, i2le0, i3le0, eq_self, g4]
      · have n1 : ¬ k = s + L := by omega
        exact ⟨by simp (disch := omega) only [ltL, Llt, leL, Lle, eqL, addL, Ladd, subL, subN, decN, eqM, Mle, mulL, nI_add, nI_ltI, nI_leI, nI_eq, nI_clamp, up2_at, nltT, nltF, nleT, nleF, neqT, neqF, ↓reduceIte, true_or, or_true, false_or, or_false, or_self, true_and, and_true, false_and, and_false, and_self, not_true, not_false_eq_true, i10, i01, im0, im12, im21, m1lt, m2lt, m1le, m2le, i00, i0le0, i1le0, i2le0, i3le0, eq_self, n1]; exact (h3 k hk).1, by simp (disch := omega) only [ltL, Llt, leL, Lle, eqL, addL, Ladd, subL, subN, decN, eqM, Mle, mulL, nI_add, nI_ltI, nI_leI, nI_eq, nI_clamp, up2_at, nltT, nltF, nleT, nleF, neqT, neqF, ↓reduceIte, true_or, or_true, false_or, or_false, or_self, true_and, and_true, false_and, and_false, and_self, not_true, not_false_eq_true, i10, i01, im0, im12, im21, m1lt, m2lt, m1le, m2le, i00, i0le0, i1le0, i2le0, i3le0, eq_self, n1]; exact (h3 k hk).2⟩
      · simp (disch := omega) only [ltL, Llt, leL, Lle, eqL, addL, Ladd, subL, subN, decN, eqM, Mle, mulL, nI_add, nI_ltI, nI_leI, nI_eq, nI_clamp, up2_at, nltT, nltF, nleT, nleF, neqT, neqF, ↓reduceIte, true_or, or_true, false_or, or_false, or_self, true_and, and_true, false_and, and_false, and_self, not_true, not_false_eq_true, i10, i01, im0, im12, im21, m1lt, m2lt, m1le, m2le, i00, i0le0, i1le0, i2le0, i3le0, eq_self, ]; exact g3
      · simp (disch := omega) only [ltL, Llt, leL, Lle, eqL, addL, Ladd, subL, subN, decN, eqM, Mle, mulL, nI_add, nI_ltI, nI_leI, nI_eq, nI_clamp, up2_at, nltT, nltF, nleT, nleF, neqT, neqF, ↓reduceIte, true_or, or_true, false_or, or_false, or_self, true_and, and_true, false_and, and_false, and_self, not_true, not_false_eq_true, i10, i01, im0, im12, im21, m1lt, m2lt, m1le, m2le, i00, i0le0, i1le0, i2le0, i3le0, eq_self, Nat.add_assoc]
      · have n1 : ¬ s + j = s + L := by omega
        exact ⟨by simp (disch := omega) only [ltL, Llt, leL, Lle, eqL, addL, Ladd, subL, subN, decN, eqM, Mle, mulL, nI_add, nI_ltI, nI_leI, nI_eq, nI_clamp, up2_at, nltT, nltF, nleT, nleF, neqT, neqF, ↓reduceIte, true_or, or_true, false_or, or_false, or_self, true_and, and_true, false_and, and_false, and_self, not_true, not_false_eq_true, i10, i01, im0, im12, im21, m1lt, m2lt, m1le, m2le, i00, i0le0, i1le0, i2le0, i3le0, eq_self, n1], by simp (disch := omega) only [ltL, Llt, leL, Lle, eqL, addL, Ladd, subL, subN, decN, eqM, Mle, mulL, nI_add, nI_ltI, nI_leI, nI_eq, nI_clamp, up2_at, nltT, nltF, nleT, nleF, neqT, neqF, ↓reduceIte, true_or, or_true, false_or, or_false, or_self, true_and, and_true, false_and, and_false, and_self, not_true, not_false_eq_true, i10, i01, im0, im12, im21, m1lt, m2lt, m1le, m2le, i00, i0le0, i1le0, i2le0, i3le0, eq_self, n1]⟩
    · rw [if_neg q] at hr
      refine fail ?_ q
      rewrite [f_X1_add]
      refine ip g3 ?_
      refine bs hr ?_
      refine ip rfl ?_
      rewrite [f_X1_add_15]
      rfl
  · refine fail ?_ (by omega)
    rewrite [f_X1_add]
    refine iN (by rw [g2]; decide) ?_
    rewrite [f_X1_add_15]
    rfl
