/-! PURE: the law, whole -/
theorem stop_iff {L w : Nat} (hL : L ≤ 2048) (hw : w ≤ 600) : (Int32.ofNat L - 4) < nI (4 * w) ↔ L < 4 * w + 4 := by
  have h1 := pk_sub_toInt (a := L) (b := 4) (by omega) (by omega)
  have h1' : (Int32.ofNat L - 4).toInt = (L : Int) - 4 := h1
  rw [Int32.lt_iff_toInt_lt, h1', nI_toInt (by omega)]
  omega
theorem law_loop {N L : Nat} {xs : Nat → Int32} (hN : 34100 < N) (hL : L ≤ 2048) : ∀ d w fuel (u : S5) (o : Nat → Int64) (σ : St), w + d = 512 → d < fuel → Inv w u.1 u.2.1 u.2.2.1 u.2.2.2.2 σ → f_law N xs L fuel (nI (4 * w)) u o σ = some 1 := by
  intro d
  induction d with
  | zero =>
    intro w fuel u o σ hw hf hI
    obtain ⟨fuel, rfl⟩ : ∃ z, fuel = z + 1 := ⟨fuel - 1, by omega⟩
    rewrite [f_law]
    exact ip ((stop_iff hL (by omega)).mpr (by omega)) rfl
  | succ d ih =>
    intro w fuel u o σ hw hf hI
    obtain ⟨fuel, rfl⟩ : ∃ z, fuel = z + 1 := ⟨fuel - 1, by omega⟩
    rewrite [f_law]
    by_cases hs : L < 4 * w + 4
    · exact ip ((stop_iff hL (by omega)).mpr hs) rfl
    · refine iN (fun z => hs ((stop_iff hL (by omega)).mp z)) ?_
      refine iN (nI_in (by omega) (by omega)) (bnE ?_)
      obtain ⟨x, y, t, k, b⟩ := u
      have hI : Inv w x y t b σ := hI
      have hi : 4 * w + 4 ≤ L := by omega
      have e4 : 4 * w + 4 = 4 * (w + 1) := by omega
      have hK : ∀ (u : S5) (o' : Nat → Int64) (σ' : St), Inv (w + 1) u.1 u.2.1 u.2.2.1 u.2.2.2.2 σ' → f_law N xs L fuel (nI (4 * w + 4)) u o' σ' = some 1 := fun u o' σ' h => by
        rw [e4]; exact ih (w + 1) fuel u o' σ' (by omega) (by omega) h
      generalize xs (nI (4 * w)).toNatClampNeg &&& 31 = v
      by_cases c0 : v = 0
      · exact ip c0 (law_0 hN hL hi hI hK)
      refine iN c0 ?_
      by_cases c1 : v = 1
      · exact ip c1 (law_1 hN hL hi hI hK)
      refine iN c1 ?_
      by_cases c2 : v = 2
      · exact ip c2 (law_2 hN hL hi hI hK)
      refine iN c2 ?_
      by_cases c3 : v = 3
      · exact ip c3 (law_3 hN hL hi hI hK)
      refine iN c3 ?_
      by_cases c4 : v = 4
      · exact ip c4 (law_4 hN hL hi hI hK)
      refine iN c4 ?_
      by_cases c5 : v = 5
      · exact ip c5 (law_5 hN hL hi hI hK)
      refine iN c5 ?_
      by_cases c6 : v = 6
      · exact ip c6 (law_6 hN hL hi hI hK)
      refine iN c6 ?_
      by_cases c7 : v = 7
      · exact ip c7 (law_7 hN hL hi hI hK)
      refine iN c7 ?_
      by_cases c8 : v = 8
      · exact ip c8 (law_8 hN hL hi hI hK)
      refine iN c8 ?_
      by_cases c9 : v = 9
      · exact ip c9 (law_9 hN hL hi hI hK)
      refine iN c9 ?_
      by_cases c10 : v = 10
      · exact ip c10 (law_10 hN hL hi hI hK)
      refine iN c10 ?_
      by_cases c11 : v = 11
      · exact ip c11 (law_11 hN hL hi hI hK)
      refine iN c11 ?_
      by_cases c12 : v = 12
      · exact ip c12 (law_12 hN hL hi hI hK)
      refine iN c12 ?_
      by_cases c13 : v = 13
      · exact ip c13 (law_13 hN hL hi hI hK)
      refine iN c13 ?_
      by_cases c14 : v = 14
      · exact ip c14 (law_14 hN hL hi hI hK)
      refine iN c14 ?_
      by_cases c15 : v = 15
      · exact ip c15 (law_15 hN hL hi hI hK)
      refine iN c15 ?_
      by_cases c16 : v = 16
      · exact ip c16 (law_16 hN hL hi hI hK)
      refine iN c16 ?_
      by_cases c17 : v = 17
      · exact ip c17 (law_17 hN hL hi hI hK)
      refine iN c17 ?_
      by_cases c18 : v = 18
      · exact ip c18 (law_18 hN hL hi hI hK)
      refine iN c18 ?_
      by_cases c19 : v = 19
      · exact ip c19 (law_19 hN hL hi hI hK)
      refine iN c19 ?_
      by_cases c20 : v = 20
      · exact ip c20 (law_20 hN hL hi hI hK)
      refine iN c20 ?_
      rewrite [show nI (4 * w) + 4 = nI (4 * w + 4) from nI_add (4 * w) 4]
      exact hK (x, y, t, k, b) o σ (hI.mono (Nat.le_succ w))
theorem fill_loop {N len : Nat} (hlen : len < 2 ^ 31) : ∀ d z fuel (g : Nat → Int32), z + d = len → d < fuel → ∃ g', f_J7_fill_53178_5 N len fuel g (-1) (nI z) (nI len) = some g' ∧ (∀ j, j < z → g' j = g j) ∧ ∀ j, z ≤ j → j < len → g' j = -1 := by
  intro d
  induction d with
  | zero =>
    intro z fuel g hz hf
    obtain ⟨fuel, rfl⟩ : ∃ z, fuel = z + 1 := ⟨fuel - 1, by omega⟩
    refine ⟨g, ?_, fun _ _ => rfl, fun j h1 h2 => absurd h1 (by omega)⟩
    rewrite [f_J7_fill_53178_5]
    repeat (first | with_reducible refine bnE ?_ | with_reducible refine exI ?_ | with_reducible refine exJ ?_ | ((with_reducible refine iN ?_ ?_); · simp (disch := omega) only [ltL, Llt, leL, Lle, eqL, addL, Ladd, subL, subN, decN, eqM, Mle, mulL, nI_add, nI_ltI, nI_leI, nI_eq, nI_clamp, up2_at, nltT, nltF, nleT, nleF, neqT, neqF, ↓reduceIte, true_or, or_true, false_or, or_false, or_self, true_and, and_true, false_and, and_false, and_self, not_true, not_false_eq_true, i10, i01, im0, im12, im21, m1lt, m2lt, m1le, m2le, i00, i0le0, i1le0, i2le0, i3le0, eq_self]) | ((with_reducible refine ip ?_ ?_); · simp (disch := omega) only [ltL, Llt, leL, Lle, eqL, addL, Ladd, subL, subN, decN, eqM, Mle, mulL, nI_add, nI_ltI, nI_leI, nI_eq, nI_clamp, up2_at, nltT, nltF, nleT, nleF, neqT, neqF, ↓reduceIte, true_or, or_true, false_or, or_false, or_self, true_and, and_true, false_and, and_false, and_self, not_true, not_false_eq_true, i10, i01, im0, im12, im21, m1lt, m2lt, m1le, m2le, i00, i0le0, i1le0, i2le0, i3le0, eq_self]))
    rfl
  | succ d ih =>
    intro z fuel g hz hf
    obtain ⟨fuel, rfl⟩ : ∃ z, fuel = z + 1 := ⟨fuel - 1, by omega⟩
    obtain ⟨g', h1, h2, h3⟩ := ih (z + 1) fuel (upd g z (-1)) (by omega) (by omega)
    refine ⟨g', ?_, fun j hj => ?_, fun j q1 q2 => ?_⟩
    · rewrite [f_J7_fill_53178_5]
      refine iN (by rw [nI_leI (by omega) (by omega)]; omega) (iN (nI_in (by omega) (by omega)) (bnE ?_))
      rewrite [nI_clamp (by omega : z < 2 ^ 31), nI_add1]
      exact h1
    · rw [h2 j (by omega), upd, if_neg (by omega)]
    · by_cases e : j = z
      · subst e; rw [h2 j (by omega), upd, if_pos rfl]
      · exact h3 j (by omega) q2
theorem fill_ok {N len : Nat} (hlen : len < 2 ^ 31) (hN : len < N) : ∃ g, f_J7_fill_53178 N len (fun _ => 0) (-1) = some g ∧ ∀ j, j < len → g j = -1 := by
  obtain ⟨g, h1, -, h3⟩ := fill_loop (N := N) hlen len 0 N (fun _ => 0) (by omega) hN
  exact ⟨g, h1, fun j hj => h3 j (by omega) hj⟩
theorem init_loop {N : Nat} : ∀ d z fuel (σ : St), z + d = 4096 → d < fuel → ∃ σ', f_X5_init_209 N fuel σ (nI z) = some σ' ∧ (∀ r, r ≠ 12 → r ≠ 2 → σ' r = σ r) ∧ σ' 2 2 = 2 ∧ (∀ c, c ≠ 2 → σ' 2 c = σ 2 c) ∧ (∀ j, j < z → σ' 12 j = σ 12 j) ∧ ∀ j, z ≤ j → j < 4096 → σ' 12 j = -1 := by
  intro d
  induction d with
  | zero =>
    intro z fuel σ hz hf
    obtain ⟨fuel, rfl⟩ : ∃ z, fuel = z + 1 := ⟨fuel - 1, by omega⟩
    refine ⟨up2 σ 2 2 2, ?_, fun r h12 h2 => up2_row h2, by simp (disch := omega) only [ltL, Llt, leL, Lle, eqL, addL, Ladd, subL, subN, decN, eqM, Mle, mulL, nI_add, nI_ltI, nI_leI, nI_eq, nI_clamp, up2_at, nltT, nltF, nleT, nleF, neqT, neqF, ↓reduceIte, true_or, or_true, false_or, or_false, or_self, true_and, and_true, false_and, and_false, and_self, not_true, not_false_eq_true, i10, i01, im0, im12, im21, m1lt, m2lt, m1le, m2le, i00, i0le0, i1le0, i2le0, i3le0, eq_self, ], fun c hc => by simp (disch := omega) only [ltL, Llt, leL, Lle, eqL, addL, Ladd, subL, subN, decN, eqM, Mle, mulL, nI_add, nI_ltI, nI_leI, nI_eq, nI_clamp, up2_at, nltT, nltF, nleT, nleF, neqT, neqF, ↓reduceIte, true_or, or_true, false_or, or_false, or_self, true_and, and_true, false_and, and_false, and_self, not_true, not_false_eq_true, i10, i01, im0, im12, im21, m1lt, m2lt, m1le, m2le, i00, i0le0, i1le0, i2le0, i3le0, eq_self, hc], fun j _ => by rw [up2_row (by decide)], fun j h1 h2 => absurd h1 (by omega)⟩
    rewrite [f_X5_init_209]
    repeat (first | with_reducible refine bnE ?_ | with_reducible refine exI ?_ | with_reducible refine exJ ?_ | ((with_reducible refine iN ?_ ?_); · simp (disch := omega) only [ltL, Llt, leL, Lle, eqL, addL, Ladd, subL, subN, decN, eqM, Mle, mulL, nI_add, nI_ltI, nI_leI, nI_eq, nI_clamp, up2_at, nltT, nltF, nleT, nleF, neqT, neqF, ↓reduceIte, true_or, or_true, false_or, or_false, or_self, true_and, and_true, false_and, and_false, and_self, not_true, not_false_eq_true, i10, i01, im0, im12, im21, m1lt, m2lt, m1le, m2le, i00, i0le0, i1le0, i2le0, i3le0, eq_self]) | ((with_reducible refine ip ?_ ?_); · simp (disch := omega) only [ltL, Llt, leL, Lle, eqL, addL, Ladd, subL, subN, decN, eqM, Mle, mulL, nI_add, nI_ltI, nI_leI, nI_eq, nI_clamp, up2_at, nltT, nltF, nleT, nleF, neqT, neqF, ↓reduceIte, true_or, or_true, false_or, or_false, or_self, true_and, and_true, false_and, and_false, and_self, not_true, not_false_eq_true, i10, i01, im0, im12, im21, m1lt, m2lt, m1le, m2le, i00, i0le0, i1le0, i2le0, i3le0, eq_self]))
    exact iN (by decide) rfl
  | succ d ih =>
    intro z fuel σ hz hf
    obtain ⟨fuel, rfl⟩ : ∃ z, fuel = z + 1 := ⟨fuel - 1, by omega⟩
    obtain ⟨σ', h1, h2, h3, h4, h5, h6⟩ := ih (z + 1) fuel (up2 σ 12 z (-1)) (by omega) (by omega)
    refine ⟨σ', ?_, fun r h12 h2' => by rw [h2 r h12 h2', up2_row h12], h3, fun c hc => by rw [h4 c hc, up2_row (by decide)], fun j hj => ?_, fun j q1 q2 => ?_⟩
    · rewrite [f_X5_init_209]
      repeat (first | with_reducible refine bnE ?_ | with_reducible refine exI ?_ | with_reducible refine exJ ?_ | ((with_reducible refine iN ?_ ?_); · simp (disch := omega) only [ltL, Llt, leL, Lle, eqL, addL, Ladd, subL, subN, decN, eqM, Mle, mulL, nI_add, nI_ltI, nI_leI, nI_eq, nI_clamp, up2_at, nltT, nltF, nleT, nleF, neqT, neqF, ↓reduceIte, true_or, or_true, false_or, or_false, or_self, true_and, and_true, false_and, and_false, and_self, not_true, not_false_eq_true, i10, i01, im0, im12, im21, m1lt, m2lt, m1le, m2le, i00, i0le0, i1le0, i2le0, i3le0, eq_self]) | ((with_reducible refine ip ?_ ?_); · simp (disch := omega) only [ltL, Llt, leL, Lle, eqL, addL, Ladd, subL, subN, decN, eqM, Mle, mulL, nI_add, nI_ltI, nI_leI, nI_eq, nI_clamp, up2_at, nltT, nltF, nleT, nleF, neqT, neqF, ↓reduceIte, true_or, or_true, false_or, or_false, or_self, true_and, and_true, false_and, and_false, and_self, not_true, not_false_eq_true, i10, i01, im0, im12, im21, m1lt, m2lt, m1le, m2le, i00, i0le0, i1le0, i2le0, i3le0, eq_self]))
      simp (disch := omega) only [ltL, Llt, leL, Lle, eqL, addL, Ladd, subL, subN, decN, eqM, Mle, mulL, nI_add, nI_ltI, nI_leI, nI_eq, nI_clamp, up2_at, nltT, nltF, nleT, nleF, neqT, neqF, ↓reduceIte, true_or, or_true, false_or, or_false, or_self, true_and, and_true, false_and, and_false, and_self, not_true, not_false_eq_true, i10, i01, im0, im12, im21, m1lt, m2lt, m1le, m2le, i00, i0le0, i1le0, i2le0, i3le0, eq_self, ]
      exact h1
    · rw [h5 j (by omega)]
      simp (disch := omega) only [ltL, Llt, leL, Lle, eqL, addL, Ladd, subL, subN, decN, eqM, Mle, mulL, nI_add, nI_ltI, nI_leI, nI_eq, nI_clamp, up2_at, nltT, nltF, nleT, nleF, neqT, neqF, ↓reduceIte, true_or, or_true, false_or, or_false, or_self, true_and, and_true, false_and, and_false, and_self, not_true, not_false_eq_true, i10, i01, im0, im12, im21, m1lt, m2lt, m1le, m2le, i00, i0le0, i1le0, i2le0, i3le0, eq_self, (by omega : ¬ j = z)]
    · by_cases e : j = z
      · subst e; rw [h5 j (by omega)]; simp (disch := omega) only [ltL, Llt, leL, Lle, eqL, addL, Ladd, subL, subN, decN, eqM, Mle, mulL, nI_add, nI_ltI, nI_leI, nI_eq, nI_clamp, up2_at, nltT, nltF, nleT, nleF, neqT, neqF, ↓reduceIte, true_or, or_true, false_or, or_false, or_self, true_and, and_true, false_and, and_false, and_self, not_true, not_false_eq_true, i10, i01, im0, im12, im21, m1lt, m2lt, m1le, m2le, i00, i0le0, i1le0, i2le0, i3le0, eq_self, ]
      · exact h6 j (by omega) q2
theorem start_inv {g g0 : Nat → Int32} {σ : St} (hg : ∀ j, j < 4096 → g j = -1) (hg0 : ∀ j, j < 1000 → g0 j = -1) (h1 : ∀ r, r ≠ 12 → r ≠ 2 → σ r = x5i r) (h2 : σ 2 2 = 2) (h3 : ∀ c, c ≠ 2 → σ 2 c = x5i 2 c) (h4 : ∀ j, j < 4096 → σ 12 j = -1) : Inv 0 x4i (upR z0 6 g) z0 (upR z0 5 g0) σ := by
  have TC0 : TC 0 (upR z0 6 g) := ⟨by omega, rfl, ⟨fun c hc => hg c hc, fun k hk => absurd hk (by omega)⟩, fun k hk => absurd hk (by omega), fun i j hi => absurd hi (by omega), fun k hk => absurd hk (by omega)⟩
  have TM0 : TM 0 σ := ⟨by omega, by rw [h1 5 (by decide) (by decide)]; rfl, ⟨fun c hc => h4 c hc, fun k hk => absurd hk (by omega)⟩, fun k hk => absurd hk (by omega), fun i j hi => absurd hi (by omega), fun k hk => absurd hk (by omega)⟩
  refine ⟨0, 3, 0, 0, 0, 0, fun _ => 0, 0, by omega, ⟨TC0, TM0, fun k hk => absurd hk (by omega), fun k hk => absurd hk (by omega), fun k hk => absurd hk (by omega)⟩, ⟨by omega, by omega, rfl, by rw [h1 1 (by decide) (by decide)]; rfl, rfl, fun c hc => ?_⟩, ⟨by omega, rfl, by rw [h1 3 (by decide) (by decide)]; rfl, fun i hi => absurd hi (by omega)⟩, ⟨by omega, by omega, rfl, by rw [h1 13 (by decide) (by decide)]; rfl, rfl, by rw [h1 14 (by decide) (by decide)]; rfl, fun i hi => absurd hi (by omega)⟩, ⟨by omega, rfl, by rw [h1 18 (by decide) (by decide)]; rfl, rfl, by show 0 ≤ 30000; omega, fun i hi => ?_, fun i hi => absurd hi (by omega), fun k hk => absurd hk (by show ¬ k < 0; omega)⟩, ⟨by omega, rfl, Or.inr ⟨rfl, by rw [h1 26 (by decide) (by decide)]; rfl⟩, fun i hi => absurd hi (by omega), fun i hi => absurd hi (by omega), fun c hc _ => hg0 c hc⟩, ⟨0, by omega, rfl, fun k hk => ⟨0, by omega, rfl⟩⟩⟩
  · by_cases e : c = 2
    · subst e
      exact ⟨h2, Or.inr (Or.inr rfl)⟩
    · rw [h3 c e]
      rcases (by omega : c = 0 ∨ c = 1) with rfl | rfl
      · exact ⟨rfl, Or.inl rfl⟩
      · exact ⟨rfl, Or.inl rfl⟩
  · obtain rfl : i = 0 := by omega
    exact ⟨rfl, by rw [h1 19 (by decide) (by decide)]; rfl⟩
theorem goal9p : Goal9 := by
  obtain ⟨g, hg1, hg2⟩ := fill_ok (N := 100000) (len := 4096) (by omega) (by omega)
  obtain ⟨g0, hg3, hg4⟩ := fill_ok (N := 100000) (len := 1000) (by omega) (by omega)
  obtain ⟨u1, h1, h2, h3, h4, -, h6⟩ := init_loop (N := 100000) 4096 0 100000 x5i (by omega) (by omega)
  refine ⟨100000, g, g0, u1, hg1, hg3, h1, fun L xs hL => ?_⟩
  exact law_loop (N := 100000) (by omega) hL 512 0 600 (x4i, upR z0 6 g, z0, z0, upR z0 5 g0) (fun _ => 0) u1 (by omega) (by omega) (start_inv hg2 hg4 h2 h3 h4 (fun j hj => h6 j (by omega) hj))
