/-! PURE: frames; the calls that make no term: constructor -/
theorem up2_row {σ : St} {k j r : Nat} {v : Int32} (h : r ≠ k) : up2 σ k j v r = σ r := by unfold up2; rw [if_neg h]
theorem upR_row {σ : St} {k r : Nat} {g : Nat → Int32} (h : r ≠ k) : upR σ k g r = σ r := by unfold upR; rw [if_neg h]
theorem AT.mono {g g' : Nat → Int32} {q q' : Nat} {τ : Ty} (h : AT g q τ) (hq : q ≤ q') (hg : ∀ c, c < q → g' c = g c) : AT g' q' τ := by
  obtain ⟨e, A, B, e1, h⟩ := h
  refine ⟨e, A, B, e1, ?_⟩
  rcases h with h | ⟨c, hc, e2, h⟩
  · exact Or.inl h
  · exact Or.inr ⟨c, by omega, e2, by rw [hg c hc]; exact h⟩
theorem TM.congr {n : Nat} {σ σ' : St} (T : TM n σ) (h : σ' 5 = σ 5 ∧ σ' 6 = σ 6 ∧ σ' 7 = σ 7 ∧ σ' 8 = σ 8 ∧ σ' 9 = σ 9 ∧ σ' 10 = σ 10 ∧ σ' 11 = σ 11 ∧ σ' 12 = σ 12) : TM n σ' ∧ tM σ' = tM σ := by
  obtain ⟨a5, a6, a7, a8, a9, a10, a11, a12⟩ := h
  have ht : tM σ' = tM σ := by show tT _ _ _ = tT _ _ _; rw [a6, a7, a8]
  have hz : hZ σ' = hZ σ := by funext k; show hM _ _ _ = hM _ _ _; rw [a6, a7, a8]
  obtain ⟨h1, h2, h3, h4, h5, h6⟩ := T
  refine ⟨⟨h1, by rw [a5]; exact h2, ⟨by rw [a12, hz]; exact h3.1, by rw [a11, hz]; exact h3.2⟩, by rw [a7, a8]; exact h4, by rw [a6, a7, a8]; exact h5, ?_⟩, ht⟩
  rw [ht, a9, a10]; exact h6
theorem TC.congr {n : Nat} {y y' : St} (T : TC n y) (h : y' 0 = y 0 ∧ y' 1 = y 1 ∧ y' 2 = y 2 ∧ y' 3 = y 3 ∧ y' 4 = y 4 ∧ y' 5 = y 5 ∧ y' 6 = y 6 ∧ y' 10 = y 10) : TC n y' ∧ tC y' = tC y := by
  obtain ⟨a0, a1, a2, a3, a4, a5, a6, a10⟩ := h
  have ht : tC y' = tC y := by show tT _ _ _ = tT _ _ _; rw [a0, a1, a2]
  have hz : hY y' = hY y := by funext k; show hX _ _ _ = hX _ _ _; rw [a0, a1, a2]
  obtain ⟨h1, h2, h3, h4, h5, h6⟩ := T
  refine ⟨⟨h1, by rw [a10]; exact h2, ⟨by rw [a6, hz]; exact h3.1, by rw [a5, hz]; exact h3.2⟩, by rw [a1, a2]; exact h4, by rw [a0, a1, a2]; exact h5, ?_⟩, ht⟩
  rw [ht, a3, a4]; exact h6
theorem I3.tr {p n n' : Nat} {x y σ x' y' σ' : St} (h : I3 p n x y σ) (m : Mo n y σ n' y' σ') (e : x' 6 = x 6 ∧ x' 4 = x 4 ∧ σ' 3 = σ 3 ∧ σ' 4 = σ 4) : I3 p n' x' y' σ' := by
  obtain ⟨h1, h2, h3, h4⟩ := h
  obtain ⟨e1, e2, e3, e4⟩ := e
  exact ⟨h1, by rw [e1]; exact h2, by rw [e3]; exact h3, fun i hi => by rw [e2, e4]; exact (h4 i hi).mono m⟩
theorem I4.tr {w w' hc tot n n' : Nat} {y σ y' σ' : St} (h : I4 w hc tot n y σ) (hw : w ≤ w') (m : Mo n y σ n' y' σ') (e : y' 9 = y 9 ∧ y' 12 = y 12 ∧ y' 13 = y 13 ∧ σ' 13 = σ 13 ∧ σ' 14 = σ 14 ∧ σ' 15 = σ 15) : I4 w' hc tot n' y' σ' := by
  obtain ⟨h1, h2, h3, h4, h5, h6, h7⟩ := h
  obtain ⟨e1, e2, e3, e4, e5, e6⟩ := e
  exact ⟨by omega, h2, by rw [e2]; exact h3, by rw [e4]; exact h4, by rw [e3]; exact h5, by rw [e5]; exact h6, fun i hi => by rw [e1, e6]; exact (h7 i hi).mono m⟩
theorem I5.tr {w w' m n n' : Nat} {s : Nat → Nat} {y t σ y' t' σ' : St} (h : I5 w m s n y t σ) (hw : w ≤ w') (mo : Mo n y σ n' y' σ') (e : t' 5 0 = t 5 0 ∧ σ' 18 0 = σ 18 0 ∧ (∀ i, i ≤ m → t' 2 i = t 2 i ∧ σ' 19 i = σ 19 i) ∧ (∀ i, i < m → t' 3 i = t 3 i) ∧ ∀ k, k < s m → t' 0 k = t 0 k ∧ t' 1 k = t 1 k ∧ σ' 20 k = σ 20 k ∧ σ' 21 k = σ 21 k) : I5 w' m s n' y' t' σ' := by
  have sm := h.smono
  obtain ⟨h1, h2, h3, h4, h5, h6, h7, h8⟩ := h
  obtain ⟨e1, e2, e3, e4, e5⟩ := e
  refine ⟨by omega, by rw [e1]; exact h2, by rw [e2]; exact h3, h4, h5, fun i hi => ?_, fun i hi => ?_, fun k hk => ?_⟩
  · rw [(e3 i hi).1, (e3 i hi).2]; exact h6 i hi
  · obtain ⟨a, b, h, c1, c2, c3⟩ := h7 i hi
    have := sm (i + 1) m (by omega) (by omega)
    exact ⟨a, b, h, c1, by rw [e4 i hi]; exact c2, c3.congr (fun k q1 q2 => (e5 k (by omega)).1)⟩
  · obtain ⟨a, b, c⟩ := h8 k hk
    obtain ⟨d1, d2, d3, d4⟩ := e5 k hk
    refine ⟨by rw [d1, d3]; exact a, by rw [d2, d4]; exact b.mono mo, ?_⟩
    rw [d1, d2, mo.2.1 _ b.1.kid]; exact c
theorem I6.tr {f S S' : Nat} {t b σ t' b' σ' : St} (h : I6 f S t b σ) (hS : S ≤ S') (ht : ∀ k, k < S → t' 0 k = t 0 k) (hb : b' = b) (e : σ' 26 = σ 26 ∧ σ' 28 = σ 28 ∧ σ' 29 = σ 29) : I6 f S' t' b' σ' := by
  obtain ⟨h1, h2, h3, h4, h5, h6⟩ := h
  obtain ⟨e1, e2, e3⟩ := e
  subst hb
  refine ⟨h1, h2, by rw [e1]; exact h3, fun i hi => ?_, h5, h6⟩
  obtain ⟨u, v, h, a1, a2, a3, a4, a5, a6, a7, a8⟩ := h4 i hi
  have := a8.lt
  exact ⟨u, v, h, a1, a2, by rw [e2]; exact a3, by rw [e3]; exact a4, by omega, a6, a7, a8.congr (fun k q1 q2 => ht k (by omega))⟩
theorem I7.tr {w w' : Nat} {y y' : St} (h : I7 w y) (hw : w ≤ w') (e : y' 11 = y 11 ∧ y' 8 = y 8) : I7 w' y' := by
  obtain ⟨u, h1, h2, h3⟩ := h
  exact ⟨u, by omega, by rw [e.1]; exact h2, by rw [e.2]; exact h3⟩
/-- nothing but the reference's scratch rows changed -/
def SameM (σ σ' : St) : Prop := σ' 1 = σ 1 ∧ σ' 2 = σ 2 ∧ σ' 3 = σ 3 ∧ σ' 4 = σ 4 ∧ σ' 13 = σ 13 ∧ σ' 14 = σ 14 ∧ σ' 15 = σ 15 ∧ σ' 18 = σ 18 ∧ σ' 19 = σ 19 ∧ σ' 20 = σ 20 ∧ σ' 21 = σ 21 ∧ σ' 26 = σ 26 ∧ σ' 28 = σ 28 ∧ σ' 29 = σ 29
theorem Inv.scratch {w w' : Nat} {x y t b σ σ' : St} (h : Inv w x y t b σ) (hw : w ≤ w') (e : SameM σ σ') (e2 : σ' 5 = σ 5 ∧ σ' 6 = σ 6 ∧ σ' 7 = σ 7 ∧ σ' 8 = σ 8 ∧ σ' 9 = σ 9 ∧ σ' 10 = σ 10 ∧ σ' 11 = σ 11 ∧ σ' 12 = σ 12) : Inv w' x y t b σ' := by
  obtain ⟨n, q, p, hc, tot, m, s, f, hn, i1, i2, i3, i4, i5, i6, i7⟩ := h
  obtain ⟨a1, a2, a3, a4, a13, a14, a15, a18, a19, a20, a21, a26, a28, a29⟩ := e
  obtain ⟨T, ht⟩ := i1.2.1.congr e2
  have mo : Mo n y σ n y σ' := ⟨Nat.le_refl _, fun _ _ => rfl, fun _ _ => by rw [ht]⟩
  refine ⟨n, q, p, hc, tot, m, s, f, hn, I1_restore i1 i1.1 T mo, ?_, i3.tr mo ⟨rfl, rfl, a3, a4⟩, i4.tr hw mo ⟨rfl, rfl, rfl, a13, a14, a15⟩, i5.tr hw mo ⟨rfl, by rw [a18], fun i _ => ⟨rfl, by rw [a19]⟩, fun _ _ => rfl, fun k _ => ⟨rfl, rfl, by rw [a20], by rw [a21]⟩⟩, i6.tr (Nat.le_refl _) (fun _ _ => rfl) rfl ⟨a26, a28, a29⟩, i7.tr hw ⟨rfl, rfl⟩⟩
  obtain ⟨b1, b2, b3, b4, b5, b6⟩ := i2
  exact ⟨b1, b2, b3, by rw [a1]; exact b4, b5, by rw [a2]; exact b6⟩
theorem Inv.code {w : Nat} {x y t b σ : St} (h : Inv w x y t b σ) (e : Int32) : Inv (w + 1) x y t b (up2 σ 0 0 e) := h.scratch (Nat.le_succ _) (by unfold SameM; simp (disch := decide) only [up2_row, upR_row, and_self, eq_self, ]) (by simp (disch := decide) only [up2_row, upR_row, and_self, eq_self, ])
theorem out_lt {N v lim : Nat} (h : v < lim) (hl : lim < 2 ^ 31) : f_X5_outside N (nI v) (nI lim) = some (0, ()) := by
  rewrite [f_X5_outside]
  repeat (first | with_reducible refine bnE ?_ | with_reducible refine exI ?_ | with_reducible refine exJ ?_ | ((with_reducible refine iN ?_ ?_); · simp (disch := omega) only [ltL, Llt, leL, Lle, eqL, addL, Ladd, subL, subN, decN, eqM, Mle, mulL, nI_add, nI_ltI, nI_leI, nI_eq, nI_clamp, up2_at, nltT, nltF, nleT, nleF, neqT, neqF, ↓reduceIte, true_or, or_true, false_or, or_false, or_self, true_and, and_true, false_and, and_false, and_self, not_true, not_false_eq_true, i10, i01, im0, im12, im21, m1lt, m2lt, m1le, m2le, i00, i0le0, i1le0, i2le0, i3le0, eq_self]) | ((with_reducible refine ip ?_ ?_); · simp (disch := omega) only [ltL, Llt, leL, Lle, eqL, addL, Ladd, subL, subN, decN, eqM, Mle, mulL, nI_add, nI_ltI, nI_leI, nI_eq, nI_clamp, up2_at, nltT, nltF, nleT, nleF, neqT, neqF, ↓reduceIte, true_or, or_true, false_or, or_false, or_self, true_and, and_true, false_and, and_false, and_self, not_true, not_false_eq_true, i10, i01, im0, im12, im21, m1lt, m2lt, m1le, m2le, i00, i0le0, i1le0, i2le0, i3le0, eq_self]))
  rfl
theorem out_ge {N v lim : Nat} (h : lim ≤ v) (hl : v < 2 ^ 31) : f_X5_outside N (nI v) (nI lim) = some (1, ()) := by
  rewrite [f_X5_outside]
  repeat (first | with_reducible refine bnE ?_ | with_reducible refine exI ?_ | with_reducible refine exJ ?_ | ((with_reducible refine iN ?_ ?_); · simp (disch := omega) only [ltL, Llt, leL, Lle, eqL, addL, Ladd, subL, subN, decN, eqM, Mle, mulL, nI_add, nI_ltI, nI_leI, nI_eq, nI_clamp, up2_at, nltT, nltF, nleT, nleF, neqT, neqF, ↓reduceIte, true_or, or_true, false_or, or_false, or_self, true_and, and_true, false_and, and_false, and_self, not_true, not_false_eq_true, i10, i01, im0, im12, im21, m1lt, m2lt, m1le, m2le, i00, i0le0, i1le0, i2le0, i3le0, eq_self]) | ((with_reducible refine ip ?_ ?_); · simp (disch := omega) only [ltL, Llt, leL, Lle, eqL, addL, Ladd, subL, subN, decN, eqM, Mle, mulL, nI_add, nI_ltI, nI_leI, nI_eq, nI_clamp, up2_at, nltT, nltF, nleT, nleF, neqT, neqF, ↓reduceIte, true_or, or_true, false_or, or_false, or_self, true_and, and_true, false_and, and_false, and_self, not_true, not_false_eq_true, i10, i01, im0, im12, im21, m1lt, m2lt, m1le, m2le, i00, i0le0, i1le0, i2le0, i3le0, eq_self]))
  rfl
theorem out_neg {N : Nat} {v l : Int32} (h : v < 0) : f_X5_outside N v l = some (1, ()) := by
  rewrite [f_X5_outside]
  exact ip h rfl
theorem constructor_sim {N w : Nat} {x y t k b σ : St} (hI : Inv w x y t b σ) (c : Int32) : Sim (fun e => if e = 0 then 1 else if e = 1 then 2 else 0) (w + 1) (f_X4_constructor N x y t k b c) (f_X5_constructor N σ c) := by
  obtain ⟨n, q, p, hc, tot, m, s, f, hn, i1, i2, i3, i4, i5, i6, i7⟩ := id hI
  obtain ⟨q3, q40, x5, s1, x32, tk⟩ := id i2
  by_cases hneg : c < 0
  · refine ⟨.inr 0, x, y, t, k, b, 0, up2 σ 0 0 1, ?_, ?_, hI.code 1, Or.inr ⟨0, rfl, rfl, by decide⟩⟩
    · rewrite [f_X4_constructor]
      exact ip hneg rfl
    · rewrite [f_X5_constructor]
      repeat (first | with_reducible refine bnE ?_ | with_reducible refine exI ?_ | with_reducible refine exJ ?_ | with_reducible refine bs (out_neg hneg) ?_ | ((with_reducible refine iN ?_ ?_); · simp (disch := omega) only [ltL, Llt, leL, Lle, eqL, addL, Ladd, subL, subN, decN, eqM, Mle, mulL, nI_add, nI_ltI, nI_leI, nI_eq, nI_clamp, up2_at, nltT, nltF, nleT, nleF, neqT, neqF, ↓reduceIte, true_or, or_true, false_or, or_false, or_self, true_and, and_true, false_and, and_false, and_self, not_true, not_false_eq_true, i10, i01, im0, im12, im21, m1lt, m2lt, m1le, m2le, i00, i0le0, i1le0, i2le0, i3le0, eq_self]) | ((with_reducible refine ip ?_ ?_); · simp (disch := omega) only [ltL, Llt, leL, Lle, eqL, addL, Ladd, subL, subN, decN, eqM, Mle, mulL, nI_add, nI_ltI, nI_leI, nI_eq, nI_clamp, up2_at, nltT, nltF, nleT, nleF, neqT, neqF, ↓reduceIte, true_or, or_true, false_or, or_false, or_self, true_and, and_true, false_and, and_false, and_self, not_true, not_false_eq_true, i10, i01, im0, im12, im21, m1lt, m2lt, m1le, m2le, i00, i0le0, i1le0, i2le0, i3le0, eq_self]))
      rfl
  obtain ⟨v, hv, rfl⟩ := nI_of hneg
  by_cases h2 : v ≤ 2
  · have o : f_X5_outside N (nI v) 3 = some (0, ()) := out_lt (lim := 3) (by omega) (by omega)
    by_cases hq : q < 40
    · refine ⟨.inl (nI q), up2 (up2 x 3 q (nI v)) 5 0 (nI (q + 1)), y, t, k, b, nI q, up2 (up2 (up2 σ 0 0 0) 2 q (nI v)) 1 0 (nI (q + 1)), ?_, ?_, ?_, Or.inl ⟨_, rfl, rfl, rfl⟩⟩
      · rewrite [f_X4_constructor]
        repeat (first | with_reducible refine bnE ?_ | with_reducible refine exI ?_ | with_reducible refine exJ ?_ | ((with_reducible refine iN ?_ ?_); · simp (disch := omega) only [ltL, Llt, leL, Lle, eqL, addL, Ladd, subL, subN, decN, eqM, Mle, mulL, nI_add, nI_ltI, nI_leI, nI_eq, nI_clamp, up2_at, nltT, nltF, nleT, nleF, neqT, neqF, ↓reduceIte, true_or, or_true, false_or, or_false, or_self, true_and, and_true, false_and, and_false, and_self, not_true, not_false_eq_true, i10, i01, im0, im12, im21, m1lt, m2lt, m1le, m2le, i00, i0le0, i1le0, i2le0, i3le0, eq_self, x5]) | ((with_reducible refine ip ?_ ?_); · simp (disch := omega) only [ltL, Llt, leL, Lle, eqL, addL, Ladd, subL, subN, decN, eqM, Mle, mulL, nI_add, nI_ltI, nI_leI, nI_eq, nI_clamp, up2_at, nltT, nltF, nleT, nleF, neqT, neqF, ↓reduceIte, true_or, or_true, false_or, or_false, or_self, true_and, and_true, false_and, and_false, and_self, not_true, not_false_eq_true, i10, i01, im0, im12, im21, m1lt, m2lt, m1le, m2le, i00, i0le0, i1le0, i2le0, i3le0, eq_self, x5]))
        simp (disch := omega) only [ltL, Llt, leL, Lle, eqL, addL, Ladd, subL, subN, decN, eqM, Mle, mulL, nI_add, nI_ltI, nI_leI, nI_eq, nI_clamp, up2_at, nltT, nltF, nleT, nleF, neqT, neqF, ↓reduceIte, true_or, or_true, false_or, or_false, or_self, true_and, and_true, false_and, and_false, and_self, not_true, not_false_eq_true, i10, i01, im0, im12, im21, m1lt, m2lt, m1le, m2le, i00, i0le0, i1le0, i2le0, i3le0, eq_self, x5, Nat.add_sub_cancel]
      · rewrite [f_X5_constructor]
        repeat (first | with_reducible refine bnE ?_ | with_reducible refine exI ?_ | with_reducible refine exJ ?_ | with_reducible refine bs (o) ?_ | ((with_reducible refine iN ?_ ?_); · simp (disch := omega) only [ltL, Llt, leL, Lle, eqL, addL, Ladd, subL, subN, decN, eqM, Mle, mulL, nI_add, nI_ltI, nI_leI, nI_eq, nI_clamp, up2_at, nltT, nltF, nleT, nleF, neqT, neqF, ↓reduceIte, true_or, or_true, false_or, or_false, or_self, true_and, and_true, false_and, and_false, and_self, not_true, not_false_eq_true, i10, i01, im0, im12, im21, m1lt, m2lt, m1le, m2le, i00, i0le0, i1le0, i2le0, i3le0, eq_self, s1]) | ((with_reducible refine ip ?_ ?_); · simp (disch := omega) only [ltL, Llt, leL, Lle, eqL, addL, Ladd, subL, subN, decN, eqM, Mle, mulL, nI_add, nI_ltI, nI_leI, nI_eq, nI_clamp, up2_at, nltT, nltF, nleT, nleF, neqT, neqF, ↓reduceIte, true_or, or_true, false_or, or_false, or_self, true_and, and_true, false_and, and_false, and_self, not_true, not_false_eq_true, i10, i01, im0, im12, im21, m1lt, m2lt, m1le, m2le, i00, i0le0, i1le0, i2le0, i3le0, eq_self, s1]))
        rewrite [f_X5_constructor_27]
        repeat (first | with_reducible refine bnE ?_ | with_reducible refine exI ?_ | with_reducible refine exJ ?_ | ((with_reducible refine iN ?_ ?_); · simp (disch := omega) only [ltL, Llt, leL, Lle, eqL, addL, Ladd, subL, subN, decN, eqM, Mle, mulL, nI_add, nI_ltI, nI_leI, nI_eq, nI_clamp, up2_at, nltT, nltF, nleT, nleF, neqT, neqF, ↓reduceIte, true_or, or_true, false_or, or_false, or_self, true_and, and_true, false_and, and_false, and_self, not_true, not_false_eq_true, i10, i01, im0, im12, im21, m1lt, m2lt, m1le, m2le, i00, i0le0, i1le0, i2le0, i3le0, eq_self, s1]) | ((with_reducible refine ip ?_ ?_); · simp (disch := omega) only [ltL, Llt, leL, Lle, eqL, addL, Ladd, subL, subN, decN, eqM, Mle, mulL, nI_add, nI_ltI, nI_leI, nI_eq, nI_clamp, up2_at, nltT, nltF, nleT, nleF, neqT, neqF, ↓reduceIte, true_or, or_true, false_or, or_false, or_self, true_and, and_true, false_and, and_false, and_self, not_true, not_false_eq_true, i10, i01, im0, im12, im21, m1lt, m2lt, m1le, m2le, i00, i0le0, i1le0, i2le0, i3le0, eq_self, s1]))
        simp (disch := omega) only [ltL, Llt, leL, Lle, eqL, addL, Ladd, subL, subN, decN, eqM, Mle, mulL, nI_add, nI_ltI, nI_leI, nI_eq, nI_clamp, up2_at, nltT, nltF, nleT, nleF, neqT, neqF, ↓reduceIte, true_or, or_true, false_or, or_false, or_self, true_and, and_true, false_and, and_false, and_self, not_true, not_false_eq_true, i10, i01, im0, im12, im21, m1lt, m2lt, m1le, m2le, i00, i0le0, i1le0, i2le0, i3le0, eq_self, s1, Nat.add_sub_cancel]
      · have hx3 : ∀ c, up2 (up2 x 3 q (nI v)) 5 0 (nI (q + 1)) 3 c = if c = q then nI v else x 3 c := fun c => by
          rw [up2_at, if_neg (by omega), up2_at]; simp
        have hs2 : ∀ c, up2 (up2 (up2 σ 0 0 0) 2 q (nI v)) 1 0 (nI (q + 1)) 2 c = if c = q then nI v else σ 2 c := fun c => by
          rw [up2_at, if_neg (by omega), up2_at]; simp [up2_at]
        obtain ⟨T, ht⟩ := i1.2.1.congr (σ' := up2 (up2 (up2 σ 0 0 0) 2 q (nI v)) 1 0 (nI (q + 1))) (by simp (disch := decide) only [up2_row, upR_row, and_self, eq_self, ])
        have mo : Mo n y σ n y (up2 (up2 (up2 σ 0 0 0) 2 q (nI v)) 1 0 (nI (q + 1))) := ⟨Nat.le_refl _, fun _ _ => rfl, fun _ _ => by rw [ht]⟩
        obtain ⟨j1, j2, j3, j4, j5⟩ := I1_restore i1 i1.1 T mo
        refine ⟨n, q + 1, p, hc, tot, m, s, f, hn, ⟨j1, j2, j3, j4, fun k hk => (j5 k hk).mono (Nat.le_succ q) (fun c hc => by rw [hx3, if_neg (by omega)])⟩, ⟨by omega, by omega, ?_, ?_, ?_, ?_⟩, i3.tr mo (by simp (disch := decide) only [up2_row, upR_row, and_self, eq_self, ]), i4.tr (Nat.le_succ w) mo (by simp (disch := decide) only [up2_row, upR_row, and_self, eq_self, ]), i5.tr (Nat.le_succ w) mo ⟨rfl, by simp (disch := decide) only [up2_row, upR_row, and_self, eq_self, ], fun i _ => by simp (disch := decide) only [up2_row, upR_row, and_self, eq_self, ], fun _ _ => rfl, fun k _ => by simp (disch := decide) only [up2_row, upR_row, and_self, eq_self, ]⟩, i6.tr (Nat.le_refl _) (fun _ _ => rfl) rfl (by simp (disch := decide) only [up2_row, upR_row, and_self, eq_self, ]), i7.tr (Nat.le_succ w) ⟨rfl, rfl⟩⟩
        · simp (disch := omega) only [ltL, Llt, leL, Lle, eqL, addL, Ladd, subL, subN, decN, eqM, Mle, mulL, nI_add, nI_ltI, nI_leI, nI_eq, nI_clamp, up2_at, nltT, nltF, nleT, nleF, neqT, neqF, ↓reduceIte, true_or, or_true, false_or, or_false, or_self, true_and, and_true, false_and, and_false, and_self, not_true, not_false_eq_true, i10, i01, im0, im12, im21, m1lt, m2lt, m1le, m2le, i00, i0le0, i1le0, i2le0, i3le0, eq_self, ]
        · simp (disch := omega) only [ltL, Llt, leL, Lle, eqL, addL, Ladd, subL, subN, decN, eqM, Mle, mulL, nI_add, nI_ltI, nI_leI, nI_eq, nI_clamp, up2_at, nltT, nltF, nleT, nleF, neqT, neqF, ↓reduceIte, true_or, or_true, false_or, or_false, or_self, true_and, and_true, false_and, and_false, and_self, not_true, not_false_eq_true, i10, i01, im0, im12, im21, m1lt, m2lt, m1le, m2le, i00, i0le0, i1le0, i2le0, i3le0, eq_self, ]
        · rw [hx3, if_neg (by omega)]; exact x32
        · intro c hc
          rw [hx3, hs2]
          by_cases e : c = q
          · rw [if_pos e, if_pos e]
            refine ⟨rfl, ?_⟩
            rcases (by omega : v = 0 ∨ v = 1 ∨ v = 2) with rfl | rfl | rfl
            · exact Or.inl rfl
            · exact Or.inr (Or.inl rfl)
            · exact Or.inr (Or.inr rfl)
          · rw [if_neg e, if_neg e]; exact tk c (by omega)
    · have eq : q = 40 := by omega
      refine ⟨.inr 1, x, y, t, k, b, 0, up2 σ 0 0 2, ?_, ?_, hI.code 2, Or.inr ⟨1, rfl, rfl, by decide⟩⟩
      · rewrite [f_X4_constructor]
        repeat (first | with_reducible refine bnE ?_ | with_reducible refine exI ?_ | with_reducible refine exJ ?_ | ((with_reducible refine iN ?_ ?_); · simp (disch := omega) only [ltL, Llt, leL, Lle, eqL, addL, Ladd, subL, subN, decN, eqM, Mle, mulL, nI_add, nI_ltI, nI_leI, nI_eq, nI_clamp, up2_at, nltT, nltF, nleT, nleF, neqT, neqF, ↓reduceIte, true_or, or_true, false_or, or_false, or_self, true_and, and_true, false_and, and_false, and_self, not_true, not_false_eq_true, i10, i01, im0, im12, im21, m1lt, m2lt, m1le, m2le, i00, i0le0, i1le0, i2le0, i3le0, eq_self, x5]) | ((with_reducible refine ip ?_ ?_); · simp (disch := omega) only [ltL, Llt, leL, Lle, eqL, addL, Ladd, subL, subN, decN, eqM, Mle, mulL, nI_add, nI_ltI, nI_leI, nI_eq, nI_clamp, up2_at, nltT, nltF, nleT, nleF, neqT, neqF, ↓reduceIte, true_or, or_true, false_or, or_false, or_self, true_and, and_true, false_and, and_false, and_self, not_true, not_false_eq_true, i10, i01, im0, im12, im21, m1lt, m2lt, m1le, m2le, i00, i0le0, i1le0, i2le0, i3le0, eq_self, x5]))
        rfl
      · rewrite [f_X5_constructor]
        repeat (first | with_reducible refine bnE ?_ | with_reducible refine exI ?_ | with_reducible refine exJ ?_ | with_reducible refine bs (o) ?_ | ((with_reducible refine iN ?_ ?_); · simp (disch := omega) only [ltL, Llt, leL, Lle, eqL, addL, Ladd, subL, subN, decN, eqM, Mle, mulL, nI_add, nI_ltI, nI_leI, nI_eq, nI_clamp, up2_at, nltT, nltF, nleT, nleF, neqT, neqF, ↓reduceIte, true_or, or_true, false_or, or_false, or_self, true_and, and_true, false_and, and_false, and_self, not_true, not_false_eq_true, i10, i01, im0, im12, im21, m1lt, m2lt, m1le, m2le, i00, i0le0, i1le0, i2le0, i3le0, eq_self, s1]) | ((with_reducible refine ip ?_ ?_); · simp (disch := omega) only [ltL, Llt, leL, Lle, eqL, addL, Ladd, subL, subN, decN, eqM, Mle, mulL, nI_add, nI_ltI, nI_leI, nI_eq, nI_clamp, up2_at, nltT, nltF, nleT, nleF, neqT, neqF, ↓reduceIte, true_or, or_true, false_or, or_false, or_self, true_and, and_true, false_and, and_false, and_self, not_true, not_false_eq_true, i10, i01, im0, im12, im21, m1lt, m2lt, m1le, m2le, i00, i0le0, i1le0, i2le0, i3le0, eq_self, s1]))
        rfl
  · have o : f_X5_outside N (nI v) 3 = some (1, ()) := out_ge (lim := 3) (by omega) (by omega)
    refine ⟨.inr 0, x, y, t, k, b, 0, up2 σ 0 0 1, ?_, ?_, hI.code 1, Or.inr ⟨0, rfl, rfl, by decide⟩⟩
    · rewrite [f_X4_constructor]
      repeat (first | with_reducible refine bnE ?_ | with_reducible refine exI ?_ | with_reducible refine exJ ?_ | ((with_reducible refine iN ?_ ?_); · simp (disch := omega) only [ltL, Llt, leL, Lle, eqL, addL, Ladd, subL, subN, decN, eqM, Mle, mulL, nI_add, nI_ltI, nI_leI, nI_eq, nI_clamp, up2_at, nltT, nltF, nleT, nleF, neqT, neqF, ↓reduceIte, true_or, or_true, false_or, or_false, or_self, true_and, and_true, false_and, and_false, and_self, not_true, not_false_eq_true, i10, i01, im0, im12, im21, m1lt, m2lt, m1le, m2le, i00, i0le0, i1le0, i2le0, i3le0, eq_self, x5]) | ((with_reducible refine ip ?_ ?_); · simp (disch := omega) only [ltL, Llt, leL, Lle, eqL, addL, Ladd, subL, subN, decN, eqM, Mle, mulL, nI_add, nI_ltI, nI_leI, nI_eq, nI_clamp, up2_at, nltT, nltF, nleT, nleF, neqT, neqF, ↓reduceIte, true_or, or_true, false_or, or_false, or_self, true_and, and_true, false_and, and_false, and_self, not_true, not_false_eq_true, i10, i01, im0, im12, im21, m1lt, m2lt, m1le, m2le, i00, i0le0, i1le0, i2le0, i3le0, eq_self, x5]))
      rfl
    · rewrite [f_X5_constructor]
      repeat (first | with_reducible refine bnE ?_ | with_reducible refine exI ?_ | with_reducible refine exJ ?_ | with_reducible refine bs (o) ?_ | ((with_reducible refine iN ?_ ?_); · simp (disch := omega) only [ltL, Llt, leL, Lle, eqL, addL, Ladd, subL, subN, decN, eqM, Mle, mulL, nI_add, nI_ltI, nI_leI, nI_eq, nI_clamp, up2_at, nltT, nltF, nleT, nleF, neqT, neqF, ↓reduceIte, true_or, or_true, false_or, or_false, or_self, true_and, and_true, false_and, and_false, and_self, not_true, not_false_eq_true, i10, i01, im0, im12, im21, m1lt, m2lt, m1le, m2le, i00, i0le0, i1le0, i2le0, i3le0, eq_self]) | ((with_reducible refine ip ?_ ?_); · simp (disch := omega) only [ltL, Llt, leL, Lle, eqL, addL, Ladd, subL, subN, decN, eqM, Mle, mulL, nI_add, nI_ltI, nI_leI, nI_eq, nI_clamp, up2_at, nltT, nltF, nleT, nleF, neqT, neqF, ↓reduceIte, true_or, or_true, false_or, or_false, or_self, true_and, and_true, false_and, and_false, and_self, not_true, not_false_eq_true, i10, i01, im0, im12, im21, m1lt, m2lt, m1le, m2le, i00, i0le0, i1le0, i2le0, i3le0, eq_self]))
      rfl
