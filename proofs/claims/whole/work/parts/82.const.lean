/-! PURE: constant -/
theorem freeTypes_loop {N : Nat} : ∀ d v f (σ : St), v + d = 1000 → d < f → ∃ σ', f_X5_freeTypes_2 N f σ (nI v) = some σ' ∧ (∀ r, r ≠ 25 → σ' r = σ r) ∧ (∀ w, w < v → σ' 25 w = σ 25 w) ∧ ∀ w, v ≤ w → w < 1000 → σ' 25 w = -1 := by
  intro d
  induction d with
  | zero =>
    intro v f σ hv hf
    obtain ⟨f, rfl⟩ : ∃ z, f = z + 1 := ⟨f - 1, by omega⟩
    refine ⟨σ, ?_, fun _ _ => rfl, fun _ _ => rfl, fun w a b => absurd a (by omega)⟩
    rewrite [f_X5_freeTypes_2]
    repeat (first | with_reducible refine bnE ?_ | with_reducible refine exI ?_ | with_reducible refine exJ ?_ | ((with_reducible refine iN ?_ ?_); · simp (disch := omega) only [ltL, Llt, leL, Lle, eqL, addL, Ladd, subL, subN, decN, eqM, Mle, mulL, nI_add, nI_ltI, nI_leI, nI_eq, nI_clamp, up2_at, nltT, nltF, nleT, nleF, neqT, neqF, ↓reduceIte, true_or, or_true, false_or, or_false, or_self, true_and, and_true, false_and, and_false, and_self, not_true, not_false_eq_true, i10, i01, im0, im12, im21, m1lt, m2lt, m1le, m2le, i00, i0le0, i1le0, i2le0, i3le0, eq_self]) | ((with_reducible refine ip ?_ ?_); · simp (disch := omega) only [ltL, Llt, leL, Lle, eqL, addL, Ladd, subL, subN, decN, eqM, Mle, mulL, nI_add, nI_ltI, nI_leI, nI_eq, nI_clamp, up2_at, nltT, nltF, nleT, nleF, neqT, neqF, ↓reduceIte, true_or, or_true, false_or, or_false, or_self, true_and, and_true, false_and, and_false, and_self, not_true, not_false_eq_true, i10, i01, im0, im12, im21, m1lt, m2lt, m1le, m2le, i00, i0le0, i1le0, i2le0, i3le0, eq_self]))
    rfl
  | succ d ih =>
    intro v f σ hv hf
    obtain ⟨f, rfl⟩ : ∃ z, f = z + 1 := ⟨f - 1, by omega⟩
    obtain ⟨σ', h1, h2, h3, h4⟩ := ih (v + 1) f (up2 σ 25 v (-1)) (by omega) (by omega)
    refine ⟨σ', ?_, fun r hr => by rw [h2 r hr, up2_row hr], fun w hw => ?_, fun w a b => ?_⟩
    · rewrite [f_X5_freeTypes_2]
      repeat (first | with_reducible refine bnE ?_ | with_reducible refine exI ?_ | with_reducible refine exJ ?_ | ((with_reducible refine iN ?_ ?_); · simp (disch := omega) only [ltL, Llt, leL, Lle, eqL, addL, Ladd, subL, subN, decN, eqM, Mle, mulL, nI_add, nI_ltI, nI_leI, nI_eq, nI_clamp, up2_at, nltT, nltF, nleT, nleF, neqT, neqF, ↓reduceIte, true_or, or_true, false_or, or_false, or_self, true_and, and_true, false_and, and_false, and_self, not_true, not_false_eq_true, i10, i01, im0, im12, im21, m1lt, m2lt, m1le, m2le, i00, i0le0, i1le0, i2le0, i3le0, eq_self]) | ((with_reducible refine ip ?_ ?_); · simp (disch := omega) only [ltL, Llt, leL, Lle, eqL, addL, Ladd, subL, subN, decN, eqM, Mle, mulL, nI_add, nI_ltI, nI_leI, nI_eq, nI_clamp, up2_at, nltT, nltF, nleT, nleF, neqT, neqF, ↓reduceIte, true_or, or_true, false_or, or_false, or_self, true_and, and_true, false_and, and_false, and_self, not_true, not_false_eq_true, i10, i01, im0, im12, im21, m1lt, m2lt, m1le, m2le, i00, i0le0, i1le0, i2le0, i3le0, eq_self]))
      simp (disch := omega) only [ltL, Llt, leL, Lle, eqL, addL, Ladd, subL, subN, decN, eqM, Mle, mulL, nI_add, nI_ltI, nI_leI, nI_eq, nI_clamp, up2_at, nltT, nltF, nleT, nleF, neqT, neqF, ↓reduceIte, true_or, or_true, false_or, or_false, or_self, true_and, and_true, false_and, and_false, and_self, not_true, not_false_eq_true, i10, i01, im0, im12, im21, m1lt, m2lt, m1le, m2le, i00, i0le0, i1le0, i2le0, i3le0, eq_self, ]
      exact h1
    · rw [h3 w (by omega)]
      have : ¬ w = v := by omega
      simp (disch := omega) only [ltL, Llt, leL, Lle, eqL, addL, Ladd, subL, subN, decN, eqM, Mle, mulL, nI_add, nI_ltI, nI_leI, nI_eq, nI_clamp, up2_at, nltT, nltF, nleT, nleF, neqT, neqF, ↓reduceIte, true_or, or_true, false_or, or_false, or_self, true_and, and_true, false_and, and_false, and_self, not_true, not_false_eq_true, i10, i01, im0, im12, im21, m1lt, m2lt, m1le, m2le, i00, i0le0, i1le0, i2le0, i3le0, eq_self, this]
    · by_cases e : w = v
      · subst e
        rw [h3 w (by omega)]; simp (disch := omega) only [ltL, Llt, leL, Lle, eqL, addL, Ladd, subL, subN, decN, eqM, Mle, mulL, nI_add, nI_ltI, nI_leI, nI_eq, nI_clamp, up2_at, nltT, nltF, nleT, nleF, neqT, neqF, ↓reduceIte, true_or, or_true, false_or, or_false, or_self, true_and, and_true, false_and, and_false, and_self, not_true, not_false_eq_true, i10, i01, im0, im12, im21, m1lt, m2lt, m1le, m2le, i00, i0le0, i1le0, i2le0, i3le0, eq_self, ]
      · exact h4 w (by omega) b
theorem freeTypes_ok {N : Nat} {σ : St} (hN : 34100 < N) : ∃ σ', f_X5_freeTypes N σ = some σ' ∧ (∀ r, r ≠ 25 → σ' r = σ r) ∧ ∀ w, w < 1000 → σ' 25 w = -1 := by
  obtain ⟨σ', h1, h2, -, h4⟩ := freeTypes_loop (N := N) 1000 0 N σ (by omega) (by omega)
  exact ⟨σ', h1, h2, fun w hw => h4 w (by omega) hw⟩
/-- one question, by class and reference -/
theorem fits_pair {N n q u a b c d : Nat} {g : Nat → Int32} {yb σb y σ : St} (hN : 34100 < N) (I : I1 n g q yb σb) (hq : q ≤ 40) (ha : a < n) (hb : b < n) (hc : c < n) (hd : d < n) (eab : tC yb (nI a) = tM σb (nI b)) (ecd : tC yb (nI c) = tM σb (nI d)) (hy : YF yb y) (hs : SF σb σ) (F : FI n u yb σb y σ) :
    ∃ r y' σ', (r = 0 ∨ r = 1) ∧ f_X2_fits N y (nI a) (nI c) = some (r, y') ∧ f_X5_fits N σ (nI b) (nI d) = some (r, σ') ∧ YF yb y' ∧ SF σb σ' ∧ (∀ k, y' 8 k = y 8 k ∨ y' 8 k = nI u) ∧ (r = 1 → FI n u yb σb y' σ' ∧ (∀ v, ¬ σ 25 v = -1 → σ' 25 v = σ 25 v) ∧ y' 8 a = nI u ∧ y' 7 a = nI c) := by
  have z25 : up2 (up2 σ 22 0 (nI b)) 23 0 (nI d) 25 = σ 25 := by simp (disch := decide) only [up2_row, upR_row, and_self, eq_self, ]
  obtain ⟨F1, F2, F3, F4⟩ := F
  have hsz := I.1.2.2.2.2.2 a ha
  obtain ⟨y', w1, w2, w3⟩ := fits_ok (N := N) (u := u) I hq a b c d 0 N 24 25 y (up2 (up2 σ 22 0 (nI b)) 23 0 (nI d)) ha hb hc hd eab ecd hy (fun r h22 h23 h25 => by rw [up2_row h23, up2_row h22]; exact hs r h22 h23 h25) ⟨F1, by rw [z25]; exact F2, by rw [z25]; exact F3, by rw [z25]; exact F4⟩ (by simp (disch := omega) only [ltL, Llt, leL, Lle, eqL, addL, Ladd, subL, subN, decN, eqM, Mle, mulL, nI_add, nI_ltI, nI_leI, nI_eq, nI_clamp, up2_at, nltT, nltF, nleT, nleF, neqT, neqF, ↓reduceIte, true_or, or_true, false_or, or_false, or_self, true_and, and_true, false_and, and_false, and_self, not_true, not_false_eq_true, i10, i01, im0, im12, im21, m1lt, m2lt, m1le, m2le, i00, i0le0, i1le0, i2le0, i3le0, eq_self, ]) (by simp (disch := omega) only [ltL, Llt, leL, Lle, eqL, addL, Ladd, subL, subN, decN, eqM, Mle, mulL, nI_add, nI_ltI, nI_leI, nI_eq, nI_clamp, up2_at, nltT, nltF, nleT, nleF, neqT, neqF, ↓reduceIte, true_or, or_true, false_or, or_false, or_self, true_and, and_true, false_and, and_false, and_self, not_true, not_false_eq_true, i10, i01, im0, im12, im21, m1lt, m2lt, m1le, m2le, i00, i0le0, i1le0, i2le0, i3le0, eq_self, ]) (by omega) (by omega) (by omega) (by omega) (by omega)
  rcases w3 with ⟨w3, σ', w4, w5, w6, w7, w8, w9, w10, w11⟩ | ⟨w3, σ', w4, w5⟩
  · refine ⟨1, y', σ', Or.inr rfl, by rewrite [f_X2_fits]; exact bs w3 rfl, ?_, w1, w5, w2, fun _ => ⟨w7, by rw [z25] at w9; exact w9, w10, w11⟩⟩
    obtain ⟨F, hF⟩ : ∃ F, N - sz (tC yb (nI a)) = F + 1 := ⟨N - sz (tC yb (nI a)) - 1, by omega⟩
    rw [hF] at w4
    rewrite [f_X5_fits]
    refine iN (by decide) (bnE (iN (by decide) (bnE ?_)))
    refine Eq.trans w4 ?_
    rewrite [f_X5_fits_16]
    repeat (first | with_reducible refine bnE ?_ | with_reducible refine exI ?_ | with_reducible refine exJ ?_ | ((with_reducible refine iN ?_ ?_); · simp (disch := omega) only [ltL, Llt, leL, Lle, eqL, addL, Ladd, subL, subN, decN, eqM, Mle, mulL, nI_add, nI_ltI, nI_leI, nI_eq, nI_clamp, up2_at, nltT, nltF, nleT, nleF, neqT, neqF, ↓reduceIte, true_or, or_true, false_or, or_false, or_self, true_and, and_true, false_and, and_false, and_self, not_true, not_false_eq_true, i10, i01, im0, im12, im21, m1lt, m2lt, m1le, m2le, i00, i0le0, i1le0, i2le0, i3le0, eq_self]) | ((with_reducible refine ip ?_ ?_); · simp (disch := omega) only [ltL, Llt, leL, Lle, eqL, addL, Ladd, subL, subN, decN, eqM, Mle, mulL, nI_add, nI_ltI, nI_leI, nI_eq, nI_clamp, up2_at, nltT, nltF, nleT, nleF, neqT, neqF, ↓reduceIte, true_or, or_true, false_or, or_false, or_self, true_and, and_true, false_and, and_false, and_self, not_true, not_false_eq_true, i10, i01, im0, im12, im21, m1lt, m2lt, m1le, m2le, i00, i0le0, i1le0, i2le0, i3le0, eq_self]))
    rfl
  · refine ⟨0, y', σ', Or.inl rfl, by rewrite [f_X2_fits]; exact bs w3 rfl, ?_, w1, w5, w2, fun q => absurd q (by decide)⟩
    rewrite [f_X5_fits]
    exact iN (by decide) (bnE (iN (by decide) (bnE w4)))
/-- before the first question -/
theorem FI.start {n u : Nat} {yb σb : St} (h11 : yb 11 0 = nI u) (hu : u < 2 ^ 31) (h8 : ∀ k, k < 8000 → ∃ v, v < u ∧ yb 8 k = nI v) (hn : n ≤ 8000) (h25 : ∀ w, w < 1000 → σb 25 w = -1) : FI n u yb σb yb σb := by
  have no : ∀ k, k < n → ¬ yb 8 k = nI u := fun k hk e => by
    obtain ⟨v, hv, ev⟩ := h8 k (by omega)
    rw [ev] at e
    have := (nI_eq (by omega) (by omega)).mp e
    omega
  exact ⟨h11, fun v hv => Or.inl (h25 v hv), fun k hk e => absurd e (no k hk), fun k v hk hv e => ⟨fun z => absurd z (no k hk), fun z => absurd (h25 v hv) z⟩⟩
/-- all but images and the reference's scratch is as before -/
theorem pieces {w n q p hc tot m f : Nat} {s : Nat → Nat} {x y t b σ y' σ' : St} (i1 : I1 n (x 3) q y σ) (i2 : I2 q x σ) (i3 : I3 p n x y σ) (i4 : I4 w hc tot n y σ) (i5 : I5 w m s n y t σ) (i6 : I6 f (s m) t b σ) (hy : ∀ r, r ≠ 7 → r ≠ 8 → r ≠ 11 → y' r = y r) (hs : ∀ r, r ≠ 0 → r ≠ 16 → r ≠ 17 → r ≠ 22 → r ≠ 23 → r ≠ 24 → r ≠ 25 → σ' r = σ r) : I1 n (x 3) q y' σ' ∧ I2 q x σ' ∧ I3 p n x y' σ' ∧ I4 w hc tot n y' σ' ∧ I5 w m s n y' t σ' ∧ I6 f (s m) t b σ' ∧ tC y' = tC y ∧ tM σ' = tM σ := by
  obtain ⟨T, ht⟩ := i1.2.1.congr (σ' := σ') (by simp (disch := decide) only [up2_row, upR_row, and_self, eq_self, hs])
  obtain ⟨T', ht'⟩ := i1.1.congr (y' := y') (by simp (disch := decide) only [up2_row, upR_row, and_self, eq_self, hy])
  have mo : Mo n y σ n y' σ' := ⟨Nat.le_refl _, fun _ _ => by rw [ht'], fun _ _ => by rw [ht]⟩
  refine ⟨I1_restore i1 T' T mo, ?_, i3.tr mo (by simp (disch := decide) only [up2_row, upR_row, and_self, eq_self, hs]), i4.tr (Nat.le_refl w) mo (by simp (disch := decide) only [up2_row, upR_row, and_self, eq_self, hs, hy]), i5.tr (Nat.le_refl w) mo ⟨rfl, by simp (disch := decide) only [up2_row, upR_row, and_self, eq_self, hs], fun i _ => by simp (disch := decide) only [up2_row, upR_row, and_self, eq_self, hs], fun _ _ => rfl, fun k _ => by simp (disch := decide) only [up2_row, upR_row, and_self, eq_self, hs]⟩, i6.tr (Nat.le_refl _) (fun _ _ => rfl) rfl (by simp (disch := decide) only [up2_row, upR_row, and_self, eq_self, hs]), ht', ht⟩
  obtain ⟨b1, b2, b3, b4, b5, b6⟩ := i2
  refine ⟨b1, b2, b3, ?_, b5, ?_⟩
  · rw [hs 1 (by decide) (by decide) (by decide) (by decide) (by decide) (by decide) (by decide)]; exact b4
  · rw [hs 2 (by decide) (by decide) (by decide) (by decide) (by decide) (by decide) (by decide)]; exact b6
theorem I7.begin {w : Nat} {y : St} (h : I7 w y) (hw : w < 512) : ∃ u, u ≤ w + 1 ∧ f_X2_beginImages 0 y = some (up2 y 11 0 (nI u)) ∧ (∀ k, k < 8000 → ∃ v, v < u ∧ y 8 k = nI v) := by
  obtain ⟨u, h1, h2, h3⟩ := h
  refine ⟨u + 1, by omega, ?_, fun k hk => ?_⟩
  · rewrite [f_X2_beginImages, h2, nI_add1]; rfl
  · obtain ⟨v, hv, e⟩ := h3 k hk
    exact ⟨v, by omega, e⟩
theorem begin_eq {N : Nat} {y : St} : f_X2_beginImages N y = f_X2_beginImages 0 y := by rw [f_X2_beginImages, f_X2_beginImages]
/-- stamps behind a run of questions -/
theorem I7.stamps {w u : Nat} {y yb y' : St} (hu : u ≤ w) (h8 : ∀ k, k < 8000 → ∃ v, v < u ∧ y 8 k = nI v) (h11 : yb 11 0 = nI u) (e11 : y' 11 = yb 11) (h : ∀ k, y' 8 k = y 8 k ∨ y' 8 k = nI u) : I7 w y' := by
  refine ⟨u, hu, by rw [e11]; exact h11, fun k hk => ?_⟩
  rcases h k with e | e
  · obtain ⟨v, hv, ev⟩ := h8 k hk
    exact ⟨v, by omega, by rw [e]; exact ev⟩
  · exact ⟨u, Nat.le_refl _, e⟩
theorem constant_sim {N w : Nat} {x y t k b σ : St} (hN : 34100 < N) (hw : w < 512) (hI : Inv w x y t b σ) (c a : Int32) : Sim (fun e => if e = 2 then 1 else if e = 0 then 2 else if e = 1 then 3 else 0) (w + 1) (f_X4_constant N x y t k b c a) (f_X5_constant N σ c a) := by
  obtain ⟨n, q, p, hc, tot, m, s, f, hn, i1, i2, i3, i4, i5, i6, i7⟩ := hI.code0 0
  obtain ⟨j1, j2, j3, j4, j5, j6, j7⟩ := id i4
  obtain ⟨p1, p2, p3, p4⟩ := id i3
  obtain ⟨k1, k2, k3, k4, k5, k6, k7, k8⟩ := id i5
  have hfail : ∀ (z : St) (e : Int32), f_X5_fail N z e = some (0, up2 z 0 0 e) := fun z e => by rw [f_X5_fail]; rfl
  have two : ∀ e : Int32, up2 (up2 σ 0 0 0) 0 0 e = up2 σ 0 0 e := fun e => by
    funext r j; rw [up2_at, up2_at, up2_at]; split <;> rfl
  rcases handle_cases (N := N) (x := x) (t := t) (k := k) (b := b) j3 (by omega) a with ⟨i, hi, rfl, hb, ho⟩ | ⟨hb, ho⟩
  · have hR := j7 i hi
    obtain ⟨⟨u1, hu1, eu1⟩, ⟨v1, hv1, ev1⟩, etr⟩ := id hR
    have hb := hb eu1 (nI_ne_m1 (by omega))
    rw [← j4] at ho
    have bad : f_X4_constant N x y t k b c (nI i) = some (.inr 0, (x, y, t, k, b)) → f_X5_outside N c (up2 σ 0 0 0 3 0) = some (1, ()) → Sim (fun e => if e = 2 then 1 else if e = 0 then 2 else if e = 1 then 3 else 0) (w + 1) (f_X4_constant N x y t k b c (nI i)) (f_X5_constant N σ c (nI i)) := by
      intro h1 h2
      refine ⟨.inr 0, x, y, t, k, b, 0, up2 σ 0 0 2, h1, ?_, hI.code 2, Or.inr ⟨0, rfl, rfl, by decide⟩⟩
      rewrite [f_X5_constant]
      repeat (first | with_reducible refine bnE ?_ | with_reducible refine exI ?_ | with_reducible refine exJ ?_ | with_reducible refine bs (ho) ?_ | with_reducible refine bs (h2) ?_ | with_reducible refine bs (hfail (up2 σ 0 0 0) 2) ?_ | ((with_reducible refine iN ?_ ?_); · simp (disch := omega) only [ltL, Llt, leL, Lle, eqL, addL, Ladd, subL, subN, decN, eqM, Mle, mulL, nI_add, nI_ltI, nI_leI, nI_eq, nI_clamp, up2_at, nltT, nltF, nleT, nleF, neqT, neqF, ↓reduceIte, true_or, or_true, false_or, or_false, or_self, true_and, and_true, false_and, and_false, and_self, not_true, not_false_eq_true, i10, i01, im0, im12, im21, m1lt, m2lt, m1le, m2le, i00, i0le0, i1le0, i2le0, i3le0, eq_self]) | ((with_reducible refine ip ?_ ?_); · simp (disch := omega) only [ltL, Llt, leL, Lle, eqL, addL, Ladd, subL, subN, decN, eqM, Mle, mulL, nI_add, nI_ltI, nI_leI, nI_eq, nI_clamp, up2_at, nltT, nltF, nleT, nleF, neqT, neqF, ↓reduceIte, true_or, or_true, false_or, or_false, or_self, true_and, and_true, false_and, and_false, and_self, not_true, not_false_eq_true, i10, i01, im0, im12, im21, m1lt, m2lt, m1le, m2le, i00, i0le0, i1le0, i2le0, i3le0, eq_self]))
      rw [two]
    rcases pk_ix c (n := p) (by omega) with h | h | ⟨v, hv, rfl⟩
    · refine bad ?_ (out_neg h)
      rewrite [f_X4_constant]
      repeat (first | with_reducible refine bnE ?_ | with_reducible refine exI ?_ | with_reducible refine exJ ?_ | with_reducible refine bs (hb) ?_ | ((with_reducible refine iN ?_ ?_); · simp (disch := omega) only [ltL, Llt, leL, Lle, eqL, addL, Ladd, subL, subN, decN, eqM, Mle, mulL, nI_add, nI_ltI, nI_leI, nI_eq, nI_clamp, up2_at, nltT, nltF, nleT, nleF, neqT, neqF, ↓reduceIte, true_or, or_true, false_or, or_false, or_self, true_and, and_true, false_and, and_false, and_self, not_true, not_false_eq_true, i10, i01, im0, im12, im21, m1lt, m2lt, m1le, m2le, i00, i0le0, i1le0, i2le0, i3le0, eq_self]) | ((with_reducible refine ip ?_ ?_); · simp (disch := omega) only [ltL, Llt, leL, Lle, eqL, addL, Ladd, subL, subN, decN, eqM, Mle, mulL, nI_add, nI_ltI, nI_leI, nI_eq, nI_clamp, up2_at, nltT, nltF, nleT, nleF, neqT, neqF, ↓reduceIte, true_or, or_true, false_or, or_false, or_self, true_and, and_true, false_and, and_false, and_self, not_true, not_false_eq_true, i10, i01, im0, im12, im21, m1lt, m2lt, m1le, m2le, i00, i0le0, i1le0, i2le0, i3le0, eq_self]))
      exact ip h rfl
    · refine bad ?_ (by rw [p3]; exact out_ge' h (by omega))
      rewrite [f_X4_constant]
      repeat (first | with_reducible refine bnE ?_ | with_reducible refine exI ?_ | with_reducible refine exJ ?_ | with_reducible refine bs (hb) ?_ | ((with_reducible refine iN ?_ ?_); · simp (disch := omega) only [ltL, Llt, leL, Lle, eqL, addL, Ladd, subL, subN, decN, eqM, Mle, mulL, nI_add, nI_ltI, nI_leI, nI_eq, nI_clamp, up2_at, nltT, nltF, nleT, nleF, neqT, neqF, ↓reduceIte, true_or, or_true, false_or, or_false, or_self, true_and, and_true, false_and, and_false, and_self, not_true, not_false_eq_true, i10, i01, im0, im12, im21, m1lt, m2lt, m1le, m2le, i00, i0le0, i1le0, i2le0, i3le0, eq_self]) | ((with_reducible refine ip ?_ ?_); · simp (disch := omega) only [ltL, Llt, leL, Lle, eqL, addL, Ladd, subL, subN, decN, eqM, Mle, mulL, nI_add, nI_ltI, nI_leI, nI_eq, nI_clamp, up2_at, nltT, nltF, nleT, nleF, neqT, neqF, ↓reduceIte, true_or, or_true, false_or, or_false, or_self, true_and, and_true, false_and, and_false, and_self, not_true, not_false_eq_true, i10, i01, im0, im12, im21, m1lt, m2lt, m1le, m2le, i00, i0le0, i1le0, i2le0, i3le0, eq_self]))
      exact iN (le_of_ix h (by omega)) (iN (by show ¬ c < x 6 0; rw [p2]; exact nlt_of_ix h (by omega)) rfl)
    · have o2 := out_lt (N := N) hv (by omega)
      rw [← p3] at o2
      have hR2 := p4 v hv
      obtain ⟨⟨u2, hu2, eu2⟩, ⟨v2, hv2, ev2⟩, etr2⟩ := id hR2
      obtain ⟨u, hu, hbeg, h8⟩ := i7.begin hw
      rw [← begin_eq (N := N)] at hbeg
      obtain ⟨σf, hf1, hf2, hf3⟩ := freeTypes_ok (N := N) (σ := up2 σ 0 0 0) hN
      obtain ⟨b1, b2, b3, b4, b5, b6, bC, bM⟩ := pieces (y' := up2 y 11 0 (nI u)) (σ' := σf) i1 i2 i3 i4 i5 i6 (fun r h7 h8 h11 => up2_row h11) (fun r r0 r16 r17 r22 r23 r24 r25 => hf2 r r25)
      have e11 : up2 y 11 0 (nI u) 11 0 = nI u := by simp (disch := omega) only [ltL, Llt, leL, Lle, eqL, addL, Ladd, subL, subN, decN, eqM, Mle, mulL, nI_add, nI_ltI, nI_leI, nI_eq, nI_clamp, up2_at, nltT, nltF, nleT, nleF, neqT, neqF, ↓reduceIte, true_or, or_true, false_or, or_false, or_self, true_and, and_true, false_and, and_false, and_self, not_true, not_false_eq_true, i10, i01, im0, im12, im21, m1lt, m2lt, m1le, m2le, i00, i0le0, i1le0, i2le0, i3le0, eq_self, ]
      have F0 : FI n u (up2 y 11 0 (nI u)) σf (up2 y 11 0 (nI u)) σf := FI.start e11 (by omega) (fun k hk => by rw [up2_row (by decide)]; exact h8 k hk) hn hf3
      rw [eu2, ev2] at etr2
      rw [eu1, ev1] at etr
      obtain ⟨r, y', σ', hr01, c1, c2, c3, c4, c5, c6⟩ := fits_pair hN b1 i2.2.1 hu2 hv2 hu1 hv1 (by rw [bC, bM]; exact etr2) (by rw [bC, bM]; exact etr) (fun _ _ _ => rfl) (fun _ _ _ _ => rfl) F0
      obtain ⟨d1, d2, d3, d4, d5, d6, dC, dM⟩ := pieces (y' := y') (σ' := σ') i1 i2 i3 i4 i5 i6 (fun r h7 h8 h11 => by rw [c3 r h7 h8, up2_row h11]) (fun r r0 r16 r17 r22 r23 r24 r25 => by rw [c4 r r22 r23 r25, hf2 r r25])
      have d7 : I7 (w + 1) y' := I7.stamps hu h8 e11 (c3 11 (by decide) (by decide)) (fun k => by
        rcases c5 k with e | e
        · left; rw [e, up2_row (by decide)]
        · exact Or.inr e)
      have z0 : σ' 0 0 = 0 := by
        rw [c4 0 (by decide) (by decide) (by decide), hf2 0 (by decide)]; simp (disch := omega) only [ltL, Llt, leL, Lle, eqL, addL, Ladd, subL, subN, decN, eqM, Mle, mulL, nI_add, nI_ltI, nI_leI, nI_eq, nI_clamp, up2_at, nltT, nltF, nleT, nleF, neqT, neqF, ↓reduceIte, true_or, or_true, false_or, or_false, or_self, true_and, and_true, false_and, and_false, and_self, not_true, not_false_eq_true, i10, i01, im0, im12, im21, m1lt, m2lt, m1le, m2le, i00, i0le0, i1le0, i2le0, i3le0, eq_self, ]
      have hrd := rd_in (N := N) (g := x 4) (by omega : v < 200) (by omega)
      rw [eu2] at hrd
      have s4 : σf 4 v = nI v2 := by rw [hf2 4 (by decide)]; exact ev2
      have s15 : σf 15 i = nI v1 := by rw [hf2 15 (by decide)]; exact ev1
      rcases hr01 with rfl | rfl
      · refine ⟨.inr 0, x, y', t, k, b, 0, up2 σ' 0 0 2, ?_, ?_, ?_, Or.inr ⟨0, rfl, rfl, by decide⟩⟩
        · rewrite [f_X4_constant]
          repeat (first | with_reducible refine bnE ?_ | with_reducible refine exI ?_ | with_reducible refine exJ ?_ | with_reducible refine bs (hb) ?_ | with_reducible refine bs (hbeg) ?_ | with_reducible refine bs (hrd) ?_ | with_reducible refine bs (c1) ?_ | ((with_reducible refine iN ?_ ?_); · simp (disch := omega) only [ltL, Llt, leL, Lle, eqL, addL, Ladd, subL, subN, decN, eqM, Mle, mulL, nI_add, nI_ltI, nI_leI, nI_eq, nI_clamp, up2_at, nltT, nltF, nleT, nleF, neqT, neqF, ↓reduceIte, true_or, or_true, false_or, or_false, or_self, true_and, and_true, false_and, and_false, and_self, not_true, not_false_eq_true, i10, i01, im0, im12, im21, m1lt, m2lt, m1le, m2le, i00, i0le0, i1le0, i2le0, i3le0, eq_self, p2]) | ((with_reducible refine ip ?_ ?_); · simp (disch := omega) only [ltL, Llt, leL, Lle, eqL, addL, Ladd, subL, subN, decN, eqM, Mle, mulL, nI_add, nI_ltI, nI_leI, nI_eq, nI_clamp, up2_at, nltT, nltF, nleT, nleF, neqT, neqF, ↓reduceIte, true_or, or_true, false_or, or_false, or_self, true_and, and_true, false_and, and_false, and_self, not_true, not_false_eq_true, i10, i01, im0, im12, im21, m1lt, m2lt, m1le, m2le, i00, i0le0, i1le0, i2le0, i3le0, eq_self, p2]))
          rfl
        · rewrite [f_X5_constant]
          repeat (first | with_reducible refine bnE ?_ | with_reducible refine exI ?_ | with_reducible refine exJ ?_ | with_reducible refine bs (ho) ?_ | with_reducible refine bs (o2) ?_ | with_reducible refine bs (hf1) ?_ | ((with_reducible refine iN ?_ ?_); · simp (disch := omega) only [ltL, Llt, leL, Lle, eqL, addL, Ladd, subL, subN, decN, eqM, Mle, mulL, nI_add, nI_ltI, nI_leI, nI_eq, nI_clamp, up2_at, nltT, nltF, nleT, nleF, neqT, neqF, ↓reduceIte, true_or, or_true, false_or, or_false, or_self, true_and, and_true, false_and, and_false, and_self, not_true, not_false_eq_true, i10, i01, im0, im12, im21, m1lt, m2lt, m1le, m2le, i00, i0le0, i1le0, i2le0, i3le0, eq_self]) | ((with_reducible refine ip ?_ ?_); · simp (disch := omega) only [ltL, Llt, leL, Lle, eqL, addL, Ladd, subL, subN, decN, eqM, Mle, mulL, nI_add, nI_ltI, nI_leI, nI_eq, nI_clamp, up2_at, nltT, nltF, nleT, nleF, neqT, neqF, ↓reduceIte, true_or, or_true, false_or, or_false, or_self, true_and, and_true, false_and, and_false, and_self, not_true, not_false_eq_true, i10, i01, im0, im12, im21, m1lt, m2lt, m1le, m2le, i00, i0le0, i1le0, i2le0, i3le0, eq_self]))
          simp (disch := omega) only [nI_clamp, s4, s15]
          repeat (first | with_reducible refine bnE ?_ | with_reducible refine exI ?_ | with_reducible refine exJ ?_ | with_reducible refine bs (c2) ?_ | with_reducible refine bs (hfail σ' 2) ?_ | ((with_reducible refine iN ?_ ?_); · simp (disch := omega) only [ltL, Llt, leL, Lle, eqL, addL, Ladd, subL, subN, decN, eqM, Mle, mulL, nI_add, nI_ltI, nI_leI, nI_eq, nI_clamp, up2_at, nltT, nltF, nleT, nleF, neqT, neqF, ↓reduceIte, true_or, or_true, false_or, or_false, or_self, true_and, and_true, false_and, and_false, and_self, not_true, not_false_eq_true, i10, i01, im0, im12, im21, m1lt, m2lt, m1le, m2le, i00, i0le0, i1le0, i2le0, i3le0, eq_self]) | ((with_reducible refine ip ?_ ?_); · simp (disch := omega) only [ltL, Llt, leL, Lle, eqL, addL, Ladd, subL, subN, decN, eqM, Mle, mulL, nI_add, nI_ltI, nI_leI, nI_eq, nI_clamp, up2_at, nltT, nltF, nleT, nleF, neqT, neqF, ↓reduceIte, true_or, or_true, false_or, or_false, or_self, true_and, and_true, false_and, and_false, and_self, not_true, not_false_eq_true, i10, i01, im0, im12, im21, m1lt, m2lt, m1le, m2le, i00, i0le0, i1le0, i2le0, i3le0, eq_self]))
          rfl
        · have hInv : Inv (w + 1) x y' t b σ' := ⟨n, q, p, hc, tot, m, s, f, hn, d1, d2, d3, d4.tr (Nat.le_succ w) Mo.rfl ⟨rfl, rfl, rfl, rfl, rfl, rfl⟩, d5.tr (Nat.le_succ w) Mo.rfl ⟨rfl, rfl, fun _ _ => ⟨rfl, rfl⟩, fun _ _ => rfl, fun _ _ => ⟨rfl, rfl, rfl, rfl⟩⟩, d6, d7⟩
          exact hInv.code0 2
      · have hRT : RT n y' σ' (nI u1) (nI v1) := ⟨⟨u1, hu1, rfl⟩, ⟨v1, hv1, rfl⟩, by rw [dC, dM]; exact etr⟩
        obtain ⟨tk, kk, v', σ2, res, p', σc, g1, g2, g3, g4, g5⟩ := leaf_ok (N := N) (k := k) (v := 4 * v + 2) hN hw hn d1 d2 d3 d4 d5 d6 d7 z0 (by omega) (by omega) hRT
        have hcode : f_X4_codeOf N 2 (nI v) = some (nI (4 * v + 2), ()) := by
          rewrite [f_X4_codeOf]; simp (disch := omega) only [ltL, Llt, leL, Lle, eqL, addL, Ladd, subL, subN, decN, eqM, Mle, mulL, nI_add, nI_ltI, nI_leI, nI_eq, nI_clamp, up2_at, nltT, nltF, nleT, nleF, neqT, neqF, ↓reduceIte, true_or, or_true, false_or, or_false, or_self, true_and, and_true, false_and, and_false, and_self, not_true, not_false_eq_true, i10, i01, im0, im12, im21, m1lt, m2lt, m1le, m2le, i00, i0le0, i1le0, i2le0, i3le0, eq_self, ]
        have e18 : σ' 18 0 = nI m := d5.2.2.1
        have e19 : σ' 19 m = nI (s m) := (d5.2.2.2.2.2.1 m (Nat.le_refl _)).2
        have e15 : σ' 15 i = nI v1 := by rw [c4 15 (by decide) (by decide) (by decide)]; exact s15
        refine ⟨res, x, y', tk, kk, b, v', σ2, ?_, ?_, g4, ?_⟩
        · rewrite [f_X4_constant]
          repeat (first | with_reducible refine bnE ?_ | with_reducible refine exI ?_ | with_reducible refine exJ ?_ | with_reducible refine bs (hb) ?_ | with_reducible refine bs (hbeg) ?_ | with_reducible refine bs (hrd) ?_ | with_reducible refine bs (c1) ?_ | with_reducible refine bs (hcode) ?_ | with_reducible refine bs (g1) ?_ | ((with_reducible refine iN ?_ ?_); · simp (disch := omega) only [ltL, Llt, leL, Lle, eqL, addL, Ladd, subL, subN, decN, eqM, Mle, mulL, nI_add, nI_ltI, nI_leI, nI_eq, nI_clamp, up2_at, nltT, nltF, nleT, nleF, neqT, neqF, ↓reduceIte, true_or, or_true, false_or, or_false, or_self, true_and, and_true, false_and, and_false, and_self, not_true, not_false_eq_true, i10, i01, im0, im12, im21, m1lt, m2lt, m1le, m2le, i00, i0le0, i1le0, i2le0, i3le0, eq_self, p2]) | ((with_reducible refine ip ?_ ?_); · simp (disch := omega) only [ltL, Llt, leL, Lle, eqL, addL, Ladd, subL, subN, decN, eqM, Mle, mulL, nI_add, nI_ltI, nI_leI, nI_eq, nI_clamp, up2_at, nltT, nltF, nleT, nleF, neqT, neqF, ↓reduceIte, true_or, or_true, false_or, or_false, or_self, true_and, and_true, false_and, and_false, and_self, not_true, not_false_eq_true, i10, i01, im0, im12, im21, m1lt, m2lt, m1le, m2le, i00, i0le0, i1le0, i2le0, i3le0, eq_self, p2]))
          rcases g5 with ⟨rfl, -⟩ | ⟨rfl, -⟩ <;> rfl
        · rewrite [f_X5_constant]
          repeat (first | with_reducible refine bnE ?_ | with_reducible refine exI ?_ | with_reducible refine exJ ?_ | with_reducible refine bs (ho) ?_ | with_reducible refine bs (o2) ?_ | with_reducible refine bs (hf1) ?_ | ((with_reducible refine iN ?_ ?_); · simp (disch := omega) only [ltL, Llt, leL, Lle, eqL, addL, Ladd, subL, subN, decN, eqM, Mle, mulL, nI_add, nI_ltI, nI_leI, nI_eq, nI_clamp, up2_at, nltT, nltF, nleT, nleF, neqT, neqF, ↓reduceIte, true_or, or_true, false_or, or_false, or_self, true_and, and_true, false_and, and_false, and_self, not_true, not_false_eq_true, i10, i01, im0, im12, im21, m1lt, m2lt, m1le, m2le, i00, i0le0, i1le0, i2le0, i3le0, eq_self]) | ((with_reducible refine ip ?_ ?_); · simp (disch := omega) only [ltL, Llt, leL, Lle, eqL, addL, Ladd, subL, subN, decN, eqM, Mle, mulL, nI_add, nI_ltI, nI_leI, nI_eq, nI_clamp, up2_at, nltT, nltF, nleT, nleF, neqT, neqF, ↓reduceIte, true_or, or_true, false_or, or_false, or_self, true_and, and_true, false_and, and_false, and_self, not_true, not_false_eq_true, i10, i01, im0, im12, im21, m1lt, m2lt, m1le, m2le, i00, i0le0, i1le0, i2le0, i3le0, eq_self]))
          simp (disch := omega) only [nI_clamp, s4, s15]
          repeat (first | with_reducible refine bnE ?_ | with_reducible refine exI ?_ | with_reducible refine exJ ?_ | with_reducible refine bs (c2) ?_ | ((with_reducible refine iN ?_ ?_); · simp (disch := omega) only [ltL, Llt, leL, Lle, eqL, addL, Ladd, subL, subN, decN, eqM, Mle, mulL, nI_add, nI_ltI, nI_leI, nI_eq, nI_clamp, up2_at, nltT, nltF, nleT, nleF, neqT, neqF, ↓reduceIte, true_or, or_true, false_or, or_false, or_self, true_and, and_true, false_and, and_false, and_self, not_true, not_false_eq_true, i10, i01, im0, im12, im21, m1lt, m2lt, m1le, m2le, i00, i0le0, i1le0, i2le0, i3le0, eq_self, e18]) | ((with_reducible refine ip ?_ ?_); · simp (disch := omega) only [ltL, Llt, leL, Lle, eqL, addL, Ladd, subL, subN, decN, eqM, Mle, mulL, nI_add, nI_ltI, nI_leI, nI_eq, nI_clamp, up2_at, nltT, nltF, nleT, nleF, neqT, neqF, ↓reduceIte, true_or, or_true, false_or, or_false, or_self, true_and, and_true, false_and, and_false, and_self, not_true, not_false_eq_true, i10, i01, im0, im12, im21, m1lt, m2lt, m1le, m2le, i00, i0le0, i1le0, i2le0, i3le0, eq_self, e18]))
          simp (disch := omega) only [nI_clamp, e18, e19, e15, mulL, addL]
          repeat (first | with_reducible refine bnE ?_ | with_reducible refine exI ?_ | with_reducible refine exJ ?_ | with_reducible refine bs (g2) ?_ | with_reducible refine bs (g3) ?_ | ((with_reducible refine iN ?_ ?_); · simp (disch := omega) only [ltL, Llt, leL, Lle, eqL, addL, Ladd, subL, subN, decN, eqM, Mle, mulL, nI_add, nI_ltI, nI_leI, nI_eq, nI_clamp, up2_at, nltT, nltF, nleT, nleF, neqT, neqF, ↓reduceIte, true_or, or_true, false_or, or_false, or_self, true_and, and_true, false_and, and_false, and_self, not_true, not_false_eq_true, i10, i01, im0, im12, im21, m1lt, m2lt, m1le, m2le, i00, i0le0, i1le0, i2le0, i3le0, eq_self]) | ((with_reducible refine ip ?_ ?_); · simp (disch := omega) only [ltL, Llt, leL, Lle, eqL, addL, Ladd, subL, subN, decN, eqM, Mle, mulL, nI_add, nI_ltI, nI_leI, nI_eq, nI_clamp, up2_at, nltT, nltF, nleT, nleF, neqT, neqF, ↓reduceIte, true_or, or_true, false_or, or_false, or_self, true_and, and_true, false_and, and_false, and_self, not_true, not_false_eq_true, i10, i01, im0, im12, im21, m1lt, m2lt, m1le, m2le, i00, i0le0, i1le0, i2le0, i3le0, eq_self]))
          rfl
        · rcases g5 with ⟨rfl, h⟩ | ⟨rfl, h⟩
          · exact Or.inl ⟨_, rfl, h, rfl⟩
          · exact Or.inr ⟨1, rfl, by rw [h]; decide, by decide⟩
  · rw [← j4] at ho
    refine ⟨.inr 2, x, y, t, k, b, 0, up2 σ 0 0 1, ?_, ?_, hI.code 1, Or.inr ⟨2, rfl, rfl, by decide⟩⟩
    · rewrite [f_X4_constant]
      repeat (first | with_reducible refine bnE ?_ | with_reducible refine exI ?_ | with_reducible refine exJ ?_ | with_reducible refine bs (hb) ?_ | ((with_reducible refine iN ?_ ?_); · simp (disch := omega) only [ltL, Llt, leL, Lle, eqL, addL, Ladd, subL, subN, decN, eqM, Mle, mulL, nI_add, nI_ltI, nI_leI, nI_eq, nI_clamp, up2_at, nltT, nltF, nleT, nleF, neqT, neqF, ↓reduceIte, true_or, or_true, false_or, or_false, or_self, true_and, and_true, false_and, and_false, and_self, not_true, not_false_eq_true, i10, i01, im0, im12, im21, m1lt, m2lt, m1le, m2le, i00, i0le0, i1le0, i2le0, i3le0, eq_self]) | ((with_reducible refine ip ?_ ?_); · simp (disch := omega) only [ltL, Llt, leL, Lle, eqL, addL, Ladd, subL, subN, decN, eqM, Mle, mulL, nI_add, nI_ltI, nI_leI, nI_eq, nI_clamp, up2_at, nltT, nltF, nleT, nleF, neqT, neqF, ↓reduceIte, true_or, or_true, false_or, or_false, or_self, true_and, and_true, false_and, and_false, and_self, not_true, not_false_eq_true, i10, i01, im0, im12, im21, m1lt, m2lt, m1le, m2le, i00, i0le0, i1le0, i2le0, i3le0, eq_self]))
      rfl
    · rewrite [f_X5_constant]
      repeat (first | with_reducible refine bnE ?_ | with_reducible refine exI ?_ | with_reducible refine exJ ?_ | with_reducible refine bs (ho) ?_ | with_reducible refine bs (hfail (up2 σ 0 0 0) 1) ?_ | ((with_reducible refine iN ?_ ?_); · simp (disch := omega) only [ltL, Llt, leL, Lle, eqL, addL, Ladd, subL, subN, decN, eqM, Mle, mulL, nI_add, nI_ltI, nI_leI, nI_eq, nI_clamp, up2_at, nltT, nltF, nleT, nleF, neqT, neqF, ↓reduceIte, true_or, or_true, false_or, or_false, or_self, true_and, and_true, false_and, and_false, and_self, not_true, not_false_eq_true, i10, i01, im0, im12, im21, m1lt, m2lt, m1le, m2le, i00, i0le0, i1le0, i2le0, i3le0, eq_self]) | ((with_reducible refine ip ?_ ?_); · simp (disch := omega) only [ltL, Llt, leL, Lle, eqL, addL, Ladd, subL, subN, decN, eqM, Mle, mulL, nI_add, nI_ltI, nI_leI, nI_eq, nI_clamp, up2_at, nltT, nltF, nleT, nleF, neqT, neqF, ↓reduceIte, true_or, or_true, false_or, or_false, or_self, true_and, and_true, false_and, and_false, and_self, not_true, not_false_eq_true, i10, i01, im0, im12, im21, m1lt, m2lt, m1le, m2le, i00, i0le0, i1le0, i2le0, i3le0, eq_self]))
      rw [two]
