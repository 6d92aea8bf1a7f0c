/-! PURE: match, a free variable of the pattern -/
theorem take_none {N f a : Nat} {σ : St} {x2 x3 : Int32} {P : Nat → Prop} (hf : f ≤ 2000) (ha : a < 34100) (h26 : σ 26 0 = nI f) (hv : ∀ i, i < f → ¬ P i → f_X5_isVariable N σ (σ 27 i) (σ 20 a) (σ 21 a) = some (0, σ)) : ∀ d z fuel, z + d = f → d < fuel → (∀ i, z ≤ i → i < f → ¬ P i) → f_X5_takesPart_33 N fuel σ (nI a) x2 x3 (nI z) = some (1, up2 (up2 (up2 (up2 σ 27 f (nI a)) 28 f x2) 29 f (x3 - x2)) 26 0 (nI (f + 1))) := by
  intro d
  induction d with
  | zero =>
    intro z fuel hz hfu hn
    obtain ⟨fuel, rfl⟩ : ∃ z, fuel = z + 1 := ⟨fuel - 1, by omega⟩
    rewrite [f_X5_takesPart_33]
    repeat (first | with_reducible refine bnE ?_ | with_reducible refine exI ?_ | with_reducible refine exJ ?_ | ((with_reducible refine iN ?_ ?_); · simp (disch := omega) only [ltL, Llt, leL, Lle, eqL, addL, Ladd, subL, subN, decN, eqM, Mle, mulL, nI_add, nI_ltI, nI_leI, nI_eq, nI_clamp, up2_at, nltT, nltF, nleT, nleF, neqT, neqF, ↓reduceIte, true_or, or_true, false_or, or_false, or_self, true_and, and_true, false_and, and_false, and_self, not_true, not_false_eq_true, i10, i01, im0, im12, im21, m1lt, m2lt, m1le, m2le, i00, i0le0, i1le0, i2le0, i3le0, eq_self, h26]) | ((with_reducible refine ip ?_ ?_); · simp (disch := omega) only [ltL, Llt, leL, Lle, eqL, addL, Ladd, subL, subN, decN, eqM, Mle, mulL, nI_add, nI_ltI, nI_leI, nI_eq, nI_clamp, up2_at, nltT, nltF, nleT, nleF, neqT, neqF, ↓reduceIte, true_or, or_true, false_or, or_false, or_self, true_and, and_true, false_and, and_false, and_self, not_true, not_false_eq_true, i10, i01, im0, im12, im21, m1lt, m2lt, m1le, m2le, i00, i0le0, i1le0, i2le0, i3le0, eq_self, h26]))
    simp (disch := omega) only [ltL, Llt, leL, Lle, eqL, addL, Ladd, subL, subN, decN, eqM, Mle, mulL, nI_add, nI_ltI, nI_leI, nI_eq, nI_clamp, up2_at, nltT, nltF, nleT, nleF, neqT, neqF, ↓reduceIte, true_or, or_true, false_or, or_false, or_self, true_and, and_true, false_and, and_false, and_self, not_true, not_false_eq_true, i10, i01, im0, im12, im21, m1lt, m2lt, m1le, m2le, i00, i0le0, i1le0, i2le0, i3le0, eq_self, h26]
  | succ d ih =>
    intro z fuel hz hfu hn
    obtain ⟨fuel, rfl⟩ : ∃ z, fuel = z + 1 := ⟨fuel - 1, by omega⟩
    have hv' := hv z (by omega) (hn z (Nat.le_refl _) (by omega))
    rewrite [f_X5_takesPart_33]
    repeat (first | with_reducible refine bnE ?_ | with_reducible refine exI ?_ | with_reducible refine exJ ?_ | ((with_reducible refine iN ?_ ?_); · simp (disch := omega) only [ltL, Llt, leL, Lle, eqL, addL, Ladd, subL, subN, decN, eqM, Mle, mulL, nI_add, nI_ltI, nI_leI, nI_eq, nI_clamp, up2_at, nltT, nltF, nleT, nleF, neqT, neqF, ↓reduceIte, true_or, or_true, false_or, or_false, or_self, true_and, and_true, false_and, and_false, and_self, not_true, not_false_eq_true, i10, i01, im0, im12, im21, m1lt, m2lt, m1le, m2le, i00, i0le0, i1le0, i2le0, i3le0, eq_self, h26]) | ((with_reducible refine ip ?_ ?_); · simp (disch := omega) only [ltL, Llt, leL, Lle, eqL, addL, Ladd, subL, subN, decN, eqM, Mle, mulL, nI_add, nI_ltI, nI_leI, nI_eq, nI_clamp, up2_at, nltT, nltF, nleT, nleF, neqT, neqF, ↓reduceIte, true_or, or_true, false_or, or_false, or_self, true_and, and_true, false_and, and_false, and_self, not_true, not_false_eq_true, i10, i01, im0, im12, im21, m1lt, m2lt, m1le, m2le, i00, i0le0, i1le0, i2le0, i3le0, eq_self, h26]) | ((with_reducible apply bs); · ((try simp (disch := omega) only [ltL, Llt, leL, Lle, eqL, addL, Ladd, subL, subN, decN, eqM, Mle, mulL, nI_add, nI_ltI, nI_leI, nI_eq, nI_clamp, up2_at, nltT, nltF, nleT, nleF, neqT, neqF, ↓reduceIte, true_or, or_true, false_or, or_false, or_self, true_and, and_true, false_and, and_false, and_self, not_true, not_false_eq_true, i10, i01, im0, im12, im21, m1lt, m2lt, m1le, m2le, i00, i0le0, i1le0, i2le0, i3le0, eq_self, h26]); exact hv')))
    simp (disch := omega) only [ltL, Llt, leL, Lle, eqL, addL, Ladd, subL, subN, decN, eqM, Mle, mulL, nI_add, nI_ltI, nI_leI, nI_eq, nI_clamp, up2_at, nltT, nltF, nleT, nleF, neqT, neqF, ↓reduceIte, true_or, or_true, false_or, or_false, or_self, true_and, and_true, false_and, and_false, and_self, not_true, not_false_eq_true, i10, i01, im0, im12, im21, m1lt, m2lt, m1le, m2le, i00, i0le0, i1le0, i2le0, i3le0, eq_self, ]
    exact ih (z + 1) fuel (by omega) (by omega) (fun i h1 h2 => hn i (by omega) h2)
theorem take_some {N f a j : Nat} {σ : St} {x2 x3 : Int32} {P : Nat → Prop} (hf : f ≤ 2000) (ha : a < 34100) (h26 : σ 26 0 = nI f) (hv : ∀ i, i < f → ¬ P i → f_X5_isVariable N σ (σ 27 i) (σ 20 a) (σ 21 a) = some (0, σ)) (hj : j < f) (hv2 : f_X5_isVariable N σ (σ 27 j) (σ 20 a) (σ 21 a) = some (1, σ)) : ∀ d z fuel, z + d = j → d < fuel → (∀ i, z ≤ i → i < j → ¬ P i) → f_X5_takesPart_33 N fuel σ (nI a) x2 x3 (nI z) = if σ 29 j = x3 - x2 then (f_X5_areAlike N σ (σ 28 j) x2 (x3 - x2)).bind (fun q9 => if q9.1 = 0 then f_X5_takesPart_103 N q9.2 else f_X5_takesPart_104 N q9.2 1) else f_X5_takesPart_103 N σ := by
  intro d
  induction d with
  | zero =>
    intro z fuel hz hfu hn
    obtain ⟨fuel, rfl⟩ : ∃ z, fuel = z + 1 := ⟨fuel - 1, by omega⟩
    obtain rfl : z = j := by omega
    have hcl : (nI z).toNatClampNeg = z := nI_clamp (by omega)
    have hin : ¬ (nI z < 0 ∨ 4000 ≤ (nI z).toNatClampNeg) := nI_in (by omega) (by omega)
    rewrite [f_X5_takesPart_33]
    repeat (first | with_reducible refine bnE ?_ | with_reducible refine exI ?_ | with_reducible refine exJ ?_ | ((with_reducible refine iN ?_ ?_); · simp (disch := omega) only [ltL, Llt, leL, Lle, eqL, addL, Ladd, subL, subN, decN, eqM, Mle, mulL, nI_add, nI_ltI, nI_leI, nI_eq, nI_clamp, up2_at, nltT, nltF, nleT, nleF, neqT, neqF, ↓reduceIte, true_or, or_true, false_or, or_false, or_self, true_and, and_true, false_and, and_false, and_self, not_true, not_false_eq_true, i10, i01, im0, im12, im21, m1lt, m2lt, m1le, m2le, i00, i0le0, i1le0, i2le0, i3le0, eq_self, h26]) | ((with_reducible refine ip ?_ ?_); · simp (disch := omega) only [ltL, Llt, leL, Lle, eqL, addL, Ladd, subL, subN, decN, eqM, Mle, mulL, nI_add, nI_ltI, nI_leI, nI_eq, nI_clamp, up2_at, nltT, nltF, nleT, nleF, neqT, neqF, ↓reduceIte, true_or, or_true, false_or, or_false, or_self, true_and, and_true, false_and, and_false, and_self, not_true, not_false_eq_true, i10, i01, im0, im12, im21, m1lt, m2lt, m1le, m2le, i00, i0le0, i1le0, i2le0, i3le0, eq_self, h26]) | ((with_reducible apply bs); · ((try simp (disch := omega) only [ltL, Llt, leL, Lle, eqL, addL, Ladd, subL, subN, decN, eqM, Mle, mulL, nI_add, nI_ltI, nI_leI, nI_eq, nI_clamp, up2_at, nltT, nltF, nleT, nleF, neqT, neqF, ↓reduceIte, true_or, or_true, false_or, or_false, or_self, true_and, and_true, false_and, and_false, and_self, not_true, not_false_eq_true, i10, i01, im0, im12, im21, m1lt, m2lt, m1le, m2le, i00, i0le0, i1le0, i2le0, i3le0, eq_self, h26]); exact hv2)))
    by_cases q : σ 29 z = x3 - x2
    · rewrite [if_pos q]
      refine ip (by rw [hcl]; exact q) ?_
      refine iN hin ?_
      rewrite [hcl]
      rfl
    · rewrite [if_neg q]
      exact iN (by rw [hcl]; exact q) rfl
  | succ d ih =>
    intro z fuel hz hfu hn
    obtain ⟨fuel, rfl⟩ : ∃ z, fuel = z + 1 := ⟨fuel - 1, by omega⟩
    have hv' := hv z (by omega) (hn z (Nat.le_refl _) (by omega))
    rewrite [f_X5_takesPart_33]
    repeat (first | with_reducible refine bnE ?_ | with_reducible refine exI ?_ | with_reducible refine exJ ?_ | ((with_reducible refine iN ?_ ?_); · simp (disch := omega) only [ltL, Llt, leL, Lle, eqL, addL, Ladd, subL, subN, decN, eqM, Mle, mulL, nI_add, nI_ltI, nI_leI, nI_eq, nI_clamp, up2_at, nltT, nltF, nleT, nleF, neqT, neqF, ↓reduceIte, true_or, or_true, false_or, or_false, or_self, true_and, and_true, false_and, and_false, and_self, not_true, not_false_eq_true, i10, i01, im0, im12, im21, m1lt, m2lt, m1le, m2le, i00, i0le0, i1le0, i2le0, i3le0, eq_self, h26]) | ((with_reducible refine ip ?_ ?_); · simp (disch := omega) only [ltL, Llt, leL, Lle, eqL, addL, Ladd, subL, subN, decN, eqM, Mle, mulL, nI_add, nI_ltI, nI_leI, nI_eq, nI_clamp, up2_at, nltT, nltF, nleT, nleF, neqT, neqF, ↓reduceIte, true_or, or_true, false_or, or_false, or_self, true_and, and_true, false_and, and_false, and_self, not_true, not_false_eq_true, i10, i01, im0, im12, im21, m1lt, m2lt, m1le, m2le, i00, i0le0, i1le0, i2le0, i3le0, eq_self, h26]) | ((with_reducible apply bs); · ((try simp (disch := omega) only [ltL, Llt, leL, Lle, eqL, addL, Ladd, subL, subN, decN, eqM, Mle, mulL, nI_add, nI_ltI, nI_leI, nI_eq, nI_clamp, up2_at, nltT, nltF, nleT, nleF, neqT, neqF, ↓reduceIte, true_or, or_true, false_or, or_false, or_self, true_and, and_true, false_and, and_false, and_self, not_true, not_false_eq_true, i10, i01, im0, im12, im21, m1lt, m2lt, m1le, m2le, i00, i0le0, i1le0, i2le0, i3le0, eq_self, h26]); exact hv')))
    simp (disch := omega) only [ltL, Llt, leL, Lle, eqL, addL, Ladd, subL, subN, decN, eqM, Mle, mulL, nI_add, nI_ltI, nI_leI, nI_eq, nI_clamp, up2_at, nltT, nltF, nleT, nleF, neqT, neqF, ↓reduceIte, true_or, or_true, false_or, or_false, or_self, true_and, and_true, false_and, and_false, and_self, not_true, not_false_eq_true, i10, i01, im0, im12, im21, m1lt, m2lt, m1le, m2le, i00, i0le0, i1le0, i2le0, i3le0, eq_self, ]
    exact ih (z + 1) fuel (by omega) (by omega) (fun i h1 h2 => hn i (by omega) h2)
theorem mfree {N w n q u f m a a' b' c R h' : Nat} {s hs : Nat → Nat} {x yb σb t k y b σ : St} (hN : 34100 < N) (hw : w < 512) (I : I1 n (x 3) q yb σb) (i2 : I2 q x σb) (i5 : I5 w m s n yb t σb) (h : MaI n u f m s hs yb σb t y b σ) (ha : a < s m) (hc : c < 1000) (ec : t 0 a = nI (4 * c + 1)) (T : Tm (t 0) R h' a' b') (hb' : b' ≤ s m) (hh : h' ≤ 120) (hlen : b' - a' ≤ 4000) (hf : f < 2000) :
    ∃ r y' bb σ' k', (r = 0 ∨ r = 1) ∧ f_X4_behindFitting N x y t k b (nI a) (nI a') = some ((if r = 0 then -1 else nI b'), (x, y', t, k', bb)) ∧ f_X5_takesPart N σ (nI a) (nI a') (nI b') = some (r, σ') ∧ (r = 0 → MF u yb σb y' bb σ') ∧ (r = 1 → ∃ f' hs', MaI n u f' m s hs' yb σb t y' bb σ' ∧ f' ≤ f + 1) := by
  have hl := T.lt
  have hS := i5.2.2.2.2.1
  have hn := I.1.1
  obtain ⟨m1, m2, m3, m4, m5, m6, m7, m8⟩ := id h
  obtain ⟨kk1, t5, -, -, -, k6, -⟩ := id i5
  have t2 := (k6 m (Nat.le_refl _)).1
  obtain ⟨sa1, sa2, sa3⟩ := i5.src ha
  obtain ⟨sc1, sc2, sc3⟩ := i5.src (by omega : a' < s m)
  have r20 : σ 20 = σb 20 := m2 20 (by decide) (by decide) (by decide) (by decide) (by decide) (by decide) (by decide) (by decide)
  have r21 : σ 21 = σb 21 := m2 21 (by decide) (by decide) (by decide) (by decide) (by decide) (by decide) (by decide) (by decide)
  have ca := code_ok (N := N) (t := t) (k := k) (by omega : a < 30000)
  rw [ec] at ca
  obtain ⟨⟨a1, ha1, ea1⟩, ⟨b1, hb1, eb1⟩, et1⟩ := id sa2
  obtain ⟨⟨c1, hc1, ec1⟩, ⟨d1, hd1, ed1⟩, et2⟩ := id sc2
  rw [ea1, eb1] at et1
  rw [ec1, ed1] at et2
  have s21a : σ 21 a = nI b1 := by rw [r21]; exact eb1
  have s21c : σ 21 a' = nI d1 := by rw [r21]; exact ed1
  have isfree : f_X4_isOf N 1 (nI (4 * c + 1)) = some (1, ()) := by
    have := isOf_ok (N := N) (v := 4 * c + 1) (k := 1) (by omega) (by omega)
    rw [if_pos (by omega)] at this; exact this
  -- the class, once its binding has spoken
  have toB : ∀ {v : Int32} {y' k' bb : St}, f_X4_behindBinding N x y t k b (nI a) (nI a') = some (v, (x, y', t, k', bb)) → f_X4_behindFitting N x y t k b (nI a) (nI a') = some (v, (x, y', t, k', bb)) := by
    intro v y' k' bb hB
    rewrite [f_X4_behindFitting]
    repeat (first | with_reducible refine bnE ?_ | with_reducible refine exI ?_ | with_reducible refine exJ ?_ | with_reducible refine bs (ca) ?_ | with_reducible refine bs (isfree) ?_ | with_reducible refine bs (hB) ?_ | ((with_reducible refine iN ?_ ?_); · simp (disch := omega) only [ltL, Llt, leL, Lle, eqL, addL, Ladd, subL, subN, decN, eqM, Mle, mulL, nI_add, nI_ltI, nI_leI, nI_eq, nI_clamp, up2_at, nltT, nltF, nleT, nleF, neqT, neqF, ↓reduceIte, true_or, or_true, false_or, or_false, or_self, true_and, and_true, false_and, and_false, and_self, not_true, not_false_eq_true, i10, i01, im0, im12, im21, m1lt, m2lt, m1le, m2le, i00, i0le0, i1le0, i2le0, i3le0, eq_self]) | ((with_reducible refine ip ?_ ?_); · simp (disch := omega) only [ltL, Llt, leL, Lle, eqL, addL, Ladd, subL, subN, decN, eqM, Mle, mulL, nI_add, nI_ltI, nI_leI, nI_eq, nI_clamp, up2_at, nltT, nltF, nleT, nleF, neqT, neqF, ↓reduceIte, true_or, or_true, false_or, or_false, or_self, true_and, and_true, false_and, and_false, and_self, not_true, not_false_eq_true, i10, i01, im0, im12, im21, m1lt, m2lt, m1le, m2le, i00, i0le0, i1le0, i2le0, i3le0, eq_self]))
    rfl
  -- the reference asks first
  have ask := h.ask hN I i2.2.1 ha1 hb1 hc1 hd1 et1 et2
  have hin1 : ¬ (nI a < 0 ∨ 34100 ≤ (nI a).toNatClampNeg) := nI_in (by omega) (by omega)
  have hin2 : ¬ (nI a' < 0 ∨ 34100 ≤ (nI a').toNatClampNeg) := nI_in (by omega) (by omega)
  have toT : ∀ {v : Int32} {σ1 : St}, f_X5_fits N σ (nI b1) (nI d1) = some (v, σ1) → f_X5_takesPart N σ (nI a) (nI a') (nI b') = if v = 0 then f_X5_takesPart_28 N σ1 else (f_X5_isClosed N σ1 (nI a') (nI b')).bind (fun q3 => if q3.1 = 0 then f_X5_takesPart_28 N q3.2 else f_X5_takesPart_33 N N q3.2 (nI a) (nI a') (nI b') 0) := by
    intro v σ1 hq
    rewrite [f_X5_takesPart]
    refine iN hin1 (iN hin2 ?_)
    rewrite [nI_clamp (by omega : a < 2 ^ 31), nI_clamp (by omega : a' < 2 ^ 31), s21a, s21c]
    exact bs hq rfl
  -- an answer of the reference's closedness
  have clos : ∀ {σ1 : St}, SM σb σ1 → (Tm (t 0) 0 h' a' b' ∧ ∃ σ', f_X5_isClosed N σ1 (nI a') (nI b') = some (1, σ') ∧ ∀ r, r ≠ 24 → σ' r = σ1 r) ∨ (¬ Tm (t 0) 0 h' a' b' ∧ ∃ σ', f_X5_isClosed N σ1 (nI a') (nI b') = some (0, σ') ∧ ∀ r, r ≠ 24 → σ' r = σ1 r) := by
    intro σ1 hs1
    have r20' : σ1 20 = σb 20 := hs1 20 (by decide) (by decide) (by decide) (by decide) (by decide) (by decide) (by decide) (by decide)
    have cg : ∀ z, a' ≤ z → z < b' → σ1 20 z = t 0 z := fun z q1 q2 => by rw [r20']; exact (i5.src (by omega)).1.symm
    have TM' : Tm (σ1 20) R h' a' b' := T.congr cg
    rcases isClosed_ok (N := N) hN TM' (by omega) hh with ⟨g1, σ', g2, g3⟩ | ⟨g1, σ', g2, g3⟩
    · exact Or.inl ⟨g1.congr (fun z q1 q2 => (cg z q1 q2).symm), σ', g2, g3⟩
    · exact Or.inr ⟨fun z => g1 (z.congr cg), σ', g2, g3⟩
  have sm24 : ∀ {σ1 σ2 : St}, SM σb σ1 → (∀ r, r ≠ 24 → σ2 r = σ1 r) → SM σb σ2 := by
    intro σ1 σ2 h1 h2 r r22 r23 r24 r25 r26 r27 r28 r29
    rw [h2 r r24]; exact h1 r r22 r23 r24 r25 r26 r27 r28 r29
  have smF : ∀ {σ1 : St}, SF σb σ1 → SM σb σ1 := by
    intro σ1 h1 r r22 r23 r24 r25 r26 r27 r28 r29
    exact h1 r r22 r23 r25
  rcases endOfClosed_ok (N := N) (k := k) hN t5 (by omega) t2 hS T hb' hh with ⟨hcl, k', hec⟩ | ⟨hncl, k', hec⟩
  · -- closed
    have ca' := code_ok (N := N) (t := t) (k := k') (by omega : a < 30000)
    rw [ec] at ca'
    have ya := sty_ok (N := N) (t := t) (k := k') (by omega : a < 30000)
    rw [ea1] at ya
    have yc := sty_ok (N := N) (t := t) (k := k') (by omega : a' < 30000)
    rw [ec1] at yc
    have nb : ¬ nI b' = -1 := nI_ne_m1 (by omega)
    obtain ⟨rf, hfind, hfc⟩ := find_bt (N := N) hN m5 hc (nI a1)
    -- what the reference's list says of a binding, at a state with the same lists
    have hvar : ∀ {σ1 : St}, SM σb σ1 → (σ1 27 = σ 27) → ∀ i, i < f → f_X5_isVariable N σ1 (σ1 27 i) (σ1 20 a) (σ1 21 a) = some ((if hs i = c ∧ b 1 i = nI a1 then 1 else 0), σ1) := by
      intro σ1 hs1 e27 i hi
      obtain ⟨pos, a2, u2, v2, hh2, p1, p2, p3, p4, p5, p6, -⟩ := m7 i hi
      have r20' : σ1 20 = σb 20 := hs1 20 (by decide) (by decide) (by decide) (by decide) (by decide) (by decide) (by decide) (by decide)
      have r21' : σ1 21 = σb 21 := hs1 21 (by decide) (by decide) (by decide) (by decide) (by decide) (by decide) (by decide) (by decide)
      have := isVarM (N := N) (σ := σ1) (c := σ1 20 a) (ty := σ1 21 a) (by omega : pos < 34100)
      rw [e27, p3, this]
      have hiff := hit_iff I i5 p1 ha
      rw [r20', r21']
      have hb3 := (m5.2.2.1 i hi).1
      have e1 : (σb 20 pos = σb 20 a ∧ σb 21 pos = σb 21 a) ↔ (hs i = c ∧ b 1 i = nI a1) := by
        rw [← hiff, p2, ec, p6, ea1, p5]
        constructor
        · intro ⟨z1, z2⟩
          have := (nI_eq (by omega) (by omega)).mp z1
          exact ⟨by omega, z2⟩
        · intro ⟨z1, z2⟩
          exact ⟨by rw [z1], z2⟩
      by_cases z : hs i = c ∧ b 1 i = nI a1
      · rw [if_pos z, if_pos (e1.mpr z)]
      · rw [if_neg z, if_neg (fun z' => z (e1.mp z'))]
    rcases hfc with ⟨i, hi, hsi, b1i, rfl⟩ | ⟨hnone, rfl⟩
    · -- it became something already
      obtain ⟨pos, a2, u2, v2, hh2, p1, p2, p3, p4, p5, p6, p7, p8, p9, p10, p11, p12, p13, p14, p15, p16⟩ := m7 i hi
      have hl2 := p16.lt
      have ea2 : a2 = a1 := (nI_eq (by omega) (by omega)).mp (p5.symm.trans b1i)
      subst ea2
      have ni : ¬ nI i = -1 := nI_ne_m1 (by omega)
      have hfr : f_X0_from N b (nI i) = some (nI u2, b) := by
        rewrite [f_X0_from, rd_in (by omega : i < 2000) (by omega), p9]; rfl
      have hen : f_X0_end N b (nI i) = some (nI v2, b) := by
        rewrite [f_X0_end, rd_in (by omega : i < 2000) (by omega), p10]; rfl
      have toC : ∀ {r : Int32}, f_X1_alike N t k' (nI u2) (nI v2) (nI a') (nI b') = some (r, (t, k')) → f_X4_behindBinding N x y t k b (nI a) (nI a') = some ((if r = 0 then -1 else nI b'), (x, y, t, k', b)) := by
        intro r hal
        rewrite [f_X4_behindBinding]
        repeat (first | with_reducible refine bnE ?_ | with_reducible refine exI ?_ | with_reducible refine exJ ?_ | with_reducible refine bs (hec) ?_ | with_reducible refine bs (ca') ?_ | with_reducible refine bs (ya) ?_ | with_reducible refine bs (hfind) ?_ | with_reducible refine bs (hfr) ?_ | with_reducible refine bs (hen) ?_ | with_reducible refine bs (hal) ?_ | ((with_reducible refine iN ?_ ?_); · simp (disch := omega) only [ltL, Llt, leL, Lle, eqL, addL, Ladd, subL, subN, decN, eqM, Mle, mulL, nI_add, nI_ltI, nI_leI, nI_eq, nI_clamp, up2_at, nltT, nltF, nleT, nleF, neqT, neqF, ↓reduceIte, true_or, or_true, false_or, or_false, or_self, true_and, and_true, false_and, and_false, and_self, not_true, not_false_eq_true, i10, i01, im0, im12, im21, m1lt, m2lt, m1le, m2le, i00, i0le0, i1le0, i2le0, i3le0, eq_self, nb, ni]) | ((with_reducible refine ip ?_ ?_); · simp (disch := omega) only [ltL, Llt, leL, Lle, eqL, addL, Ladd, subL, subN, decN, eqM, Mle, mulL, nI_add, nI_ltI, nI_leI, nI_eq, nI_clamp, up2_at, nltT, nltF, nleT, nleF, neqT, neqF, ↓reduceIte, true_or, or_true, false_or, or_false, or_self, true_and, and_true, false_and, and_false, and_self, not_true, not_false_eq_true, i10, i01, im0, im12, im21, m1lt, m2lt, m1le, m2le, i00, i0le0, i1le0, i2le0, i3le0, eq_self, nb, ni]))
        by_cases z : r = 0
        · refine ip z ?_
          rw [if_pos z]; rfl
        · refine iN z ?_
          rw [if_neg z]; rfl
      obtain ⟨TMσ, -⟩ := I.2.1.congr (σ' := σ) (by simp (disch := decide) only [up2_row, upR_row, and_self, eq_self, m2])
      have htM := SM.tM m2
      have I' : I1 n (x 3) q yb σ := I1_restore I I.1 TMσ ⟨Nat.le_refl _, fun _ _ => rfl, fun _ _ => by rw [htM]⟩
      obtain ⟨σ1, g1, g2⟩ := fits_memo hN I' i2.2.1 ha1 hb1 hc1 hd1 (by rw [htM]; exact et1) (by rw [htM]; exact et2) (fun _ _ _ _ => rfl) (m4.base htM) p7
      have sm1 : SM σb σ1 := fun r r22 r23 r24 r25 r26 r27 r28 r29 => by rw [g1 r r22 r23 r25]; exact m2 r r22 r23 r24 r25 r26 r27 r28 r29
      rcases g2 with ⟨g2, g3, g4⟩ | ⟨g2, g3⟩
      · -- and of this type
        rcases clos sm1 with ⟨-, σ2, cl1, cl2⟩ | ⟨z, -⟩
        · have sm2 := sm24 sm1 cl2
          have e27 : σ2 27 = σ 27 := by rw [cl2 27 (by decide), g1 27 (by decide) (by decide) (by decide)]
          have e26 : σ2 26 0 = nI f := by rw [cl2 26 (by decide), g1 26 (by decide) (by decide) (by decide)]; exact m6
          have e28 : σ2 28 i = nI u2 := by rw [cl2 28 (by decide), g1 28 (by decide) (by decide) (by decide)]; exact p11
          have e29 : σ2 29 i = nI (v2 - u2) := by rw [cl2 29 (by decide), g1 29 (by decide) (by decide) (by decide)]; exact p12
          have e25 : σ2 25 = σ 25 := by rw [cl2 25 (by decide)]; exact g4
          have hv := hvar sm2 e27
          have hv1 := hv i hi
          rw [if_pos ⟨hsi, b1i⟩] at hv1
          have hsub : nI b' - nI a' = nI (b' - a') := subN (by omega)
          have tk := take_some (N := N) (x2 := nI a') (x3 := nI b') (P := fun l => hs l = c ∧ b 1 l = nI a2) (by omega) (by omega : a < 34100) e26 (fun l hl' hp => by rw [hv l hl', if_neg hp]) hi hv1 i 0 N (by omega) (by omega) (fun l _ hlj hp => by
            have := m8 l i (by omega) hi (hp.1.trans hsi.symm) (hp.2.trans b1i.symm)
            omega)
          rw [e28, e29, hsub] at tk
          have mi2 : MaI n u f m s hs yb σb t y b σ2 := ⟨m1, sm2, m3, m4.row e25, m5, e26, fun l hl' => by
            obtain ⟨pos', a3, u3, v3, hh3, o1, o2, o3, o4, o5, o6, o7, o8, o9, o10, o11, o12, o13⟩ := m7 l hl'
            exact ⟨pos', a3, u3, v3, hh3, o1, o2, by rw [e27]; exact o3, o4, o5, o6, o7, o8, o9, o10, by rw [cl2 28 (by decide), g1 28 (by decide) (by decide) (by decide)]; exact o11, by rw [cl2 29 (by decide), g1 29 (by decide) (by decide) (by decide)]; exact o12, o13⟩, m8⟩
          by_cases hL : v2 - u2 = b' - a'
          · rw [if_pos (by rw [hL])] at tk
            obtain ⟨TMσ2, -⟩ := I.2.1.congr (σ' := σ2) (by simp (disch := decide) only [up2_row, upR_row, and_self, eq_self, sm2])
            have htM2 := SM.tM sm2
            have mo2 : Mo n yb σb n yb σ2 := ⟨Nat.le_refl _, fun _ _ => rfl, fun _ _ => by rw [htM2]⟩
            have I2' : I1 n (x 3) q yb σ2 := I1_restore I I.1 TMσ2 mo2
            have i52 : I5 w m s n yb t σ2 := i5.tr (Nat.le_refl w) mo2 ⟨rfl, by simp (disch := decide) only [up2_row, upR_row, and_self, eq_self, sm2], fun i _ => by simp (disch := decide) only [up2_row, upR_row, and_self, eq_self, sm2], fun _ _ => rfl, fun k _ => by simp (disch := decide) only [up2_row, upR_row, and_self, eq_self, sm2]⟩
            obtain ⟨r, r0, r1, r2⟩ := alike_ok (N := N) (k := k') (u := u2) (u' := a') (len := b' - a') hN I2' i52 (by omega) (by omega)
            have z1 : u2 + (b' - a') = v2 := by omega
            have z2 : a' + (b' - a') = b' := by omega
            rw [z1, z2] at r1
            refine ⟨r, y, b, σ2, k', r0, toB (toC r1), ?_, fun _ => mi2.fail sm2, fun _ => ⟨f, hs, mi2, by omega⟩⟩
            rewrite [toT g2]
            refine iN (show ¬ (1 : Int32) = 0 by decide) (bs cl1 (iN (show ¬ (1 : Int32) = 0 by decide) ?_))
            refine Eq.trans tk (bs r2 ?_)
            rcases r0 with rfl | rfl
            · exact ip rfl rfl
            · exact iN (show ¬ (1 : Int32) = 0 by decide) rfl
          · rw [if_neg (fun z => hL ((nI_eq (by omega) (by omega)).mp z))] at tk
            have hal : f_X1_alike N t k' (nI u2) (nI v2) (nI a') (nI b') = some (0, (t, k')) := by
              rewrite [f_X1_alike, subN (by omega), subN (by omega)]
              exact iN (fun z => hL ((nI_eq (by omega) (by omega)).mp z)) rfl
            refine ⟨0, y, b, σ2, k', Or.inl rfl, toB (toC hal), ?_, fun _ => mi2.fail sm2, fun z => absurd z (by decide)⟩
            rewrite [toT g2]
            refine iN (show ¬ (1 : Int32) = 0 by decide) (bs cl1 (iN (show ¬ (1 : Int32) = 0 by decide) ?_))
            exact tk
        · exact absurd hcl z
      · -- of another type
        have hne : t 1 u2 ≠ t 1 a' := by rw [← p8, ec1]; exact g3
        have hal := alike_ne (k := k') (by omega : u2 < v2) (by omega) (by omega : a' < b') (by omega) hN hne
        refine ⟨0, y, b, σ1, k', Or.inl rfl, toB (toC hal), ?_, fun _ => h.fail sm1, fun z => absurd z (by decide)⟩
        rewrite [toT g2]
        exact ip rfl rfl
    · -- it became nothing yet
      obtain ⟨r, y', σ1, r0, a2, a3, a4, a5⟩ := ask
      rcases r0 with rfl | rfl
      · refine ⟨0, y', b, σ1, k', Or.inl rfl, toB ?_, ?_, fun _ => a4 rfl, fun z => absurd z (by decide)⟩
        · rewrite [f_X4_behindBinding]
          repeat (first | with_reducible refine bnE ?_ | with_reducible refine exI ?_ | with_reducible refine exJ ?_ | with_reducible refine bs (hec) ?_ | with_reducible refine bs (ca') ?_ | with_reducible refine bs (ya) ?_ | with_reducible refine bs (hfind) ?_ | with_reducible refine bs (yc) ?_ | with_reducible refine bs (a2) ?_ | ((with_reducible refine iN ?_ ?_); · simp (disch := omega) only [ltL, Llt, leL, Lle, eqL, addL, Ladd, subL, subN, decN, eqM, Mle, mulL, nI_add, nI_ltI, nI_leI, nI_eq, nI_clamp, up2_at, nltT, nltF, nleT, nleF, neqT, neqF, ↓reduceIte, true_or, or_true, false_or, or_false, or_self, true_and, and_true, false_and, and_false, and_self, not_true, not_false_eq_true, i10, i01, im0, im12, im21, m1lt, m2lt, m1le, m2le, i00, i0le0, i1le0, i2le0, i3le0, eq_self, nb]) | ((with_reducible refine ip ?_ ?_); · simp (disch := omega) only [ltL, Llt, leL, Lle, eqL, addL, Ladd, subL, subN, decN, eqM, Mle, mulL, nI_add, nI_ltI, nI_leI, nI_eq, nI_clamp, up2_at, nltT, nltF, nleT, nleF, neqT, neqF, ↓reduceIte, true_or, or_true, false_or, or_false, or_self, true_and, and_true, false_and, and_false, and_self, not_true, not_false_eq_true, i10, i01, im0, im12, im21, m1lt, m2lt, m1le, m2le, i00, i0le0, i1le0, i2le0, i3le0, eq_self, nb]))
          rfl
        · rewrite [toT a3]
          exact ip rfl rfl
      · obtain ⟨mi1, y8, y7, g1⟩ := a5 rfl
        obtain ⟨n1, sm1, n3, n4, n5, n6, n7, n8⟩ := id mi1
        rcases clos sm1 with ⟨-, σ2, cl1, cl2⟩ | ⟨z, -⟩
        · have sm2 := sm24 sm1 cl2
          have e27 : σ2 27 = σ 27 := by rw [cl2 27 (by decide), g1 27 (by decide) (by decide) (by decide)]
          have e26 : σ2 26 0 = nI f := by rw [cl2 26 (by decide)]; exact n6
          have hv := hvar sm2 e27
          have tk := take_none (N := N) (x2 := nI a') (x3 := nI b') (P := fun l => hs l = c ∧ b 1 l = nI a1) (by omega) (by omega : a < 34100) e26 (fun l hl' hp => by rw [hv l hl', if_neg hp]) f 0 N (by omega) (by omega) (fun l _ hl' hp => hnone l hl' hp.1 hp.2)
          have hsub : nI b' - nI a' = nI (b' - a') := subN (by omega)
          rw [hsub] at tk
          obtain ⟨bb, hadd, hBT, q1, q2, q3, q4, q5⟩ := add_bt (N := N) (nI a1) (nI a') (nI b') m5 hf hc
          refine ⟨1, y', bb, up2 (up2 (up2 (up2 σ2 27 f (nI a)) 28 f (nI a')) 29 f (nI (b' - a'))) 26 0 (nI (f + 1)), k', Or.inr rfl, toB ?_, ?_, fun z => absurd z (by decide), fun _ => ⟨f + 1, fun i => if i = f then c else hs i, ?_, Nat.le_refl _⟩⟩
          · rewrite [f_X4_behindBinding]
            repeat (first | with_reducible refine bnE ?_ | with_reducible refine exI ?_ | with_reducible refine exJ ?_ | with_reducible refine bs (hec) ?_ | with_reducible refine bs (ca') ?_ | with_reducible refine bs (ya) ?_ | with_reducible refine bs (hfind) ?_ | with_reducible refine bs (yc) ?_ | with_reducible refine bs (a2) ?_ | with_reducible refine bs (hadd) ?_ | ((with_reducible refine iN ?_ ?_); · simp (disch := omega) only [ltL, Llt, leL, Lle, eqL, addL, Ladd, subL, subN, decN, eqM, Mle, mulL, nI_add, nI_ltI, nI_leI, nI_eq, nI_clamp, up2_at, nltT, nltF, nleT, nleF, neqT, neqF, ↓reduceIte, true_or, or_true, false_or, or_false, or_self, true_and, and_true, false_and, and_false, and_self, not_true, not_false_eq_true, i10, i01, im0, im12, im21, m1lt, m2lt, m1le, m2le, i00, i0le0, i1le0, i2le0, i3le0, eq_self, nb]) | ((with_reducible refine ip ?_ ?_); · simp (disch := omega) only [ltL, Llt, leL, Lle, eqL, addL, Ladd, subL, subN, decN, eqM, Mle, mulL, nI_add, nI_ltI, nI_leI, nI_eq, nI_clamp, up2_at, nltT, nltF, nleT, nleF, neqT, neqF, ↓reduceIte, true_or, or_true, false_or, or_false, or_self, true_and, and_true, false_and, and_false, and_self, not_true, not_false_eq_true, i10, i01, im0, im12, im21, m1lt, m2lt, m1le, m2le, i00, i0le0, i1le0, i2le0, i3le0, eq_self, nb]))
            rfl
          · rewrite [toT a3]
            refine iN (show ¬ (1 : Int32) = 0 by decide) (bs cl1 (iN (show ¬ (1 : Int32) = 0 by decide) ?_))
            exact tk
          · refine ⟨n1, fun r r22 r23 r24 r25 r26 r27 r28 r29 => ?_, n3, (n4.row ?_), hBT, by simp (disch := omega) only [ltL, Llt, leL, Lle, eqL, addL, Ladd, subL, subN, decN, eqM, Mle, mulL, nI_add, nI_ltI, nI_leI, nI_eq, nI_clamp, up2_at, nltT, nltF, nleT, nleF, neqT, neqF, ↓reduceIte, true_or, or_true, false_or, or_false, or_self, true_and, and_true, false_and, and_false, and_self, not_true, not_false_eq_true, i10, i01, im0, im12, im21, m1lt, m2lt, m1le, m2le, i00, i0le0, i1le0, i2le0, i3le0, eq_self, ], fun l hl' => ?_, fun l l' hl1 hl2' e1 e2 => ?_⟩
            · rw [up2_row r26, up2_row r29, up2_row r28, up2_row r27]; exact sm2 r r22 r23 r24 r25 r26 r27 r28 r29
            · rw [up2_row (by decide), up2_row (by decide), up2_row (by decide), up2_row (by decide), cl2 25 (by decide)]
            · show ∃ pos a1 u1 v1 h1, pos < s m ∧ t 0 pos = nI (4 * (if l = f then c else hs l) + 1) ∧ _
              by_cases e : l = f
              · subst e
                rw [if_pos rfl]
                refine ⟨a, a1, a', b', h', ha, ec, by simp (disch := omega) only [ltL, Llt, leL, Lle, eqL, addL, Ladd, subL, subN, decN, eqM, Mle, mulL, nI_add, nI_ltI, nI_leI, nI_eq, nI_clamp, up2_at, nltT, nltF, nleT, nleF, neqT, neqF, ↓reduceIte, true_or, or_true, false_or, or_false, or_self, true_and, and_true, false_and, and_false, and_self, not_true, not_false_eq_true, i10, i01, im0, im12, im21, m1lt, m2lt, m1le, m2le, i00, i0le0, i1le0, i2le0, i3le0, eq_self, ], ha1, q2, ea1, y8, by rw [y7]; exact ec1.symm, q3, q4, by simp (disch := omega) only [ltL, Llt, leL, Lle, eqL, addL, Ladd, subL, subN, decN, eqM, Mle, mulL, nI_add, nI_ltI, nI_leI, nI_eq, nI_clamp, up2_at, nltT, nltF, nleT, nleF, neqT, neqF, ↓reduceIte, true_or, or_true, false_or, or_false, or_self, true_and, and_true, false_and, and_false, and_self, not_true, not_false_eq_true, i10, i01, im0, im12, im21, m1lt, m2lt, m1le, m2le, i00, i0le0, i1le0, i2le0, i3le0, eq_self, ], by simp (disch := omega) only [ltL, Llt, leL, Lle, eqL, addL, Ladd, subL, subN, decN, eqM, Mle, mulL, nI_add, nI_ltI, nI_leI, nI_eq, nI_clamp, up2_at, nltT, nltF, nleT, nleF, neqT, neqF, ↓reduceIte, true_or, or_true, false_or, or_false, or_self, true_and, and_true, false_and, and_false, and_self, not_true, not_false_eq_true, i10, i01, im0, im12, im21, m1lt, m2lt, m1le, m2le, i00, i0le0, i1le0, i2le0, i3le0, eq_self, ], hb', hlen, hh, hcl⟩
              · rw [if_neg e]
                obtain ⟨pos', a3', u3, v3, hh3, o1, o2, o3, o4, o5, o6, o7, o8, o9, o10, o11, o12, o13⟩ := n7 l (by omega)
                obtain ⟨w1, w2, w3, w4⟩ := q5 l (by omega)
                refine ⟨pos', a3', u3, v3, hh3, o1, o2, ?_, o4, by rw [w2]; exact o5, o6, o7, o8, by rw [w3]; exact o9, by rw [w4]; exact o10, ?_, ?_, o13⟩
                · rw [← o3, ← cl2 27 (by decide)]; simp (disch := omega) only [ltL, Llt, leL, Lle, eqL, addL, Ladd, subL, subN, decN, eqM, Mle, mulL, nI_add, nI_ltI, nI_leI, nI_eq, nI_clamp, up2_at, nltT, nltF, nleT, nleF, neqT, neqF, ↓reduceIte, true_or, or_true, false_or, or_false, or_self, true_and, and_true, false_and, and_false, and_self, not_true, not_false_eq_true, i10, i01, im0, im12, im21, m1lt, m2lt, m1le, m2le, i00, i0le0, i1le0, i2le0, i3le0, eq_self, e]
                · rw [← o11, ← cl2 28 (by decide)]; simp (disch := omega) only [ltL, Llt, leL, Lle, eqL, addL, Ladd, subL, subN, decN, eqM, Mle, mulL, nI_add, nI_ltI, nI_leI, nI_eq, nI_clamp, up2_at, nltT, nltF, nleT, nleF, neqT, neqF, ↓reduceIte, true_or, or_true, false_or, or_false, or_self, true_and, and_true, false_and, and_false, and_self, not_true, not_false_eq_true, i10, i01, im0, im12, im21, m1lt, m2lt, m1le, m2le, i00, i0le0, i1le0, i2le0, i3le0, eq_self, e]
                · rw [← o12, ← cl2 29 (by decide)]; simp (disch := omega) only [ltL, Llt, leL, Lle, eqL, addL, Ladd, subL, subN, decN, eqM, Mle, mulL, nI_add, nI_ltI, nI_leI, nI_eq, nI_clamp, up2_at, nltT, nltF, nleT, nleF, neqT, neqF, ↓reduceIte, true_or, or_true, false_or, or_false, or_self, true_and, and_true, false_and, and_false, and_self, not_true, not_false_eq_true, i10, i01, im0, im12, im21, m1lt, m2lt, m1le, m2le, i00, i0le0, i1le0, i2le0, i3le0, eq_self, e]
            · have e1' : (if l = f then c else hs l) = (if l' = f then c else hs l') := e1
              by_cases z1 : l = f
              · by_cases z2 : l' = f
                · omega
                · rw [if_pos z1, if_neg z2] at e1'
                  rw [z1, q2, (q5 l' (by omega)).2.1] at e2
                  exact absurd e2.symm (hnone l' (by omega) e1'.symm)
              · by_cases z2 : l' = f
                · rw [if_neg z1, if_pos z2] at e1'
                  rw [z2, q2, (q5 l (by omega)).2.1] at e2
                  exact absurd e2 (hnone l (by omega) e1')
                · rw [if_neg z1, if_neg z2] at e1'
                  rw [(q5 l (by omega)).2.1, (q5 l' (by omega)).2.1] at e2
                  exact m8 l l' (by omega) (by omega) e1' e2
        · exact absurd hcl z
  · -- not closed
    have hB : f_X4_behindBinding N x y t k b (nI a) (nI a') = some (-1, (x, y, t, k', b)) := by
      rewrite [f_X4_behindBinding]
      repeat (first | with_reducible refine bnE ?_ | with_reducible refine exI ?_ | with_reducible refine exJ ?_ | with_reducible refine bs (hec) ?_ | ((with_reducible refine iN ?_ ?_); · simp (disch := omega) only [ltL, Llt, leL, Lle, eqL, addL, Ladd, subL, subN, decN, eqM, Mle, mulL, nI_add, nI_ltI, nI_leI, nI_eq, nI_clamp, up2_at, nltT, nltF, nleT, nleF, neqT, neqF, ↓reduceIte, true_or, or_true, false_or, or_false, or_self, true_and, and_true, false_and, and_false, and_self, not_true, not_false_eq_true, i10, i01, im0, im12, im21, m1lt, m2lt, m1le, m2le, i00, i0le0, i1le0, i2le0, i3le0, eq_self]) | ((with_reducible refine ip ?_ ?_); · simp (disch := omega) only [ltL, Llt, leL, Lle, eqL, addL, Ladd, subL, subN, decN, eqM, Mle, mulL, nI_add, nI_ltI, nI_leI, nI_eq, nI_clamp, up2_at, nltT, nltF, nleT, nleF, neqT, neqF, ↓reduceIte, true_or, or_true, false_or, or_false, or_self, true_and, and_true, false_and, and_false, and_self, not_true, not_false_eq_true, i10, i01, im0, im12, im21, m1lt, m2lt, m1le, m2le, i00, i0le0, i1le0, i2le0, i3le0, eq_self]))
      rfl
    obtain ⟨r, y', σ1, r0, a2, a3, a4, a5⟩ := ask
    have sm1 : SM σb σ1 := by
      rcases r0 with rfl | rfl
      · exact (a4 rfl).2.1
      · exact (a5 rfl).1.2.1
    rcases r0 with rfl | rfl
    · refine ⟨0, y, b, σ1, k', Or.inl rfl, toB hB, ?_, fun _ => h.fail sm1, fun z => absurd z (by decide)⟩
      rewrite [toT a3]
      exact ip rfl rfl
    · rcases clos sm1 with ⟨z, -⟩ | ⟨-, σ2, cl1, cl2⟩
      · exact absurd z hncl
      · refine ⟨0, y, b, σ2, k', Or.inl rfl, toB hB, ?_, fun _ => h.fail (sm24 sm1 cl2), fun z => absurd z (by decide)⟩
        rewrite [toT a3]
        refine iN (show ¬ (1 : Int32) = 0 by decide) (bs cl1 (ip rfl ?_))
        rfl
