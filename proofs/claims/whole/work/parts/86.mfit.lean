/-! PURE: match, a symbol that is no free variable -/
theorem mfit {N w n q u f m a c : Nat} {s hs : Nat → Nat} {x yb σb t k y b σ : St} (hN : 34100 < N) (hw : w < 512) (I : I1 n (x 3) q yb σb) (i2 : I2 q x σb) (i5 : I5 w m s n yb t σb) (h : MaI n u f m s hs yb σb t y b σ) (ha : a < s m) (hc : c < s m) (hno : t 0 a = -1 ∨ t 0 a = -2 ∨ ∃ v, v < 4000 ∧ t 0 a = nI v ∧ v % 4 ≠ 1) :
    ∃ r y' σ', (r = 0 ∨ r = 1) ∧ f_X4_behindFitting N x y t k b (nI a) (nI c) = some ((if r = 0 then -1 else nI (c + 1)), (x, y', t, k, b)) ∧ f_X5_isFit N σ (nI a) (nI c) = some (r, σ') ∧ (r = 0 → MF u yb σb y' b σ') ∧ (r = 1 → MaI n u f m s hs yb σb t y' b σ' ∧ t 0 a = t 0 c) := by
  have hS := i5.2.2.2.2.1
  have hn := I.1.1
  obtain ⟨m1, m2, m3, -⟩ := id h
  obtain ⟨sa1, sa2, sa3⟩ := i5.src ha
  obtain ⟨sc1, sc2, sc3⟩ := i5.src hc
  have r20 : σ 20 = σb 20 := m2 20 (by decide) (by decide) (by decide) (by decide) (by decide) (by decide) (by decide) (by decide)
  have r21 : σ 21 = σb 21 := m2 21 (by decide) (by decide) (by decide) (by decide) (by decide) (by decide) (by decide) (by decide)
  have r7 : σ 7 = σb 7 := m2 7 (by decide) (by decide) (by decide) (by decide) (by decide) (by decide) (by decide) (by decide)
  have ca := code_ok (N := N) (t := t) (k := k) (by omega : a < 30000)
  have cc := code_ok (N := N) (t := t) (k := k) (by omega : c < 30000)
  have ya := sty_ok (N := N) (t := t) (k := k) (by omega : a < 30000)
  have yc := sty_ok (N := N) (t := t) (k := k) (by omega : c < 30000)
  obtain ⟨⟨a1, ha1, ea1⟩, ⟨b1, hb1, eb1⟩, et1⟩ := id sa2
  obtain ⟨⟨c1, hc1, ec1⟩, ⟨d1, hd1, ed1⟩, et2⟩ := id sc2
  rw [ea1, eb1] at et1
  rw [ec1, ed1] at et2
  rw [ea1] at ya
  rw [ec1] at yc
  have s20a : σ 20 a = t 0 a := by rw [r20]; exact sa1.symm
  have s20c : σ 20 c = t 0 c := by rw [r20]; exact sc1.symm
  have s21a : σ 21 a = nI b1 := by rw [r21]; exact eb1
  have s21c : σ 21 c = nI d1 := by rw [r21]; exact ed1
  have isfree : f_X4_isOf N 1 (t 0 a) = some (0, ()) := by
    rcases hno with e | e | ⟨v, hv, e, hk⟩
    · rw [e]; exact isOf_neg (by decide)
    · rw [e]; exact isOf_neg (by decide)
    · rw [e]
      have := isOf_ok (N := N) (v := v) (k := 1) (by omega) (by omega)
      rw [if_neg hk] at this; exact this
  by_cases heq : t 0 a = t 0 c
  · have heqM : σ 20 a = σ 20 c := by rw [s20a, s20c]; exact heq
    rcases hno with e | e | ⟨v, hv, e, hk⟩
    · -- an application
      refine ⟨1, y, σ, Or.inr rfl, ?_, ?_, fun q => absurd q (by decide), fun _ => ⟨h, heq⟩⟩
      · have o2 : f_X4_isOf N 2 (t 0 a) = some (0, ()) := by rw [e]; exact isOf_neg (by decide)
        have ne2 : ¬ t 0 a = -2 := by rw [e]; decide
        rewrite [f_X4_behindFitting]
        repeat (first | with_reducible refine bnE ?_ | with_reducible refine exI ?_ | with_reducible refine exJ ?_ | with_reducible refine bs (ca) ?_ | with_reducible refine bs (isfree) ?_ | with_reducible refine bs (cc) ?_ | with_reducible refine bs (ya) ?_ | with_reducible refine bs (yc) ?_ | ((with_reducible refine iN ?_ ?_); · simp (disch := omega) only [ltL, Llt, leL, Lle, eqL, addL, Ladd, subL, subN, decN, eqM, Mle, mulL, nI_add, nI_ltI, nI_leI, nI_eq, nI_clamp, up2_at, nltT, nltF, nleT, nleF, neqT, neqF, ↓reduceIte, true_or, or_true, false_or, or_false, or_self, true_and, and_true, false_and, and_false, and_self, not_true, not_false_eq_true, i10, i01, im0, im12, im21, m1lt, m2lt, m1le, m2le, i00, i0le0, i1le0, i2le0, i3le0, eq_self, heq]) | ((with_reducible refine ip ?_ ?_); · simp (disch := omega) only [ltL, Llt, leL, Lle, eqL, addL, Ladd, subL, subN, decN, eqM, Mle, mulL, nI_add, nI_ltI, nI_leI, nI_eq, nI_clamp, up2_at, nltT, nltF, nleT, nleF, neqT, neqF, ↓reduceIte, true_or, or_true, false_or, or_false, or_self, true_and, and_true, false_and, and_false, and_self, not_true, not_false_eq_true, i10, i01, im0, im12, im21, m1lt, m2lt, m1le, m2le, i00, i0le0, i1le0, i2le0, i3le0, eq_self, heq]))
        refine iN ne2 (bs o2 ?_)
        refine ip rfl ?_
        rewrite [f_X4_behindFitting_118]
        refine iN (show ¬ (1 : Int32) = 0 by decide) ?_
        rewrite [f_X4_behindFitting_130]
        simp (disch := omega) only [ltL, Llt, leL, Lle, eqL, addL, Ladd, subL, subN, decN, eqM, Mle, mulL, nI_add, nI_ltI, nI_leI, nI_eq, nI_clamp, up2_at, nltT, nltF, nleT, nleF, neqT, neqF, ↓reduceIte, true_or, or_true, false_or, or_false, or_self, true_and, and_true, false_and, and_false, and_self, not_true, not_false_eq_true, i10, i01, im0, im12, im21, m1lt, m2lt, m1le, m2le, i00, i0le0, i1le0, i2le0, i3le0, eq_self, ]
      · have ne2 : ¬ σ 20 a = -2 := by rw [s20a, e]; decide
        have nr : ¬ σ 20 a - σ 20 a / 4 * 4 = 2 := by rw [s20a, e]; decide
        rw [heqM] at ne2 nr
        rewrite [f_X5_isFit]
        repeat (first | with_reducible refine bnE ?_ | with_reducible refine exI ?_ | with_reducible refine exJ ?_ | ((with_reducible refine iN ?_ ?_); · simp (disch := omega) only [ltL, Llt, leL, Lle, eqL, addL, Ladd, subL, subN, decN, eqM, Mle, mulL, nI_add, nI_ltI, nI_leI, nI_eq, nI_clamp, up2_at, nltT, nltF, nleT, nleF, neqT, neqF, ↓reduceIte, true_or, or_true, false_or, or_false, or_self, true_and, and_true, false_and, and_false, and_self, not_true, not_false_eq_true, i10, i01, im0, im12, im21, m1lt, m2lt, m1le, m2le, i00, i0le0, i1le0, i2le0, i3le0, eq_self, heqM, ne2, nr]) | ((with_reducible refine ip ?_ ?_); · simp (disch := omega) only [ltL, Llt, leL, Lle, eqL, addL, Ladd, subL, subN, decN, eqM, Mle, mulL, nI_add, nI_ltI, nI_leI, nI_eq, nI_clamp, up2_at, nltT, nltF, nleT, nleF, neqT, neqF, ↓reduceIte, true_or, or_true, false_or, or_false, or_self, true_and, and_true, false_and, and_false, and_self, not_true, not_false_eq_true, i10, i01, im0, im12, im21, m1lt, m2lt, m1le, m2le, i00, i0le0, i1le0, i2le0, i3le0, eq_self, heqM, ne2, nr]))
        rewrite [f_X5_isFit_86, f_X5_isFit_91]
        rfl
    · -- an abstraction
      obtain ⟨A, C, hAB⟩ := sa3 e
      obtain ⟨A', C', hAB'⟩ := sc3 (heq.symm.trans e)
      rw [ea1] at hAB
      rw [ec1] at hAB'
      have hd : ∀ {z : Nat} {A C : Ty}, z < n → tC yb (nI z) = nd 2 A C → yb 0 z = 2 := fun {z A C} hz hz2 => by
        have e1 : tC yb (nI z) = nd (yb 0 z) (tC yb (yb 1 z)) (tC yb (yb 2 z)) := tT_nd (hd := yb 0) I.1.2.2.2.1 (by omega) hz
        rw [e1] at hz2
        exact (nd_inj hz2).1
      obtain ⟨⟨⟨a2, ha2, ea2⟩, ⟨b2, hb2, eb2⟩, et3⟩, -⟩ := fun_parts I i2 ha1 hb1 et1 (hd ha1 hAB)
      obtain ⟨⟨⟨c2, hc2, ec2⟩, ⟨d2, hd2, ed2⟩, et4⟩, -⟩ := fun_parts I i2 hc1 hd1 et2 (hd hc1 hAB')
      rw [ea2, eb2] at et3
      rw [ec2, ed2] at et4
      obtain ⟨r, y', σ', h1, h2, h3, h4, h5⟩ := h.ask hN I i2.2.1 ha2 hb2 hc2 hd2 et3 et4
      have f1 := first_in (N := N) (y := y) (by omega : a1 < 8000)
      have f2 := first_in (N := N) (y := y) (by omega : c1 < 8000)
      rw [m1 1 (by decide) (by decide), ea2] at f1
      rw [m1 1 (by decide) (by decide), ec2] at f2
      refine ⟨r, y', σ', h1, ?_, ?_, h4, fun q => ⟨(h5 q).1, heq⟩⟩
      · rewrite [f_X4_behindFitting]
        repeat (first | with_reducible refine bnE ?_ | with_reducible refine exI ?_ | with_reducible refine exJ ?_ | with_reducible refine bs (ca) ?_ | with_reducible refine bs (isfree) ?_ | with_reducible refine bs (cc) ?_ | with_reducible refine bs (ya) ?_ | with_reducible refine bs (yc) ?_ | ((with_reducible refine iN ?_ ?_); · simp (disch := omega) only [ltL, Llt, leL, Lle, eqL, addL, Ladd, subL, subN, decN, eqM, Mle, mulL, nI_add, nI_ltI, nI_leI, nI_eq, nI_clamp, up2_at, nltT, nltF, nleT, nleF, neqT, neqF, ↓reduceIte, true_or, or_true, false_or, or_false, or_self, true_and, and_true, false_and, and_false, and_self, not_true, not_false_eq_true, i10, i01, im0, im12, im21, m1lt, m2lt, m1le, m2le, i00, i0le0, i1le0, i2le0, i3le0, eq_self, heq]) | ((with_reducible refine ip ?_ ?_); · simp (disch := omega) only [ltL, Llt, leL, Lle, eqL, addL, Ladd, subL, subN, decN, eqM, Mle, mulL, nI_add, nI_ltI, nI_leI, nI_eq, nI_clamp, up2_at, nltT, nltF, nleT, nleF, neqT, neqF, ↓reduceIte, true_or, or_true, false_or, or_false, or_self, true_and, and_true, false_and, and_false, and_self, not_true, not_false_eq_true, i10, i01, im0, im12, im21, m1lt, m2lt, m1le, m2le, i00, i0le0, i1le0, i2le0, i3le0, eq_self, heq]))
        refine ip e ?_
        repeat (first | with_reducible refine bnE ?_ | with_reducible refine exI ?_ | with_reducible refine exJ ?_ | with_reducible refine bs (f1) ?_ | with_reducible refine bs (f2) ?_ | with_reducible refine bs (h2) ?_ | ((with_reducible refine iN ?_ ?_); · simp (disch := omega) only [ltL, Llt, leL, Lle, eqL, addL, Ladd, subL, subN, decN, eqM, Mle, mulL, nI_add, nI_ltI, nI_leI, nI_eq, nI_clamp, up2_at, nltT, nltF, nleT, nleF, neqT, neqF, ↓reduceIte, true_or, or_true, false_or, or_false, or_self, true_and, and_true, false_and, and_false, and_self, not_true, not_false_eq_true, i10, i01, im0, im12, im21, m1lt, m2lt, m1le, m2le, i00, i0le0, i1le0, i2le0, i3le0, eq_self]) | ((with_reducible refine ip ?_ ?_); · simp (disch := omega) only [ltL, Llt, leL, Lle, eqL, addL, Ladd, subL, subN, decN, eqM, Mle, mulL, nI_add, nI_ltI, nI_leI, nI_eq, nI_clamp, up2_at, nltT, nltF, nleT, nleF, neqT, neqF, ↓reduceIte, true_or, or_true, false_or, or_false, or_self, true_and, and_true, false_and, and_false, and_self, not_true, not_false_eq_true, i10, i01, im0, im12, im21, m1lt, m2lt, m1le, m2le, i00, i0le0, i1le0, i2le0, i3le0, eq_self]))
        rcases h1 with rfl | rfl
        · rfl
        · rewrite [f_X4_behindFitting_118]
          refine iN (show ¬ (1 : Int32) = 0 by decide) ?_
          rewrite [f_X4_behindFitting_130]
          simp (disch := omega) only [ltL, Llt, leL, Lle, eqL, addL, Ladd, subL, subN, decN, eqM, Mle, mulL, nI_add, nI_ltI, nI_leI, nI_eq, nI_clamp, up2_at, nltT, nltF, nleT, nleF, neqT, neqF, ↓reduceIte, true_or, or_true, false_or, or_false, or_self, true_and, and_true, false_and, and_false, and_self, not_true, not_false_eq_true, i10, i01, im0, im12, im21, m1lt, m2lt, m1le, m2le, i00, i0le0, i1le0, i2le0, i3le0, eq_self, ]
      · have s7a : σ 7 b1 = nI b2 := by rw [r7]; exact eb2
        have s7c : σ 7 d1 = nI d2 := by rw [r7]; exact ed2
        have e' : σ 20 c = -2 := by rw [s20c]; exact heq.symm.trans e
        rewrite [f_X5_isFit]
        repeat (first | with_reducible refine bnE ?_ | with_reducible refine exI ?_ | with_reducible refine exJ ?_ | ((with_reducible refine iN ?_ ?_); · simp (disch := omega) only [ltL, Llt, leL, Lle, eqL, addL, Ladd, subL, subN, decN, eqM, Mle, mulL, nI_add, nI_ltI, nI_leI, nI_eq, nI_clamp, up2_at, nltT, nltF, nleT, nleF, neqT, neqF, ↓reduceIte, true_or, or_true, false_or, or_false, or_self, true_and, and_true, false_and, and_false, and_self, not_true, not_false_eq_true, i10, i01, im0, im12, im21, m1lt, m2lt, m1le, m2le, i00, i0le0, i1le0, i2le0, i3le0, eq_self, heqM, e', s21a, s21c, s7a, s7c, h1]) | ((with_reducible refine ip ?_ ?_); · simp (disch := omega) only [ltL, Llt, leL, Lle, eqL, addL, Ladd, subL, subN, decN, eqM, Mle, mulL, nI_add, nI_ltI, nI_leI, nI_eq, nI_clamp, up2_at, nltT, nltF, nleT, nleF, neqT, neqF, ↓reduceIte, true_or, or_true, false_or, or_false, or_self, true_and, and_true, false_and, and_false, and_self, not_true, not_false_eq_true, i10, i01, im0, im12, im21, m1lt, m2lt, m1le, m2le, i00, i0le0, i1le0, i2le0, i3le0, eq_self, heqM, e', s21a, s21c, s7a, s7c, h1]) | ((with_reducible apply bs); · ((try simp (disch := omega) only [ltL, Llt, leL, Lle, eqL, addL, Ladd, subL, subN, decN, eqM, Mle, mulL, nI_add, nI_ltI, nI_leI, nI_eq, nI_clamp, up2_at, nltT, nltF, nleT, nleF, neqT, neqF, ↓reduceIte, true_or, or_true, false_or, or_false, or_self, true_and, and_true, false_and, and_false, and_self, not_true, not_false_eq_true, i10, i01, im0, im12, im21, m1lt, m2lt, m1le, m2le, i00, i0le0, i1le0, i2le0, i3le0, eq_self, heqM, e', s21a, s21c, s7a, s7c, h1]); exact h3)))
        rfl
    · have hoC := isOf_ok (N := N) (v := v) (k := 2) (by omega) (by omega)
      have ne2 : ¬ t 0 a = -2 := by rw [e]; exact nI_ne_m2 (by omega)
      have ne2M : ¬ σ 20 c = -2 := by rw [← heqM, s20a]; exact ne2
      have hr4 := rem4 (by omega : v < 2 ^ 31)
      have e' : σ 20 c = nI v := by rw [← heqM, s20a]; exact e
      by_cases k2 : v % 4 = 2
      · -- a constant
        rw [if_pos k2, ← e] at hoC
        obtain ⟨r, y', σ', h1, h2, h3, h4, h5⟩ := h.ask hN I i2.2.1 ha1 hb1 hc1 hd1 et1 et2
        refine ⟨r, y', σ', h1, ?_, ?_, h4, fun q => ⟨(h5 q).1, heq⟩⟩
        · rewrite [f_X4_behindFitting]
          repeat (first | with_reducible refine bnE ?_ | with_reducible refine exI ?_ | with_reducible refine exJ ?_ | with_reducible refine bs (ca) ?_ | with_reducible refine bs (isfree) ?_ | with_reducible refine bs (cc) ?_ | with_reducible refine bs (ya) ?_ | with_reducible refine bs (yc) ?_ | ((with_reducible refine iN ?_ ?_); · simp (disch := omega) only [ltL, Llt, leL, Lle, eqL, addL, Ladd, subL, subN, decN, eqM, Mle, mulL, nI_add, nI_ltI, nI_leI, nI_eq, nI_clamp, up2_at, nltT, nltF, nleT, nleF, neqT, neqF, ↓reduceIte, true_or, or_true, false_or, or_false, or_self, true_and, and_true, false_and, and_false, and_self, not_true, not_false_eq_true, i10, i01, im0, im12, im21, m1lt, m2lt, m1le, m2le, i00, i0le0, i1le0, i2le0, i3le0, eq_self, heq]) | ((with_reducible refine ip ?_ ?_); · simp (disch := omega) only [ltL, Llt, leL, Lle, eqL, addL, Ladd, subL, subN, decN, eqM, Mle, mulL, nI_add, nI_ltI, nI_leI, nI_eq, nI_clamp, up2_at, nltT, nltF, nleT, nleF, neqT, neqF, ↓reduceIte, true_or, or_true, false_or, or_false, or_self, true_and, and_true, false_and, and_false, and_self, not_true, not_false_eq_true, i10, i01, im0, im12, im21, m1lt, m2lt, m1le, m2le, i00, i0le0, i1le0, i2le0, i3le0, eq_self, heq]))
          refine iN ne2 (bs hoC ?_)
          refine iN (show ¬ (1 : Int32) = 0 by decide) ?_
          repeat (first | with_reducible refine bnE ?_ | with_reducible refine exI ?_ | with_reducible refine exJ ?_ | with_reducible refine bs (h2) ?_ | ((with_reducible refine iN ?_ ?_); · simp (disch := omega) only [ltL, Llt, leL, Lle, eqL, addL, Ladd, subL, subN, decN, eqM, Mle, mulL, nI_add, nI_ltI, nI_leI, nI_eq, nI_clamp, up2_at, nltT, nltF, nleT, nleF, neqT, neqF, ↓reduceIte, true_or, or_true, false_or, or_false, or_self, true_and, and_true, false_and, and_false, and_self, not_true, not_false_eq_true, i10, i01, im0, im12, im21, m1lt, m2lt, m1le, m2le, i00, i0le0, i1le0, i2le0, i3le0, eq_self]) | ((with_reducible refine ip ?_ ?_); · simp (disch := omega) only [ltL, Llt, leL, Lle, eqL, addL, Ladd, subL, subN, decN, eqM, Mle, mulL, nI_add, nI_ltI, nI_leI, nI_eq, nI_clamp, up2_at, nltT, nltF, nleT, nleF, neqT, neqF, ↓reduceIte, true_or, or_true, false_or, or_false, or_self, true_and, and_true, false_and, and_false, and_self, not_true, not_false_eq_true, i10, i01, im0, im12, im21, m1lt, m2lt, m1le, m2le, i00, i0le0, i1le0, i2le0, i3le0, eq_self]))
          rcases h1 with rfl | rfl
          · rfl
          · rewrite [f_X4_behindFitting_118]
            refine iN (show ¬ (1 : Int32) = 0 by decide) ?_
            rewrite [f_X4_behindFitting_130]
            simp (disch := omega) only [ltL, Llt, leL, Lle, eqL, addL, Ladd, subL, subN, decN, eqM, Mle, mulL, nI_add, nI_ltI, nI_leI, nI_eq, nI_clamp, up2_at, nltT, nltF, nleT, nleF, neqT, neqF, ↓reduceIte, true_or, or_true, false_or, or_false, or_self, true_and, and_true, false_and, and_false, and_self, not_true, not_false_eq_true, i10, i01, im0, im12, im21, m1lt, m2lt, m1le, m2le, i00, i0le0, i1le0, i2le0, i3le0, eq_self, ]
        · have nr : σ 20 c - σ 20 c / 4 * 4 = 2 := by rw [e', hr4, k2]; rfl
          rewrite [f_X5_isFit]
          repeat (first | with_reducible refine bnE ?_ | with_reducible refine exI ?_ | with_reducible refine exJ ?_ | ((with_reducible refine iN ?_ ?_); · simp (disch := omega) only [ltL, Llt, leL, Lle, eqL, addL, Ladd, subL, subN, decN, eqM, Mle, mulL, nI_add, nI_ltI, nI_leI, nI_eq, nI_clamp, up2_at, nltT, nltF, nleT, nleF, neqT, neqF, ↓reduceIte, true_or, or_true, false_or, or_false, or_self, true_and, and_true, false_and, and_false, and_self, not_true, not_false_eq_true, i10, i01, im0, im12, im21, m1lt, m2lt, m1le, m2le, i00, i0le0, i1le0, i2le0, i3le0, eq_self, heqM, ne2M, nr, s21a, s21c]) | ((with_reducible refine ip ?_ ?_); · simp (disch := omega) only [ltL, Llt, leL, Lle, eqL, addL, Ladd, subL, subN, decN, eqM, Mle, mulL, nI_add, nI_ltI, nI_leI, nI_eq, nI_clamp, up2_at, nltT, nltF, nleT, nleF, neqT, neqF, ↓reduceIte, true_or, or_true, false_or, or_false, or_self, true_and, and_true, false_and, and_false, and_self, not_true, not_false_eq_true, i10, i01, im0, im12, im21, m1lt, m2lt, m1le, m2le, i00, i0le0, i1le0, i2le0, i3le0, eq_self, heqM, ne2M, nr, s21a, s21c]) | ((with_reducible apply bs); · ((try simp (disch := omega) only [ltL, Llt, leL, Lle, eqL, addL, Ladd, subL, subN, decN, eqM, Mle, mulL, nI_add, nI_ltI, nI_leI, nI_eq, nI_clamp, up2_at, nltT, nltF, nleT, nleF, neqT, neqF, ↓reduceIte, true_or, or_true, false_or, or_false, or_self, true_and, and_true, false_and, and_false, and_self, not_true, not_false_eq_true, i10, i01, im0, im12, im21, m1lt, m2lt, m1le, m2le, i00, i0le0, i1le0, i2le0, i3le0, eq_self, heqM, ne2M, nr, s21a, s21c]); exact h3)))
          rcases h1 with rfl | rfl
          · repeat (first | with_reducible refine bnE ?_ | with_reducible refine exI ?_ | with_reducible refine exJ ?_ | ((with_reducible refine iN ?_ ?_); · simp (disch := omega) only [ltL, Llt, leL, Lle, eqL, addL, Ladd, subL, subN, decN, eqM, Mle, mulL, nI_add, nI_ltI, nI_leI, nI_eq, nI_clamp, up2_at, nltT, nltF, nleT, nleF, neqT, neqF, ↓reduceIte, true_or, or_true, false_or, or_false, or_self, true_and, and_true, false_and, and_false, and_self, not_true, not_false_eq_true, i10, i01, im0, im12, im21, m1lt, m2lt, m1le, m2le, i00, i0le0, i1le0, i2le0, i3le0, eq_self]) | ((with_reducible refine ip ?_ ?_); · simp (disch := omega) only [ltL, Llt, leL, Lle, eqL, addL, Ladd, subL, subN, decN, eqM, Mle, mulL, nI_add, nI_ltI, nI_leI, nI_eq, nI_clamp, up2_at, nltT, nltF, nleT, nleF, neqT, neqF, ↓reduceIte, true_or, or_true, false_or, or_false, or_self, true_and, and_true, false_and, and_false, and_self, not_true, not_false_eq_true, i10, i01, im0, im12, im21, m1lt, m2lt, m1le, m2le, i00, i0le0, i1le0, i2le0, i3le0, eq_self]))
            rfl
          · repeat (first | with_reducible refine bnE ?_ | with_reducible refine exI ?_ | with_reducible refine exJ ?_ | ((with_reducible refine iN ?_ ?_); · simp (disch := omega) only [ltL, Llt, leL, Lle, eqL, addL, Ladd, subL, subN, decN, eqM, Mle, mulL, nI_add, nI_ltI, nI_leI, nI_eq, nI_clamp, up2_at, nltT, nltF, nleT, nleF, neqT, neqF, ↓reduceIte, true_or, or_true, false_or, or_false, or_self, true_and, and_true, false_and, and_false, and_self, not_true, not_false_eq_true, i10, i01, im0, im12, im21, m1lt, m2lt, m1le, m2le, i00, i0le0, i1le0, i2le0, i3le0, eq_self]) | ((with_reducible refine ip ?_ ?_); · simp (disch := omega) only [ltL, Llt, leL, Lle, eqL, addL, Ladd, subL, subN, decN, eqM, Mle, mulL, nI_add, nI_ltI, nI_leI, nI_eq, nI_clamp, up2_at, nltT, nltF, nleT, nleF, neqT, neqF, ↓reduceIte, true_or, or_true, false_or, or_false, or_self, true_and, and_true, false_and, and_false, and_self, not_true, not_false_eq_true, i10, i01, im0, im12, im21, m1lt, m2lt, m1le, m2le, i00, i0le0, i1le0, i2le0, i3le0, eq_self]))
            rfl
      · rw [if_neg k2, ← e] at hoC
        refine ⟨1, y, σ, Or.inr rfl, ?_, ?_, fun q => absurd q (by decide), fun _ => ⟨h, heq⟩⟩
        · rewrite [f_X4_behindFitting]
          repeat (first | with_reducible refine bnE ?_ | with_reducible refine exI ?_ | with_reducible refine exJ ?_ | with_reducible refine bs (ca) ?_ | with_reducible refine bs (isfree) ?_ | with_reducible refine bs (cc) ?_ | with_reducible refine bs (ya) ?_ | with_reducible refine bs (yc) ?_ | ((with_reducible refine iN ?_ ?_); · simp (disch := omega) only [ltL, Llt, leL, Lle, eqL, addL, Ladd, subL, subN, decN, eqM, Mle, mulL, nI_add, nI_ltI, nI_leI, nI_eq, nI_clamp, up2_at, nltT, nltF, nleT, nleF, neqT, neqF, ↓reduceIte, true_or, or_true, false_or, or_false, or_self, true_and, and_true, false_and, and_false, and_self, not_true, not_false_eq_true, i10, i01, im0, im12, im21, m1lt, m2lt, m1le, m2le, i00, i0le0, i1le0, i2le0, i3le0, eq_self, heq]) | ((with_reducible refine ip ?_ ?_); · simp (disch := omega) only [ltL, Llt, leL, Lle, eqL, addL, Ladd, subL, subN, decN, eqM, Mle, mulL, nI_add, nI_ltI, nI_leI, nI_eq, nI_clamp, up2_at, nltT, nltF, nleT, nleF, neqT, neqF, ↓reduceIte, true_or, or_true, false_or, or_false, or_self, true_and, and_true, false_and, and_false, and_self, not_true, not_false_eq_true, i10, i01, im0, im12, im21, m1lt, m2lt, m1le, m2le, i00, i0le0, i1le0, i2le0, i3le0, eq_self, heq]))
          refine iN ne2 (bs hoC ?_)
          refine ip rfl ?_
          rewrite [f_X4_behindFitting_118]
          refine iN (show ¬ (1 : Int32) = 0 by decide) ?_
          rewrite [f_X4_behindFitting_130]
          simp (disch := omega) only [ltL, Llt, leL, Lle, eqL, addL, Ladd, subL, subN, decN, eqM, Mle, mulL, nI_add, nI_ltI, nI_leI, nI_eq, nI_clamp, up2_at, nltT, nltF, nleT, nleF, neqT, neqF, ↓reduceIte, true_or, or_true, false_or, or_false, or_self, true_and, and_true, false_and, and_false, and_self, not_true, not_false_eq_true, i10, i01, im0, im12, im21, m1lt, m2lt, m1le, m2le, i00, i0le0, i1le0, i2le0, i3le0, eq_self, ]
        · have nr : ¬ σ 20 c - σ 20 c / 4 * 4 = 2 := by
            rw [e', hr4]
            exact fun z => k2 ((nI_eq (b := 2) (by omega) (by omega)).mp z)
          rewrite [f_X5_isFit]
          repeat (first | with_reducible refine bnE ?_ | with_reducible refine exI ?_ | with_reducible refine exJ ?_ | ((with_reducible refine iN ?_ ?_); · simp (disch := omega) only [ltL, Llt, leL, Lle, eqL, addL, Ladd, subL, subN, decN, eqM, Mle, mulL, nI_add, nI_ltI, nI_leI, nI_eq, nI_clamp, up2_at, nltT, nltF, nleT, nleF, neqT, neqF, ↓reduceIte, true_or, or_true, false_or, or_false, or_self, true_and, and_true, false_and, and_false, and_self, not_true, not_false_eq_true, i10, i01, im0, im12, im21, m1lt, m2lt, m1le, m2le, i00, i0le0, i1le0, i2le0, i3le0, eq_self, heqM, ne2M, nr]) | ((with_reducible refine ip ?_ ?_); · simp (disch := omega) only [ltL, Llt, leL, Lle, eqL, addL, Ladd, subL, subN, decN, eqM, Mle, mulL, nI_add, nI_ltI, nI_leI, nI_eq, nI_clamp, up2_at, nltT, nltF, nleT, nleF, neqT, neqF, ↓reduceIte, true_or, or_true, false_or, or_false, or_self, true_and, and_true, false_and, and_false, and_self, not_true, not_false_eq_true, i10, i01, im0, im12, im21, m1lt, m2lt, m1le, m2le, i00, i0le0, i1le0, i2le0, i3le0, eq_self, heqM, ne2M, nr]))
          rfl
  · have heqM : ¬ σ 20 a = σ 20 c := by rw [s20a, s20c]; exact heq
    refine ⟨0, y, σ, Or.inl rfl, ?_, ?_, fun _ => h.fail m2, fun q => absurd q (by decide)⟩
    · rewrite [f_X4_behindFitting]
      repeat (first | with_reducible refine bnE ?_ | with_reducible refine exI ?_ | with_reducible refine exJ ?_ | with_reducible refine bs (ca) ?_ | with_reducible refine bs (isfree) ?_ | with_reducible refine bs (cc) ?_ | ((with_reducible refine iN ?_ ?_); · simp (disch := omega) only [ltL, Llt, leL, Lle, eqL, addL, Ladd, subL, subN, decN, eqM, Mle, mulL, nI_add, nI_ltI, nI_leI, nI_eq, nI_clamp, up2_at, nltT, nltF, nleT, nleF, neqT, neqF, ↓reduceIte, true_or, or_true, false_or, or_false, or_self, true_and, and_true, false_and, and_false, and_self, not_true, not_false_eq_true, i10, i01, im0, im12, im21, m1lt, m2lt, m1le, m2le, i00, i0le0, i1le0, i2le0, i3le0, eq_self, heq]) | ((with_reducible refine ip ?_ ?_); · simp (disch := omega) only [ltL, Llt, leL, Lle, eqL, addL, Ladd, subL, subN, decN, eqM, Mle, mulL, nI_add, nI_ltI, nI_leI, nI_eq, nI_clamp, up2_at, nltT, nltF, nleT, nleF, neqT, neqF, ↓reduceIte, true_or, or_true, false_or, or_false, or_self, true_and, and_true, false_and, and_false, and_self, not_true, not_false_eq_true, i10, i01, im0, im12, im21, m1lt, m2lt, m1le, m2le, i00, i0le0, i1le0, i2le0, i3le0, eq_self, heq]))
      rfl
    · rewrite [f_X5_isFit]
      repeat (first | with_reducible refine bnE ?_ | with_reducible refine exI ?_ | with_reducible refine exJ ?_ | ((with_reducible refine iN ?_ ?_); · simp (disch := omega) only [ltL, Llt, leL, Lle, eqL, addL, Ladd, subL, subN, decN, eqM, Mle, mulL, nI_add, nI_ltI, nI_leI, nI_eq, nI_clamp, up2_at, nltT, nltF, nleT, nleF, neqT, neqF, ↓reduceIte, true_or, or_true, false_or, or_false, or_self, true_and, and_true, false_and, and_false, and_self, not_true, not_false_eq_true, i10, i01, im0, im12, im21, m1lt, m2lt, m1le, m2le, i00, i0le0, i1le0, i2le0, i3le0, eq_self, heqM]) | ((with_reducible refine ip ?_ ?_); · simp (disch := omega) only [ltL, Llt, leL, Lle, eqL, addL, Ladd, subL, subN, decN, eqM, Mle, mulL, nI_add, nI_ltI, nI_leI, nI_eq, nI_clamp, up2_at, nltT, nltF, nleT, nleF, neqT, neqF, ↓reduceIte, true_or, or_true, false_or, or_false, or_self, true_and, and_true, false_and, and_false, and_self, not_true, not_false_eq_true, i10, i01, im0, im12, im21, m1lt, m2lt, m1le, m2le, i00, i0le0, i1le0, i2le0, i3le0, eq_self, heqM]))
      rfl
