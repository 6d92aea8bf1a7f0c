/-! PURE: match, a symbol of the pattern -/
theorem FI.base {n u : Nat} {yb σb σb' y σ : St} (F : FI n u yb σb y σ) (h : tM σb' = tM σb) : FI n u yb σb' y σ := by
  obtain ⟨F1, F2, F3, F4⟩ := F
  have e : thr σb' (σ 25) = thr σb (σ 25) := by funext v; rw [thr, thr, h]
  exact ⟨F1, F2, by rw [e]; exact F3, F4⟩
theorem FI.row {n u : Nat} {yb σb y σ σ' : St} (F : FI n u yb σb y σ) (h : σ' 25 = σ 25) : FI n u yb σb y σ' := by
  obtain ⟨F1, F2, F3, F4⟩ := F
  exact ⟨F1, by rw [h]; exact F2, by rw [h]; exact F3, by rw [h]; exact F4⟩
/-- rows that a match of the reference leaves -/
abbrev SM (σb σ : St) : Prop := ∀ r, r ≠ 22 → r ≠ 23 → r ≠ 24 → r ≠ 25 → r ≠ 26 → r ≠ 27 → r ≠ 28 → r ≠ 29 → σ r = σb r
theorem SM.tM {σb σ : St} (h : SM σb σ) : tM σ = tM σb := by
  show tT _ _ _ = tT _ _ _
  rw [h 6 (by decide) (by decide) (by decide) (by decide) (by decide) (by decide) (by decide) (by decide), h 7 (by decide) (by decide) (by decide) (by decide) (by decide) (by decide) (by decide) (by decide), h 8 (by decide) (by decide) (by decide) (by decide) (by decide) (by decide) (by decide) (by decide)]
/-- a question whose pattern was asked before -/
theorem fits_memo {N n q u a b c d : Nat} {g : Nat → Int32} {yb σb y σ : St} (hN : 34100 < N) (I : I1 n g q yb σb) (hq : q ≤ 40) (ha : a < n) (hb : b < n) (hc : c < n) (hd : d < n) (eab : tC yb (nI a) = tM σb (nI b)) (ecd : tC yb (nI c) = tM σb (nI d)) (hs : SF σb σ) (F : FI n u yb σb y σ) (h8 : y 8 a = nI u) :
    ∃ σ', SF σb σ' ∧ ((f_X5_fits N σ (nI b) (nI d) = some (1, σ') ∧ y 7 a = nI c ∧ σ' 25 = σ 25) ∨ (f_X5_fits N σ (nI b) (nI d) = some (0, σ') ∧ y 7 a ≠ nI c)) := by
  obtain ⟨F1, F2, F3, F4⟩ := F
  have hsz := I.1.2.2.2.2.2 a ha
  have hn := I.1.1
  obtain ⟨⟨gg, hgg, eg⟩, hins⟩ := F3 a ha h8
  have toF : f_X5_fits N σ (nI b) (nI d) = f_X5_fits_16 N N (up2 (up2 σ 22 0 (nI b)) 23 0 (nI d)) (nI (0 + 1)) := by
    rewrite [f_X5_fits]
    exact iN (by decide) (bnE (iN (by decide) (bnE rfl)))
  rcases fit_check (N := N) I hq F2 a b c d 0 N (up2 (up2 σ 22 0 (nI b)) 23 0 (nI d)) _ ha hb hc hd eab ecd (fun r h22 h23 h25 => by rw [up2_row h23, up2_row h22]; exact hs r h22 h23 h25) (by rw [up2_row (by decide), up2_row (by decide)]) (by simp (disch := omega) only [ltL, Llt, leL, Lle, eqL, addL, Ladd, subL, subN, decN, eqM, Mle, mulL, nI_add, nI_ltI, nI_leI, nI_eq, nI_clamp, up2_at, nltT, nltF, nleT, nleF, neqT, neqF, ↓reduceIte, true_or, or_true, false_or, or_false, or_self, true_and, and_true, false_and, and_false, and_self, not_true, not_false_eq_true, i10, i01, im0, im12, im21, m1lt, m2lt, m1le, m2le, i00, i0le0, i1le0, i2le0, i3le0, eq_self, ]) (by simp (disch := omega) only [ltL, Llt, leL, Lle, eqL, addL, Ladd, subL, subN, decN, eqM, Mle, mulL, nI_add, nI_ltI, nI_leI, nI_eq, nI_clamp, up2_at, nltT, nltF, nleT, nleF, neqT, neqF, ↓reduceIte, true_or, or_true, false_or, or_false, or_self, true_and, and_true, false_and, and_false, and_self, not_true, not_false_eq_true, i10, i01, im0, im12, im21, m1lt, m2lt, m1le, m2le, i00, i0le0, i1le0, i2le0, i3le0, eq_self, ]) (by omega) hins (by omega) with ⟨g1, σ', g2, g3, g4, g5⟩ | ⟨g1, σ', g2, g3⟩
  · refine ⟨σ', g3, Or.inl ⟨?_, ?_, g4⟩⟩
    · obtain ⟨F, hF⟩ : ∃ F, N - sz (tC yb (nI a)) = F + 1 := ⟨N - sz (tC yb (nI a)) - 1, by omega⟩
      rw [hF] at g2
      rewrite [toF]
      refine Eq.trans g2 ?_
      rewrite [f_X5_fits_16]
      repeat (first | with_reducible refine bnE ?_ | with_reducible refine exI ?_ | with_reducible refine exJ ?_ | ((with_reducible refine iN ?_ ?_); · simp (disch := omega) only [ltL, Llt, leL, Lle, eqL, addL, Ladd, subL, subN, decN, eqM, Mle, mulL, nI_add, nI_ltI, nI_leI, nI_eq, nI_clamp, up2_at, nltT, nltF, nleT, nleF, neqT, neqF, ↓reduceIte, true_or, or_true, false_or, or_false, or_self, true_and, and_true, false_and, and_false, and_self, not_true, not_false_eq_true, i10, i01, im0, im12, im21, m1lt, m2lt, m1le, m2le, i00, i0le0, i1le0, i2le0, i3le0, eq_self]) | ((with_reducible refine ip ?_ ?_); · simp (disch := omega) only [ltL, Llt, leL, Lle, eqL, addL, Ladd, subL, subN, decN, eqM, Mle, mulL, nI_add, nI_ltI, nI_leI, nI_eq, nI_clamp, up2_at, nltT, nltF, nleT, nleF, neqT, neqF, ↓reduceIte, true_or, or_true, false_or, or_false, or_self, true_and, and_true, false_and, and_false, and_self, not_true, not_false_eq_true, i10, i01, im0, im12, im21, m1lt, m2lt, m1le, m2le, i00, i0le0, i1le0, i2le0, i3le0, eq_self]))
      rfl
    · rw [eg] at g1 ⊢
      exact (tT_inj I.1.2.2.2.1 I.1.2.2.2.2.1 (by omega) _ _ (Or.inr ⟨c, hc, rfl⟩) (Or.inr ⟨gg, hgg, rfl⟩) g1).symm
  · refine ⟨σ', g3, Or.inr ⟨by rw [toF]; exact g2, fun e => g1 (by rw [e])⟩⟩
theorem alike_ne {N u v u' v' : Nat} {t k : St} (h1 : u < v) (h2 : v ≤ 30000) (h3 : u' < v') (h4 : v' ≤ 30000) (hN : 34100 < N) (hne : t 1 u ≠ t 1 u') : f_X1_alike N t k (nI u) (nI v) (nI u') (nI v') = some (0, (t, k)) := by
  obtain ⟨N', rfl⟩ : ∃ z, N = z + 1 := ⟨N - 1, by omega⟩
  have e1 : nI v - nI u = nI (v - u) := subN (by omega)
  have e2 : nI v' - nI u' = nI (v' - u') := subN (by omega)
  rewrite [f_X1_alike, e1, e2]
  by_cases q : v - u = v' - u'
  · refine ip (by rw [q]) ?_
    have c1 := code_ok (N := N' + 1) (t := t) (k := k) (by omega : u < 30000)
    have c2 := code_ok (N := N' + 1) (t := t) (k := k) (by omega : u' < 30000)
    have c3 := sty_ok (N := N' + 1) (t := t) (k := k) (by omega : u < 30000)
    have c4 := sty_ok (N := N' + 1) (t := t) (k := k) (by omega : u' < 30000)
    rewrite [f_X1_alike_15, e1, Int32.add_zero, Int32.add_zero]
    by_cases q2 : t 0 u = t 0 u'
    · have : ¬ nI (v - u) ≤ 0 := nI_nle (by omega) (by omega)
      refine iN this ?_
      repeat (first | with_reducible refine bnE ?_ | with_reducible refine exI ?_ | with_reducible refine exJ ?_ | with_reducible refine bs (c1) ?_ | with_reducible refine bs (c2) ?_ | with_reducible refine bs (c3) ?_ | with_reducible refine bs (c4) ?_ | ((with_reducible refine iN ?_ ?_); · simp (disch := omega) only [ltL, Llt, leL, Lle, eqL, addL, Ladd, subL, subN, decN, eqM, Mle, mulL, nI_add, nI_ltI, nI_leI, nI_eq, nI_clamp, up2_at, nltT, nltF, nleT, nleF, neqT, neqF, ↓reduceIte, true_or, or_true, false_or, or_false, or_self, true_and, and_true, false_and, and_false, and_self, not_true, not_false_eq_true, i10, i01, im0, im12, im21, m1lt, m2lt, m1le, m2le, i00, i0le0, i1le0, i2le0, i3le0, eq_self, q2, hne]) | ((with_reducible refine ip ?_ ?_); · simp (disch := omega) only [ltL, Llt, leL, Lle, eqL, addL, Ladd, subL, subN, decN, eqM, Mle, mulL, nI_add, nI_ltI, nI_leI, nI_eq, nI_clamp, up2_at, nltT, nltF, nleT, nleF, neqT, neqF, ↓reduceIte, true_or, or_true, false_or, or_false, or_self, true_and, and_true, false_and, and_false, and_self, not_true, not_false_eq_true, i10, i01, im0, im12, im21, m1lt, m2lt, m1le, m2le, i00, i0le0, i1le0, i2le0, i3le0, eq_self, q2, hne]))
      rfl
    · have : ¬ nI (v - u) ≤ 0 := nI_nle (by omega) (by omega)
      refine iN this ?_
      repeat (first | with_reducible refine bnE ?_ | with_reducible refine exI ?_ | with_reducible refine exJ ?_ | with_reducible refine bs (c1) ?_ | with_reducible refine bs (c2) ?_ | ((with_reducible refine iN ?_ ?_); · simp (disch := omega) only [ltL, Llt, leL, Lle, eqL, addL, Ladd, subL, subN, decN, eqM, Mle, mulL, nI_add, nI_ltI, nI_leI, nI_eq, nI_clamp, up2_at, nltT, nltF, nleT, nleF, neqT, neqF, ↓reduceIte, true_or, or_true, false_or, or_false, or_self, true_and, and_true, false_and, and_false, and_self, not_true, not_false_eq_true, i10, i01, im0, im12, im21, m1lt, m2lt, m1le, m2le, i00, i0le0, i1le0, i2le0, i3le0, eq_self, q2]) | ((with_reducible refine ip ?_ ?_); · simp (disch := omega) only [ltL, Llt, leL, Lle, eqL, addL, Ladd, subL, subN, decN, eqM, Mle, mulL, nI_add, nI_ltI, nI_leI, nI_eq, nI_clamp, up2_at, nltT, nltF, nleT, nleF, neqT, neqF, ↓reduceIte, true_or, or_true, false_or, or_false, or_self, true_and, and_true, false_and, and_false, and_self, not_true, not_false_eq_true, i10, i01, im0, im12, im21, m1lt, m2lt, m1le, m2le, i00, i0le0, i1le0, i2le0, i3le0, eq_self, q2]))
      rfl
  · exact iN (fun z => q ((nI_eq (by omega) (by omega)).mp z)) rfl
/-- between class and reference, in the midst of a match -/
def MaI (n u f m : Nat) (s hs : Nat → Nat) (yb σb t y b σ : St) : Prop := YF yb y ∧ SM σb σ ∧ (∀ k, y 8 k = yb 8 k ∨ y 8 k = nI u) ∧ FI n u yb σb y σ ∧ BT f hs b ∧ σ 26 0 = nI f ∧ (∀ i, i < f → ∃ pos a1 u1 v1 h1, pos < s m ∧ t 0 pos = nI (4 * hs i + 1) ∧ σ 27 i = nI pos ∧ a1 < n ∧ b 1 i = nI a1 ∧ t 1 pos = nI a1 ∧ y 8 a1 = nI u ∧ y 7 a1 = t 1 u1 ∧ b 2 i = nI u1 ∧ b 3 i = nI v1 ∧ σ 28 i = nI u1 ∧ σ 29 i = nI (v1 - u1) ∧ v1 ≤ s m ∧ v1 - u1 ≤ 4000 ∧ h1 ≤ 120 ∧ Tm (t 0) 0 h1 u1 v1) ∧ ∀ i j, i < f → j < f → hs i = hs j → b 1 i = b 1 j → i = j
/-- and when it failed -/
def MF (u : Nat) (yb σb y b σ : St) : Prop := YF yb y ∧ SM σb σ ∧ (∀ k, y 8 k = yb 8 k ∨ y 8 k = nI u) ∧ ∃ f hs, BT f hs b
theorem MaI.fail {n u f m : Nat} {s hs : Nat → Nat} {yb σb t y b σ σ' : St} (h : MaI n u f m s hs yb σb t y b σ) (hs' : SM σb σ') : MF u yb σb y b σ' := ⟨h.1, hs', h.2.2.1, f, hs, h.2.2.2.2.1⟩
/-- a question asked by both -/
theorem MaI.ask {N n q u f m a a' c c' : Nat} {s hs : Nat → Nat} {g : Nat → Int32} {yb σb t y b σ : St} (hN : 34100 < N) (I : I1 n g q yb σb) (hq : q ≤ 40) (h : MaI n u f m s hs yb σb t y b σ) (ha : a < n) (ha' : a' < n) (hc : c < n) (hc' : c' < n) (e1 : tC yb (nI a) = tM σb (nI a')) (e2 : tC yb (nI c) = tM σb (nI c')) : ∃ r y' σ', (r = 0 ∨ r = 1) ∧ f_X2_fits N y (nI a) (nI c) = some (r, y') ∧ f_X5_fits N σ (nI a') (nI c') = some (r, σ') ∧ (r = 0 → MF u yb σb y' b σ') ∧ (r = 1 → MaI n u f m s hs yb σb t y' b σ' ∧ y' 8 a = nI u ∧ y' 7 a = nI c ∧ ∀ r, r ≠ 22 → r ≠ 23 → r ≠ 25 → σ' r = σ r) := by
  obtain ⟨m1, m2, m3, m4, m5, m6, m7, m8⟩ := h
  have hn := I.1.1
  have htM := SM.tM m2
  obtain ⟨TMσ, -⟩ := I.2.1.congr (σ' := σ) (by simp (disch := decide) only [up2_row, upR_row, and_self, eq_self, m2])
  have I' : I1 n g q yb σ := I1_restore I I.1 TMσ ⟨Nat.le_refl _, fun _ _ => rfl, fun _ _ => by rw [htM]⟩
  obtain ⟨r, y', σ', h1, h2, h3, h4, h5, h6, h7⟩ := fits_pair hN I' hq ha ha' hc hc' (by rw [htM]; exact e1) (by rw [htM]; exact e2) m1 (fun _ _ _ _ => rfl) (m4.base htM)
  have sm' : SM σb σ' := fun r r22 r23 r24 r25 r26 r27 r28 r29 => by rw [h5 r r22 r23 r25]; exact m2 r r22 r23 r24 r25 r26 r27 r28 r29
  have st : ∀ k, y' 8 k = yb 8 k ∨ y' 8 k = nI u := fun k => by
    rcases h6 k with e | e
    · rw [e]; exact m3 k
    · exact Or.inr e
  refine ⟨r, y', σ', h1, h2, h3, fun _ => ⟨h4, sm', st, f, hs, m5⟩, fun hr => ?_⟩
  obtain ⟨k1, k2, k3, k4⟩ := h7 hr
  have k1' : FI n u yb σb y' σ' := k1.base htM.symm
  refine ⟨⟨h4, sm', st, k1', m5, by rw [h5 26 (by decide) (by decide) (by decide)]; exact m6, fun i hi => ?_, m8⟩, k3, k4, h5⟩
  obtain ⟨pos, a1, u1, v1, hh1, p1, p2, p3, p4, p5, p6, p7, p8, p9, p10, p11, p12, p13⟩ := m7 i hi
  have y8 : y' 8 a1 = nI u := by
    rcases h6 a1 with e | e
    · rw [e]; exact p7
    · exact e
  have y7 : y' 7 a1 = y 7 a1 := by
    obtain ⟨q1, q2⟩ := m4.2.2.1 a1 p4 p7
    obtain ⟨q3, q4⟩ := k1'.2.2.1 a1 p4 y8
    have q5 := ins_mono (thr_mono (σb := σb) k2) _ _ q2
    rw [q5] at q4
    exact (tT_inj I.1.2.2.2.1 I.1.2.2.2.2.1 (by omega) _ _ q1.kid q3.kid (Option.some.inj q4)).symm
  exact ⟨pos, a1, u1, v1, hh1, p1, p2, by rw [h5 27 (by decide) (by decide) (by decide)]; exact p3, p4, p5, p6, y8, by rw [y7]; exact p8, p9, p10, by rw [h5 28 (by decide) (by decide) (by decide)]; exact p11, by rw [h5 29 (by decide) (by decide) (by decide)]; exact p12, p13⟩
