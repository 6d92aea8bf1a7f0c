/-! PURE: types that fit, by class and reference -/
theorem hd_cases {n q : Nat} {g : Nat → Int32} {y σ : St} (I : I1 n g q y σ) (hq : q ≤ 40) {a : Nat} (ha : a < n) : tC y (nI a) = nd (y 0 a) (tC y (y 1 a)) (tC y (y 2 a)) ∧ ((∃ v, v < 1000 ∧ y 0 a = -1 - nI v ∧ y 1 a = -1 ∧ y 2 a = -1) ∨ ∃ c, c < q ∧ y 0 a = nI c ∧ 0 ≤ y 0 a ∧ ((g c = 0 ∧ y 1 a = -1 ∧ y 2 a = -1) ∨ (g c = 1 ∧ ¬ y 1 a = -1 ∧ y 2 a = -1) ∨ (g c = 2 ∧ ¬ y 1 a = -1 ∧ ¬ y 2 a = -1))) := by
  obtain ⟨T, M, -, -, hat⟩ := I
  have hn := T.1
  have et : tC y (nI a) = nd (y 0 a) (tC y (y 1 a)) (tC y (y 2 a)) := tT_nd (hd := y 0) T.2.2.2.1 (by omega) ha
  have c1 := null_iffC T ((T.2.2.2.1 a ha).1.mono (by omega : a ≤ n))
  have c2 := null_iffC T ((T.2.2.2.1 a ha).2.mono (by omega : a ≤ n))
  refine ⟨et, ?_⟩
  obtain ⟨hh, A, B, eAB, har⟩ := hat a ha
  rw [et] at eAB
  obtain ⟨p1, p2, p3⟩ := nd_inj eAB
  rcases har with ⟨v, hv, ev, hA, hB⟩ | ⟨c, hc, ec, har⟩
  · exact Or.inl ⟨v, hv, p1.trans ev, c1.mp (p2.trans hA), c2.mp (p3.trans hB)⟩
  · refine Or.inr ⟨c, hc, p1.trans ec, by rw [p1, ec]; exact nI_pos' (by omega), ?_⟩
    rcases har with ⟨h0, hA, hB⟩ | ⟨h0, hA, hB⟩ | ⟨h0, hA, hB⟩
    · exact Or.inl ⟨h0, c1.mp (p2.trans hA), c2.mp (p3.trans hB)⟩
    · exact Or.inr (Or.inl ⟨h0, fun z => hA (p2.symm.trans (c1.mpr z)), c2.mp (p3.trans hB)⟩)
    · exact Or.inr (Or.inr ⟨h0, fun z => hA (p2.symm.trans (c1.mpr z)), fun z => hB (p3.symm.trans (c2.mpr z))⟩)
theorem shape {n q : Nat} {g : Nat → Int32} {y σ : St} (I : I1 n g q y σ) (hq : q ≤ 40) {a c : Nat} (ha : a < n) (hc : c < n) (h : y 0 a = y 0 c) : (y 1 a = -1 ↔ y 1 c = -1) ∧ (y 2 a = -1 ↔ y 2 c = -1) := by
  rcases (hd_cases I hq ha).2 with ⟨v, hv, e1, e2, e3⟩ | ⟨k, hk, e1, e2, e3⟩
  · rcases (hd_cases I hq hc).2 with ⟨v', hv', f1, f2, f3⟩ | ⟨k', hk', f1, f2, f3⟩
    · exact ⟨⟨fun _ => f2, fun _ => e2⟩, ⟨fun _ => f3, fun _ => e3⟩⟩
    · rw [← h, e1] at f2
      exact absurd (var_neg hv) (Int32.not_lt.mpr f2)
  · rcases (hd_cases I hq hc).2 with ⟨v', hv', f1, f2, f3⟩ | ⟨k', hk', f1, f2, f3⟩
    · rw [h, f1] at e2
      exact absurd (var_neg hv') (Int32.not_lt.mpr e2)
    · have : k = k' := (nI_eq (by omega) (by omega)).mp (e1.symm.trans (h.trans f1))
      subst this
      rcases e3 with ⟨g0, a1, a2⟩ | ⟨g0, a1, a2⟩ | ⟨g0, a1, a2⟩ <;> rcases f3 with ⟨g1, b1, b2⟩ | ⟨g1, b1, b2⟩ | ⟨g1, b1, b2⟩
      · exact ⟨⟨fun _ => b1, fun _ => a1⟩, ⟨fun _ => b2, fun _ => a2⟩⟩
      · rw [g0] at g1; exact absurd g1 (by decide)
      · rw [g0] at g1; exact absurd g1 (by decide)
      · rw [g0] at g1; exact absurd g1 (by decide)
      · exact ⟨⟨fun z => absurd z a1, fun z => absurd z b1⟩, ⟨fun _ => b2, fun _ => a2⟩⟩
      · rw [g0] at g1; exact absurd g1 (by decide)
      · rw [g0] at g1; exact absurd g1 (by decide)
      · rw [g0] at g1; exact absurd g1 (by decide)
      · exact ⟨⟨fun z => absurd z a1, fun z => absurd z b1⟩, ⟨fun z => absurd z a2, fun z => absurd z b2⟩⟩
/-- the assignment of a row r of nodes -/
def thr (σ : St) (r : Nat → Int32) : Nat → Option Ty := fun v => if r v = -1 then none else some (tM σ (r v))
theorem bind2 {a b : Option Ty} {h : Int32} {τ : Ty} (e : (a.bind fun x => b.bind fun z => some (nd h x z)) = some τ) : ∃ x z, a = some x ∧ b = some z ∧ τ = nd h x z := by
  cases a with
  | none => exact absurd e (by simp)
  | some x =>
    cases b with
    | none => exact absurd e (by simp)
    | some z => exact ⟨x, z, rfl, rfl, (Option.some.inj e).symm⟩
/-- a type all of whose variables are set fits only what it becomes -/
theorem fit_check {N n q : Nat} {g : Nat → Int32} {y σ0 : St} {r25 : Nat → Int32} (I : I1 n g q y σ0) (hq : q ≤ 40) (V : ∀ v, v < 1000 → r25 v = -1 ∨ Kd n (r25 v)) :
    ∀ a b c d z f σ τ0, a < n → b < n → c < n → d < n → tC y (nI a) = tM σ0 (nI b) → tC y (nI c) = tM σ0 (nI d) → (∀ r, r ≠ 22 → r ≠ 23 → r ≠ 25 → σ r = σ0 r) → σ 25 = r25 → σ 22 z = nI b → σ 23 z = nI d → z + hg (tC y (nI a)) ≤ 63 → ins (thr σ0 r25) (tC y (nI a)) = some τ0 → sz (tC y (nI a)) < f →
      (tC y (nI c) = τ0 ∧ ∃ σ', f_X5_fits_16 N f σ (nI (z + 1)) = f_X5_fits_16 N (f - sz (tC y (nI a))) σ' (nI z) ∧ (∀ r, r ≠ 22 → r ≠ 23 → r ≠ 25 → σ' r = σ0 r) ∧ σ' 25 = r25 ∧ ∀ i, i < z → σ' 22 i = σ 22 i ∧ σ' 23 i = σ 23 i) ∨ (tC y (nI c) ≠ τ0 ∧ ∃ σ', f_X5_fits_16 N f σ (nI (z + 1)) = some (0, σ') ∧ ∀ r, r ≠ 22 → r ≠ 23 → r ≠ 25 → σ' r = σ0 r) := by
  obtain ⟨T, M, -⟩ := id I
  have hn := T.1
  intro a
  induction a using Nat.strongRecOn with
  | _ a ih =>
    intro b c d z f σ τ0 ha hb hc hd eab ecd fr f25 e22 e23 hz hins hf
    obtain ⟨f, rfl⟩ : ∃ w, f = w + 1 := ⟨f - 1, by omega⟩
    obtain ⟨e0, hk⟩ := RT.kids I hq ha hb eab
    obtain ⟨e0', hk'⟩ := RT.kids I hq hc hd ecd
    have hpos := sz_pos T ha
    obtain ⟨eta, hcs⟩ := hd_cases I hq ha
    obtain ⟨etc, -⟩ := hd_cases I hq hc
    have r6 : σ 6 = σ0 6 := fr 6 (by decide) (by decide) (by decide)
    have r7 : σ 7 = σ0 7 := fr 7 (by decide) (by decide) (by decide)
    have r8 : σ 8 = σ0 8 := fr 8 (by decide) (by decide) (by decide)
    rcases hcs with ⟨v, hv, ev, ek1, ek2⟩ | ⟨kc, hkc, ekc, hge, -⟩
    · -- a variable
      have hs1 : sz (tC y (nI a)) = 1 := by rw [eta, ek1, ek2, null_C, sz_nd, sz_null]
      rw [eta, ev, ins_var hv] at hins
      have hne : ¬ r25 v = -1 := fun q => by
        rw [thr, if_pos q] at hins; exact absurd hins (by simp)
      rw [thr, if_neg hne] at hins
      have hτ : τ0 = tM σ0 (r25 v) := (Option.some.inj hins).symm
      have hkd : Kd n (r25 v) := by
        rcases V v hv with q | q
        · exact absurd q hne
        · exact q
      have st := fit_var1 (N := N) (f := f) (b := b) (d := d) (σ := σ) (by omega : z < 63) (by omega) (by omega) hv e22 e23 (by rw [r6, ← e0, ev]) (by rw [f25]; exact hne)
      rw [f25] at st
      rw [hs1]
      by_cases q : r25 v = nI d
      · rw [if_pos q] at st
        exact Or.inl ⟨by rw [hτ, q]; exact ecd, σ, st, fr, f25, fun _ _ => ⟨rfl, rfl⟩⟩
      · rw [if_neg q] at st
        refine Or.inr ⟨fun w => q ?_, σ, st, fr⟩
        rw [hτ, ecd] at w
        exact (tT_inj M.2.2.2.1 M.2.2.2.2.1 (by omega) _ _ (Or.inr ⟨d, hd, rfl⟩) hkd.kid w).symm
    · have hge' : 0 ≤ σ 6 b := by rw [r6, ← e0]; exact hge
      rw [eta, ekc, ins_con (by omega)] at hins
      obtain ⟨τ1, τ2, hi1, hi2, hτ⟩ := bind2 hins
      by_cases heq : y 0 a = y 0 c
      · obtain ⟨sh1, sh2⟩ := shape I hq ha hc heq
        have he : σ 6 b = σ 6 d := by rw [r6, ← e0, ← e0', heq]
        have hhead : y 0 c = nI kc := heq.symm.trans ekc
        rcases hk with ⟨p1, p2, p3, p4, p5, p6⟩ | ⟨a1, b1, p1, p2, p3, p4, p5, -, hk2⟩
        · -- nothing below
          have st := fit_kid0 (N := N) (f := f) (σ := σ) (by omega : z < 63) (by omega) (by omega) e22 e23 hge' he (by rw [r7]; exact p2) (by rw [r8]; exact p4)
          rw [p5]
          rw [p1, null_C, ins_null] at hi1
          rw [p3, null_C, ins_null] at hi2
          refine Or.inl ⟨?_, σ, st, fr, f25, fun _ _ => ⟨rfl, rfl⟩⟩
          rw [etc, sh1.mp p1, sh2.mp p3, null_C, hτ, hhead, ← Option.some.inj hi1, ← Option.some.inj hi2]
        · rcases hk' with ⟨q1, q2, q3, q4, q5, q6⟩ | ⟨c1, d1, q1, q2, q3, q4, q5, -, hk2'⟩
          · have := sh1.mpr q1
            rw [p1] at this
            exact absurd this (nI_ne_m1 (by omega))
          have hp1 := sz_pos T (by omega : a1 < n)
          rcases hk2 with ⟨p6, p7, p8, p9⟩ | ⟨a2, b2, p6, p7, p8, p9, p10, p11, p12⟩
          · -- one part
            have st := fit_kid1 (N := N) (f := f) (σ := σ) (u := nI b1) (u' := nI d1) (by omega : z < 63) (by omega) (by omega) e22 e23 hge' he (by rw [r7]; exact p2) (nI_ne_m1 (by omega)) (by rw [r7]; exact q2) (by rw [r8]; exact p7)
            rw [p6, null_C, ins_null] at hi2
            rw [p1] at hi1
            have ettc : tC y (nI c) = nd (nI kc) (tC y (nI c1)) Term.null := by
              rw [etc, q1, sh2.mp p6, null_C, hhead]
            rw [st, p8]
            have ez : f + 1 - (1 + sz (tC y (nI a1))) = f - sz (tC y (nI a1)) := by omega
            rw [ez]
            rcases ih a1 p3 b1 c1 d1 z f (up2 (up2 σ 22 z (nI b1)) 23 z (nI d1)) τ1 (by omega) (by omega) (by omega) (by omega) p5 q5 (fun r h22 h23 h25 => by rw [up2_row h23, up2_row h22]; exact fr r h22 h23 h25) (by rw [up2_row (by decide), up2_row (by decide)]; exact f25) (by simp (disch := omega) only [ltL, Llt, leL, Lle, eqL, addL, Ladd, subL, subN, decN, eqM, Mle, mulL, nI_add, nI_ltI, nI_leI, nI_eq, nI_clamp, up2_at, nltT, nltF, nleT, nleF, neqT, neqF, ↓reduceIte, true_or, or_true, false_or, or_false, or_self, true_and, and_true, false_and, and_false, and_self, not_true, not_false_eq_true, i10, i01, im0, im12, im21, m1lt, m2lt, m1le, m2le, i00, i0le0, i1le0, i2le0, i3le0, eq_self, ]) (by simp (disch := omega) only [ltL, Llt, leL, Lle, eqL, addL, Ladd, subL, subN, decN, eqM, Mle, mulL, nI_add, nI_ltI, nI_leI, nI_eq, nI_clamp, up2_at, nltT, nltF, nleT, nleF, neqT, neqF, ↓reduceIte, true_or, or_true, false_or, or_false, or_self, true_and, and_true, false_and, and_false, and_self, not_true, not_false_eq_true, i10, i01, im0, im12, im21, m1lt, m2lt, m1le, m2le, i00, i0le0, i1le0, i2le0, i3le0, eq_self, ]) (by omega) hi1 (by omega) with ⟨g1, σ', g2, g3, g4, g5⟩ | ⟨g1, σ', g2, g3⟩
            · refine Or.inl ⟨by rw [ettc, g1, hτ, ← Option.some.inj hi2], σ', g2, g3, g4, fun i hi => ?_⟩
              obtain ⟨w1, w2⟩ := g5 i hi
              rw [w1, w2]
              have n1 : ¬ i = z := by omega
              exact ⟨by simp (disch := omega) only [ltL, Llt, leL, Lle, eqL, addL, Ladd, subL, subN, decN, eqM, Mle, mulL, nI_add, nI_ltI, nI_leI, nI_eq, nI_clamp, up2_at, nltT, nltF, nleT, nleF, neqT, neqF, ↓reduceIte, true_or, or_true, false_or, or_false, or_self, true_and, and_true, false_and, and_false, and_self, not_true, not_false_eq_true, i10, i01, im0, im12, im21, m1lt, m2lt, m1le, m2le, i00, i0le0, i1le0, i2le0, i3le0, eq_self, n1], by simp (disch := omega) only [ltL, Llt, leL, Lle, eqL, addL, Ladd, subL, subN, decN, eqM, Mle, mulL, nI_add, nI_ltI, nI_leI, nI_eq, nI_clamp, up2_at, nltT, nltF, nleT, nleF, neqT, neqF, ↓reduceIte, true_or, or_true, false_or, or_false, or_self, true_and, and_true, false_and, and_false, and_self, not_true, not_false_eq_true, i10, i01, im0, im12, im21, m1lt, m2lt, m1le, m2le, i00, i0le0, i1le0, i2le0, i3le0, eq_self, n1]⟩
            · refine Or.inr ⟨fun w => g1 ?_, σ', g2, g3⟩
              rw [ettc, hτ] at w
              exact (nd_inj w).2.1
          · -- two parts
            rcases hk2' with ⟨q6, -⟩ | ⟨c2, d2, q6, q7, q8, q9, q10, -⟩
            · have := sh2.mpr q6
              rw [p6] at this
              exact absurd this (nI_ne_m1 (by omega))
            have st := fit_kid2 (N := N) (f := f) (σ := σ) (u := nI b1) (u' := nI d1) (v := nI b2) (v' := nI d2) (by omega : z < 62) (by omega) (by omega) e22 e23 hge' he (by rw [r7]; exact p2) (nI_ne_m1 (by omega)) (by rw [r7]; exact q2) (by rw [r8]; exact p7) (nI_ne_m1 (by omega)) (by rw [r8]; exact q7)
            rw [p6] at hi2
            rw [p1] at hi1
            have ettc : tC y (nI c) = nd (nI kc) (tC y (nI c1)) (tC y (nI c2)) := by
              rw [etc, q1, q6, hhead]
            rw [st, p11]
            have ez : f + 1 - (1 + sz (tC y (nI a1)) + sz (tC y (nI a2))) = f - sz (tC y (nI a1)) - sz (tC y (nI a2)) := by omega
            rw [ez]
            rcases ih a1 p3 b1 c1 d1 (z + 1) f (up2 (up2 (up2 (up2 σ 22 z (nI b2)) 23 z (nI d2)) 22 (z + 1) (nI b1)) 23 (z + 1) (nI d1)) τ1 (by omega) (by omega) (by omega) (by omega) p5 q5 (fun r h22 h23 h25 => by rw [up2_row h23, up2_row h22, up2_row h23, up2_row h22]; exact fr r h22 h23 h25) (by rw [up2_row (by decide), up2_row (by decide), up2_row (by decide), up2_row (by decide)]; exact f25) (by simp (disch := omega) only [ltL, Llt, leL, Lle, eqL, addL, Ladd, subL, subN, decN, eqM, Mle, mulL, nI_add, nI_ltI, nI_leI, nI_eq, nI_clamp, up2_at, nltT, nltF, nleT, nleF, neqT, neqF, ↓reduceIte, true_or, or_true, false_or, or_false, or_self, true_and, and_true, false_and, and_false, and_self, not_true, not_false_eq_true, i10, i01, im0, im12, im21, m1lt, m2lt, m1le, m2le, i00, i0le0, i1le0, i2le0, i3le0, eq_self, ]) (by simp (disch := omega) only [ltL, Llt, leL, Lle, eqL, addL, Ladd, subL, subN, decN, eqM, Mle, mulL, nI_add, nI_ltI, nI_leI, nI_eq, nI_clamp, up2_at, nltT, nltF, nleT, nleF, neqT, neqF, ↓reduceIte, true_or, or_true, false_or, or_false, or_self, true_and, and_true, false_and, and_false, and_self, not_true, not_false_eq_true, i10, i01, im0, im12, im21, m1lt, m2lt, m1le, m2le, i00, i0le0, i1le0, i2le0, i3le0, eq_self, ]) (by omega) hi1 (by omega) with ⟨g1, σ', g2, g3, g4, g5⟩ | ⟨g1, σ', g2, g3⟩
            · obtain ⟨w1, w2⟩ := g5 z (by omega)
              have w1' : σ' 22 z = nI b2 := by
                rw [w1]
                have n1 : ¬ z = z + 1 := by omega
                simp (disch := omega) only [ltL, Llt, leL, Lle, eqL, addL, Ladd, subL, subN, decN, eqM, Mle, mulL, nI_add, nI_ltI, nI_leI, nI_eq, nI_clamp, up2_at, nltT, nltF, nleT, nleF, neqT, neqF, ↓reduceIte, true_or, or_true, false_or, or_false, or_self, true_and, and_true, false_and, and_false, and_self, not_true, not_false_eq_true, i10, i01, im0, im12, im21, m1lt, m2lt, m1le, m2le, i00, i0le0, i1le0, i2le0, i3le0, eq_self, n1]
              have w2' : σ' 23 z = nI d2 := by
                rw [w2]
                have n1 : ¬ z = z + 1 := by omega
                simp (disch := omega) only [ltL, Llt, leL, Lle, eqL, addL, Ladd, subL, subN, decN, eqM, Mle, mulL, nI_add, nI_ltI, nI_leI, nI_eq, nI_clamp, up2_at, nltT, nltF, nleT, nleF, neqT, neqF, ↓reduceIte, true_or, or_true, false_or, or_false, or_self, true_and, and_true, false_and, and_false, and_self, not_true, not_false_eq_true, i10, i01, im0, im12, im21, m1lt, m2lt, m1le, m2le, i00, i0le0, i1le0, i2le0, i3le0, eq_self, n1]
              rcases ih a2 p8 b2 c2 d2 z (f - sz (tC y (nI a1))) σ' τ2 (by omega) (by omega) (by omega) (by omega) p10 q10 g3 g4 w1' w2' (by omega) hi2 (by omega) with ⟨u1, σ'', u2, u3, u4, u5⟩ | ⟨u1, σ'', u2, u3⟩
              · refine Or.inl ⟨by rw [ettc, g1, u1, hτ], σ'', g2.trans u2, u3, u4, fun i hi => ?_⟩
                obtain ⟨w3, w4⟩ := u5 i hi
                obtain ⟨w5, w6⟩ := g5 i (by omega)
                rw [w3, w4, w5, w6]
                have n1 : ¬ i = z := by omega
                have n2 : ¬ i = z + 1 := by omega
                exact ⟨by simp (disch := omega) only [ltL, Llt, leL, Lle, eqL, addL, Ladd, subL, subN, decN, eqM, Mle, mulL, nI_add, nI_ltI, nI_leI, nI_eq, nI_clamp, up2_at, nltT, nltF, nleT, nleF, neqT, neqF, ↓reduceIte, true_or, or_true, false_or, or_false, or_self, true_and, and_true, false_and, and_false, and_self, not_true, not_false_eq_true, i10, i01, im0, im12, im21, m1lt, m2lt, m1le, m2le, i00, i0le0, i1le0, i2le0, i3le0, eq_self, n1, n2], by simp (disch := omega) only [ltL, Llt, leL, Lle, eqL, addL, Ladd, subL, subN, decN, eqM, Mle, mulL, nI_add, nI_ltI, nI_leI, nI_eq, nI_clamp, up2_at, nltT, nltF, nleT, nleF, neqT, neqF, ↓reduceIte, true_or, or_true, false_or, or_false, or_self, true_and, and_true, false_and, and_false, and_self, not_true, not_false_eq_true, i10, i01, im0, im12, im21, m1lt, m2lt, m1le, m2le, i00, i0le0, i1le0, i2le0, i3le0, eq_self, n1, n2]⟩
              · refine Or.inr ⟨fun w => u1 ?_, σ'', g2.trans u2, u3⟩
                rw [ettc, hτ] at w
                exact (nd_inj w).2.2
            · refine Or.inr ⟨fun w => g1 ?_, σ', g2, g3⟩
              rw [ettc, hτ] at w
              exact (nd_inj w).2.1
      · have st := fit_ne (N := N) (f := f) (σ := σ) (by omega : z < 63) (by omega) (by omega) e22 e23 hge' (by rw [r6, ← e0, ← e0']; exact heq)
        refine Or.inr ⟨fun w => heq ?_, σ, st, fr⟩
        rw [etc, hτ] at w
        rw [ekc]; exact (nd_inj w).1.symm
