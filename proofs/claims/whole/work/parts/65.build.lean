/-! PURE: a term is built behind the last one, by class and reference -/
/-- where the building begins -/
def Bs (m s : Nat) (t0 σ0 : St) : Prop := m < 512 ∧ s ≤ 30000 ∧ t0 5 0 = nI m ∧ t0 2 m = nI s ∧ σ0 18 0 = nI m ∧ σ0 19 m = nI s
/-- the reference wrote L symbols of e, its place is p -/
def BM (s L : Nat) (σ0 σ : St) (p : Int32) : Prop := p = nI (s + min L 4001) ∧ (∀ r, r ≠ 20 → r ≠ 21 → r ≠ 24 → σ r = σ0 r) ∧ ∀ k, k < s → σ 20 k = σ0 20 k ∧ σ 21 k = σ0 21 k
def Bd (Q : Int32 → Int32 → Int32 → Prop) (e : Nat → Int32) (s L : Nat) (t0 σ0 t σ : St) (p : Int32) : Prop := BM s L σ0 σ p ∧ (∀ r, r ≠ 0 → r ≠ 1 → r ≠ 6 → r ≠ 7 → t r = t0 r) ∧ (∀ k, k < s → t 0 k = t0 0 k ∧ t 1 k = t0 1 k) ∧ ((L ≤ 4000 ∧ s + L ≤ 30000 ∧ t 7 0 = 0 ∧ t 6 0 = nI (s + L) ∧ ∀ i, i < L → t 0 (s + i) = e i ∧ σ 20 (s + i) = e i ∧ Q (e i) (t 1 (s + i)) (σ 21 (s + i))) ∨ (¬ (L ≤ 4000 ∧ s + L ≤ 30000) ∧ t 7 0 = 1))
theorem begin_ok {N m s : Nat} {t0 k σ0 : St} {Q : Int32 → Int32 → Int32 → Prop} {e : Nat → Int32} (B : Bs m s t0 σ0) : ∃ t, f_X1_begin N t0 k = some (t, k) ∧ Bd Q e s 0 t0 σ0 t σ0 (nI s) := by
  obtain ⟨b1, b2, b3, b4, b5, b6⟩ := B
  have hs := start_ok (N := N) (t := t0) (k := k) (by omega : m < 513)
  rw [b4] at hs
  refine ⟨up2 (up2 t0 6 0 (nI s)) 7 0 0, ?_, ⟨rfl, fun _ _ _ _ => rfl, fun _ _ => ⟨rfl, rfl⟩⟩, fun r h0 h1 h6 h7 => by rw [up2_row h7, up2_row h6], fun k hk => ⟨by rw [up2_row (by decide), up2_row (by decide)], by rw [up2_row (by decide), up2_row (by decide)]⟩, Or.inl ⟨by omega, by omega, by simp (disch := omega) only [ltL, Llt, leL, Lle, eqL, addL, Ladd, subL, subN, decN, eqM, Mle, mulL, nI_add, nI_ltI, nI_leI, nI_eq, nI_clamp, up2_at, nltT, nltF, nleT, nleF, neqT, neqF, ↓reduceIte, true_or, or_true, false_or, or_false, or_self, true_and, and_true, false_and, and_false, and_self, not_true, not_false_eq_true, i10, i01, im0, im12, im21, m1lt, m2lt, m1le, m2le, i00, i0le0, i1le0, i2le0, i3le0, eq_self, ], by simp (disch := omega) only [ltL, Llt, leL, Lle, eqL, addL, Ladd, subL, subN, decN, eqM, Mle, mulL, nI_add, nI_ltI, nI_leI, nI_eq, nI_clamp, up2_at, nltT, nltF, nleT, nleF, neqT, neqF, ↓reduceIte, true_or, or_true, false_or, or_false, or_self, true_and, and_true, false_and, and_false, and_self, not_true, not_false_eq_true, i10, i01, im0, im12, im21, m1lt, m2lt, m1le, m2le, i00, i0le0, i1le0, i2le0, i3le0, eq_self, ], fun i hi => absurd hi (by omega)⟩⟩
  rewrite [f_X1_begin, b3]
  repeat (first | with_reducible refine bnE ?_ | with_reducible refine exI ?_ | with_reducible refine exJ ?_ | with_reducible refine bs (hs) ?_ | ((with_reducible refine iN ?_ ?_); · simp (disch := omega) only [ltL, Llt, leL, Lle, eqL, addL, Ladd, subL, subN, decN, eqM, Mle, mulL, nI_add, nI_ltI, nI_leI, nI_eq, nI_clamp, up2_at, nltT, nltF, nleT, nleF, neqT, neqF, ↓reduceIte, true_or, or_true, false_or, or_false, or_self, true_and, and_true, false_and, and_false, and_self, not_true, not_false_eq_true, i10, i01, im0, im12, im21, m1lt, m2lt, m1le, m2le, i00, i0le0, i1le0, i2le0, i3le0, eq_self]) | ((with_reducible refine ip ?_ ?_); · simp (disch := omega) only [ltL, Llt, leL, Lle, eqL, addL, Ladd, subL, subN, decN, eqM, Mle, mulL, nI_add, nI_ltI, nI_leI, nI_eq, nI_clamp, up2_at, nltT, nltF, nleT, nleF, neqT, neqF, ↓reduceIte, true_or, or_true, false_or, or_false, or_self, true_and, and_true, false_and, and_false, and_self, not_true, not_false_eq_true, i10, i01, im0, im12, im21, m1lt, m2lt, m1le, m2le, i00, i0le0, i1le0, i2le0, i3le0, eq_self]))
  rfl
theorem writeM {N m s L : Nat} {σ : St} {c v : Int32} (hm : m < 512) (hs : s ≤ 30000) (h18 : σ 18 0 = nI m) (h19 : σ 19 m = nI s) : f_X5_write N σ (nI (s + min L 4001)) c v = some (nI (s + min (L + 1) 4001), if L ≤ 4000 then up2 (up2 σ 20 (s + L) c) 21 (s + L) v else σ) := by
  by_cases h : L ≤ 4000
  · have e1 : min L 4001 = L := by omega
    have e2 : min (L + 1) 4001 = L + 1 := by omega
    rewrite [e1, e2, if_pos h, f_X5_write]
    repeat (first | with_reducible refine bnE ?_ | with_reducible refine exI ?_ | with_reducible refine exJ ?_ | ((with_reducible refine iN ?_ ?_); · simp (disch := omega) only [ltL, Llt, leL, Lle, eqL, addL, Ladd, subL, subN, decN, eqM, Mle, mulL, nI_add, nI_ltI, nI_leI, nI_eq, nI_clamp, up2_at, nltT, nltF, nleT, nleF, neqT, neqF, ↓reduceIte, true_or, or_true, false_or, or_false, or_self, true_and, and_true, false_and, and_false, and_self, not_true, not_false_eq_true, i10, i01, im0, im12, im21, m1lt, m2lt, m1le, m2le, i00, i0le0, i1le0, i2le0, i3le0, eq_self, h18, h19]) | ((with_reducible refine ip ?_ ?_); · simp (disch := omega) only [ltL, Llt, leL, Lle, eqL, addL, Ladd, subL, subN, decN, eqM, Mle, mulL, nI_add, nI_ltI, nI_leI, nI_eq, nI_clamp, up2_at, nltT, nltF, nleT, nleF, neqT, neqF, ↓reduceIte, true_or, or_true, false_or, or_false, or_self, true_and, and_true, false_and, and_false, and_self, not_true, not_false_eq_true, i10, i01, im0, im12, im21, m1lt, m2lt, m1le, m2le, i00, i0le0, i1le0, i2le0, i3le0, eq_self, h18, h19]))
    simp (disch := omega) only [ltL, Llt, leL, Lle, eqL, addL, Ladd, subL, subN, decN, eqM, Mle, mulL, nI_add, nI_ltI, nI_leI, nI_eq, nI_clamp, up2_at, nltT, nltF, nleT, nleF, neqT, neqF, ↓reduceIte, true_or, or_true, false_or, or_false, or_self, true_and, and_true, false_and, and_false, and_self, not_true, not_false_eq_true, i10, i01, im0, im12, im21, m1lt, m2lt, m1le, m2le, i00, i0le0, i1le0, i2le0, i3le0, eq_self, ]
    rfl
  · have e1 : min L 4001 = 4001 := by omega
    have e2 : min (L + 1) 4001 = 4001 := by omega
    rewrite [e1, e2, if_neg h, f_X5_write]
    repeat (first | with_reducible refine bnE ?_ | with_reducible refine exI ?_ | with_reducible refine exJ ?_ | ((with_reducible refine iN ?_ ?_); · simp (disch := omega) only [ltL, Llt, leL, Lle, eqL, addL, Ladd, subL, subN, decN, eqM, Mle, mulL, nI_add, nI_ltI, nI_leI, nI_eq, nI_clamp, up2_at, nltT, nltF, nleT, nleF, neqT, neqF, ↓reduceIte, true_or, or_true, false_or, or_false, or_self, true_and, and_true, false_and, and_false, and_self, not_true, not_false_eq_true, i10, i01, im0, im12, im21, m1lt, m2lt, m1le, m2le, i00, i0le0, i1le0, i2le0, i3le0, eq_self, h18, h19]) | ((with_reducible refine ip ?_ ?_); · simp (disch := omega) only [ltL, Llt, leL, Lle, eqL, addL, Ladd, subL, subN, decN, eqM, Mle, mulL, nI_add, nI_ltI, nI_leI, nI_eq, nI_clamp, up2_at, nltT, nltF, nleT, nleF, neqT, neqF, ↓reduceIte, true_or, or_true, false_or, or_false, or_self, true_and, and_true, false_and, and_false, and_self, not_true, not_false_eq_true, i10, i01, im0, im12, im21, m1lt, m2lt, m1le, m2le, i00, i0le0, i1le0, i2le0, i3le0, eq_self, h18, h19]))
    rfl
theorem room_ok {N m s c d : Nat} {t k : St} (hm : m < 512) (hs : s ≤ 30000) (h5 : t 5 0 = nI m) (h2 : t 2 m = nI s) (h6 : t 6 0 = nI (s + c)) (hc : c ≤ 4000) (hd : d ≤ 30000) : f_X1_hasRoom N t k (nI d) = some ((if c + d ≤ 4000 ∧ s + (c + d) ≤ 30000 then 1 else 0), (t, k)) := by
  have hst := start_ok (N := N) (t := t) (k := k) (by omega : m < 513)
  rw [h2] at hst
  by_cases q1 : s + c + d ≤ 30000
  · by_cases q2 : c + d ≤ 4000
    · rewrite [if_pos ⟨q2, by omega⟩, f_X1_hasRoom, h5]
      repeat (first | with_reducible refine bnE ?_ | with_reducible refine exI ?_ | with_reducible refine exJ ?_ | with_reducible refine bs (hst) ?_ | ((with_reducible refine iN ?_ ?_); · simp (disch := omega) only [ltL, Llt, leL, Lle, eqL, addL, Ladd, subL, subN, decN, eqM, Mle, mulL, nI_add, nI_ltI, nI_leI, nI_eq, nI_clamp, up2_at, nltT, nltF, nleT, nleF, neqT, neqF, ↓reduceIte, true_or, or_true, false_or, or_false, or_self, true_and, and_true, false_and, and_false, and_self, not_true, not_false_eq_true, i10, i01, im0, im12, im21, m1lt, m2lt, m1le, m2le, i00, i0le0, i1le0, i2le0, i3le0, eq_self, h6]) | ((with_reducible refine ip ?_ ?_); · simp (disch := omega) only [ltL, Llt, leL, Lle, eqL, addL, Ladd, subL, subN, decN, eqM, Mle, mulL, nI_add, nI_ltI, nI_leI, nI_eq, nI_clamp, up2_at, nltT, nltF, nleT, nleF, neqT, neqF, ↓reduceIte, true_or, or_true, false_or, or_false, or_self, true_and, and_true, false_and, and_false, and_self, not_true, not_false_eq_true, i10, i01, im0, im12, im21, m1lt, m2lt, m1le, m2le, i00, i0le0, i1le0, i2le0, i3le0, eq_self, h6]))
      rewrite [f_X1_hasRoom_45]
      repeat (first | with_reducible refine bnE ?_ | with_reducible refine exI ?_ | with_reducible refine exJ ?_ | ((with_reducible refine iN ?_ ?_); · simp (disch := omega) only [ltL, Llt, leL, Lle, eqL, addL, Ladd, subL, subN, decN, eqM, Mle, mulL, nI_add, nI_ltI, nI_leI, nI_eq, nI_clamp, up2_at, nltT, nltF, nleT, nleF, neqT, neqF, ↓reduceIte, true_or, or_true, false_or, or_false, or_self, true_and, and_true, false_and, and_false, and_self, not_true, not_false_eq_true, i10, i01, im0, im12, im21, m1lt, m2lt, m1le, m2le, i00, i0le0, i1le0, i2le0, i3le0, eq_self]) | ((with_reducible refine ip ?_ ?_); · simp (disch := omega) only [ltL, Llt, leL, Lle, eqL, addL, Ladd, subL, subN, decN, eqM, Mle, mulL, nI_add, nI_ltI, nI_leI, nI_eq, nI_clamp, up2_at, nltT, nltF, nleT, nleF, neqT, neqF, ↓reduceIte, true_or, or_true, false_or, or_false, or_self, true_and, and_true, false_and, and_false, and_self, not_true, not_false_eq_true, i10, i01, im0, im12, im21, m1lt, m2lt, m1le, m2le, i00, i0le0, i1le0, i2le0, i3le0, eq_self]))
      rfl
    · rewrite [if_neg (fun z => q2 z.1), f_X1_hasRoom, h5]
      repeat (first | with_reducible refine bnE ?_ | with_reducible refine exI ?_ | with_reducible refine exJ ?_ | with_reducible refine bs (hst) ?_ | ((with_reducible refine iN ?_ ?_); · simp (disch := omega) only [ltL, Llt, leL, Lle, eqL, addL, Ladd, subL, subN, decN, eqM, Mle, mulL, nI_add, nI_ltI, nI_leI, nI_eq, nI_clamp, up2_at, nltT, nltF, nleT, nleF, neqT, neqF, ↓reduceIte, true_or, or_true, false_or, or_false, or_self, true_and, and_true, false_and, and_false, and_self, not_true, not_false_eq_true, i10, i01, im0, im12, im21, m1lt, m2lt, m1le, m2le, i00, i0le0, i1le0, i2le0, i3le0, eq_self, h6]) | ((with_reducible refine ip ?_ ?_); · simp (disch := omega) only [ltL, Llt, leL, Lle, eqL, addL, Ladd, subL, subN, decN, eqM, Mle, mulL, nI_add, nI_ltI, nI_leI, nI_eq, nI_clamp, up2_at, nltT, nltF, nleT, nleF, neqT, neqF, ↓reduceIte, true_or, or_true, false_or, or_false, or_self, true_and, and_true, false_and, and_false, and_self, not_true, not_false_eq_true, i10, i01, im0, im12, im21, m1lt, m2lt, m1le, m2le, i00, i0le0, i1le0, i2le0, i3le0, eq_self, h6]))
      rewrite [f_X1_hasRoom_44, f_X1_hasRoom_45]
      repeat (first | with_reducible refine bnE ?_ | with_reducible refine exI ?_ | with_reducible refine exJ ?_ | ((with_reducible refine iN ?_ ?_); · simp (disch := omega) only [ltL, Llt, leL, Lle, eqL, addL, Ladd, subL, subN, decN, eqM, Mle, mulL, nI_add, nI_ltI, nI_leI, nI_eq, nI_clamp, up2_at, nltT, nltF, nleT, nleF, neqT, neqF, ↓reduceIte, true_or, or_true, false_or, or_false, or_self, true_and, and_true, false_and, and_false, and_self, not_true, not_false_eq_true, i10, i01, im0, im12, im21, m1lt, m2lt, m1le, m2le, i00, i0le0, i1le0, i2le0, i3le0, eq_self]) | ((with_reducible refine ip ?_ ?_); · simp (disch := omega) only [ltL, Llt, leL, Lle, eqL, addL, Ladd, subL, subN, decN, eqM, Mle, mulL, nI_add, nI_ltI, nI_leI, nI_eq, nI_clamp, up2_at, nltT, nltF, nleT, nleF, neqT, neqF, ↓reduceIte, true_or, or_true, false_or, or_false, or_self, true_and, and_true, false_and, and_false, and_self, not_true, not_false_eq_true, i10, i01, im0, im12, im21, m1lt, m2lt, m1le, m2le, i00, i0le0, i1le0, i2le0, i3le0, eq_self]))
      rfl
  · rewrite [if_neg (fun z => q1 (by omega)), f_X1_hasRoom, h5]
    repeat (first | with_reducible refine bnE ?_ | with_reducible refine exI ?_ | with_reducible refine exJ ?_ | with_reducible refine bs (hst) ?_ | ((with_reducible refine iN ?_ ?_); · simp (disch := omega) only [ltL, Llt, leL, Lle, eqL, addL, Ladd, subL, subN, decN, eqM, Mle, mulL, nI_add, nI_ltI, nI_leI, nI_eq, nI_clamp, up2_at, nltT, nltF, nleT, nleF, neqT, neqF, ↓reduceIte, true_or, or_true, false_or, or_false, or_self, true_and, and_true, false_and, and_false, and_self, not_true, not_false_eq_true, i10, i01, im0, im12, im21, m1lt, m2lt, m1le, m2le, i00, i0le0, i1le0, i2le0, i3le0, eq_self, h6]) | ((with_reducible refine ip ?_ ?_); · simp (disch := omega) only [ltL, Llt, leL, Lle, eqL, addL, Ladd, subL, subN, decN, eqM, Mle, mulL, nI_add, nI_ltI, nI_leI, nI_eq, nI_clamp, up2_at, nltT, nltF, nleT, nleF, neqT, neqF, ↓reduceIte, true_or, or_true, false_or, or_false, or_self, true_and, and_true, false_and, and_false, and_self, not_true, not_false_eq_true, i10, i01, im0, im12, im21, m1lt, m2lt, m1le, m2le, i00, i0le0, i1le0, i2le0, i3le0, eq_self, h6]))
    rewrite [f_X1_hasRoom_44, f_X1_hasRoom_45]
    repeat (first | with_reducible refine bnE ?_ | with_reducible refine exI ?_ | with_reducible refine exJ ?_ | ((with_reducible refine iN ?_ ?_); · simp (disch := omega) only [ltL, Llt, leL, Lle, eqL, addL, Ladd, subL, subN, decN, eqM, Mle, mulL, nI_add, nI_ltI, nI_leI, nI_eq, nI_clamp, up2_at, nltT, nltF, nleT, nleF, neqT, neqF, ↓reduceIte, true_or, or_true, false_or, or_false, or_self, true_and, and_true, false_and, and_false, and_self, not_true, not_false_eq_true, i10, i01, im0, im12, im21, m1lt, m2lt, m1le, m2le, i00, i0le0, i1le0, i2le0, i3le0, eq_self]) | ((with_reducible refine ip ?_ ?_); · simp (disch := omega) only [ltL, Llt, leL, Lle, eqL, addL, Ladd, subL, subN, decN, eqM, Mle, mulL, nI_add, nI_ltI, nI_leI, nI_eq, nI_clamp, up2_at, nltT, nltF, nleT, nleF, neqT, neqF, ↓reduceIte, true_or, or_true, false_or, or_false, or_self, true_and, and_true, false_and, and_false, and_self, not_true, not_false_eq_true, i10, i01, im0, im12, im21, m1lt, m2lt, m1le, m2le, i00, i0le0, i1le0, i2le0, i3le0, eq_self]))
    rfl
theorem BM.add {N m s L : Nat} {t0 σ0 σ : St} {p c v : Int32} (B : Bs m s t0 σ0) (h : BM s L σ0 σ p) : ∃ σ' p', f_X5_write N σ p c v = some (p', σ') ∧ BM s (L + 1) σ0 σ' p' ∧ (∀ j, j < L → σ' 20 (s + j) = σ 20 (s + j) ∧ σ' 21 (s + j) = σ 21 (s + j)) ∧ (L ≤ 4000 → σ' 20 (s + L) = c ∧ σ' 21 (s + L) = v) := by
  obtain ⟨b1, b2, b3, b4, b5, b6⟩ := B
  obtain ⟨rfl, h2, h3⟩ := h
  have w := writeM (N := N) (L := L) (σ := σ) (c := c) (v := v) b1 b2 (by rw [h2 18 (by decide) (by decide) (by decide)]; exact b5) (by rw [h2 19 (by decide) (by decide) (by decide)]; exact b6)
  refine ⟨_, _, w, ⟨rfl, fun r r1 r2 r3 => ?_, fun k hk => ?_⟩, fun j hj => ?_, fun hL => ?_⟩
  · by_cases q : L ≤ 4000
    · rw [if_pos q, up2_row r2, up2_row r1]; exact h2 r r1 r2 r3
    · rw [if_neg q]; exact h2 r r1 r2 r3
  · by_cases q : L ≤ 4000
    · rw [if_pos q]
      refine ⟨?_, ?_⟩
      · simp (disch := omega) only [ltL, Llt, leL, Lle, eqL, addL, Ladd, subL, subN, decN, eqM, Mle, mulL, nI_add, nI_ltI, nI_leI, nI_eq, nI_clamp, up2_at, nltT, nltF, nleT, nleF, neqT, neqF, ↓reduceIte, true_or, or_true, false_or, or_false, or_self, true_and, and_true, false_and, and_false, and_self, not_true, not_false_eq_true, i10, i01, im0, im12, im21, m1lt, m2lt, m1le, m2le, i00, i0le0, i1le0, i2le0, i3le0, eq_self, ]; exact (h3 k hk).1
      · simp (disch := omega) only [ltL, Llt, leL, Lle, eqL, addL, Ladd, subL, subN, decN, eqM, Mle, mulL, nI_add, nI_ltI, nI_leI, nI_eq, nI_clamp, up2_at, nltT, nltF, nleT, nleF, neqT, neqF, ↓reduceIte, true_or, or_true, false_or, or_false, or_self, true_and, and_true, false_and, and_false, and_self, not_true, not_false_eq_true, i10, i01, im0, im12, im21, m1lt, m2lt, m1le, m2le, i00, i0le0, i1le0, i2le0, i3le0, eq_self, ]; exact (h3 k hk).2
    · rw [if_neg q]; exact h3 k hk
  · by_cases q : L ≤ 4000
    · rw [if_pos q]
      have : ¬ s + j = s + L := by omega
      exact ⟨by simp (disch := omega) only [ltL, Llt, leL, Lle, eqL, addL, Ladd, subL, subN, decN, eqM, Mle, mulL, nI_add, nI_ltI, nI_leI, nI_eq, nI_clamp, up2_at, nltT, nltF, nleT, nleF, neqT, neqF, ↓reduceIte, true_or, or_true, false_or, or_false, or_self, true_and, and_true, false_and, and_false, and_self, not_true, not_false_eq_true, i10, i01, im0, im12, im21, m1lt, m2lt, m1le, m2le, i00, i0le0, i1le0, i2le0, i3le0, eq_self, this], by simp (disch := omega) only [ltL, Llt, leL, Lle, eqL, addL, Ladd, subL, subN, decN, eqM, Mle, mulL, nI_add, nI_ltI, nI_leI, nI_eq, nI_clamp, up2_at, nltT, nltF, nleT, nleF, neqT, neqF, ↓reduceIte, true_or, or_true, false_or, or_false, or_self, true_and, and_true, false_and, and_false, and_self, not_true, not_false_eq_true, i10, i01, im0, im12, im21, m1lt, m2lt, m1le, m2le, i00, i0le0, i1le0, i2le0, i3le0, eq_self, this]⟩
    · rw [if_neg q]; exact ⟨rfl, rfl⟩
  · rw [if_pos hL]
    exact ⟨by simp (disch := omega) only [ltL, Llt, leL, Lle, eqL, addL, Ladd, subL, subN, decN, eqM, Mle, mulL, nI_add, nI_ltI, nI_leI, nI_eq, nI_clamp, up2_at, nltT, nltF, nleT, nleF, neqT, neqF, ↓reduceIte, true_or, or_true, false_or, or_false, or_self, true_and, and_true, false_and, and_false, and_self, not_true, not_false_eq_true, i10, i01, im0, im12, im21, m1lt, m2lt, m1le, m2le, i00, i0le0, i1le0, i2le0, i3le0, eq_self, ], by simp (disch := omega) only [ltL, Llt, leL, Lle, eqL, addL, Ladd, subL, subN, decN, eqM, Mle, mulL, nI_add, nI_ltI, nI_leI, nI_eq, nI_clamp, up2_at, nltT, nltF, nleT, nleF, neqT, neqF, ↓reduceIte, true_or, or_true, false_or, or_false, or_self, true_and, and_true, false_and, and_false, and_self, not_true, not_false_eq_true, i10, i01, im0, im12, im21, m1lt, m2lt, m1le, m2le, i00, i0le0, i1le0, i2le0, i3le0, eq_self, ]⟩
theorem Bd.add {N m s L : Nat} {t0 σ0 t k σ : St} {Q : Int32 → Int32 → Int32 → Prop} {e : Nat → Int32} {p c u v : Int32} (B : Bs m s t0 σ0) (h : Bd Q e s L t0 σ0 t σ p) (he : e L = c) (hQ : Q c u v) : ∃ t' σ' p', f_X1_add N t k c u = some (t', k) ∧ f_X5_write N σ p c v = some (p', σ') ∧ Bd Q e s (L + 1) t0 σ0 t' σ' p' := by
  obtain ⟨h1, h2, h3, h4⟩ := h
  obtain ⟨σ', p', w1, w2, w3, w4⟩ := BM.add (N := N) (c := c) (v := v) B h1
  obtain ⟨b1, b2, b3, b4, b5, b6⟩ := B
  have t5 : t 5 0 = nI m := by rw [h2 5 (by decide) (by decide) (by decide) (by decide)]; exact b3
  have t2 : t 2 m = nI s := by rw [h2 2 (by decide) (by decide) (by decide) (by decide)]; exact b4
  have fail : f_X1_add N t k c u = some (up2 t 7 0 1, k) → ¬ (L + 1 ≤ 4000 ∧ s + (L + 1) ≤ 30000) → ∃ t' σ' p', f_X1_add N t k c u = some (t', k) ∧ f_X5_write N σ p c v = some (p', σ') ∧ Bd Q e s (L + 1) t0 σ0 t' σ' p' := fun q1 q2 => ⟨_, σ', p', q1, w1, w2, fun r r0 r1 r6 r7 => by rw [up2_row r7]; exact h2 r r0 r1 r6 r7, fun k hk => by rw [up2_row (by decide), up2_row (by decide)]; exact h3 k hk, Or.inr ⟨q2, by simp (disch := omega) only [ltL, Llt, leL, Lle, eqL, addL, Ladd, subL, subN, decN, eqM, Mle, mulL, nI_add, nI_ltI, nI_leI, nI_eq, nI_clamp, up2_at, nltT, nltF, nleT, nleF, neqT, neqF, ↓reduceIte, true_or, or_true, false_or, or_false, or_self, true_and, and_true, false_and, and_false, and_self, not_true, not_false_eq_true, i10, i01, im0, im12, im21, m1lt, m2lt, m1le, m2le, i00, i0le0, i1le0, i2le0, i3le0, eq_self, ]⟩⟩
  rcases h4 with ⟨g1, g2, g3, g4, g5⟩ | ⟨g1, g2⟩
  · have hr := room_ok (N := N) (k := k) (d := 1) b1 b2 t5 t2 g4 g1 (by omega)
    by_cases q : L + 1 ≤ 4000 ∧ s + (L + 1) ≤ 30000
    · rw [if_pos q] at hr
      refine ⟨up2 (up2 (up2 t 0 (s + L) c) 1 (s + L) u) 6 0 (nI (s + L + 1)), σ', p', ?_, w1, w2, fun r r0 r1 r6 r7 => by rw [up2_row r6, up2_row r1, up2_row r0]; exact h2 r r0 r1 r6 r7, fun k hk => ?_, Or.inl ⟨q.1, q.2, ?_, ?_, fun i hi => ?_⟩⟩
      · rewrite [f_X1_add]
        refine ip g3 ?_
        refine bs hr ?_
        repeat (first | with_reducible refine bnE ?_ | with_reducible refine exI ?_ | with_reducible refine exJ ?_ | ((with_reducible refine iN ?_ ?_); · simp (disch := omega) only [ltL, Llt, leL, Lle, eqL, addL, Ladd, subL, subN, decN, eqM, Mle, mulL, nI_add, nI_ltI, nI_leI, nI_eq, nI_clamp, up2_at, nltT, nltF, nleT, nleF, neqT, neqF, ↓reduceIte, true_or, or_true, false_or, or_false, or_self, true_and, and_true, false_and, and_false, and_self, not_true, not_false_eq_true, i10, i01, im0, im12, im21, m1lt, m2lt, m1le, m2le, i00, i0le0, i1le0, i2le0, i3le0, eq_self, g4]) | ((with_reducible refine ip ?_ ?_); · simp (disch := omega) only [ltL, Llt, leL, Lle, eqL, addL, Ladd, subL, subN, decN, eqM, Mle, mulL, nI_add, nI_ltI, nI_leI, nI_eq, nI_clamp, up2_at, nltT, nltF, nleT, nleF, neqT, neqF, ↓reduceIte, true_or, or_true, false_or, or_false, or_self, true_and, and_true, false_and, and_false, and_self, not_true, not_false_eq_true, i10, i01, im0, im12, im21, m1lt, m2lt, m1le, m2le, i00, i0le0, i1le0, i2le0, i3le0, eq_self, g4]))
        simp (disch := omega) only [ltL, Llt, leL, Lle, eqL, addL, Ladd, subL, subN, decN, eqM, Mle, mulL, nI_add, nI_ltI, nI_leI, nI_eq, nI_clamp, up2_at, nltT, nltF, nleT, nleF, neqT, neqF, ↓reduceIte, true_or, or_true, false_or, or_false, or_self, true_and, and_true, false_and, and_false, and_self, not_true, not_false_eq_true, i10, i01, im0, im12, im21, m1lt, m2lt, m1le, m2le, i00, i0le0, i1le0, i2le0, i3le0, eq_self, g4]
      · have n1 : ¬ k = s + L := by omega
        exact ⟨by simp (disch := omega) only [ltL, Llt, leL, Lle, eqL, addL, Ladd, subL, subN, decN, eqM, Mle, mulL, nI_add, nI_ltI, nI_leI, nI_eq, nI_clamp, up2_at, nltT, nltF, nleT, nleF, neqT, neqF, ↓reduceIte, true_or, or_true, false_or, or_false, or_self, true_and, and_true, false_and, and_false, and_self, not_true, not_false_eq_true, i10, i01, im0, im12, im21, m1lt, m2lt, m1le, m2le, i00, i0le0, i1le0, i2le0, i3le0, eq_self, n1]; exact (h3 k hk).1, by simp (disch := omega) only [ltL, Llt, leL, Lle, eqL, addL, Ladd, subL, subN, decN, eqM, Mle, mulL, nI_add, nI_ltI, nI_leI, nI_eq, nI_clamp, up2_at, nltT, nltF, nleT, nleF, neqT, neqF, ↓reduceIte, true_or, or_true, false_or, or_false, or_self, true_and, and_true, false_and, and_false, and_self, not_true, not_false_eq_true, i10, i01, im0, im12, im21, m1lt, m2lt, m1le, m2le, i00, i0le0, i1le0, i2le0, i3le0, eq_self, n1]; exact (h3 k hk).2⟩
      · simp (disch := omega) only [ltL, Llt, leL, Lle, eqL, addL, Ladd, subL, subN, decN, eqM, Mle, mulL, nI_add, nI_ltI, nI_leI, nI_eq, nI_clamp, up2_at, nltT, nltF, nleT, nleF, neqT, neqF, ↓reduceIte, true_or, or_true, false_or, or_false, or_self, true_and, and_true, false_and, and_false, and_self, not_true, not_false_eq_true, i10, i01, im0, im12, im21, m1lt, m2lt, m1le, m2le, i00, i0le0, i1le0, i2le0, i3le0, eq_self, ]; exact g3
      · simp (disch := omega) only [ltL, Llt, leL, Lle, eqL, addL, Ladd, subL, subN, decN, eqM, Mle, mulL, nI_add, nI_ltI, nI_leI, nI_eq, nI_clamp, up2_at, nltT, nltF, nleT, nleF, neqT, neqF, ↓reduceIte, true_or, or_true, false_or, or_false, or_self, true_and, and_true, false_and, and_false, and_self, not_true, not_false_eq_true, i10, i01, im0, im12, im21, m1lt, m2lt, m1le, m2le, i00, i0le0, i1le0, i2le0, i3le0, eq_self, Nat.add_assoc]
      · by_cases q : i = L
        · subst q
          obtain ⟨a1, a2⟩ := w4 g1
          refine ⟨by simp (disch := omega) only [ltL, Llt, leL, Lle, eqL, addL, Ladd, subL, subN, decN, eqM, Mle, mulL, nI_add, nI_ltI, nI_leI, nI_eq, nI_clamp, up2_at, nltT, nltF, nleT, nleF, neqT, neqF, ↓reduceIte, true_or, or_true, false_or, or_false, or_self, true_and, and_true, false_and, and_false, and_self, not_true, not_false_eq_true, i10, i01, im0, im12, im21, m1lt, m2lt, m1le, m2le, i00, i0le0, i1le0, i2le0, i3le0, eq_self, ]; exact he.symm, a1.trans he.symm, ?_⟩
          have a3 : up2 (up2 (up2 t 0 (s + i) c) 1 (s + i) u) 6 0 (nI (s + i + 1)) 1 (s + i) = u := by simp (disch := omega) only [ltL, Llt, leL, Lle, eqL, addL, Ladd, subL, subN, decN, eqM, Mle, mulL, nI_add, nI_ltI, nI_leI, nI_eq, nI_clamp, up2_at, nltT, nltF, nleT, nleF, neqT, neqF, ↓reduceIte, true_or, or_true, false_or, or_false, or_self, true_and, and_true, false_and, and_false, and_self, not_true, not_false_eq_true, i10, i01, im0, im12, im21, m1lt, m2lt, m1le, m2le, i00, i0le0, i1le0, i2le0, i3le0, eq_self, ]
          rw [a2, a3, he]; exact hQ
        · obtain ⟨a1, a2⟩ := w3 i (by omega)
          obtain ⟨a3, a4, a5⟩ := g5 i (by omega)
          have n1 : ¬ s + i = s + L := by omega
          refine ⟨by simp (disch := omega) only [ltL, Llt, leL, Lle, eqL, addL, Ladd, subL, subN, decN, eqM, Mle, mulL, nI_add, nI_ltI, nI_leI, nI_eq, nI_clamp, up2_at, nltT, nltF, nleT, nleF, neqT, neqF, ↓reduceIte, true_or, or_true, false_or, or_false, or_self, true_and, and_true, false_and, and_false, and_self, not_true, not_false_eq_true, i10, i01, im0, im12, im21, m1lt, m2lt, m1le, m2le, i00, i0le0, i1le0, i2le0, i3le0, eq_self, n1]; exact a3, a1.trans a4, ?_⟩
          have a6 : up2 (up2 (up2 t 0 (s + L) c) 1 (s + L) u) 6 0 (nI (s + L + 1)) 1 (s + i) = t 1 (s + i) := by simp (disch := omega) only [ltL, Llt, leL, Lle, eqL, addL, Ladd, subL, subN, decN, eqM, Mle, mulL, nI_add, nI_ltI, nI_leI, nI_eq, nI_clamp, up2_at, nltT, nltF, nleT, nleF, neqT, neqF, ↓reduceIte, true_or, or_true, false_or, or_false, or_self, true_and, and_true, false_and, and_false, and_self, not_true, not_false_eq_true, i10, i01, im0, im12, im21, m1lt, m2lt, m1le, m2le, i00, i0le0, i1le0, i2le0, i3le0, eq_self, n1]
          rw [a2, a6]; exact a5
    · rw [if_neg q] at hr
      refine fail ?_ q
      rewrite [f_X1_add]
      refine ip g3 ?_
      refine bs hr ?_
      refine ip rfl ?_
      rewrite [f_X1_add_15]
      rfl
  · refine fail ?_ (by omega)
    rewrite [f_X1_add]
    refine iN (by rw [g2]; decide) ?_
    rewrite [f_X1_add_15]
    rfl
theorem BM.copy {N m s v : Nat} {t0 σ0 : St} (B : Bs m s t0 σ0) (hv : v ≤ s) : ∀ d u L f σ p, u + d = v → d < f → BM s L σ0 σ p → ∃ σ' p', f_X5_copy_6 N f σ (nI v) p (nI u) = some (p', σ') ∧ BM s (L + d) σ0 σ' p' ∧ (∀ j, j < L → σ' 20 (s + j) = σ 20 (s + j) ∧ σ' 21 (s + j) = σ 21 (s + j)) ∧ ∀ i, i < d → L + i ≤ 4000 → σ' 20 (s + (L + i)) = σ0 20 (u + i) ∧ σ' 21 (s + (L + i)) = σ0 21 (u + i) := by
  have hs := B.2.1
  intro d
  induction d with
  | zero =>
    intro u L f σ p hu hf h
    obtain ⟨f, rfl⟩ : ∃ z, f = z + 1 := ⟨f - 1, by omega⟩
    refine ⟨σ, p, ?_, h, fun _ _ => ⟨rfl, rfl⟩, fun i hi => absurd hi (by omega)⟩
    rewrite [f_X5_copy_6]
    repeat (first | with_reducible refine bnE ?_ | with_reducible refine exI ?_ | with_reducible refine exJ ?_ | ((with_reducible refine iN ?_ ?_); · simp (disch := omega) only [ltL, Llt, leL, Lle, eqL, addL, Ladd, subL, subN, decN, eqM, Mle, mulL, nI_add, nI_ltI, nI_leI, nI_eq, nI_clamp, up2_at, nltT, nltF, nleT, nleF, neqT, neqF, ↓reduceIte, true_or, or_true, false_or, or_false, or_self, true_and, and_true, false_and, and_false, and_self, not_true, not_false_eq_true, i10, i01, im0, im12, im21, m1lt, m2lt, m1le, m2le, i00, i0le0, i1le0, i2le0, i3le0, eq_self]) | ((with_reducible refine ip ?_ ?_); · simp (disch := omega) only [ltL, Llt, leL, Lle, eqL, addL, Ladd, subL, subN, decN, eqM, Mle, mulL, nI_add, nI_ltI, nI_leI, nI_eq, nI_clamp, up2_at, nltT, nltF, nleT, nleF, neqT, neqF, ↓reduceIte, true_or, or_true, false_or, or_false, or_self, true_and, and_true, false_and, and_false, and_self, not_true, not_false_eq_true, i10, i01, im0, im12, im21, m1lt, m2lt, m1le, m2le, i00, i0le0, i1le0, i2le0, i3le0, eq_self]))
    rfl
  | succ d ih =>
    intro u L f σ p hu hf h
    obtain ⟨f, rfl⟩ : ∃ z, f = z + 1 := ⟨f - 1, by omega⟩
    obtain ⟨σ1, p1, w1, w2, w3, w4⟩ := BM.add (N := N) (c := σ 20 u) (v := σ 21 u) B h
    obtain ⟨σ2, p2, g1, g2, g3, g4⟩ := ih (u + 1) (L + 1) f σ1 p1 (by omega) (by omega) w2
    have hsrc := h.2.2 u (by omega)
    refine ⟨σ2, p2, ?_, ?_, fun j hj => ?_, fun i hi hL => ?_⟩
    · rewrite [f_X5_copy_6]
      repeat (first | with_reducible refine bnE ?_ | with_reducible refine exI ?_ | with_reducible refine exJ ?_ | ((with_reducible refine iN ?_ ?_); · simp (disch := omega) only [ltL, Llt, leL, Lle, eqL, addL, Ladd, subL, subN, decN, eqM, Mle, mulL, nI_add, nI_ltI, nI_leI, nI_eq, nI_clamp, up2_at, nltT, nltF, nleT, nleF, neqT, neqF, ↓reduceIte, true_or, or_true, false_or, or_false, or_self, true_and, and_true, false_and, and_false, and_self, not_true, not_false_eq_true, i10, i01, im0, im12, im21, m1lt, m2lt, m1le, m2le, i00, i0le0, i1le0, i2le0, i3le0, eq_self]) | ((with_reducible refine ip ?_ ?_); · simp (disch := omega) only [ltL, Llt, leL, Lle, eqL, addL, Ladd, subL, subN, decN, eqM, Mle, mulL, nI_add, nI_ltI, nI_leI, nI_eq, nI_clamp, up2_at, nltT, nltF, nleT, nleF, neqT, neqF, ↓reduceIte, true_or, or_true, false_or, or_false, or_self, true_and, and_true, false_and, and_false, and_self, not_true, not_false_eq_true, i10, i01, im0, im12, im21, m1lt, m2lt, m1le, m2le, i00, i0le0, i1le0, i2le0, i3le0, eq_self]) | ((with_reducible apply bs); · ((try simp (disch := omega) only [ltL, Llt, leL, Lle, eqL, addL, Ladd, subL, subN, decN, eqM, Mle, mulL, nI_add, nI_ltI, nI_leI, nI_eq, nI_clamp, up2_at, nltT, nltF, nleT, nleF, neqT, neqF, ↓reduceIte, true_or, or_true, false_or, or_false, or_self, true_and, and_true, false_and, and_false, and_self, not_true, not_false_eq_true, i10, i01, im0, im12, im21, m1lt, m2lt, m1le, m2le, i00, i0le0, i1le0, i2le0, i3le0, eq_self]); exact w1)))
      simp (disch := omega) only [ltL, Llt, leL, Lle, eqL, addL, Ladd, subL, subN, decN, eqM, Mle, mulL, nI_add, nI_ltI, nI_leI, nI_eq, nI_clamp, up2_at, nltT, nltF, nleT, nleF, neqT, neqF, ↓reduceIte, true_or, or_true, false_or, or_false, or_self, true_and, and_true, false_and, and_false, and_self, not_true, not_false_eq_true, i10, i01, im0, im12, im21, m1lt, m2lt, m1le, m2le, i00, i0le0, i1le0, i2le0, i3le0, eq_self, ]
      exact g1
    · have : L + (d + 1) = L + 1 + d := by omega
      rw [this]; exact g2
    · have a1 := g3 j (by omega)
      have a2 := w3 j hj
      exact ⟨a1.1.trans a2.1, a1.2.trans a2.2⟩
    · by_cases q : i = 0
      · subst q
        have a1 := g3 L (by omega)
        have a2 := w4 (by omega)
        exact ⟨a1.1.trans (a2.1.trans hsrc.1), a1.2.trans (a2.2.trans hsrc.2)⟩
      · have a1 := g4 (i - 1) (by omega) (by omega)
        have e1 : L + 1 + (i - 1) = L + i := by omega
        have e2 : u + 1 + (i - 1) = u + i := by omega
        rw [e1, e2] at a1; exact a1

theorem Bd.copy {N m s L u v : Nat} {t0 σ0 t k σ : St} {Q : Int32 → Int32 → Int32 → Prop} {e : Nat → Int32} {p : Int32} (B : Bs m s t0 σ0) (hN : 34100 < N) (h : Bd Q e s L t0 σ0 t σ p) (huv : u ≤ v) (hv : v ≤ s) (hQ : ∀ i, u + i < v → e (L + i) = t0 0 (u + i) ∧ e (L + i) = σ0 20 (u + i) ∧ Q (e (L + i)) (t0 1 (u + i)) (σ0 21 (u + i))) : ∃ t' σ' p', f_X1_copy N t k (nI u) (nI v) = some (t', k) ∧ f_X5_copy N σ p (nI u) (nI v) = some (p', σ') ∧ Bd Q e s (L + (v - u)) t0 σ0 t' σ' p' := by
  obtain ⟨h1, h2, h3, h4⟩ := h
  have hs := B.2.1
  obtain ⟨σ', p', w1, w2, w3, w4⟩ := BM.copy (N := N) B hv (v - u) u L N σ p (by omega) (by omega) h1
  obtain ⟨b1, b2, b3, b4, b5, b6⟩ := B
  have t5 : t 5 0 = nI m := by rw [h2 5 (by decide) (by decide) (by decide) (by decide)]; exact b3
  have t2 : t 2 m = nI s := by rw [h2 2 (by decide) (by decide) (by decide) (by decide)]; exact b4
  have w1 : f_X5_copy N σ p (nI u) (nI v) = some (p', σ') := w1
  have fail : f_X1_copy N t k (nI u) (nI v) = some (up2 t 7 0 1, k) → ¬ (L + (v - u) ≤ 4000 ∧ s + (L + (v - u)) ≤ 30000) → ∃ t' σ' p', f_X1_copy N t k (nI u) (nI v) = some (t', k) ∧ f_X5_copy N σ p (nI u) (nI v) = some (p', σ') ∧ Bd Q e s (L + (v - u)) t0 σ0 t' σ' p' := fun q1 q2 => ⟨_, σ', p', q1, w1, w2, fun r r0 r1 r6 r7 => by rw [up2_row r7]; exact h2 r r0 r1 r6 r7, fun k hk => by rw [up2_row (by decide), up2_row (by decide)]; exact h3 k hk, Or.inr ⟨q2, by simp (disch := omega) only [ltL, Llt, leL, Lle, eqL, addL, Ladd, subL, subN, decN, eqM, Mle, mulL, nI_add, nI_ltI, nI_leI, nI_eq, nI_clamp, up2_at, nltT, nltF, nleT, nleF, neqT, neqF, ↓reduceIte, true_or, or_true, false_or, or_false, or_self, true_and, and_true, false_and, and_false, and_self, not_true, not_false_eq_true, i10, i01, im0, im12, im21, m1lt, m2lt, m1le, m2le, i00, i0le0, i1le0, i2le0, i3le0, eq_self, ]⟩⟩
  rcases h4 with ⟨g1, g2, g3, g4, g5⟩ | ⟨g1, g2⟩
  · have hr := room_ok (N := N) (k := k) (d := v - u) b1 b2 t5 t2 g4 g1 (by omega)
    have hsub : nI v - nI u = nI (v - u) := subN huv
    by_cases q : L + (v - u) ≤ 4000 ∧ s + (L + (v - u)) ≤ 30000
    · rw [if_pos q] at hr
      refine ⟨up2 (upR (upR t 0 (va_cpy (t 0) (t 0) u (s + L) (v - u))) 1 (va_cpy (t 1) (t 1) u (s + L) (v - u))) 6 0 (nI (s + L + (v - u))), σ', p', ?_, w1, w2, fun r r0 r1 r6 r7 => by rw [up2_row r6, upR_row r1, upR_row r0]; exact h2 r r0 r1 r6 r7, ?_⟩
      · have z6 : upR t 0 (va_cpy (t 0) (t 0) u (s + L) (v - u)) 6 0 = nI (s + L) := by rw [upR_row (by decide)]; exact g4
        have z1 : upR t 0 (va_cpy (t 0) (t 0) u (s + L) (v - u)) 1 = t 1 := by rw [upR_row (by decide)]
        have z7 : upR (upR t 0 (va_cpy (t 0) (t 0) u (s + L) (v - u))) 1 (va_cpy (t 1) (t 1) u (s + L) (v - u)) 6 0 = nI (s + L) := by rw [upR_row (by decide)]; exact z6
        rewrite [f_X1_copy, hsub]
        repeat (first | with_reducible refine bnE ?_ | with_reducible refine exI ?_ | with_reducible refine exJ ?_ | ((with_reducible refine iN ?_ ?_); · simp (disch := omega) only [ltL, Llt, leL, Lle, eqL, addL, Ladd, subL, subN, decN, eqM, Mle, mulL, nI_add, nI_ltI, nI_leI, nI_eq, nI_clamp, up2_at, nltT, nltF, nleT, nleF, neqT, neqF, ↓reduceIte, true_or, or_true, false_or, or_false, or_self, true_and, and_true, false_and, and_false, and_self, not_true, not_false_eq_true, i10, i01, im0, im12, im21, m1lt, m2lt, m1le, m2le, i00, i0le0, i1le0, i2le0, i3le0, eq_self, g3, g4]) | ((with_reducible refine ip ?_ ?_); · simp (disch := omega) only [ltL, Llt, leL, Lle, eqL, addL, Ladd, subL, subN, decN, eqM, Mle, mulL, nI_add, nI_ltI, nI_leI, nI_eq, nI_clamp, up2_at, nltT, nltF, nleT, nleF, neqT, neqF, ↓reduceIte, true_or, or_true, false_or, or_false, or_self, true_and, and_true, false_and, and_false, and_self, not_true, not_false_eq_true, i10, i01, im0, im12, im21, m1lt, m2lt, m1le, m2le, i00, i0le0, i1le0, i2le0, i3le0, eq_self, g3, g4]))
        refine bs hr ?_
        simp (disch := omega) only [nI_clamp, g4, z6, z1, z7, bnd]
        repeat (first | with_reducible refine bnE ?_ | with_reducible refine exI ?_ | with_reducible refine exJ ?_ | ((with_reducible refine iN ?_ ?_); · simp (disch := omega) only [ltL, Llt, leL, Lle, eqL, addL, Ladd, subL, subN, decN, eqM, Mle, mulL, nI_add, nI_ltI, nI_leI, nI_eq, nI_clamp, up2_at, nltT, nltF, nleT, nleF, neqT, neqF, ↓reduceIte, true_or, or_true, false_or, or_false, or_self, true_and, and_true, false_and, and_false, and_self, not_true, not_false_eq_true, i10, i01, im0, im12, im21, m1lt, m2lt, m1le, m2le, i00, i0le0, i1le0, i2le0, i3le0, eq_self]) | ((with_reducible refine ip ?_ ?_); · simp (disch := omega) only [ltL, Llt, leL, Lle, eqL, addL, Ladd, subL, subN, decN, eqM, Mle, mulL, nI_add, nI_ltI, nI_leI, nI_eq, nI_clamp, up2_at, nltT, nltF, nleT, nleF, neqT, neqF, ↓reduceIte, true_or, or_true, false_or, or_false, or_self, true_and, and_true, false_and, and_false, and_self, not_true, not_false_eq_true, i10, i01, im0, im12, im21, m1lt, m2lt, m1le, m2le, i00, i0le0, i1le0, i2le0, i3le0, eq_self]))
        simp (disch := omega) only [ltL, Llt, leL, Lle, eqL, addL, Ladd, subL, subN, decN, eqM, Mle, mulL, nI_add, nI_ltI, nI_leI, nI_eq, nI_clamp, up2_at, nltT, nltF, nleT, nleF, neqT, neqF, ↓reduceIte, true_or, or_true, false_or, or_false, or_self, true_and, and_true, false_and, and_false, and_self, not_true, not_false_eq_true, i10, i01, im0, im12, im21, m1lt, m2lt, m1le, m2le, i00, i0le0, i1le0, i2le0, i3le0, eq_self, ]
      · have r0 : ∀ j, up2 (upR (upR t 0 (va_cpy (t 0) (t 0) u (s + L) (v - u))) 1 (va_cpy (t 1) (t 1) u (s + L) (v - u))) 6 0 (nI (s + L + (v - u))) 0 j = va_cpy (t 0) (t 0) u (s + L) (v - u) j := fun j => by
          rw [up2_row (by decide), upR_row (by decide)]; rfl
        have r1 : ∀ j, up2 (upR (upR t 0 (va_cpy (t 0) (t 0) u (s + L) (v - u))) 1 (va_cpy (t 1) (t 1) u (s + L) (v - u))) 6 0 (nI (s + L + (v - u))) 1 j = va_cpy (t 1) (t 1) u (s + L) (v - u) j := fun j => by
          rw [up2_row (by decide)]; rfl
        refine ⟨fun j hj => ?_, Or.inl ⟨q.1, q.2, ?_, ?_, fun i hi => ?_⟩⟩
        · rw [r0, r1, pk_cpy_out (Or.inl (by omega)), pk_cpy_out (Or.inl (by omega))]; exact h3 j hj
        · rw [up2_row (by decide), upR_row (by decide), upR_row (by decide)]; exact g3
        · simp (disch := omega) only [ltL, Llt, leL, Lle, eqL, addL, Ladd, subL, subN, decN, eqM, Mle, mulL, nI_add, nI_ltI, nI_leI, nI_eq, nI_clamp, up2_at, nltT, nltF, nleT, nleF, neqT, neqF, ↓reduceIte, true_or, or_true, false_or, or_false, or_self, true_and, and_true, false_and, and_false, and_self, not_true, not_false_eq_true, i10, i01, im0, im12, im21, m1lt, m2lt, m1le, m2le, i00, i0le0, i1le0, i2le0, i3le0, eq_self, Nat.add_assoc]
        · rw [r0, r1]
          by_cases q : i < L
          · obtain ⟨a1, a2⟩ := w3 i (by omega)
            obtain ⟨a3, a4, a5⟩ := g5 i (by omega)
            rw [pk_cpy_out (Or.inl (by omega)), pk_cpy_out (Or.inl (by omega)), a1, a2]
            exact ⟨a3, a4, a5⟩
          · obtain ⟨z, rfl⟩ : ∃ z, i = L + z := ⟨i - L, by omega⟩
            obtain ⟨a1, a2⟩ := w4 z (by omega) (by omega)
            obtain ⟨a3, a4, a5⟩ := hQ z (by omega)
            have e1 : u + (s + (L + z) - (s + L)) = u + z := by omega
            rw [pk_cpy_in (by omega) (by omega), pk_cpy_in (by omega) (by omega), e1, a1, a2, (h3 (u + z) (by omega)).1, (h3 (u + z) (by omega)).2]
            exact ⟨a3.symm, a4.symm, a5⟩
    · rw [if_neg q] at hr
      refine fail ?_ q
      rewrite [f_X1_copy, hsub]
      repeat (first | with_reducible refine bnE ?_ | with_reducible refine exI ?_ | with_reducible refine exJ ?_ | ((with_reducible refine iN ?_ ?_); · simp (disch := omega) only [ltL, Llt, leL, Lle, eqL, addL, Ladd, subL, subN, decN, eqM, Mle, mulL, nI_add, nI_ltI, nI_leI, nI_eq, nI_clamp, up2_at, nltT, nltF, nleT, nleF, neqT, neqF, ↓reduceIte, true_or, or_true, false_or, or_false, or_self, true_and, and_true, false_and, and_false, and_self, not_true, not_false_eq_true, i10, i01, im0, im12, im21, m1lt, m2lt, m1le, m2le, i00, i0le0, i1le0, i2le0, i3le0, eq_self, g3, g4]) | ((with_reducible refine ip ?_ ?_); · simp (disch := omega) only [ltL, Llt, leL, Lle, eqL, addL, Ladd, subL, subN, decN, eqM, Mle, mulL, nI_add, nI_ltI, nI_leI, nI_eq, nI_clamp, up2_at, nltT, nltF, nleT, nleF, neqT, neqF, ↓reduceIte, true_or, or_true, false_or, or_false, or_self, true_and, and_true, false_and, and_false, and_self, not_true, not_false_eq_true, i10, i01, im0, im12, im21, m1lt, m2lt, m1le, m2le, i00, i0le0, i1le0, i2le0, i3le0, eq_self, g3, g4]))
      refine bs hr ?_
      refine ip rfl ?_
      rewrite [f_X1_copy_35]
      rfl
  · refine fail ?_ (by omega)
    rewrite [f_X1_copy]
    refine iN (by rw [g2]; decide) ?_
    rewrite [f_X1_copy_35]
    rfl
theorem Bd.shorter {Q Q' : Int32 → Int32 → Int32 → Prop} {e : Nat → Int32} {s L : Nat} {t0 σ0 t σ : St} {p : Int32} (h : Bd Q e s L t0 σ0 t σ p) (hQ : ∀ c u v, Q c u v → Q' c u v) : Bd Q' e s L t0 σ0 t σ p := by
  obtain ⟨h1, h2, h3, h4⟩ := h
  refine ⟨h1, h2, h3, ?_⟩
  rcases h4 with ⟨g1, g2, g3, g4, g5⟩ | g
  · exact Or.inl ⟨g1, g2, g3, g4, fun i hi => ⟨(g5 i hi).1, (g5 i hi).2.1, hQ _ _ _ (g5 i hi).2.2⟩⟩
  · exact Or.inr g
/-- what the ends of a building do: class's keep, reference's finish -/
theorem keep_fin {N m s L h : Nat} {t0 σ0 t k σ : St} {Q : Int32 → Int32 → Int32 → Prop} {e : Nat → Int32} {p : Int32} (er : Int32) (B : Bs m s t0 σ0) (hN : 34100 < N) (hd : Bd Q e s L t0 σ0 t σ p) (T : Tm e 0 h 0 L) : ∃ r t' k' v σ', f_X1_keep N t k = some (r, (t', k')) ∧ f_X5_finish N σ p er = some (v, σ') ∧ (∀ j, j < s → t' 0 j = t0 0 j ∧ t' 1 j = t0 1 j ∧ σ' 20 j = σ0 20 j ∧ σ' 21 j = σ0 21 j) ∧
    ((r = nI m ∧ v = nI m ∧ L ≤ 4000 ∧ s + L ≤ 30000 ∧ h ≤ 120 ∧ (∀ r, r ≠ 20 → r ≠ 21 → r ≠ 24 → r ≠ 18 → r ≠ 19 → σ' r = σ0 r) ∧ t' 5 0 = nI (m + 1) ∧ σ' 18 0 = nI (m + 1) ∧ (∀ i, i ≤ m → t' 2 i = t0 2 i ∧ σ' 19 i = σ0 19 i) ∧ t' 2 (m + 1) = nI (s + L) ∧ σ' 19 (m + 1) = nI (s + L) ∧ (∀ i, i < m → t' 3 i = t0 3 i) ∧ t' 3 m = nI h ∧ ∀ i, i < L → t' 0 (s + i) = e i ∧ σ' 20 (s + i) = e i ∧ Q (e i) (t' 1 (s + i)) (σ' 21 (s + i))) ∨
     (r = -1 ∧ v = 0 ∧ ¬ (L ≤ 4000 ∧ s + L ≤ 30000 ∧ h ≤ 120) ∧ (∀ r, r ≠ 0 → r ≠ 20 → r ≠ 21 → r ≠ 24 → σ' r = σ0 r) ∧ σ' 0 0 = er ∧ ∀ r, r ≠ 0 → r ≠ 1 → r ≠ 6 → r ≠ 7 → t' r = t0 r)) := by
  obtain ⟨⟨rfl, h2, h3⟩, c2, c3, h4⟩ := hd
  obtain ⟨b1, b2, b3, b4, b5, b6⟩ := B
  have t5 : t 5 0 = nI m := by rw [c2 5 (by decide) (by decide) (by decide) (by decide)]; exact b3
  have t2 : t 2 m = nI s := by rw [c2 2 (by decide) (by decide) (by decide) (by decide)]; exact b4
  have s18 : σ 18 0 = nI m := by rw [h2 18 (by decide) (by decide) (by decide)]; exact b5
  have s19 : σ 19 m = nI s := by rw [h2 19 (by decide) (by decide) (by decide)]; exact b6
  have hl := T.lt
  have isl : f_X5_isLong N σ (nI (s + min L 4001)) = some ((if L ≤ 4000 then 0 else 1), σ) := by
    by_cases q : L ≤ 4000
    · have e1 : min L 4001 = L := by omega
      rewrite [if_pos q, e1, f_X5_isLong]
      repeat (first | with_reducible refine bnE ?_ | with_reducible refine exI ?_ | with_reducible refine exJ ?_ | ((with_reducible refine iN ?_ ?_); · simp (disch := omega) only [ltL, Llt, leL, Lle, eqL, addL, Ladd, subL, subN, decN, eqM, Mle, mulL, nI_add, nI_ltI, nI_leI, nI_eq, nI_clamp, up2_at, nltT, nltF, nleT, nleF, neqT, neqF, ↓reduceIte, true_or, or_true, false_or, or_false, or_self, true_and, and_true, false_and, and_false, and_self, not_true, not_false_eq_true, i10, i01, im0, im12, im21, m1lt, m2lt, m1le, m2le, i00, i0le0, i1le0, i2le0, i3le0, eq_self, s18, s19]) | ((with_reducible refine ip ?_ ?_); · simp (disch := omega) only [ltL, Llt, leL, Lle, eqL, addL, Ladd, subL, subN, decN, eqM, Mle, mulL, nI_add, nI_ltI, nI_leI, nI_eq, nI_clamp, up2_at, nltT, nltF, nleT, nleF, neqT, neqF, ↓reduceIte, true_or, or_true, false_or, or_false, or_self, true_and, and_true, false_and, and_false, and_self, not_true, not_false_eq_true, i10, i01, im0, im12, im21, m1lt, m2lt, m1le, m2le, i00, i0le0, i1le0, i2le0, i3le0, eq_self, s18, s19]))
      rewrite [f_X5_isLong_22]
      repeat (first | with_reducible refine bnE ?_ | with_reducible refine exI ?_ | with_reducible refine exJ ?_ | ((with_reducible refine iN ?_ ?_); · simp (disch := omega) only [ltL, Llt, leL, Lle, eqL, addL, Ladd, subL, subN, decN, eqM, Mle, mulL, nI_add, nI_ltI, nI_leI, nI_eq, nI_clamp, up2_at, nltT, nltF, nleT, nleF, neqT, neqF, ↓reduceIte, true_or, or_true, false_or, or_false, or_self, true_and, and_true, false_and, and_false, and_self, not_true, not_false_eq_true, i10, i01, im0, im12, im21, m1lt, m2lt, m1le, m2le, i00, i0le0, i1le0, i2le0, i3le0, eq_self]) | ((with_reducible refine ip ?_ ?_); · simp (disch := omega) only [ltL, Llt, leL, Lle, eqL, addL, Ladd, subL, subN, decN, eqM, Mle, mulL, nI_add, nI_ltI, nI_leI, nI_eq, nI_clamp, up2_at, nltT, nltF, nleT, nleF, neqT, neqF, ↓reduceIte, true_or, or_true, false_or, or_false, or_self, true_and, and_true, false_and, and_false, and_self, not_true, not_false_eq_true, i10, i01, im0, im12, im21, m1lt, m2lt, m1le, m2le, i00, i0le0, i1le0, i2le0, i3le0, eq_self]))
      rfl
    · have e1 : min L 4001 = 4001 := by omega
      rewrite [if_neg q, e1, f_X5_isLong]
      repeat (first | with_reducible refine bnE ?_ | with_reducible refine exI ?_ | with_reducible refine exJ ?_ | ((with_reducible refine iN ?_ ?_); · simp (disch := omega) only [ltL, Llt, leL, Lle, eqL, addL, Ladd, subL, subN, decN, eqM, Mle, mulL, nI_add, nI_ltI, nI_leI, nI_eq, nI_clamp, up2_at, nltT, nltF, nleT, nleF, neqT, neqF, ↓reduceIte, true_or, or_true, false_or, or_false, or_self, true_and, and_true, false_and, and_false, and_self, not_true, not_false_eq_true, i10, i01, im0, im12, im21, m1lt, m2lt, m1le, m2le, i00, i0le0, i1le0, i2le0, i3le0, eq_self, s18, s19]) | ((with_reducible refine ip ?_ ?_); · simp (disch := omega) only [ltL, Llt, leL, Lle, eqL, addL, Ladd, subL, subN, decN, eqM, Mle, mulL, nI_add, nI_ltI, nI_leI, nI_eq, nI_clamp, up2_at, nltT, nltF, nleT, nleF, neqT, neqF, ↓reduceIte, true_or, or_true, false_or, or_false, or_self, true_and, and_true, false_and, and_false, and_self, not_true, not_false_eq_true, i10, i01, im0, im12, im21, m1lt, m2lt, m1le, m2le, i00, i0le0, i1le0, i2le0, i3le0, eq_self, s18, s19]))
      rewrite [f_X5_isLong_22]
      repeat (first | with_reducible refine bnE ?_ | with_reducible refine exI ?_ | with_reducible refine exJ ?_ | ((with_reducible refine iN ?_ ?_); · simp (disch := omega) only [ltL, Llt, leL, Lle, eqL, addL, Ladd, subL, subN, decN, eqM, Mle, mulL, nI_add, nI_ltI, nI_leI, nI_eq, nI_clamp, up2_at, nltT, nltF, nleT, nleF, neqT, neqF, ↓reduceIte, true_or, or_true, false_or, or_false, or_self, true_and, and_true, false_and, and_false, and_self, not_true, not_false_eq_true, i10, i01, im0, im12, im21, m1lt, m2lt, m1le, m2le, i00, i0le0, i1le0, i2le0, i3le0, eq_self]) | ((with_reducible refine ip ?_ ?_); · simp (disch := omega) only [ltL, Llt, leL, Lle, eqL, addL, Ladd, subL, subN, decN, eqM, Mle, mulL, nI_add, nI_ltI, nI_leI, nI_eq, nI_clamp, up2_at, nltT, nltF, nleT, nleF, neqT, neqF, ↓reduceIte, true_or, or_true, false_or, or_false, or_self, true_and, and_true, false_and, and_false, and_self, not_true, not_false_eq_true, i10, i01, im0, im12, im21, m1lt, m2lt, m1le, m2le, i00, i0le0, i1le0, i2le0, i3le0, eq_self]))
      rfl
  have hfail : ∀ z : St, f_X5_fail N z er = some (0, up2 z 0 0 er) := fun z => by rw [f_X5_fail]; rfl
  have fails : ∀ z : St, (∀ r, r ≠ 24 → z r = σ r) → (∀ j, j < s → (up2 z 0 0 er) 20 j = σ0 20 j ∧ (up2 z 0 0 er) 21 j = σ0 21 j) ∧ (∀ r, r ≠ 0 → r ≠ 20 → r ≠ 21 → r ≠ 24 → (up2 z 0 0 er) r = σ0 r) ∧ (up2 z 0 0 er) 0 0 = er := fun z hz => ⟨fun j hj => by rw [up2_row (by decide), up2_row (by decide), hz 20 (by decide), hz 21 (by decide)]; exact h3 j hj, fun r r0 r1 r2 r3 => by rw [up2_row r0, hz r r3]; exact h2 r r1 r2 r3, by simp (disch := omega) only [ltL, Llt, leL, Lle, eqL, addL, Ladd, subL, subN, decN, eqM, Mle, mulL, nI_add, nI_ltI, nI_leI, nI_eq, nI_clamp, up2_at, nltT, nltF, nleT, nleF, neqT, neqF, ↓reduceIte, true_or, or_true, false_or, or_false, or_self, true_and, and_true, false_and, and_false, and_self, not_true, not_false_eq_true, i10, i01, im0, im12, im21, m1lt, m2lt, m1le, m2le, i00, i0le0, i1le0, i2le0, i3le0, eq_self, ]⟩
  rcases h4 with ⟨g1, g2, g3, g4, g5⟩ | ⟨g1, g2⟩
  · have e1 : min L 4001 = L := by omega
    rw [e1, if_pos g1] at isl
    rw [e1]
    have TC' : Tm (t 0) 0 h s (s + L) := by
      have := T.shift (c' := t 0) (a' := s) (fun i hi => by rw [Nat.zero_add]; exact (g5 i (by omega)).1)
      rwa [Nat.sub_zero] at this
    have TM' : Tm (σ 20) 0 h s (s + L) := by
      have := T.shift (c' := σ 20) (a' := s) (fun i hi => by rw [Nat.zero_add]; exact (g5 i (by omega)).2.1)
      rwa [Nat.sub_zero] at this
    obtain ⟨v, k', hv1, hv2, hv3⟩ := heightC_ok (k := k) TC' g2 hN
    obtain ⟨σ1, hm1, hm2⟩ := heightM_ok TM' (by omega) hN
    rw [← g4] at hv1
    have hst := start_ok (N := N) (t := t) (k := k) (by omega : m < 513)
    rw [t2] at hst
    by_cases hh : h ≤ 120
    · have ev' : v = h := by omega
      subst ev'
      have e2 : min v 122 = v := by omega
      rw [e2] at hm1
      have z18 : σ1 18 0 = nI m := by rw [hm2 18 (by decide)]; exact s18
      refine ⟨nI m, up2 (up2 (up2 t 3 m (nI v)) 5 0 (nI (m + 1))) 2 (m + 1) (nI (s + L)), k', nI m, up2 (up2 σ1 18 0 (nI (m + 1))) 19 (m + 1) (nI (s + L)), ?_, ?_, fun j hj => ?_, Or.inl ⟨rfl, rfl, g1, g2, hh, fun r r1 r2 r3 r4 r5 => ?_, ?_, ?_, fun i hi => ?_, ?_, ?_, fun i hi => ?_, ?_, fun i hi => ?_⟩⟩
      · rewrite [f_X1_keep, t5]
        repeat (first | with_reducible refine bnE ?_ | with_reducible refine exI ?_ | with_reducible refine exJ ?_ | with_reducible refine bs (hst) ?_ | with_reducible refine bs (hv1) ?_ | ((with_reducible refine iN ?_ ?_); · simp (disch := omega) only [ltL, Llt, leL, Lle, eqL, addL, Ladd, subL, subN, decN, eqM, Mle, mulL, nI_add, nI_ltI, nI_leI, nI_eq, nI_clamp, up2_at, nltT, nltF, nleT, nleF, neqT, neqF, ↓reduceIte, true_or, or_true, false_or, or_false, or_self, true_and, and_true, false_and, and_false, and_self, not_true, not_false_eq_true, i10, i01, im0, im12, im21, m1lt, m2lt, m1le, m2le, i00, i0le0, i1le0, i2le0, i3le0, eq_self, g3, t5]) | ((with_reducible refine ip ?_ ?_); · simp (disch := omega) only [ltL, Llt, leL, Lle, eqL, addL, Ladd, subL, subN, decN, eqM, Mle, mulL, nI_add, nI_ltI, nI_leI, nI_eq, nI_clamp, up2_at, nltT, nltF, nleT, nleF, neqT, neqF, ↓reduceIte, true_or, or_true, false_or, or_false, or_self, true_and, and_true, false_and, and_false, and_self, not_true, not_false_eq_true, i10, i01, im0, im12, im21, m1lt, m2lt, m1le, m2le, i00, i0le0, i1le0, i2le0, i3le0, eq_self, g3, t5]))
        simp (disch := omega) only [ltL, Llt, leL, Lle, eqL, addL, Ladd, subL, subN, decN, eqM, Mle, mulL, nI_add, nI_ltI, nI_leI, nI_eq, nI_clamp, up2_at, nltT, nltF, nleT, nleF, neqT, neqF, ↓reduceIte, true_or, or_true, false_or, or_false, or_self, true_and, and_true, false_and, and_false, and_self, not_true, not_false_eq_true, i10, i01, im0, im12, im21, m1lt, m2lt, m1le, m2le, i00, i0le0, i1le0, i2le0, i3le0, eq_self, t5, g4, Nat.add_sub_cancel]
      · have hkt : f_X5_keepTerm N σ (nI (s + L)) er = some (nI m, up2 (up2 σ1 18 0 (nI (m + 1))) 19 (m + 1) (nI (s + L))) := by
          rewrite [f_X5_keepTerm]
          simp (disch := omega) only [s18, s19, nI_clamp]
          repeat (first | with_reducible refine bnE ?_ | with_reducible refine exI ?_ | with_reducible refine exJ ?_ | with_reducible refine bs (hm1) ?_ | ((with_reducible refine iN ?_ ?_); · simp (disch := omega) only [ltL, Llt, leL, Lle, eqL, addL, Ladd, subL, subN, decN, eqM, Mle, mulL, nI_add, nI_ltI, nI_leI, nI_eq, nI_clamp, up2_at, nltT, nltF, nleT, nleF, neqT, neqF, ↓reduceIte, true_or, or_true, false_or, or_false, or_self, true_and, and_true, false_and, and_false, and_self, not_true, not_false_eq_true, i10, i01, im0, im12, im21, m1lt, m2lt, m1le, m2le, i00, i0le0, i1le0, i2le0, i3le0, eq_self, z18]) | ((with_reducible refine ip ?_ ?_); · simp (disch := omega) only [ltL, Llt, leL, Lle, eqL, addL, Ladd, subL, subN, decN, eqM, Mle, mulL, nI_add, nI_ltI, nI_leI, nI_eq, nI_clamp, up2_at, nltT, nltF, nleT, nleF, neqT, neqF, ↓reduceIte, true_or, or_true, false_or, or_false, or_self, true_and, and_true, false_and, and_false, and_self, not_true, not_false_eq_true, i10, i01, im0, im12, im21, m1lt, m2lt, m1le, m2le, i00, i0le0, i1le0, i2le0, i3le0, eq_self, z18]))
          simp (disch := omega) only [ltL, Llt, leL, Lle, eqL, addL, Ladd, subL, subN, decN, eqM, Mle, mulL, nI_add, nI_ltI, nI_leI, nI_eq, nI_clamp, up2_at, nltT, nltF, nleT, nleF, neqT, neqF, ↓reduceIte, true_or, or_true, false_or, or_false, or_self, true_and, and_true, false_and, and_false, and_self, not_true, not_false_eq_true, i10, i01, im0, im12, im21, m1lt, m2lt, m1le, m2le, i00, i0le0, i1le0, i2le0, i3le0, eq_self, z18, Nat.add_sub_cancel]
        rewrite [f_X5_finish]
        repeat (first | with_reducible refine bnE ?_ | with_reducible refine exI ?_ | with_reducible refine exJ ?_ | with_reducible refine bs (isl) ?_ | with_reducible refine bs (hkt) ?_ | ((with_reducible refine iN ?_ ?_); · simp (disch := omega) only [ltL, Llt, leL, Lle, eqL, addL, Ladd, subL, subN, decN, eqM, Mle, mulL, nI_add, nI_ltI, nI_leI, nI_eq, nI_clamp, up2_at, nltT, nltF, nleT, nleF, neqT, neqF, ↓reduceIte, true_or, or_true, false_or, or_false, or_self, true_and, and_true, false_and, and_false, and_self, not_true, not_false_eq_true, i10, i01, im0, im12, im21, m1lt, m2lt, m1le, m2le, i00, i0le0, i1le0, i2le0, i3le0, eq_self]) | ((with_reducible refine ip ?_ ?_); · simp (disch := omega) only [ltL, Llt, leL, Lle, eqL, addL, Ladd, subL, subN, decN, eqM, Mle, mulL, nI_add, nI_ltI, nI_leI, nI_eq, nI_clamp, up2_at, nltT, nltF, nleT, nleF, neqT, neqF, ↓reduceIte, true_or, or_true, false_or, or_false, or_self, true_and, and_true, false_and, and_false, and_self, not_true, not_false_eq_true, i10, i01, im0, im12, im21, m1lt, m2lt, m1le, m2le, i00, i0le0, i1le0, i2le0, i3le0, eq_self]))
        rfl
      · refine ⟨?_, ?_, ?_, ?_⟩
        · simp (disch := decide) only [up2_row]; exact (c3 j hj).1
        · simp (disch := decide) only [up2_row]; exact (c3 j hj).2
        · simp (disch := decide) only [up2_row]; rw [hm2 20 (by decide)]; exact (h3 j hj).1
        · simp (disch := decide) only [up2_row]; rw [hm2 21 (by decide)]; exact (h3 j hj).2
      · rw [up2_row r5, up2_row r4, hm2 r r3]; exact h2 r r1 r2 r3
      · simp (disch := omega) only [ltL, Llt, leL, Lle, eqL, addL, Ladd, subL, subN, decN, eqM, Mle, mulL, nI_add, nI_ltI, nI_leI, nI_eq, nI_clamp, up2_at, nltT, nltF, nleT, nleF, neqT, neqF, ↓reduceIte, true_or, or_true, false_or, or_false, or_self, true_and, and_true, false_and, and_false, and_self, not_true, not_false_eq_true, i10, i01, im0, im12, im21, m1lt, m2lt, m1le, m2le, i00, i0le0, i1le0, i2le0, i3le0, eq_self, ]
      · simp (disch := omega) only [ltL, Llt, leL, Lle, eqL, addL, Ladd, subL, subN, decN, eqM, Mle, mulL, nI_add, nI_ltI, nI_leI, nI_eq, nI_clamp, up2_at, nltT, nltF, nleT, nleF, neqT, neqF, ↓reduceIte, true_or, or_true, false_or, or_false, or_self, true_and, and_true, false_and, and_false, and_self, not_true, not_false_eq_true, i10, i01, im0, im12, im21, m1lt, m2lt, m1le, m2le, i00, i0le0, i1le0, i2le0, i3le0, eq_self, ]
      · have n1 : ¬ i = m + 1 := by omega
        have d1 : up2 (up2 (up2 t 3 m (nI v)) 5 0 (nI (m + 1))) 2 (m + 1) (nI (s + L)) 2 i = t 2 i := by simp (disch := omega) only [ltL, Llt, leL, Lle, eqL, addL, Ladd, subL, subN, decN, eqM, Mle, mulL, nI_add, nI_ltI, nI_leI, nI_eq, nI_clamp, up2_at, nltT, nltF, nleT, nleF, neqT, neqF, ↓reduceIte, true_or, or_true, false_or, or_false, or_self, true_and, and_true, false_and, and_false, and_self, not_true, not_false_eq_true, i10, i01, im0, im12, im21, m1lt, m2lt, m1le, m2le, i00, i0le0, i1le0, i2le0, i3le0, eq_self, n1]
        have d2 : up2 (up2 σ1 18 0 (nI (m + 1))) 19 (m + 1) (nI (s + L)) 19 i = σ1 19 i := by simp (disch := omega) only [ltL, Llt, leL, Lle, eqL, addL, Ladd, subL, subN, decN, eqM, Mle, mulL, nI_add, nI_ltI, nI_leI, nI_eq, nI_clamp, up2_at, nltT, nltF, nleT, nleF, neqT, neqF, ↓reduceIte, true_or, or_true, false_or, or_false, or_self, true_and, and_true, false_and, and_false, and_self, not_true, not_false_eq_true, i10, i01, im0, im12, im21, m1lt, m2lt, m1le, m2le, i00, i0le0, i1le0, i2le0, i3le0, eq_self, n1]
        rw [d1, d2, hm2 19 (by decide), h2 19 (by decide) (by decide) (by decide), c2 2 (by decide) (by decide) (by decide) (by decide)]
        exact ⟨rfl, rfl⟩
      · simp (disch := omega) only [ltL, Llt, leL, Lle, eqL, addL, Ladd, subL, subN, decN, eqM, Mle, mulL, nI_add, nI_ltI, nI_leI, nI_eq, nI_clamp, up2_at, nltT, nltF, nleT, nleF, neqT, neqF, ↓reduceIte, true_or, or_true, false_or, or_false, or_self, true_and, and_true, false_and, and_false, and_self, not_true, not_false_eq_true, i10, i01, im0, im12, im21, m1lt, m2lt, m1le, m2le, i00, i0le0, i1le0, i2le0, i3le0, eq_self, ]
      · simp (disch := omega) only [ltL, Llt, leL, Lle, eqL, addL, Ladd, subL, subN, decN, eqM, Mle, mulL, nI_add, nI_ltI, nI_leI, nI_eq, nI_clamp, up2_at, nltT, nltF, nleT, nleF, neqT, neqF, ↓reduceIte, true_or, or_true, false_or, or_false, or_self, true_and, and_true, false_and, and_false, and_self, not_true, not_false_eq_true, i10, i01, im0, im12, im21, m1lt, m2lt, m1le, m2le, i00, i0le0, i1le0, i2le0, i3le0, eq_self, ]
      · have n1 : ¬ i = m := by omega
        have d1 : up2 (up2 (up2 t 3 m (nI v)) 5 0 (nI (m + 1))) 2 (m + 1) (nI (s + L)) 3 i = t 3 i := by simp (disch := omega) only [ltL, Llt, leL, Lle, eqL, addL, Ladd, subL, subN, decN, eqM, Mle, mulL, nI_add, nI_ltI, nI_leI, nI_eq, nI_clamp, up2_at, nltT, nltF, nleT, nleF, neqT, neqF, ↓reduceIte, true_or, or_true, false_or, or_false, or_self, true_and, and_true, false_and, and_false, and_self, not_true, not_false_eq_true, i10, i01, im0, im12, im21, m1lt, m2lt, m1le, m2le, i00, i0le0, i1le0, i2le0, i3le0, eq_self, n1]
        rw [d1, c2 3 (by decide) (by decide) (by decide) (by decide)]
      · simp (disch := omega) only [ltL, Llt, leL, Lle, eqL, addL, Ladd, subL, subN, decN, eqM, Mle, mulL, nI_add, nI_ltI, nI_leI, nI_eq, nI_clamp, up2_at, nltT, nltF, nleT, nleF, neqT, neqF, ↓reduceIte, true_or, or_true, false_or, or_false, or_self, true_and, and_true, false_and, and_false, and_self, not_true, not_false_eq_true, i10, i01, im0, im12, im21, m1lt, m2lt, m1le, m2le, i00, i0le0, i1le0, i2le0, i3le0, eq_self, ]
      · obtain ⟨a1, a2, a3⟩ := g5 i hi
        refine ⟨?_, ?_, ?_⟩
        · simp (disch := decide) only [up2_row]; exact a1
        · simp (disch := decide) only [up2_row]; rw [hm2 20 (by decide)]; exact a2
        · simp (disch := decide) only [up2_row]; rw [hm2 21 (by decide)]; exact a3
    · obtain ⟨f1, f2, f3⟩ := fails σ1 hm2
      refine ⟨-1, t, k', 0, up2 σ1 0 0 er, ?_, ?_, fun j hj => ⟨(c3 j hj).1, (c3 j hj).2, (f1 j hj).1, (f1 j hj).2⟩, Or.inr ⟨rfl, rfl, fun q => hh q.2.2, f2, f3, c2⟩⟩
      · rewrite [f_X1_keep, t5]
        repeat (first | with_reducible refine bnE ?_ | with_reducible refine exI ?_ | with_reducible refine exJ ?_ | with_reducible refine bs (hst) ?_ | with_reducible refine bs (hv1) ?_ | ((with_reducible refine iN ?_ ?_); · simp (disch := omega) only [ltL, Llt, leL, Lle, eqL, addL, Ladd, subL, subN, decN, eqM, Mle, mulL, nI_add, nI_ltI, nI_leI, nI_eq, nI_clamp, up2_at, nltT, nltF, nleT, nleF, neqT, neqF, ↓reduceIte, true_or, or_true, false_or, or_false, or_self, true_and, and_true, false_and, and_false, and_self, not_true, not_false_eq_true, i10, i01, im0, im12, im21, m1lt, m2lt, m1le, m2le, i00, i0le0, i1le0, i2le0, i3le0, eq_self, g3, t5]) | ((with_reducible refine ip ?_ ?_); · simp (disch := omega) only [ltL, Llt, leL, Lle, eqL, addL, Ladd, subL, subN, decN, eqM, Mle, mulL, nI_add, nI_ltI, nI_leI, nI_eq, nI_clamp, up2_at, nltT, nltF, nleT, nleF, neqT, neqF, ↓reduceIte, true_or, or_true, false_or, or_false, or_self, true_and, and_true, false_and, and_false, and_self, not_true, not_false_eq_true, i10, i01, im0, im12, im21, m1lt, m2lt, m1le, m2le, i00, i0le0, i1le0, i2le0, i3le0, eq_self, g3, t5]))
        rfl
      · have : ¬ min h 122 ≤ 120 := by omega
        have hkt : f_X5_keepTerm N σ (nI (s + L)) er = some (0, up2 σ1 0 0 er) := by
          rewrite [f_X5_keepTerm]
          simp (disch := omega) only [s18, s19, nI_clamp]
          repeat (first | with_reducible refine bnE ?_ | with_reducible refine exI ?_ | with_reducible refine exJ ?_ | with_reducible refine bs (hm1) ?_ | ((with_reducible refine iN ?_ ?_); · simp (disch := omega) only [ltL, Llt, leL, Lle, eqL, addL, Ladd, subL, subN, decN, eqM, Mle, mulL, nI_add, nI_ltI, nI_leI, nI_eq, nI_clamp, up2_at, nltT, nltF, nleT, nleF, neqT, neqF, ↓reduceIte, true_or, or_true, false_or, or_false, or_self, true_and, and_true, false_and, and_false, and_self, not_true, not_false_eq_true, i10, i01, im0, im12, im21, m1lt, m2lt, m1le, m2le, i00, i0le0, i1le0, i2le0, i3le0, eq_self]) | ((with_reducible refine ip ?_ ?_); · simp (disch := omega) only [ltL, Llt, leL, Lle, eqL, addL, Ladd, subL, subN, decN, eqM, Mle, mulL, nI_add, nI_ltI, nI_leI, nI_eq, nI_clamp, up2_at, nltT, nltF, nleT, nleF, neqT, neqF, ↓reduceIte, true_or, or_true, false_or, or_false, or_self, true_and, and_true, false_and, and_false, and_self, not_true, not_false_eq_true, i10, i01, im0, im12, im21, m1lt, m2lt, m1le, m2le, i00, i0le0, i1le0, i2le0, i3le0, eq_self]))
          rewrite [f_X5_keepTerm_36]
          repeat (first | with_reducible refine bnE ?_ | with_reducible refine exI ?_ | with_reducible refine exJ ?_ | with_reducible refine bs (hfail σ1) ?_ | ((with_reducible refine iN ?_ ?_); · simp (disch := omega) only [ltL, Llt, leL, Lle, eqL, addL, Ladd, subL, subN, decN, eqM, Mle, mulL, nI_add, nI_ltI, nI_leI, nI_eq, nI_clamp, up2_at, nltT, nltF, nleT, nleF, neqT, neqF, ↓reduceIte, true_or, or_true, false_or, or_false, or_self, true_and, and_true, false_and, and_false, and_self, not_true, not_false_eq_true, i10, i01, im0, im12, im21, m1lt, m2lt, m1le, m2le, i00, i0le0, i1le0, i2le0, i3le0, eq_self]) | ((with_reducible refine ip ?_ ?_); · simp (disch := omega) only [ltL, Llt, leL, Lle, eqL, addL, Ladd, subL, subN, decN, eqM, Mle, mulL, nI_add, nI_ltI, nI_leI, nI_eq, nI_clamp, up2_at, nltT, nltF, nleT, nleF, neqT, neqF, ↓reduceIte, true_or, or_true, false_or, or_false, or_self, true_and, and_true, false_and, and_false, and_self, not_true, not_false_eq_true, i10, i01, im0, im12, im21, m1lt, m2lt, m1le, m2le, i00, i0le0, i1le0, i2le0, i3le0, eq_self]))
          rfl
        rewrite [f_X5_finish]
        repeat (first | with_reducible refine bnE ?_ | with_reducible refine exI ?_ | with_reducible refine exJ ?_ | with_reducible refine bs (isl) ?_ | with_reducible refine bs (hkt) ?_ | ((with_reducible refine iN ?_ ?_); · simp (disch := omega) only [ltL, Llt, leL, Lle, eqL, addL, Ladd, subL, subN, decN, eqM, Mle, mulL, nI_add, nI_ltI, nI_leI, nI_eq, nI_clamp, up2_at, nltT, nltF, nleT, nleF, neqT, neqF, ↓reduceIte, true_or, or_true, false_or, or_false, or_self, true_and, and_true, false_and, and_false, and_self, not_true, not_false_eq_true, i10, i01, im0, im12, im21, m1lt, m2lt, m1le, m2le, i00, i0le0, i1le0, i2le0, i3le0, eq_self]) | ((with_reducible refine ip ?_ ?_); · simp (disch := omega) only [ltL, Llt, leL, Lle, eqL, addL, Ladd, subL, subN, decN, eqM, Mle, mulL, nI_add, nI_ltI, nI_leI, nI_eq, nI_clamp, up2_at, nltT, nltF, nleT, nleF, neqT, neqF, ↓reduceIte, true_or, or_true, false_or, or_false, or_self, true_and, and_true, false_and, and_false, and_self, not_true, not_false_eq_true, i10, i01, im0, im12, im21, m1lt, m2lt, m1le, m2le, i00, i0le0, i1le0, i2le0, i3le0, eq_self]))
        rfl
  · have kc : f_X1_keep N t k = some (-1, (t, k)) := by
      rewrite [f_X1_keep]
      refine iN (by rw [g2]; decide) ?_
      rfl
    obtain ⟨f1, f2, f3⟩ := fails σ (fun _ _ => rfl)
    refine ⟨-1, t, k, 0, up2 σ 0 0 er, kc, ?_, fun j hj => ⟨(c3 j hj).1, (c3 j hj).2, (f1 j hj).1, (f1 j hj).2⟩, Or.inr ⟨rfl, rfl, fun q => g1 ⟨q.1, q.2.1⟩, f2, f3, c2⟩⟩
    by_cases q : L ≤ 4000
    · have e1 : min L 4001 = L := by omega
      rw [e1, if_pos q] at isl
      have hkt : f_X5_keepTerm N σ (nI (s + L)) er = some (0, up2 σ 0 0 er) := by
        rewrite [f_X5_keepTerm]
        simp (disch := omega) only [s18, s19, nI_clamp]
        repeat (first | with_reducible refine bnE ?_ | with_reducible refine exI ?_ | with_reducible refine exJ ?_ | ((with_reducible refine iN ?_ ?_); · simp (disch := omega) only [ltL, Llt, leL, Lle, eqL, addL, Ladd, subL, subN, decN, eqM, Mle, mulL, nI_add, nI_ltI, nI_leI, nI_eq, nI_clamp, up2_at, nltT, nltF, nleT, nleF, neqT, neqF, ↓reduceIte, true_or, or_true, false_or, or_false, or_self, true_and, and_true, false_and, and_false, and_self, not_true, not_false_eq_true, i10, i01, im0, im12, im21, m1lt, m2lt, m1le, m2le, i00, i0le0, i1le0, i2le0, i3le0, eq_self]) | ((with_reducible refine ip ?_ ?_); · simp (disch := omega) only [ltL, Llt, leL, Lle, eqL, addL, Ladd, subL, subN, decN, eqM, Mle, mulL, nI_add, nI_ltI, nI_leI, nI_eq, nI_clamp, up2_at, nltT, nltF, nleT, nleF, neqT, neqF, ↓reduceIte, true_or, or_true, false_or, or_false, or_self, true_and, and_true, false_and, and_false, and_self, not_true, not_false_eq_true, i10, i01, im0, im12, im21, m1lt, m2lt, m1le, m2le, i00, i0le0, i1le0, i2le0, i3le0, eq_self]))
        rewrite [f_X5_keepTerm_36]
        repeat (first | with_reducible refine bnE ?_ | with_reducible refine exI ?_ | with_reducible refine exJ ?_ | with_reducible refine bs (hfail σ) ?_ | ((with_reducible refine iN ?_ ?_); · simp (disch := omega) only [ltL, Llt, leL, Lle, eqL, addL, Ladd, subL, subN, decN, eqM, Mle, mulL, nI_add, nI_ltI, nI_leI, nI_eq, nI_clamp, up2_at, nltT, nltF, nleT, nleF, neqT, neqF, ↓reduceIte, true_or, or_true, false_or, or_false, or_self, true_and, and_true, false_and, and_false, and_self, not_true, not_false_eq_true, i10, i01, im0, im12, im21, m1lt, m2lt, m1le, m2le, i00, i0le0, i1le0, i2le0, i3le0, eq_self]) | ((with_reducible refine ip ?_ ?_); · simp (disch := omega) only [ltL, Llt, leL, Lle, eqL, addL, Ladd, subL, subN, decN, eqM, Mle, mulL, nI_add, nI_ltI, nI_leI, nI_eq, nI_clamp, up2_at, nltT, nltF, nleT, nleF, neqT, neqF, ↓reduceIte, true_or, or_true, false_or, or_false, or_self, true_and, and_true, false_and, and_false, and_self, not_true, not_false_eq_true, i10, i01, im0, im12, im21, m1lt, m2lt, m1le, m2le, i00, i0le0, i1le0, i2le0, i3le0, eq_self]))
        rfl
      rewrite [e1, f_X5_finish]
      repeat (first | with_reducible refine bnE ?_ | with_reducible refine exI ?_ | with_reducible refine exJ ?_ | with_reducible refine bs (isl) ?_ | with_reducible refine bs (hkt) ?_ | ((with_reducible refine iN ?_ ?_); · simp (disch := omega) only [ltL, Llt, leL, Lle, eqL, addL, Ladd, subL, subN, decN, eqM, Mle, mulL, nI_add, nI_ltI, nI_leI, nI_eq, nI_clamp, up2_at, nltT, nltF, nleT, nleF, neqT, neqF, ↓reduceIte, true_or, or_true, false_or, or_false, or_self, true_and, and_true, false_and, and_false, and_self, not_true, not_false_eq_true, i10, i01, im0, im12, im21, m1lt, m2lt, m1le, m2le, i00, i0le0, i1le0, i2le0, i3le0, eq_self]) | ((with_reducible refine ip ?_ ?_); · simp (disch := omega) only [ltL, Llt, leL, Lle, eqL, addL, Ladd, subL, subN, decN, eqM, Mle, mulL, nI_add, nI_ltI, nI_leI, nI_eq, nI_clamp, up2_at, nltT, nltF, nleT, nleF, neqT, neqF, ↓reduceIte, true_or, or_true, false_or, or_false, or_self, true_and, and_true, false_and, and_false, and_self, not_true, not_false_eq_true, i10, i01, im0, im12, im21, m1lt, m2lt, m1le, m2le, i00, i0le0, i1le0, i2le0, i3le0, eq_self]))
      rfl
    · rw [if_neg q] at isl
      rewrite [f_X5_finish]
      repeat (first | with_reducible refine bnE ?_ | with_reducible refine exI ?_ | with_reducible refine exJ ?_ | with_reducible refine bs (isl) ?_ | with_reducible refine bs (hfail σ) ?_ | ((with_reducible refine iN ?_ ?_); · simp (disch := omega) only [ltL, Llt, leL, Lle, eqL, addL, Ladd, subL, subN, decN, eqM, Mle, mulL, nI_add, nI_ltI, nI_leI, nI_eq, nI_clamp, up2_at, nltT, nltF, nleT, nleF, neqT, neqF, ↓reduceIte, true_or, or_true, false_or, or_false, or_self, true_and, and_true, false_and, and_false, and_self, not_true, not_false_eq_true, i10, i01, im0, im12, im21, m1lt, m2lt, m1le, m2le, i00, i0le0, i1le0, i2le0, i3le0, eq_self]) | ((with_reducible refine ip ?_ ?_); · simp (disch := omega) only [ltL, Llt, leL, Lle, eqL, addL, Ladd, subL, subN, decN, eqM, Mle, mulL, nI_add, nI_ltI, nI_leI, nI_eq, nI_clamp, up2_at, nltT, nltF, nleT, nleF, neqT, neqF, ↓reduceIte, true_or, or_true, false_or, or_false, or_self, true_and, and_true, false_and, and_false, and_self, not_true, not_false_eq_true, i10, i01, im0, im12, im21, m1lt, m2lt, m1le, m2le, i00, i0le0, i1le0, i2le0, i3le0, eq_self]))
      rfl
theorem Bd.ext {Q : Int32 → Int32 → Int32 → Prop} {e e' : Nat → Int32} {s L : Nat} {t0 σ0 t σ : St} {p : Int32} (h : Bd Q e s L t0 σ0 t σ p) (he : ∀ i, i < L → e' i = e i) : Bd Q e' s L t0 σ0 t σ p := by
  obtain ⟨h1, h2, h3, h4⟩ := h
  refine ⟨h1, h2, h3, ?_⟩
  rcases h4 with ⟨g1, g2, g3, g4, g5⟩ | g
  · exact Or.inl ⟨g1, g2, g3, g4, fun i hi => by rw [he i hi]; exact g5 i hi⟩
  · exact Or.inr g
theorem Bd.row24 {Q : Int32 → Int32 → Int32 → Prop} {e : Nat → Int32} {s L : Nat} {t0 σ0 t σ : St} {p : Int32} (h : Bd Q e s L t0 σ0 t σ p) (i : Nat) (v : Int32) : Bd Q e s L t0 σ0 t (up2 σ 24 i v) p := by
  obtain ⟨⟨h1, h2, h3⟩, c2, c3, h4⟩ := h
  have r20 : up2 σ 24 i v 20 = σ 20 := up2_row (by decide)
  have r21 : up2 σ 24 i v 21 = σ 21 := up2_row (by decide)
  refine ⟨⟨h1, fun r r1 r2 r3 => by rw [up2_row r3]; exact h2 r r1 r2 r3, fun k hk => by rw [r20, r21]; exact h3 k hk⟩, c2, c3, ?_⟩
  rw [r20, r21]; exact h4
/-- a symbol more, whatever was laid out behind -/
theorem Bd.add1 {N m s L : Nat} {t0 σ0 t k σ : St} {Q : Int32 → Int32 → Int32 → Prop} {e : Nat → Int32} {p u v : Int32} (c : Int32) (B : Bs m s t0 σ0) (h : Bd Q e s L t0 σ0 t σ p) (hQ : Q c u v) : ∃ e' t' σ' p', (∀ i, i < L → e' i = e i) ∧ e' L = c ∧ f_X1_add N t k c u = some (t', k) ∧ f_X5_write N σ p c v = some (p', σ') ∧ Bd Q e' s (L + 1) t0 σ0 t' σ' p' ∧ σ' 24 = σ 24 := by
  have he : ∀ i, i < L → (fun z => if z = L then c else e z) i = e i := fun i hi => if_neg (by omega)
  obtain ⟨t', σ', p', a1, a2, a3⟩ := Bd.add (N := N) (k := k) (c := c) (u := u) (v := v) B (h.ext he) (if_pos rfl) hQ
  refine ⟨_, t', σ', p', he, if_pos rfl, a1, a2, a3, ?_⟩
  obtain ⟨b1, b2, b3, b4, b5, b6⟩ := B
  obtain ⟨⟨rfl, h2, h3⟩, -⟩ := h
  have w := writeM (N := N) (L := L) (σ := σ) (c := c) (v := v) b1 b2 (by rw [h2 18 (by decide) (by decide) (by decide)]; exact b5) (by rw [h2 19 (by decide) (by decide) (by decide)]; exact b6)
  rw [w] at a2
  injection a2 with a2
  injection a2 with a2 a4
  rw [← a4]
  split
  · rw [up2_row (by decide), up2_row (by decide)]
  · rfl
theorem BM.copy24 {N m s v : Nat} {t0 σ0 : St} (B : Bs m s t0 σ0) (hv : v ≤ s) : ∀ d u L f σ p, u + d = v → d < f → BM s L σ0 σ p → ∀ σ' p', f_X5_copy_6 N f σ (nI v) p (nI u) = some (p', σ') → σ' 24 = σ 24 := by
  have hs := B.2.1
  intro d
  induction d with
  | zero =>
    intro u L f σ p hu hf h σ' p' hc
    obtain ⟨f, rfl⟩ : ∃ z, f = z + 1 := ⟨f - 1, by omega⟩
    rw [f_X5_copy_6, if_pos (by rw [nI_leI (by omega) (by omega)]; omega)] at hc
    injection hc with hc
    injection hc with _ hc
    rw [hc]
  | succ d ih =>
    intro u L f σ p hu hf h σ' p' hc
    obtain ⟨f, rfl⟩ : ∃ z, f = z + 1 := ⟨f - 1, by omega⟩
    obtain ⟨σ1, p1, w1, w2, w3, w4⟩ := BM.add (N := N) (c := σ 20 u) (v := σ 21 u) B h
    have hcl : (nI u).toNatClampNeg = u := nI_clamp (by omega)
    have hin : ¬ (nI u < 0 ∨ 34100 ≤ (nI u).toNatClampNeg) := nI_in (by omega) (by omega)
    rw [f_X5_copy_6, if_neg (by rw [nI_leI (by omega) (by omega)]; omega), if_neg hin, if_neg hin, hcl, w1, Option.bind_some, nI_add1] at hc
    have := ih (u + 1) (L + 1) f σ1 p1 (by omega) (by omega) w2 σ' p' hc
    rw [this]
    obtain ⟨b1, b2, b3, b4, b5, b6⟩ := B
    obtain ⟨rfl, h2, h3⟩ := h
    have w := writeM (N := N) (L := L) (σ := σ) (c := σ 20 u) (v := σ 21 u) b1 b2 (by rw [h2 18 (by decide) (by decide) (by decide)]; exact b5) (by rw [h2 19 (by decide) (by decide) (by decide)]; exact b6)
    rw [w] at w1
    injection w1 with w1
    injection w1 with w1 a4
    rw [← a4]
    split
    · rw [up2_row (by decide), up2_row (by decide)]
    · rfl
theorem Bd.copy1 {N m s L u v : Nat} {t0 σ0 t k σ : St} {Q : Int32 → Int32 → Int32 → Prop} {e : Nat → Int32} {p : Int32} (B : Bs m s t0 σ0) (hN : 34100 < N) (h : Bd Q e s L t0 σ0 t σ p) (huv : u ≤ v) (hv : v ≤ s) (hQ : ∀ i, i < v → t0 0 i = σ0 20 i ∧ Q (t0 0 i) (t0 1 i) (σ0 21 i)) : ∃ e' t' σ' p', (∀ i, i < L → e' i = e i) ∧ (∀ i, e' (L + i) = t0 0 (u + i)) ∧ f_X1_copy N t k (nI u) (nI v) = some (t', k) ∧ f_X5_copy N σ p (nI u) (nI v) = some (p', σ') ∧ Bd Q e' s (L + (v - u)) t0 σ0 t' σ' p' ∧ σ' 24 = σ 24 := by
  obtain ⟨e', he, he2⟩ : ∃ e' : Nat → Int32, (∀ i, i < L → e' i = e i) ∧ ∀ i, e' (L + i) = t0 0 (u + i) := ⟨fun z => if z < L then e z else t0 0 (u + (z - L)), fun i hi => if_pos hi, fun i => by
    show (if L + i < L then _ else _) = _
    rw [if_neg (by omega), Nat.add_sub_cancel_left]⟩
  obtain ⟨t', σ', p', a1, a2, a3⟩ := Bd.copy (N := N) (k := k) (u := u) (v := v) B hN (h.ext he) huv hv (fun i hi => by
    rw [he2 i]
    obtain ⟨q1, q2⟩ := hQ (u + i) hi
    exact ⟨rfl, q1, q2⟩)
  have hs := B.2.1
  exact ⟨_, t', σ', p', he, he2, a1, a2, a3, BM.copy24 (N := N) B hv (v - u) u L N σ p (by omega) (by omega) h.1 σ' p' a2⟩
