/-! PURE: apply, matched, part -/
theorem same_ok {N : Nat} (a b : Int32) : f_X5_areSameTypes N a b = some ((if a = b then 1 else 0), ()) := by
  by_cases h : a = b
  · have e : (if a = b then (1 : Int32) else 0) = 1 := if_pos h
    rewrite [e, f_X5_areSameTypes]; exact ip h rfl
  · have e : (if a = b then (1 : Int32) else 0) = 0 := if_neg h
    rewrite [e, f_X5_areSameTypes]; exact iN h rfl
theorem I5.src {w m n : Nat} {s : Nat → Nat} {y t σ : St} (i5 : I5 w m s n y t σ) {k : Nat} (hk : k < s m) : t 0 k = σ 20 k ∧ QT n y σ (t 0 k) (t 1 k) (σ 21 k) := by
  obtain ⟨a, b, c⟩ := i5.2.2.2.2.2.2.2 k hk
  exact ⟨a.symm, b, c⟩
theorem var_ne2 {v : Nat} (h : v < 1000) : (-1 : Int32) - nI v ≠ 2 := by
  intro e
  have h1 : (-1 : Int32) - nI v + nI v = 2 + nI v := by rw [e]
  rw [Int32.sub_add_cancel, Ladd] at h1
  exact nI_ne_m1 (by show 2 + v < 2 ^ 31; omega) h1.symm
/-- the parts of a function type -/
theorem fun_parts {n q : Nat} {x y σ : St} (I : I1 n (x 3) q y σ) (i2 : I2 q x σ) {a b : Nat} (ha : a < n) (hb : b < n) (h : tC y (nI a) = tM σ (nI b)) (h2 : y 0 a = 2) : RT n y σ (y 1 a) (σ 7 b) ∧ RT n y σ (y 2 a) (σ 8 b) := by
  obtain ⟨e0, e1, e2, k1, k2, k3, k4⟩ := RT.parts I ha hb h
  obtain ⟨T, M, -, -, hat⟩ := I
  have hn := T.1
  have et : tC y (nI a) = nd (y 0 a) (tC y (y 1 a)) (tC y (y 2 a)) := tT_nd (hd := y 0) T.2.2.2.1 (by omega) ha
  have c1 := null_iffC T (k1.mono (by omega : a ≤ n))
  have c2 := null_iffC T (k2.mono (by omega : a ≤ n))
  have m1 := null_iffM M (k3.mono (by omega : b ≤ n))
  have m2 := null_iffM M (k4.mono (by omega : b ≤ n))
  obtain ⟨hh, A, B, eAB, har⟩ := hat a ha
  rw [et] at eAB
  obtain ⟨p1, p2, p3⟩ := nd_inj eAB
  obtain ⟨q3, q40, -, -, x32, -⟩ := i2
  rcases har with ⟨v, hv, ev, -⟩ | ⟨c, hcq, ec, har⟩
  · exact absurd (ev.symm.trans (p1.symm.trans h2)) (var_ne2 hv)
  · have : c = 2 := (nI_eq (b := 2) (by omega) (by omega)).mp (ec.symm.trans (p1.symm.trans h2))
    subst this
    rcases har with ⟨g, -⟩ | ⟨g, -⟩ | ⟨-, hA, hB⟩
    · rw [x32] at g; exact absurd g (by decide)
    · rw [x32] at g; exact absurd g (by decide)
    · refine ⟨⟨?_, ?_, e1⟩, ⟨?_, ?_, e2⟩⟩
      · rcases k1.mono (by omega : a ≤ n) with z | z
        · exact absurd (p2.symm.trans (c1.mpr z)) hA
        · exact z
      · rcases k3.mono (by omega : b ≤ n) with z | z
        · exact absurd (p2.symm.trans (e1.trans (m1.mpr z))) hA
        · exact z
      · rcases k2.mono (by omega : a ≤ n) with z | z
        · exact absurd (p3.symm.trans (c2.mpr z)) hB
        · exact z
      · rcases k4.mono (by omega : b ≤ n) with z | z
        · exact absurd (p3.symm.trans (e2.trans (m2.mpr z))) hB
        · exact z
theorem apply_sim {N w : Nat} {x y t k b σ : St} (hN : 34100 < N) (hw : w < 512) (hI : Inv w x y t b σ) (a d : Int32) : Sim (fun e => if e = 2 then 1 else if e = 0 then 2 else if e = 1 then 3 else 0) (w + 1) (f_X4_apply N x y t k b a d) (f_X5_apply N σ a d) := by
  obtain ⟨n, q, p, hc, tot, m, s, f, hn, i1, i2, i3, i4, i5, i6, i7⟩ := hI.code0 0
  have sm := i5.smono
  have src := fun {k : Nat} => i5.src (k := k)
  obtain ⟨k1, k2, k3, k4, k5, k6, k7, k8⟩ := id i5
  have hfail : ∀ (z : St) (e : Int32), f_X5_fail N z e = some (0, up2 z 0 0 e) := fun z e => by rw [f_X5_fail]; rfl
  have two : ∀ e : Int32, up2 (up2 σ 0 0 0) 0 0 e = up2 σ 0 0 e := fun e => by
    funext r j; rw [up2_at, up2_at, up2_at]; split <;> rfl
  rcases term_cases (N := N) (x := x) (y := y) (k := k) (b := b) k2 k3 (by omega) a with ⟨i, hi, rfl, hr, ht⟩ | ⟨hr, ht⟩
  · have ht := ht (z := up2 σ 0 0 0) rfl
    rcases term_cases (N := N) (x := x) (y := y) (k := k) (b := b) k2 k3 (by omega) d with ⟨j, hj, rfl, hr', ht'⟩ | ⟨hr', ht'⟩
    · have ht' := ht' (z := up2 σ 0 0 0) rfl
      obtain ⟨l1, l4, h1, hh1, l3, T1⟩ := k7 i hi
      have l2 := sm (i + 1) m (by omega) (by omega)
      obtain ⟨r1, r4, h2, hh2, r3, T2⟩ := k7 j hj
      have r2 := sm (j + 1) m (by omega) (by omega)
      obtain ⟨-, R1, -⟩ := k8 (s i) (by omega)
      obtain ⟨-, R2, -⟩ := k8 (s j) (by omega)
      obtain ⟨⟨a1, ha1, ea1⟩, ⟨b1, hb1, eb1⟩, et1⟩ := id R1
      have hroot := rootType_ok (N := N) (k := k) (by omega : i < 513) (k6 i (by omega)).1 (by omega)
      have hroot' := rootType_ok (N := N) (k := k) (by omega : j < 513) (k6 j (by omega)).1 (by omega)
      have htop := topType_ok (N := N) (by omega : i < 4201) (k6 i (by omega)).2 (by omega)
      have htop' := topType_ok (N := N) (by omega : j < 4201) (k6 j (by omega)).2 (by omega)
      rw [ea1] at hroot
      rw [eb1] at htop
      rw [ea1, eb1] at et1
      have hhead := head_in (N := N) (y := y) (by omega : a1 < 8000)
      have hparts := RT.parts i1 ha1 hb1 et1
      have bad : f_X4_apply N x y t k b (nI i) (nI j) = some (.inr 0, (x, y, t, k, b)) → f_X5_apply N σ (nI i) (nI j) = f_X5_apply_60 N (up2 σ 0 0 0) → Sim (fun e => if e = 2 then 1 else if e = 0 then 2 else if e = 1 then 3 else 0) (w + 1) (f_X4_apply N x y t k b (nI i) (nI j)) (f_X5_apply N σ (nI i) (nI j)) := by
        intro q1 q2
        refine ⟨.inr 0, x, y, t, k, b, 0, up2 σ 0 0 2, q1, ?_, hI.code 2, Or.inr ⟨0, rfl, rfl, by decide⟩⟩
        rewrite [q2, f_X5_apply_60]
        repeat (first | with_reducible refine bnE ?_ | with_reducible refine exI ?_ | with_reducible refine exJ ?_ | with_reducible refine bs (hfail (up2 σ 0 0 0) 2) ?_ | ((with_reducible refine iN ?_ ?_); · simp (disch := omega) only [ltL, Llt, leL, Lle, eqL, addL, Ladd, subL, subN, decN, eqM, Mle, mulL, nI_add, nI_ltI, nI_leI, nI_eq, nI_clamp, up2_at, nltT, nltF, nleT, nleF, neqT, neqF, ↓reduceIte, true_or, or_true, false_or, or_false, or_self, true_and, and_true, false_and, and_false, and_self, not_true, not_false_eq_true, i10, i01, im0, im12, im21, m1lt, m2lt, m1le, m2le, i00, i0le0, i1le0, i2le0, i3le0, eq_self]) | ((with_reducible refine ip ?_ ?_); · simp (disch := omega) only [ltL, Llt, leL, Lle, eqL, addL, Ladd, subL, subN, decN, eqM, Mle, mulL, nI_add, nI_ltI, nI_leI, nI_eq, nI_clamp, up2_at, nltT, nltF, nleT, nleF, neqT, neqF, ↓reduceIte, true_or, or_true, false_or, or_false, or_self, true_and, and_true, false_and, and_false, and_self, not_true, not_false_eq_true, i10, i01, im0, im12, im21, m1lt, m2lt, m1le, m2le, i00, i0le0, i1le0, i2le0, i3le0, eq_self]))
        rw [two]
      by_cases hd2 : y 0 a1 = 2
      · obtain ⟨P1, P2⟩ := fun_parts i1 i2 ha1 hb1 et1 hd2
        have hs6 : up2 σ 0 0 0 6 b1 = 2 := hparts.1.symm.trans hd2
        have hs6' : σ 6 b1 = 2 := hs6
        have hfst := first_in (N := N) (y := y) (by omega : a1 < 8000)
        have hsnd := second_in (N := N) (y := y) (by omega : a1 < 8000)
        have hiff := RT.iff i1 P1 R2
        by_cases hsame : y 1 a1 = t 1 (s j)
        · have hsM := same_ok (N := N) (up2 σ 0 0 0 7 b1) (up2 σ 0 0 0 21 (s j))
          rw [if_pos (hiff.mp hsame)] at hsM
          have B := Inv.bs hw i5
          obtain ⟨e, he⟩ : ∃ e : Nat → Int32, e = fun z => if z = 0 then -1 else if z < 0 + 1 + (s (i + 1) - s i) then t 0 (s i + (z - 1)) else t 0 (s j + (z - (0 + 1 + (s (i + 1) - s i)))) := ⟨_, rfl⟩
          have eA : ∀ z, s i + z < s (i + 1) → e (0 + 1 + z) = t 0 (s i + z) := fun z hz => by
            rw [he]
            show (if 0 + 1 + z = 0 then _ else _) = _
            rw [if_neg (by omega), if_pos (by omega)]
            congr 1; omega
          have eB : ∀ z, e (0 + 1 + (s (i + 1) - s i) + z) = t 0 (s j + z) := fun z => by
            rw [he]
            show (if 0 + 1 + (s (i + 1) - s i) + z = 0 then _ else _) = _
            rw [if_neg (by omega), if_neg (by omega)]
            congr 1; omega
          have e0 : e 0 = -1 := by rw [he]; rfl
          obtain ⟨t1, b1', B1⟩ := begin_ok (N := N) (k := k) (Q := QT n y (up2 σ 0 0 0)) (e := e) B
          obtain ⟨t2, σ2, p2, a2, w2, B2⟩ := Bd.add (N := N) (k := k) (c := -1) (u := y 2 a1) (v := up2 σ 0 0 0 8 b1) B B1 e0 ⟨P2, fun q => absurd q (by decide)⟩
          obtain ⟨t3, σ3, p3, a3, w3, B3⟩ := Bd.copy (N := N) (k := k) (u := s i) (v := s (i + 1)) B hN B2 (by omega) l2 (fun z hz => by
            obtain ⟨q1, q2⟩ := src (by omega : s i + z < s m)
            rw [eA z hz]; exact ⟨rfl, q1, q2⟩)
          obtain ⟨t4, σ4, p4, a4, w4, B4⟩ := Bd.copy (N := N) (k := k) (u := s j) (v := s (j + 1)) B hN B3 (by omega) r2 (fun z hz => by
            obtain ⟨q1, q2⟩ := src (by omega : s j + z < s m)
            rw [eB z]; exact ⟨rfl, q1, q2⟩)
          have T1' := T1.shift (c' := e) (a' := 0 + 1) eA
          have T2' := T2.shift (c' := e) (a' := 0 + 1 + (s (i + 1) - s i)) (fun z _ => eB z)
          obtain ⟨r, tk, kk, v', σ', res, c1, c2, c3, c4, c5⟩ := term_end (k := k) 3 hN hw hn i1 i2 i3 i4 i5 i6 i7 (by simp (disch := omega) only [ltL, Llt, leL, Lle, eqL, addL, Ladd, subL, subN, decN, eqM, Mle, mulL, nI_add, nI_ltI, nI_leI, nI_eq, nI_clamp, up2_at, nltT, nltF, nleT, nleF, neqT, neqF, ↓reduceIte, true_or, or_true, false_or, or_false, or_self, true_and, and_true, false_and, and_false, and_self, not_true, not_false_eq_true, i10, i01, im0, im12, im21, m1lt, m2lt, m1le, m2le, i00, i0le0, i1le0, i2le0, i3le0, eq_self, ]) B4 (Tm.app e0 T1' T2')
          have hcnt := count_ok (N := N) i1.1.2.1
          -- starts and ends, at the states between
          have fr2 := B2.2.1
          have fr3 := B3.2.1
          have sA := start_ok (N := N) (t := t2) (k := k) (by omega : i < 513)
          have sB := end_ok (N := N) (t := t2) (k := k) (by omega : i < 512)
          have sC := start_ok (N := N) (t := t3) (k := k) (by omega : j < 513)
          have sD := end_ok (N := N) (t := t3) (k := k) (by omega : j < 512)
          rw [fr2 2 (by decide) (by decide) (by decide) (by decide), (k6 i (by omega)).1] at sA
          rw [fr2 2 (by decide) (by decide) (by decide) (by decide), (k6 (i + 1) (by omega)).1] at sB
          rw [fr3 2 (by decide) (by decide) (by decide) (by decide), (k6 j (by omega)).1] at sC
          rw [fr3 2 (by decide) (by decide) (by decide) (by decide), (k6 (j + 1) (by omega)).1] at sD
          have m2 := B2.1.2.1
          have m3 := B3.1.2.1
          have n19 : ∀ {z : Nat}, z ≤ m → σ 19 z = nI (s z) := fun {z} hz => (k6 z hz).2
          have z2 : ∀ {z : Nat}, z ≤ m → σ2 19 z = nI (s z) := fun {z} hz => by rw [m2 19 (by decide) (by decide) (by decide)]; exact (k6 z hz).2
          have z3 : ∀ {z : Nat}, z ≤ m → σ3 19 z = nI (s z) := fun {z} hz => by rw [m3 19 (by decide) (by decide) (by decide)]; exact (k6 z hz).2
          refine ⟨res, x, y, tk, kk, b, v', σ', ?_, ?_, c4, ?_⟩
          · rewrite [f_X4_apply]
            repeat (first | with_reducible refine bnE ?_ | with_reducible refine exI ?_ | with_reducible refine exJ ?_ | with_reducible refine bs (hr) ?_ | with_reducible refine bs (hr') ?_ | with_reducible refine bs (hroot) ?_ | with_reducible refine bs (hhead) ?_ | with_reducible refine bs (hfst) ?_ | with_reducible refine bs (hroot') ?_ | with_reducible refine bs (b1') ?_ | with_reducible refine bs (hsnd) ?_ | with_reducible refine bs (a2) ?_ | with_reducible refine bs (sA) ?_ | with_reducible refine bs (sB) ?_ | with_reducible refine bs (a3) ?_ | with_reducible refine bs (sC) ?_ | with_reducible refine bs (sD) ?_ | with_reducible refine bs (a4) ?_ | with_reducible refine bs (c1) ?_ | with_reducible refine bs (hcnt) ?_ | with_reducible refine bs (c2) ?_ | ((with_reducible refine iN ?_ ?_); · simp (disch := omega) only [ltL, Llt, leL, Lle, eqL, addL, Ladd, subL, subN, decN, eqM, Mle, mulL, nI_add, nI_ltI, nI_leI, nI_eq, nI_clamp, up2_at, nltT, nltF, nleT, nleF, neqT, neqF, ↓reduceIte, true_or, or_true, false_or, or_false, or_self, true_and, and_true, false_and, and_false, and_self, not_true, not_false_eq_true, i10, i01, im0, im12, im21, m1lt, m2lt, m1le, m2le, i00, i0le0, i1le0, i2le0, i3le0, eq_self, hd2, hsame]) | ((with_reducible refine ip ?_ ?_); · simp (disch := omega) only [ltL, Llt, leL, Lle, eqL, addL, Ladd, subL, subN, decN, eqM, Mle, mulL, nI_add, nI_ltI, nI_leI, nI_eq, nI_clamp, up2_at, nltT, nltF, nleT, nleF, neqT, neqF, ↓reduceIte, true_or, or_true, false_or, or_false, or_self, true_and, and_true, false_and, and_false, and_self, not_true, not_false_eq_true, i10, i01, im0, im12, im21, m1lt, m2lt, m1le, m2le, i00, i0le0, i1le0, i2le0, i3le0, eq_self, hd2, hsame]))
            rcases c5 with ⟨rfl, -⟩ | ⟨rfl, -⟩ <;> rfl
          · have k3' : σ 18 0 = nI m := k3
            have w2' : f_X5_write N (up2 σ 0 0 0) (nI (s m)) (-1) (σ 8 b1) = some (p2, σ2) := w2
            have hsM' : f_X5_areSameTypes N (σ 7 b1) (σ 21 (s j)) = some (1, ()) := hsM
            rewrite [f_X5_apply]
            repeat (first | with_reducible refine bnE ?_ | with_reducible refine exI ?_ | with_reducible refine exJ ?_ | with_reducible refine bs (ht) ?_ | with_reducible refine bs (ht') ?_ | with_reducible refine bs (htop) ?_ | ((with_reducible refine iN ?_ ?_); · simp (disch := omega) only [ltL, Llt, leL, Lle, eqL, addL, Ladd, subL, subN, decN, eqM, Mle, mulL, nI_add, nI_ltI, nI_leI, nI_eq, nI_clamp, up2_at, nltT, nltF, nleT, nleF, neqT, neqF, ↓reduceIte, true_or, or_true, false_or, or_false, or_self, true_and, and_true, false_and, and_false, and_self, not_true, not_false_eq_true, i10, i01, im0, im12, im21, m1lt, m2lt, m1le, m2le, i00, i0le0, i1le0, i2le0, i3le0, eq_self, hs6']) | ((with_reducible refine ip ?_ ?_); · simp (disch := omega) only [ltL, Llt, leL, Lle, eqL, addL, Ladd, subL, subN, decN, eqM, Mle, mulL, nI_add, nI_ltI, nI_leI, nI_eq, nI_clamp, up2_at, nltT, nltF, nleT, nleF, neqT, neqF, ↓reduceIte, true_or, or_true, false_or, or_false, or_self, true_and, and_true, false_and, and_false, and_self, not_true, not_false_eq_true, i10, i01, im0, im12, im21, m1lt, m2lt, m1le, m2le, i00, i0le0, i1le0, i2le0, i3le0, eq_self, hs6']))
            repeat (first | with_reducible refine bnE ?_ | with_reducible refine exI ?_ | with_reducible refine exJ ?_ | with_reducible refine bs (htop') ?_ | ((with_reducible refine iN ?_ ?_); · simp (disch := omega) only [ltL, Llt, leL, Lle, eqL, addL, Ladd, subL, subN, decN, eqM, Mle, mulL, nI_add, nI_ltI, nI_leI, nI_eq, nI_clamp, up2_at, nltT, nltF, nleT, nleF, neqT, neqF, ↓reduceIte, true_or, or_true, false_or, or_false, or_self, true_and, and_true, false_and, and_false, and_self, not_true, not_false_eq_true, i10, i01, im0, im12, im21, m1lt, m2lt, m1le, m2le, i00, i0le0, i1le0, i2le0, i3le0, eq_self]) | ((with_reducible refine ip ?_ ?_); · simp (disch := omega) only [ltL, Llt, leL, Lle, eqL, addL, Ladd, subL, subN, decN, eqM, Mle, mulL, nI_add, nI_ltI, nI_leI, nI_eq, nI_clamp, up2_at, nltT, nltF, nleT, nleF, neqT, neqF, ↓reduceIte, true_or, or_true, false_or, or_false, or_self, true_and, and_true, false_and, and_false, and_self, not_true, not_false_eq_true, i10, i01, im0, im12, im21, m1lt, m2lt, m1le, m2le, i00, i0le0, i1le0, i2le0, i3le0, eq_self]))
            simp (disch := omega) only [nI_clamp, up2_at, Nat.reduceEqDiff, false_and, ↓reduceIte]
            repeat (first | with_reducible refine bnE ?_ | with_reducible refine exI ?_ | with_reducible refine exJ ?_ | with_reducible refine bs (hsM') ?_ | ((with_reducible refine iN ?_ ?_); · simp (disch := omega) only [ltL, Llt, leL, Lle, eqL, addL, Ladd, subL, subN, decN, eqM, Mle, mulL, nI_add, nI_ltI, nI_leI, nI_eq, nI_clamp, up2_at, nltT, nltF, nleT, nleF, neqT, neqF, ↓reduceIte, true_or, or_true, false_or, or_false, or_self, true_and, and_true, false_and, and_false, and_self, not_true, not_false_eq_true, i10, i01, im0, im12, im21, m1lt, m2lt, m1le, m2le, i00, i0le0, i1le0, i2le0, i3le0, eq_self, k3']) | ((with_reducible refine ip ?_ ?_); · simp (disch := omega) only [ltL, Llt, leL, Lle, eqL, addL, Ladd, subL, subN, decN, eqM, Mle, mulL, nI_add, nI_ltI, nI_leI, nI_eq, nI_clamp, up2_at, nltT, nltF, nleT, nleF, neqT, neqF, ↓reduceIte, true_or, or_true, false_or, or_false, or_self, true_and, and_true, false_and, and_false, and_self, not_true, not_false_eq_true, i10, i01, im0, im12, im21, m1lt, m2lt, m1le, m2le, i00, i0le0, i1le0, i2le0, i3le0, eq_self, k3']))
            simp (disch := omega) only [nI_clamp, up2_at, Nat.reduceEqDiff, false_and, ↓reduceIte, k3', n19 (Nat.le_refl m)]
            repeat (first | with_reducible refine bnE ?_ | with_reducible refine exI ?_ | with_reducible refine exJ ?_ | with_reducible refine bs (w2') ?_ | ((with_reducible refine iN ?_ ?_); · simp (disch := omega) only [ltL, Llt, leL, Lle, eqL, addL, Ladd, subL, subN, decN, eqM, Mle, mulL, nI_add, nI_ltI, nI_leI, nI_eq, nI_clamp, up2_at, nltT, nltF, nleT, nleF, neqT, neqF, ↓reduceIte, true_or, or_true, false_or, or_false, or_self, true_and, and_true, false_and, and_false, and_self, not_true, not_false_eq_true, i10, i01, im0, im12, im21, m1lt, m2lt, m1le, m2le, i00, i0le0, i1le0, i2le0, i3le0, eq_self]) | ((with_reducible refine ip ?_ ?_); · simp (disch := omega) only [ltL, Llt, leL, Lle, eqL, addL, Ladd, subL, subN, decN, eqM, Mle, mulL, nI_add, nI_ltI, nI_leI, nI_eq, nI_clamp, up2_at, nltT, nltF, nleT, nleF, neqT, neqF, ↓reduceIte, true_or, or_true, false_or, or_false, or_self, true_and, and_true, false_and, and_false, and_self, not_true, not_false_eq_true, i10, i01, im0, im12, im21, m1lt, m2lt, m1le, m2le, i00, i0le0, i1le0, i2le0, i3le0, eq_self]))
            simp (disch := omega) only [nI_clamp, addL, z2 (by omega : i ≤ m), z2 (by omega : i + 1 ≤ m)]
            repeat (first | with_reducible refine bnE ?_ | with_reducible refine exI ?_ | with_reducible refine exJ ?_ | with_reducible refine bs (w3) ?_ | ((with_reducible refine iN ?_ ?_); · simp (disch := omega) only [ltL, Llt, leL, Lle, eqL, addL, Ladd, subL, subN, decN, eqM, Mle, mulL, nI_add, nI_ltI, nI_leI, nI_eq, nI_clamp, up2_at, nltT, nltF, nleT, nleF, neqT, neqF, ↓reduceIte, true_or, or_true, false_or, or_false, or_self, true_and, and_true, false_and, and_false, and_self, not_true, not_false_eq_true, i10, i01, im0, im12, im21, m1lt, m2lt, m1le, m2le, i00, i0le0, i1le0, i2le0, i3le0, eq_self]) | ((with_reducible refine ip ?_ ?_); · simp (disch := omega) only [ltL, Llt, leL, Lle, eqL, addL, Ladd, subL, subN, decN, eqM, Mle, mulL, nI_add, nI_ltI, nI_leI, nI_eq, nI_clamp, up2_at, nltT, nltF, nleT, nleF, neqT, neqF, ↓reduceIte, true_or, or_true, false_or, or_false, or_self, true_and, and_true, false_and, and_false, and_self, not_true, not_false_eq_true, i10, i01, im0, im12, im21, m1lt, m2lt, m1le, m2le, i00, i0le0, i1le0, i2le0, i3le0, eq_self]))
            simp (disch := omega) only [nI_clamp, addL, z3 (by omega : j ≤ m), z3 (by omega : j + 1 ≤ m)]
            repeat (first | with_reducible refine bnE ?_ | with_reducible refine exI ?_ | with_reducible refine exJ ?_ | with_reducible refine bs (w4) ?_ | with_reducible refine bs (c3) ?_ | ((with_reducible refine iN ?_ ?_); · simp (disch := omega) only [ltL, Llt, leL, Lle, eqL, addL, Ladd, subL, subN, decN, eqM, Mle, mulL, nI_add, nI_ltI, nI_leI, nI_eq, nI_clamp, up2_at, nltT, nltF, nleT, nleF, neqT, neqF, ↓reduceIte, true_or, or_true, false_or, or_false, or_self, true_and, and_true, false_and, and_false, and_self, not_true, not_false_eq_true, i10, i01, im0, im12, im21, m1lt, m2lt, m1le, m2le, i00, i0le0, i1le0, i2le0, i3le0, eq_self]) | ((with_reducible refine ip ?_ ?_); · simp (disch := omega) only [ltL, Llt, leL, Lle, eqL, addL, Ladd, subL, subN, decN, eqM, Mle, mulL, nI_add, nI_ltI, nI_leI, nI_eq, nI_clamp, up2_at, nltT, nltF, nleT, nleF, neqT, neqF, ↓reduceIte, true_or, or_true, false_or, or_false, or_self, true_and, and_true, false_and, and_false, and_self, not_true, not_false_eq_true, i10, i01, im0, im12, im21, m1lt, m2lt, m1le, m2le, i00, i0le0, i1le0, i2le0, i3le0, eq_self]))
            rfl
          · rcases c5 with ⟨rfl, h⟩ | ⟨rfl, h⟩
            · exact Or.inl ⟨_, rfl, h, rfl⟩
            · exact Or.inr ⟨1, rfl, by rw [h]; decide, by decide⟩
        · have hsM := same_ok (N := N) (up2 σ 0 0 0 7 b1) (up2 σ 0 0 0 21 (s j))
          rw [if_neg (fun q => hsame (hiff.mpr q))] at hsM
          have hsM' : f_X5_areSameTypes N (σ 7 b1) (σ 21 (s j)) = some (0, ()) := hsM
          refine bad ?_ ?_
          · rewrite [f_X4_apply]
            repeat (first | with_reducible refine bnE ?_ | with_reducible refine exI ?_ | with_reducible refine exJ ?_ | with_reducible refine bs (hr) ?_ | with_reducible refine bs (hr') ?_ | with_reducible refine bs (hroot) ?_ | with_reducible refine bs (hhead) ?_ | with_reducible refine bs (hfst) ?_ | with_reducible refine bs (hroot') ?_ | ((with_reducible refine iN ?_ ?_); · simp (disch := omega) only [ltL, Llt, leL, Lle, eqL, addL, Ladd, subL, subN, decN, eqM, Mle, mulL, nI_add, nI_ltI, nI_leI, nI_eq, nI_clamp, up2_at, nltT, nltF, nleT, nleF, neqT, neqF, ↓reduceIte, true_or, or_true, false_or, or_false, or_self, true_and, and_true, false_and, and_false, and_self, not_true, not_false_eq_true, i10, i01, im0, im12, im21, m1lt, m2lt, m1le, m2le, i00, i0le0, i1le0, i2le0, i3le0, eq_self, hd2, hsame]) | ((with_reducible refine ip ?_ ?_); · simp (disch := omega) only [ltL, Llt, leL, Lle, eqL, addL, Ladd, subL, subN, decN, eqM, Mle, mulL, nI_add, nI_ltI, nI_leI, nI_eq, nI_clamp, up2_at, nltT, nltF, nleT, nleF, neqT, neqF, ↓reduceIte, true_or, or_true, false_or, or_false, or_self, true_and, and_true, false_and, and_false, and_self, not_true, not_false_eq_true, i10, i01, im0, im12, im21, m1lt, m2lt, m1le, m2le, i00, i0le0, i1le0, i2le0, i3le0, eq_self, hd2, hsame]))
            rfl
          · rewrite [f_X5_apply]
            repeat (first | with_reducible refine bnE ?_ | with_reducible refine exI ?_ | with_reducible refine exJ ?_ | with_reducible refine bs (ht) ?_ | with_reducible refine bs (ht') ?_ | with_reducible refine bs (htop) ?_ | ((with_reducible refine iN ?_ ?_); · simp (disch := omega) only [ltL, Llt, leL, Lle, eqL, addL, Ladd, subL, subN, decN, eqM, Mle, mulL, nI_add, nI_ltI, nI_leI, nI_eq, nI_clamp, up2_at, nltT, nltF, nleT, nleF, neqT, neqF, ↓reduceIte, true_or, or_true, false_or, or_false, or_self, true_and, and_true, false_and, and_false, and_self, not_true, not_false_eq_true, i10, i01, im0, im12, im21, m1lt, m2lt, m1le, m2le, i00, i0le0, i1le0, i2le0, i3le0, eq_self, hs6']) | ((with_reducible refine ip ?_ ?_); · simp (disch := omega) only [ltL, Llt, leL, Lle, eqL, addL, Ladd, subL, subN, decN, eqM, Mle, mulL, nI_add, nI_ltI, nI_leI, nI_eq, nI_clamp, up2_at, nltT, nltF, nleT, nleF, neqT, neqF, ↓reduceIte, true_or, or_true, false_or, or_false, or_self, true_and, and_true, false_and, and_false, and_self, not_true, not_false_eq_true, i10, i01, im0, im12, im21, m1lt, m2lt, m1le, m2le, i00, i0le0, i1le0, i2le0, i3le0, eq_self, hs6']))
            repeat (first | with_reducible refine bnE ?_ | with_reducible refine exI ?_ | with_reducible refine exJ ?_ | with_reducible refine bs (htop') ?_ | ((with_reducible refine iN ?_ ?_); · simp (disch := omega) only [ltL, Llt, leL, Lle, eqL, addL, Ladd, subL, subN, decN, eqM, Mle, mulL, nI_add, nI_ltI, nI_leI, nI_eq, nI_clamp, up2_at, nltT, nltF, nleT, nleF, neqT, neqF, ↓reduceIte, true_or, or_true, false_or, or_false, or_self, true_and, and_true, false_and, and_false, and_self, not_true, not_false_eq_true, i10, i01, im0, im12, im21, m1lt, m2lt, m1le, m2le, i00, i0le0, i1le0, i2le0, i3le0, eq_self]) | ((with_reducible refine ip ?_ ?_); · simp (disch := omega) only [ltL, Llt, leL, Lle, eqL, addL, Ladd, subL, subN, decN, eqM, Mle, mulL, nI_add, nI_ltI, nI_leI, nI_eq, nI_clamp, up2_at, nltT, nltF, nleT, nleF, neqT, neqF, ↓reduceIte, true_or, or_true, false_or, or_false, or_self, true_and, and_true, false_and, and_false, and_self, not_true, not_false_eq_true, i10, i01, im0, im12, im21, m1lt, m2lt, m1le, m2le, i00, i0le0, i1le0, i2le0, i3le0, eq_self]))
            simp (disch := omega) only [nI_clamp, up2_at, Nat.reduceEqDiff, false_and, ↓reduceIte]
            repeat (first | with_reducible refine bnE ?_ | with_reducible refine exI ?_ | with_reducible refine exJ ?_ | with_reducible refine bs (hsM') ?_ | ((with_reducible refine iN ?_ ?_); · simp (disch := omega) only [ltL, Llt, leL, Lle, eqL, addL, Ladd, subL, subN, decN, eqM, Mle, mulL, nI_add, nI_ltI, nI_leI, nI_eq, nI_clamp, up2_at, nltT, nltF, nleT, nleF, neqT, neqF, ↓reduceIte, true_or, or_true, false_or, or_false, or_self, true_and, and_true, false_and, and_false, and_self, not_true, not_false_eq_true, i10, i01, im0, im12, im21, m1lt, m2lt, m1le, m2le, i00, i0le0, i1le0, i2le0, i3le0, eq_self]) | ((with_reducible refine ip ?_ ?_); · simp (disch := omega) only [ltL, Llt, leL, Lle, eqL, addL, Ladd, subL, subN, decN, eqM, Mle, mulL, nI_add, nI_ltI, nI_leI, nI_eq, nI_clamp, up2_at, nltT, nltF, nleT, nleF, neqT, neqF, ↓reduceIte, true_or, or_true, false_or, or_false, or_self, true_and, and_true, false_and, and_false, and_self, not_true, not_false_eq_true, i10, i01, im0, im12, im21, m1lt, m2lt, m1le, m2le, i00, i0le0, i1le0, i2le0, i3le0, eq_self]))
            rfl
      · have hs6' : ¬ σ 6 b1 = 2 := fun q => hd2 (hparts.1.trans q)
        refine bad ?_ ?_
        · rewrite [f_X4_apply]
          repeat (first | with_reducible refine bnE ?_ | with_reducible refine exI ?_ | with_reducible refine exJ ?_ | with_reducible refine bs (hr) ?_ | with_reducible refine bs (hr') ?_ | with_reducible refine bs (hroot) ?_ | with_reducible refine bs (hhead) ?_ | ((with_reducible refine iN ?_ ?_); · simp (disch := omega) only [ltL, Llt, leL, Lle, eqL, addL, Ladd, subL, subN, decN, eqM, Mle, mulL, nI_add, nI_ltI, nI_leI, nI_eq, nI_clamp, up2_at, nltT, nltF, nleT, nleF, neqT, neqF, ↓reduceIte, true_or, or_true, false_or, or_false, or_self, true_and, and_true, false_and, and_false, and_self, not_true, not_false_eq_true, i10, i01, im0, im12, im21, m1lt, m2lt, m1le, m2le, i00, i0le0, i1le0, i2le0, i3le0, eq_self, hd2]) | ((with_reducible refine ip ?_ ?_); · simp (disch := omega) only [ltL, Llt, leL, Lle, eqL, addL, Ladd, subL, subN, decN, eqM, Mle, mulL, nI_add, nI_ltI, nI_leI, nI_eq, nI_clamp, up2_at, nltT, nltF, nleT, nleF, neqT, neqF, ↓reduceIte, true_or, or_true, false_or, or_false, or_self, true_and, and_true, false_and, and_false, and_self, not_true, not_false_eq_true, i10, i01, im0, im12, im21, m1lt, m2lt, m1le, m2le, i00, i0le0, i1le0, i2le0, i3le0, eq_self, hd2]))
          rfl
        · rewrite [f_X5_apply]
          repeat (first | with_reducible refine bnE ?_ | with_reducible refine exI ?_ | with_reducible refine exJ ?_ | with_reducible refine bs (ht) ?_ | with_reducible refine bs (ht') ?_ | with_reducible refine bs (htop) ?_ | ((with_reducible refine iN ?_ ?_); · simp (disch := omega) only [ltL, Llt, leL, Lle, eqL, addL, Ladd, subL, subN, decN, eqM, Mle, mulL, nI_add, nI_ltI, nI_leI, nI_eq, nI_clamp, up2_at, nltT, nltF, nleT, nleF, neqT, neqF, ↓reduceIte, true_or, or_true, false_or, or_false, or_self, true_and, and_true, false_and, and_false, and_self, not_true, not_false_eq_true, i10, i01, im0, im12, im21, m1lt, m2lt, m1le, m2le, i00, i0le0, i1le0, i2le0, i3le0, eq_self, hs6']) | ((with_reducible refine ip ?_ ?_); · simp (disch := omega) only [ltL, Llt, leL, Lle, eqL, addL, Ladd, subL, subN, decN, eqM, Mle, mulL, nI_add, nI_ltI, nI_leI, nI_eq, nI_clamp, up2_at, nltT, nltF, nleT, nleF, neqT, neqF, ↓reduceIte, true_or, or_true, false_or, or_false, or_self, true_and, and_true, false_and, and_false, and_self, not_true, not_false_eq_true, i10, i01, im0, im12, im21, m1lt, m2lt, m1le, m2le, i00, i0le0, i1le0, i2le0, i3le0, eq_self, hs6']))
          rfl
    · have ht' := ht' (z := up2 σ 0 0 0) rfl
      refine ⟨.inr 2, x, y, t, k, b, 0, up2 σ 0 0 1, ?_, ?_, hI.code 1, Or.inr ⟨2, rfl, rfl, by decide⟩⟩
      · rewrite [f_X4_apply]
        repeat (first | with_reducible refine bnE ?_ | with_reducible refine exI ?_ | with_reducible refine exJ ?_ | with_reducible refine bs (hr) ?_ | with_reducible refine bs (hr') ?_ | ((with_reducible refine iN ?_ ?_); · simp (disch := omega) only [ltL, Llt, leL, Lle, eqL, addL, Ladd, subL, subN, decN, eqM, Mle, mulL, nI_add, nI_ltI, nI_leI, nI_eq, nI_clamp, up2_at, nltT, nltF, nleT, nleF, neqT, neqF, ↓reduceIte, true_or, or_true, false_or, or_false, or_self, true_and, and_true, false_and, and_false, and_self, not_true, not_false_eq_true, i10, i01, im0, im12, im21, m1lt, m2lt, m1le, m2le, i00, i0le0, i1le0, i2le0, i3le0, eq_self]) | ((with_reducible refine ip ?_ ?_); · simp (disch := omega) only [ltL, Llt, leL, Lle, eqL, addL, Ladd, subL, subN, decN, eqM, Mle, mulL, nI_add, nI_ltI, nI_leI, nI_eq, nI_clamp, up2_at, nltT, nltF, nleT, nleF, neqT, neqF, ↓reduceIte, true_or, or_true, false_or, or_false, or_self, true_and, and_true, false_and, and_false, and_self, not_true, not_false_eq_true, i10, i01, im0, im12, im21, m1lt, m2lt, m1le, m2le, i00, i0le0, i1le0, i2le0, i3le0, eq_self]))
        rfl
      · rewrite [f_X5_apply]
        repeat (first | with_reducible refine bnE ?_ | with_reducible refine exI ?_ | with_reducible refine exJ ?_ | with_reducible refine bs (ht) ?_ | with_reducible refine bs (ht') ?_ | ((with_reducible refine iN ?_ ?_); · simp (disch := omega) only [ltL, Llt, leL, Lle, eqL, addL, Ladd, subL, subN, decN, eqM, Mle, mulL, nI_add, nI_ltI, nI_leI, nI_eq, nI_clamp, up2_at, nltT, nltF, nleT, nleF, neqT, neqF, ↓reduceIte, true_or, or_true, false_or, or_false, or_self, true_and, and_true, false_and, and_false, and_self, not_true, not_false_eq_true, i10, i01, im0, im12, im21, m1lt, m2lt, m1le, m2le, i00, i0le0, i1le0, i2le0, i3le0, eq_self]) | ((with_reducible refine ip ?_ ?_); · simp (disch := omega) only [ltL, Llt, leL, Lle, eqL, addL, Ladd, subL, subN, decN, eqM, Mle, mulL, nI_add, nI_ltI, nI_leI, nI_eq, nI_clamp, up2_at, nltT, nltF, nleT, nleF, neqT, neqF, ↓reduceIte, true_or, or_true, false_or, or_false, or_self, true_and, and_true, false_and, and_false, and_self, not_true, not_false_eq_true, i10, i01, im0, im12, im21, m1lt, m2lt, m1le, m2le, i00, i0le0, i1le0, i2le0, i3le0, eq_self]))
        rewrite [f_X5_apply_21]
        repeat (first | with_reducible refine bnE ?_ | with_reducible refine exI ?_ | with_reducible refine exJ ?_ | with_reducible refine bs (hfail (up2 σ 0 0 0) 1) ?_ | ((with_reducible refine iN ?_ ?_); · simp (disch := omega) only [ltL, Llt, leL, Lle, eqL, addL, Ladd, subL, subN, decN, eqM, Mle, mulL, nI_add, nI_ltI, nI_leI, nI_eq, nI_clamp, up2_at, nltT, nltF, nleT, nleF, neqT, neqF, ↓reduceIte, true_or, or_true, false_or, or_false, or_self, true_and, and_true, false_and, and_false, and_self, not_true, not_false_eq_true, i10, i01, im0, im12, im21, m1lt, m2lt, m1le, m2le, i00, i0le0, i1le0, i2le0, i3le0, eq_self]) | ((with_reducible refine ip ?_ ?_); · simp (disch := omega) only [ltL, Llt, leL, Lle, eqL, addL, Ladd, subL, subN, decN, eqM, Mle, mulL, nI_add, nI_ltI, nI_leI, nI_eq, nI_clamp, up2_at, nltT, nltF, nleT, nleF, neqT, neqF, ↓reduceIte, true_or, or_true, false_or, or_false, or_self, true_and, and_true, false_and, and_false, and_self, not_true, not_false_eq_true, i10, i01, im0, im12, im21, m1lt, m2lt, m1le, m2le, i00, i0le0, i1le0, i2le0, i3le0, eq_self]))
        rw [two]
  · have ht := ht (z := up2 σ 0 0 0) rfl
    refine ⟨.inr 2, x, y, t, k, b, 0, up2 σ 0 0 1, ?_, ?_, hI.code 1, Or.inr ⟨2, rfl, rfl, by decide⟩⟩
    · rewrite [f_X4_apply]
      repeat (first | with_reducible refine bnE ?_ | with_reducible refine exI ?_ | with_reducible refine exJ ?_ | with_reducible refine bs (hr) ?_ | ((with_reducible refine iN ?_ ?_); · simp (disch := omega) only [ltL, Llt, leL, Lle, eqL, addL, Ladd, subL, subN, decN, eqM, Mle, mulL, nI_add, nI_ltI, nI_leI, nI_eq, nI_clamp, up2_at, nltT, nltF, nleT, nleF, neqT, neqF, ↓reduceIte, true_or, or_true, false_or, or_false, or_self, true_and, and_true, false_and, and_false, and_self, not_true, not_false_eq_true, i10, i01, im0, im12, im21, m1lt, m2lt, m1le, m2le, i00, i0le0, i1le0, i2le0, i3le0, eq_self]) | ((with_reducible refine ip ?_ ?_); · simp (disch := omega) only [ltL, Llt, leL, Lle, eqL, addL, Ladd, subL, subN, decN, eqM, Mle, mulL, nI_add, nI_ltI, nI_leI, nI_eq, nI_clamp, up2_at, nltT, nltF, nleT, nleF, neqT, neqF, ↓reduceIte, true_or, or_true, false_or, or_false, or_self, true_and, and_true, false_and, and_false, and_self, not_true, not_false_eq_true, i10, i01, im0, im12, im21, m1lt, m2lt, m1le, m2le, i00, i0le0, i1le0, i2le0, i3le0, eq_self]))
      rfl
    · rewrite [f_X5_apply]
      repeat (first | with_reducible refine bnE ?_ | with_reducible refine exI ?_ | with_reducible refine exJ ?_ | with_reducible refine bs (ht) ?_ | ((with_reducible refine iN ?_ ?_); · simp (disch := omega) only [ltL, Llt, leL, Lle, eqL, addL, Ladd, subL, subN, decN, eqM, Mle, mulL, nI_add, nI_ltI, nI_leI, nI_eq, nI_clamp, up2_at, nltT, nltF, nleT, nleF, neqT, neqF, ↓reduceIte, true_or, or_true, false_or, or_false, or_self, true_and, and_true, false_and, and_false, and_self, not_true, not_false_eq_true, i10, i01, im0, im12, im21, m1lt, m2lt, m1le, m2le, i00, i0le0, i1le0, i2le0, i3le0, eq_self]) | ((with_reducible refine ip ?_ ?_); · simp (disch := omega) only [ltL, Llt, leL, Lle, eqL, addL, Ladd, subL, subN, decN, eqM, Mle, mulL, nI_add, nI_ltI, nI_leI, nI_eq, nI_clamp, up2_at, nltT, nltF, nleT, nleF, neqT, neqF, ↓reduceIte, true_or, or_true, false_or, or_false, or_self, true_and, and_true, false_and, and_false, and_self, not_true, not_false_eq_true, i10, i01, im0, im12, im21, m1lt, m2lt, m1le, m2le, i00, i0le0, i1le0, i2le0, i3le0, eq_self]))
      rewrite [f_X5_apply_21]
      repeat (first | with_reducible refine bnE ?_ | with_reducible refine exI ?_ | with_reducible refine exJ ?_ | with_reducible refine bs (hfail (up2 σ 0 0 0) 1) ?_ | ((with_reducible refine iN ?_ ?_); · simp (disch := omega) only [ltL, Llt, leL, Lle, eqL, addL, Ladd, subL, subN, decN, eqM, Mle, mulL, nI_add, nI_ltI, nI_leI, nI_eq, nI_clamp, up2_at, nltT, nltF, nleT, nleF, neqT, neqF, ↓reduceIte, true_or, or_true, false_or, or_false, or_self, true_and, and_true, false_and, and_false, and_self, not_true, not_false_eq_true, i10, i01, im0, im12, im21, m1lt, m2lt, m1le, m2le, i00, i0le0, i1le0, i2le0, i3le0, eq_self]) | ((with_reducible refine ip ?_ ?_); · simp (disch := omega) only [ltL, Llt, leL, Lle, eqL, addL, Ladd, subL, subN, decN, eqM, Mle, mulL, nI_add, nI_ltI, nI_leI, nI_eq, nI_clamp, up2_at, nltT, nltF, nleT, nleF, neqT, neqF, ↓reduceIte, true_or, or_true, false_or, or_false, or_self, true_and, and_true, false_and, and_false, and_self, not_true, not_false_eq_true, i10, i01, im0, im12, im21, m1lt, m2lt, m1le, m2le, i00, i0le0, i1le0, i2le0, i3le0, eq_self]))
      rw [two]
