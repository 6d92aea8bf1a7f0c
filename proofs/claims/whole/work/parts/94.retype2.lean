/-! PURE: retype, the call -/
theorem AT_sb {n q v : Nat} {g : Nat → Int32} {y σ : St} {τ0 : Ty} (I : I1 n g q y σ) (hq : q ≤ 40) (hv : v < 1000) (h0 : AT g q τ0) (hne : τ0 ≠ Term.null) {k : Nat} (hk : k < n) : AT g q (sb (-1 - nI v) τ0 (tC y (nI k))) := by
  obtain ⟨et, hcs⟩ := hd_cases I hq hk
  obtain ⟨T, M, -, -, hat⟩ := id I
  have hn := T.1
  have kid : ∀ {i : Int32}, Kid k i → ¬ i = -1 → sb (-1 - nI v) τ0 (tC y i) ≠ Term.null := fun {i} hi hne' => by
    rcases hi with e | ⟨j, hj, rfl⟩
    · exact absurd e hne'
    · exact sb_ne hne (hat j (by omega))
  have k1 := (T.2.2.2.1 k hk).1
  have k2 := (T.2.2.2.1 k hk).2
  rw [et, sb_nd]
  rcases hcs with ⟨w, hw, e0, e1, e2⟩ | ⟨c, hc, e0, e1, e3⟩
  · by_cases e : y 0 k = -1 - nI v
    · rw [if_pos e]; exact h0
    · rw [if_neg e, e1, e2, null_C, sb_null]
      exact ⟨_, _, _, rfl, Or.inl ⟨w, hw, e0, rfl, rfl⟩⟩
  · have : ¬ y 0 k = -1 - nI v := fun e => by
      rw [e] at e1
      exact absurd (var_neg hv) (Int32.not_lt.mpr e1)
    rw [if_neg this]
    refine ⟨_, _, _, rfl, Or.inr ⟨c, hc, e0, ?_⟩⟩
    rcases e3 with ⟨a1, a2, a3⟩ | ⟨a1, a2, a3⟩ | ⟨a1, a2, a3⟩
    · exact Or.inl ⟨a1, by rw [a2, null_C, sb_null], by rw [a3, null_C, sb_null]⟩
    · exact Or.inr (Or.inl ⟨a1, kid k1 a2, by rw [a3, null_C, sb_null]⟩)
    · exact Or.inr (Or.inr ⟨a1, kid k1 a2, kid k2 a3⟩)
/-- the memory before the first image -/
theorem MMi.start {N n q u v a0 : Nat} {g : Nat → Int32} {y1 σ : St} (hN : 34100 < N) (I : I1 n g q y1 σ) (hq : q ≤ 40) (hv : v < 1000) (h11 : y1 11 0 = nI u) (hu : u < 2 ^ 31) (h8 : ∀ k, k < 8000 → ∃ w, w < u ∧ y1 8 k = nI w) (ha0 : a0 < n) : ∃ rr y2, f_X2_find N y1 (-1 - nI v) (-1) (-1) = some (rr, y1) ∧ f_X2_setImage N y1 rr (nI a0) = some y2 ∧ MMi n u n (-1 - nI v) (tC y1 (nI a0)) y1 y2 ∧ NoF n u y2 ∧ tC y2 = tC y1 := by
  obtain ⟨T, M, -⟩ := id I
  have hn := T.1
  have no : ∀ k, k < n → ¬ y1 8 k = nI u := fun k hk e => by
    obtain ⟨w, hw, ew⟩ := h8 k (by omega)
    rw [ew] at e
    have := (nI_eq (by omega) (by omega)).mp e
    omega
  obtain ⟨rr, hf, hF⟩ := find_ok (N := N) hn T.2.2.1 T.2.1 (by omega) (-1 - nI v) (-1) (-1)
  have base : (∀ k, k < n → ¬ y1 0 k = -1 - nI v) → MMi n u n (-1 - nI v) (tC y1 (nI a0)) y1 y1 := fun hno => ⟨T, Nat.le_refl _, fun _ _ => rfl, fun _ _ _ _ _ _ _ _ _ _ _ => rfl, fun _ => Or.inl rfl, fun k hk e => absurd e (hno k hk), fun k hk e => absurd e (no k hk)⟩
  have kids : ∀ k, k < n → y1 0 k = -1 - nI v → y1 1 k = -1 ∧ y1 2 k = -1 := fun k hk e => by
    rcases (hd_cases I hq hk).2 with ⟨w, hw, e0, e1, e2⟩ | ⟨c, hc, e0, e1, e3⟩
    · exact ⟨e1, e2⟩
    · rw [e] at e1; exact absurd (var_neg hv) (Int32.not_lt.mpr e1)
  rcases hF with ⟨k, hk, e0, e1, e2, er⟩ | ⟨hno, er⟩
  · have z8 : ∀ j, up2 (up2 y1 7 k (nI a0)) 8 k (y1 11 0) 8 j = if j = k then nI u else y1 8 j := fun j => by
      by_cases e : j = k
      · subst e; rw [if_pos rfl]; simp (disch := omega) only [ltL, Llt, leL, Lle, eqL, addL, Ladd, subL, subN, decN, eqM, Mle, mulL, nI_add, nI_ltI, nI_leI, nI_eq, nI_clamp, up2_at, nltT, nltF, nleT, nleF, neqT, neqF, ↓reduceIte, true_or, or_true, false_or, or_false, or_self, true_and, and_true, false_and, and_false, and_self, not_true, not_false_eq_true, i10, i01, im0, im12, im21, m1lt, m2lt, m1le, m2le, i00, i0le0, i1le0, i2le0, i3le0, eq_self, ]; exact h11
      · rw [if_neg e]; simp (disch := omega) only [ltL, Llt, leL, Lle, eqL, addL, Ladd, subL, subN, decN, eqM, Mle, mulL, nI_add, nI_ltI, nI_leI, nI_eq, nI_clamp, up2_at, nltT, nltF, nleT, nleF, neqT, neqF, ↓reduceIte, true_or, or_true, false_or, or_false, or_self, true_and, and_true, false_and, and_false, and_self, not_true, not_false_eq_true, i10, i01, im0, im12, im21, m1lt, m2lt, m1le, m2le, i00, i0le0, i1le0, i2le0, i3le0, eq_self, e]
    have z7 : ∀ j, up2 (up2 y1 7 k (nI a0)) 8 k (y1 11 0) 7 j = if j = k then nI a0 else y1 7 j := fun j => by
      by_cases e : j = k
      · subst e; rw [if_pos rfl]; simp (disch := omega) only [ltL, Llt, leL, Lle, eqL, addL, Ladd, subL, subN, decN, eqM, Mle, mulL, nI_add, nI_ltI, nI_leI, nI_eq, nI_clamp, up2_at, nltT, nltF, nleT, nleF, neqT, neqF, ↓reduceIte, true_or, or_true, false_or, or_false, or_self, true_and, and_true, false_and, and_false, and_self, not_true, not_false_eq_true, i10, i01, im0, im12, im21, m1lt, m2lt, m1le, m2le, i00, i0le0, i1le0, i2le0, i3le0, eq_self, ]
      · rw [if_neg e]; simp (disch := omega) only [ltL, Llt, leL, Lle, eqL, addL, Ladd, subL, subN, decN, eqM, Mle, mulL, nI_add, nI_ltI, nI_leI, nI_eq, nI_clamp, up2_at, nltT, nltF, nleT, nleF, neqT, neqF, ↓reduceIte, true_or, or_true, false_or, or_false, or_self, true_and, and_true, false_and, and_false, and_self, not_true, not_false_eq_true, i10, i01, im0, im12, im21, m1lt, m2lt, m1le, m2le, i00, i0le0, i1le0, i2le0, i3le0, eq_self, e]
    obtain ⟨T1, ht⟩ := T.congr (y' := up2 (up2 y1 7 k (nI a0)) 8 k (y1 11 0)) (by simp (disch := decide) only [up2_row, upR_row, and_self, eq_self, ])
    have et : tC y1 (nI k) = nd (y1 0 k) (tC y1 (y1 1 k)) (tC y1 (y1 2 k)) := tT_nd (hd := y1 0) T.2.2.2.1 (by omega) hk
    refine ⟨rr, _, hf, by rw [er]; exact setImage_ok (by omega), ⟨T1, Nat.le_refl _, fun _ _ => by rw [ht], fun r h0 h1 h2 h3 h4 h5 h6 h7 h8 h10 => by rw [up2_row h8, up2_row h7], fun j => ?_, fun j hj ej => ?_, fun j hj hj8 => ?_⟩, fun j hj hj8 => ?_, ht⟩
    · rw [z8]
      by_cases e : j = k
      · rw [if_pos e]; exact Or.inr rfl
      · rw [if_neg e]; exact Or.inl rfl
    · obtain ⟨q1, q2⟩ := kids j hj ej
      have : j = k := T.2.2.2.2.1 j k hj hk (ej.trans e0.symm) (q1.trans e1.symm) (q2.trans e2.symm)
      rw [z8, if_pos this]
    · rw [z8] at hj8
      by_cases e : j = k
      · subst e
        right
        rw [z7, if_pos rfl, ht]
        refine ⟨⟨a0, ha0, rfl⟩, by rw [et, sb_nd, if_pos e0], fun l el hl => ?_, fun l el hl => ?_⟩
        · rw [e1] at el; exact absurd el.symm (nI_ne_m1 (by omega))
        · rw [e2] at el; exact absurd el.symm (nI_ne_m1 (by omega))
      · rw [if_neg e] at hj8; exact absurd hj8 (no j hj)
    · rw [z8] at hj8
      rw [z7]
      by_cases e : j = k
      · rw [if_pos e]; exact nI_ne_m1 (by omega)
      · rw [if_neg e] at hj8; exact absurd hj8 (no j hj)
  · refine ⟨rr, y1, hf, ?_, base (fun k hk e => ?_), fun k hk e => absurd e (no k hk), rfl⟩
    · rw [er, f_X2_setImage]
      exact ip (by decide) rfl
    · obtain ⟨q1, q2⟩ := kids k hk e
      exact hno k hk ⟨e, q1, q2⟩
theorem retype_sim {N w : Nat} {x y t k b σ : St} (hN : 34100 < N) (hw : w < 512) (hI : Inv w x y t b σ) (a c d : Int32) : Sim (fun e => if e = 2 then 1 else if e = 0 then 2 else if e = 1 then 3 else 0) (w + 1) (f_X4_retype N x y t k b a c d) (f_X5_retype N σ a c d) := by
  obtain ⟨n, q, p, hc, tot, m, s, f, hn, i1, i2, i3, i4, i5, i6, i7⟩ := hI.code0 0
  have sm := i5.smono
  obtain ⟨k1, k2, k3, k4, k5, k6, k7, k8⟩ := id i5
  obtain ⟨j1, j2, j3, j4, j5, j6, j7⟩ := id i4
  have hfail : ∀ (z : St) (e : Int32), f_X5_fail N z e = some (0, up2 z 0 0 e) := fun z e => by rw [f_X5_fail]; rfl
  have two : ∀ e : Int32, up2 (up2 σ 0 0 0) 0 0 e = up2 σ 0 0 e := fun e => by
    funext r j; rw [up2_at, up2_at, up2_at]; split <;> rfl
  have bad1 : f_X4_retype N x y t k b a c d = some (.inr 2, (x, y, t, k, b)) → f_X5_retype N σ a c d = f_X5_retype_24 N (up2 σ 0 0 0) → Sim (fun e => if e = 2 then 1 else if e = 0 then 2 else if e = 1 then 3 else 0) (w + 1) (f_X4_retype N x y t k b a c d) (f_X5_retype N σ a c d) := by
    intro q1 q2
    refine ⟨.inr 2, x, y, t, k, b, 0, up2 σ 0 0 1, q1, ?_, hI.code 1, Or.inr ⟨2, rfl, rfl, by decide⟩⟩
    rewrite [q2, f_X5_retype_24]
    repeat (first | with_reducible refine bnE ?_ | with_reducible refine exI ?_ | with_reducible refine exJ ?_ | with_reducible refine bs (hfail (up2 σ 0 0 0) 1) ?_ | ((with_reducible refine iN ?_ ?_); · simp (disch := omega) only [ltL, Llt, leL, Lle, eqL, addL, Ladd, subL, subN, decN, eqM, Mle, mulL, nI_add, nI_ltI, nI_leI, nI_eq, nI_clamp, up2_at, nltT, nltF, nleT, nleF, neqT, neqF, ↓reduceIte, true_or, or_true, false_or, or_false, or_self, true_and, and_true, false_and, and_false, and_self, not_true, not_false_eq_true, i10, i01, im0, im12, im21, m1lt, m2lt, m1le, m2le, i00, i0le0, i1le0, i2le0, i3le0, eq_self]) | ((with_reducible refine ip ?_ ?_); · simp (disch := omega) only [ltL, Llt, leL, Lle, eqL, addL, Ladd, subL, subN, decN, eqM, Mle, mulL, nI_add, nI_ltI, nI_leI, nI_eq, nI_clamp, up2_at, nltT, nltF, nleT, nleF, neqT, neqF, ↓reduceIte, true_or, or_true, false_or, or_false, or_self, true_and, and_true, false_and, and_false, and_self, not_true, not_false_eq_true, i10, i01, im0, im12, im21, m1lt, m2lt, m1le, m2le, i00, i0le0, i1le0, i2le0, i3le0, eq_self]))
    rw [two]
  rcases term_cases (N := N) (x := x) (y := y) (k := k) (b := b) k2 k3 (by omega) a with ⟨i, hi, rfl, hr, ht⟩ | ⟨hr, ht⟩
  · have ht := ht (z := up2 σ 0 0 0) rfl
    rcases handle_cases (N := N) (x := x) (t := t) (k := k) (b := b) j3 (by omega) d with ⟨hx, hhx, rfl, hb, ho⟩ | ⟨hb, ho⟩
    · have hR := j7 hx hhx
      obtain ⟨⟨a0, ha0, ea0⟩, ⟨b0, hb0, eb0⟩, etr⟩ := id hR
      have hb := hb ea0 (nI_ne_m1 (by omega))
      rw [← j4] at ho
      rw [ea0, eb0] at etr
      have bad2 : f_X4_requireNumber N c = some (.inr 0, ()) → f_X5_outside N c 1000 = some (1, ()) → Sim (fun e => if e = 2 then 1 else if e = 0 then 2 else if e = 1 then 3 else 0) (w + 1) (f_X4_retype N x y t k b (nI i) c (nI hx)) (f_X5_retype N σ (nI i) c (nI hx)) := by
        intro h1 h2
        refine ⟨.inr 0, x, y, t, k, b, 0, up2 σ 0 0 2, ?_, ?_, hI.code 2, Or.inr ⟨0, rfl, rfl, by decide⟩⟩
        · rewrite [f_X4_retype]
          repeat (first | with_reducible refine bnE ?_ | with_reducible refine exI ?_ | with_reducible refine exJ ?_ | with_reducible refine bs (hr) ?_ | with_reducible refine bs (hb) ?_ | with_reducible refine bs (h1) ?_ | ((with_reducible refine iN ?_ ?_); · simp (disch := omega) only [ltL, Llt, leL, Lle, eqL, addL, Ladd, subL, subN, decN, eqM, Mle, mulL, nI_add, nI_ltI, nI_leI, nI_eq, nI_clamp, up2_at, nltT, nltF, nleT, nleF, neqT, neqF, ↓reduceIte, true_or, or_true, false_or, or_false, or_self, true_and, and_true, false_and, and_false, and_self, not_true, not_false_eq_true, i10, i01, im0, im12, im21, m1lt, m2lt, m1le, m2le, i00, i0le0, i1le0, i2le0, i3le0, eq_self]) | ((with_reducible refine ip ?_ ?_); · simp (disch := omega) only [ltL, Llt, leL, Lle, eqL, addL, Ladd, subL, subN, decN, eqM, Mle, mulL, nI_add, nI_ltI, nI_leI, nI_eq, nI_clamp, up2_at, nltT, nltF, nleT, nleF, neqT, neqF, ↓reduceIte, true_or, or_true, false_or, or_false, or_self, true_and, and_true, false_and, and_false, and_self, not_true, not_false_eq_true, i10, i01, im0, im12, im21, m1lt, m2lt, m1le, m2le, i00, i0le0, i1le0, i2le0, i3le0, eq_self]))
          rfl
        · rewrite [f_X5_retype]
          repeat (first | with_reducible refine bnE ?_ | with_reducible refine exI ?_ | with_reducible refine exJ ?_ | with_reducible refine bs (ht) ?_ | with_reducible refine bs (ho) ?_ | with_reducible refine bs (h2) ?_ | with_reducible refine bs (hfail (up2 σ 0 0 0) 2) ?_ | ((with_reducible refine iN ?_ ?_); · simp (disch := omega) only [ltL, Llt, leL, Lle, eqL, addL, Ladd, subL, subN, decN, eqM, Mle, mulL, nI_add, nI_ltI, nI_leI, nI_eq, nI_clamp, up2_at, nltT, nltF, nleT, nleF, neqT, neqF, ↓reduceIte, true_or, or_true, false_or, or_false, or_self, true_and, and_true, false_and, and_false, and_self, not_true, not_false_eq_true, i10, i01, im0, im12, im21, m1lt, m2lt, m1le, m2le, i00, i0le0, i1le0, i2le0, i3le0, eq_self]) | ((with_reducible refine ip ?_ ?_); · simp (disch := omega) only [ltL, Llt, leL, Lle, eqL, addL, Ladd, subL, subN, decN, eqM, Mle, mulL, nI_add, nI_ltI, nI_leI, nI_eq, nI_clamp, up2_at, nltT, nltF, nleT, nleF, neqT, neqF, ↓reduceIte, true_or, or_true, false_or, or_false, or_self, true_and, and_true, false_and, and_false, and_self, not_true, not_false_eq_true, i10, i01, im0, im12, im21, m1lt, m2lt, m1le, m2le, i00, i0le0, i1le0, i2le0, i3le0, eq_self]))
          rw [two]
      rcases pk_ix c (n := 1000) (by omega) with h | h | ⟨v, hv, rfl⟩
      · exact bad2 (req_neg h) (out_neg h)
      · refine bad2 ?_ (out_ge' (n := 1000) h (by omega))
        obtain ⟨z, hz, rfl⟩ := nI_of (le_of_ix h (by omega))
        exact req_ge ((nI_leI (by omega) hz).mp h) hz
      · have o2 : f_X5_outside N (nI v) 1000 = some (0, ()) := out_lt (lim := 1000) hv (by omega)
        obtain ⟨l1, l4, hT0, hhT, l3, T1⟩ := k7 i hi
        have l2 := sm (i + 1) m (by omega) (by omega)
        have hcnt := count_ok (N := N) i1.1.2.1
        obtain ⟨u, hu, hbeg, h8⟩ := i7.begin hw
        rw [← begin_eq (N := N)] at hbeg
        have e11 : up2 y 11 0 (nI u) 11 0 = nI u := by simp (disch := omega) only [ltL, Llt, leL, Lle, eqL, addL, Ladd, subL, subN, decN, eqM, Mle, mulL, nI_add, nI_ltI, nI_leI, nI_eq, nI_clamp, up2_at, nltT, nltF, nleT, nleF, neqT, neqF, ↓reduceIte, true_or, or_true, false_or, or_false, or_self, true_and, and_true, false_and, and_false, and_self, not_true, not_false_eq_true, i10, i01, im0, im12, im21, m1lt, m2lt, m1le, m2le, i00, i0le0, i1le0, i2le0, i3le0, eq_self, ]
        obtain ⟨TCy, htCy⟩ := i1.1.congr (y' := up2 y 11 0 (nI u)) (by simp (disch := decide) only [up2_row, upR_row, and_self, eq_self, ])
        have I' : I1 n (x 3) q (up2 y 11 0 (nI u)) (up2 σ 0 0 0) := I1_restore i1 TCy i1.2.1 ⟨Nat.le_refl _, fun _ _ => by rw [htCy], fun _ _ => rfl⟩
        have h8' : ∀ k, k < 8000 → ∃ w, w < u ∧ up2 y 11 0 (nI u) 8 k = nI w := fun k hk => by rw [up2_row (by decide)]; exact h8 k hk
        obtain ⟨rr, y2, hfind, hset, M0, NF0, ht2⟩ := MMi.start hN I' i2.2.1 hv e11 (by omega) h8' ha0
        rw [htCy] at ht2
        have hHead : f_X4_headOfVariable N (nI v) = some (-1 - nI v, ()) := by rw [f_X4_headOfVariable]
        -- the reference
        have hHg : ∀ j, j < n → hg (tM (up2 σ 0 0 0) (nI j)) ≤ 24 := fun j hj => hgM i1 (Or.inr ⟨j, hj, rfl⟩)
        have prt : ∀ j, j < n → ∃ kk, kk < n ∧ tC y (nI kk) = tM (up2 σ 0 0 0) (nI j) := fun j hj => i1.2.2.2.1 j hj
        have hvarM : ∀ j, j < n → up2 σ 0 0 0 6 j = -1 - nI v → up2 σ 0 0 0 7 j = -1 := fun j hj e => by
          obtain ⟨kk, hkk, ek⟩ := prt j hj
          obtain ⟨z0, zk⟩ := RT.kids i1 i2.2.1 hkk hj ek
          rcases zk with ⟨-, z, -⟩ | ⟨a1, b1, -, -, -, -, -, z, -⟩
          · exact z
          · rw [z0, e] at z; exact absurd (var_neg hv) (Int32.not_lt.mpr z)
        have h8M : ∀ j, j < n → up2 σ 0 0 0 7 j = -1 → up2 σ 0 0 0 8 j = -1 := fun j hj e => by
          obtain ⟨kk, hkk, ek⟩ := prt j hj
          obtain ⟨z0, zk⟩ := RT.kids i1 i2.2.1 hkk hj ek
          rcases zk with ⟨-, -, -, z, -⟩ | ⟨a1, b1, -, z, -, hb1, -⟩
          · exact z
          · rw [z] at e; exact absurd e (nI_ne_m1 (by omega))
        have h8C : ∀ j, j < n → up2 y 11 0 (nI u) 1 j = -1 → up2 y 11 0 (nI u) 2 j = -1 := fun j hj e => by
          rw [up2_row (by decide)] at e ⊢
          obtain ⟨jj, hjj, ej⟩ := i1.2.2.1 j hj
          obtain ⟨z0, zk⟩ := RT.kids i1 i2.2.1 hj hjj ej
          rcases zk with ⟨-, -, z, -⟩ | ⟨a1, b1, z, -, ha1, -⟩
          · exact z
          · rw [z] at e; exact absurd e (nI_ne_m1 (by omega))
        have tys : ∀ z, s i ≤ z → z < s (i + 1) → ∃ l j, l < n ∧ j < n ∧ t 1 z = nI l ∧ up2 σ 0 0 0 21 z = nI j ∧ tC y (nI l) = tM (up2 σ 0 0 0) (nI j) ∧ (t 0 z = -2 → ∃ A B, tC y (nI l) = nd 2 A B) := fun z q1 q2 => by
          obtain ⟨-, ⟨⟨l, hl, el⟩, ⟨j, hj, ej⟩, e⟩, hlam⟩ := i5.src (by omega : z < s m)
          rw [el, ej] at e
          rw [el] at hlam
          exact ⟨l, j, hl, hj, el, ej, e, hlam⟩
        obtain ⟨σ1, n1, U, hex, TM1, hn1, old1, fr1, img1, new1, U1, U2, U3⟩ := exchange_ok (N := N) (τ0 := tC y (nI a0)) (s0 := s i) (s1 := s (i + 1)) hN hn i1.2.1 hb0 etr.symm (i1.1.2.2.2.2.2 a0 ha0).2.2.2 hHg hvarM h8M (by omega) (k6 i (by omega)).2 (k6 (i + 1) (by omega)).2 (by omega) (by omega) (fun z q1 q2 => by
          obtain ⟨l, j, -, hj, -, ej, -⟩ := tys z q1 q2
          exact ⟨j, hj, ej⟩)
        have r18 : σ1 18 0 = nI m := by rw [fr1 18 (by decide) (by decide) (by decide) (by decide) (by decide) (by decide) (by decide) (by decide) (by decide) (by decide)]; exact k3
        have r19 : σ1 19 = up2 σ 0 0 0 19 := fr1 19 (by decide) (by decide) (by decide) (by decide) (by decide) (by decide) (by decide) (by decide) (by decide) (by decide)
        have r20 : σ1 20 = up2 σ 0 0 0 20 := fr1 20 (by decide) (by decide) (by decide) (by decide) (by decide) (by decide) (by decide) (by decide) (by decide) (by decide)
        have r21 : σ1 21 = up2 σ 0 0 0 21 := fr1 21 (by decide) (by decide) (by decide) (by decide) (by decide) (by decide) (by decide) (by decide) (by decide) (by decide)
        have r0 : σ1 0 0 = 0 := by rw [fr1 0 (by decide) (by decide) (by decide) (by decide) (by decide) (by decide) (by decide) (by decide) (by decide) (by decide)]; simp (disch := omega) only [ltL, Llt, leL, Lle, eqL, addL, Ladd, subL, subN, decN, eqM, Mle, mulL, nI_add, nI_ltI, nI_leI, nI_eq, nI_clamp, up2_at, nltT, nltF, nleT, nleF, neqT, neqF, ↓reduceIte, true_or, or_true, false_or, or_false, or_self, true_and, and_true, false_and, and_false, and_self, not_true, not_false_eq_true, i10, i01, im0, im12, im21, m1lt, m2lt, m1le, m2le, i00, i0le0, i1le0, i2le0, i3le0, eq_self, ]
        have B : Bs m (s m) t σ1 := ⟨by omega, k5, k2, (k6 m (Nat.le_refl _)).1, r18, by rw [r19]; exact (k6 m (Nat.le_refl _)).2⟩
        have hn1' := TM1.1
        -- what a symbol's type becomes is small
        obtain ⟨smz, hsmz⟩ : ∃ smz : Nat → Prop, smz = fun z => ∀ l, t 1 z = nI l → l < n → sz (sb (-1 - nI v) (tC y (nI a0)) (tC y (nI l))) ≤ 200 ∧ hg (sb (-1 - nI v) (tC y (nI a0)) (tC y (nI l))) ≤ 24 := ⟨_, rfl⟩
        have key : ∀ z, s i ≤ z → z < s (i + 1) → ∃ l j gg, l < n ∧ j < n ∧ gg < n1 ∧ t 1 z = nI l ∧ σ1 21 z = nI j ∧ σ1 16 j = nI gg ∧ tM σ1 (nI gg) = sb (-1 - nI v) (tC y (nI a0)) (tC y (nI l)) ∧ tC y (nI l) = tM (up2 σ 0 0 0) (nI j) ∧ (t 0 z = -2 → ∃ A B, tC y (nI l) = nd 2 A B) := fun z q1 q2 => by
          obtain ⟨l, j, hl, hj, el, ej, e, hlam⟩ := tys z q1 q2
          obtain ⟨gg, hgg, eg, tg⟩ := img1 j hj (U1 z q1 q2 j ej hj)
          exact ⟨l, j, gg, hl, hj, hgg, el, by rw [r21]; exact ej, eg, by rw [tg, e], e, hlam⟩
        obtain ⟨σ', p', x5', w1, w2, w3, w4, w5⟩ := retM_loop (N := N) (t0 := t) (s := s m) (E := s (i + 1)) (A := s i) (x4 := nI n) (sm := smz) hN B (by omega : i < 4200) l2 (by rw [r19]; exact (k6 (i + 1) (by omega)).2) TM1 (fun z q1 hz => by
          obtain ⟨l, j, gg, hl, hj, hgg, el, ej, eg, tg, e, hlam⟩ := key z q1 hz
          refine ⟨j, gg, by omega, ej, hgg, eg, ?_⟩
          rw [tg, hsmz]
          constructor
          · exact fun h => h l el hl
          · intro h l' el' hl'
            have : l' = l := (nI_eq (by omega) (by omega)).mp (el'.symm.trans el)
            subst this
            exact h) (s (i + 1) - s i) (s i) 0 N σ1 (nI (s m)) 1 (Nat.le_refl _) (by omega) (by omega) (Or.inr rfl) ⟨rfl, fun _ _ _ _ => rfl, fun _ _ => ⟨rfl, rfl⟩⟩
        obtain ⟨F, hF⟩ : ∃ F, N - (s (i + 1) - s i) = F + 1 := ⟨N - (s (i + 1) - s i) - 1, by omega⟩
        rw [hF] at w1
        obtain ⟨okk, hokk⟩ : ∃ okk : Prop, okk = ((∀ z, s i ≤ z → z < s (i + 1) → smz z) ∧ n1 ≤ 8000) := ⟨_, rfl⟩
        -- the reference, to its last round
        have n19 : ∀ {z : Nat}, z ≤ m → σ1 19 z = nI (s z) := fun {z} hz => by rw [r19]; exact (k6 z hz).2
        have toEnd : f_X5_retype N σ (nI i) (nI v) (nI hx) = f_X5_retype_86 N (F + 1) σ' (nI i) (nI n) x5' p' (nI (s (i + 1))) := by
          have s15 : σ 15 hx = nI b0 := eb0
          have s5 : σ 5 0 = nI n := i1.2.1.2.1
          rewrite [f_X5_retype]
          repeat (first | with_reducible refine bnE ?_ | with_reducible refine exI ?_ | with_reducible refine exJ ?_ | with_reducible refine bs (ht) ?_ | with_reducible refine bs (ho) ?_ | with_reducible refine bs (o2) ?_ | ((with_reducible refine iN ?_ ?_); · simp (disch := omega) only [ltL, Llt, leL, Lle, eqL, addL, Ladd, subL, subN, decN, eqM, Mle, mulL, nI_add, nI_ltI, nI_leI, nI_eq, nI_clamp, up2_at, nltT, nltF, nleT, nleF, neqT, neqF, ↓reduceIte, true_or, or_true, false_or, or_false, or_self, true_and, and_true, false_and, and_false, and_self, not_true, not_false_eq_true, i10, i01, im0, im12, im21, m1lt, m2lt, m1le, m2le, i00, i0le0, i1le0, i2le0, i3le0, eq_self]) | ((with_reducible refine ip ?_ ?_); · simp (disch := omega) only [ltL, Llt, leL, Lle, eqL, addL, Ladd, subL, subN, decN, eqM, Mle, mulL, nI_add, nI_ltI, nI_leI, nI_eq, nI_clamp, up2_at, nltT, nltF, nleT, nleF, neqT, neqF, ↓reduceIte, true_or, or_true, false_or, or_false, or_self, true_and, and_true, false_and, and_false, and_self, not_true, not_false_eq_true, i10, i01, im0, im12, im21, m1lt, m2lt, m1le, m2le, i00, i0le0, i1le0, i2le0, i3le0, eq_self]))
          simp (disch := omega) only [nI_clamp, up2_at, Nat.reduceEqDiff, false_and, ↓reduceIte, s15, s5]
          repeat (first | with_reducible refine bnE ?_ | with_reducible refine exI ?_ | with_reducible refine exJ ?_ | with_reducible refine bs (hex) ?_ | ((with_reducible refine iN ?_ ?_); · simp (disch := omega) only [ltL, Llt, leL, Lle, eqL, addL, Ladd, subL, subN, decN, eqM, Mle, mulL, nI_add, nI_ltI, nI_leI, nI_eq, nI_clamp, up2_at, nltT, nltF, nleT, nleF, neqT, neqF, ↓reduceIte, true_or, or_true, false_or, or_false, or_self, true_and, and_true, false_and, and_false, and_self, not_true, not_false_eq_true, i10, i01, im0, im12, im21, m1lt, m2lt, m1le, m2le, i00, i0le0, i1le0, i2le0, i3le0, eq_self, r18]) | ((with_reducible refine ip ?_ ?_); · simp (disch := omega) only [ltL, Llt, leL, Lle, eqL, addL, Ladd, subL, subN, decN, eqM, Mle, mulL, nI_add, nI_ltI, nI_leI, nI_eq, nI_clamp, up2_at, nltT, nltF, nleT, nleF, neqT, neqF, ↓reduceIte, true_or, or_true, false_or, or_false, or_self, true_and, and_true, false_and, and_false, and_self, not_true, not_false_eq_true, i10, i01, im0, im12, im21, m1lt, m2lt, m1le, m2le, i00, i0le0, i1le0, i2le0, i3le0, eq_self, r18]))
          simp (disch := omega) only [nI_clamp, r18, n19 (Nat.le_refl m), n19 (by omega : i ≤ m)]
          exact w1
        have fr' := w2.2.1
        have low' := w2.2.2
        have e5' : σ' 5 0 = nI n1 := by rw [fr' 5 (by decide) (by decide) (by decide)]; exact TM1.2.1
        have e19' : σ' 19 (i + 1) = nI (s (i + 1)) := by rw [fr' 19 (by decide) (by decide) (by decide)]; exact n19 (by omega)
        have hx5 : (x5' = 1 ∧ ∀ z, s i ≤ z → z < s (i + 1) → smz z) ∨ (x5' = 0 ∧ ∃ z, s i ≤ z ∧ z < s (i + 1) ∧ ¬ smz z) := by
          rcases w3 with ⟨z1, z2⟩ | ⟨z1, z2⟩
          · exact Or.inl ⟨z1, fun z q1 q2 => z2 z q1 q2 rfl⟩
          · refine Or.inr ⟨z1, ?_⟩
            rcases z2 with z2 | z2
            · exact absurd z2 (by decide)
            · exact z2
        -- the class
        obtain ⟨G, hGd⟩ : ∃ G : Nat → Prop, G = fun l => okk ∧ sz (sb (-1 - nI v) (tC y (nI a0)) (tC y (nI l))) ≤ 200 ∧ hg (sb (-1 - nI v) (tC y (nI a0)) (tC y (nI l))) ≤ 24 ∧ ∃ j, j < n ∧ U j ∧ tC y (nI l) = tM (up2 σ 0 0 0) (nI j) := ⟨_, rfl⟩
        have y1r : ∀ kk, up2 y 11 0 (nI u) 1 kk = y 1 kk := fun kk => by rw [up2_row (by decide)]
        have y2r : ∀ kk, up2 y 11 0 (nI u) 2 kk = y 2 kk := fun kk => by rw [up2_row (by decide)]
        have hG : ∀ kk, kk < n → G kk → n1 ≤ 8000 ∧ sz (sb (-1 - nI v) (tC (up2 y 11 0 (nI u)) (nI a0)) (tC (up2 y 11 0 (nI u)) (nI kk))) ≤ 200 ∧ hg (sb (-1 - nI v) (tC (up2 y 11 0 (nI u)) (nI a0)) (tC (up2 y 11 0 (nI u)) (nI kk))) ≤ 24 ∧ ∃ j, j < n1 ∧ tM σ1 (nI j) = sb (-1 - nI v) (tC (up2 y 11 0 (nI u)) (nI a0)) (tC (up2 y 11 0 (nI u)) (nI kk)) := fun kk hkk hg' => by
          rw [hGd] at hg'
          obtain ⟨z1, z2, z3, j, hj, hu', ej⟩ := hg'
          rw [hokk] at z1
          rw [htCy]
          obtain ⟨gg, hgg, -, tg⟩ := img1 j hj hu'
          exact ⟨z1.2, z2, z3, gg, hgg, by rw [tg, ej]⟩
        have hGk : ∀ kk, kk < n → G kk → (∀ l, up2 y 11 0 (nI u) 1 kk = nI l → l < n → G l) ∧ (∀ l, up2 y 11 0 (nI u) 2 kk = nI l → l < n → G l) := fun kk hkk hg' => by
          rw [hGd] at hg' ⊢
          obtain ⟨z1, z2, z3, j, hj, hu', ej⟩ := hg'
          have et := (hd_cases i1 i2.2.1 hkk).1
          obtain ⟨z0, zk⟩ := RT.kids i1 i2.2.1 hkk hj ej
          rcases zk with ⟨g1, -, g2, -⟩ | ⟨a1, b1, g1, g3, ha1, hb1, g4, hge, zk2⟩
          · refine ⟨fun l el hl => ?_, fun l el hl => ?_⟩
            · rw [y1r, g1] at el; exact absurd el.symm (nI_ne_m1 (by omega))
            · rw [y2r, g2] at el; exact absurd el.symm (nI_ne_m1 (by omega))
          · have nh : ¬ y 0 kk = -1 - nI v := fun e => by
              rw [e] at hge; exact absurd (var_neg hv) (Int32.not_lt.mpr hge)
            rw [et, sb_nd, if_neg nh, sz_nd] at z2
            rw [et, sb_nd, if_neg nh, hg_nd] at z3
            refine ⟨fun l el hl => ?_, fun l el hl => ?_⟩
            · rw [y1r] at el
              rw [el] at z2 z3
              have : l = a1 := (nI_eq (by omega) (by omega)).mp (el.symm.trans g1)
              subst this
              exact ⟨z1, by omega, by omega, b1, by omega, (U2 j hj hu').1 b1 g3 (by omega), g4⟩
            · rw [y2r] at el
              rw [el] at z2 z3
              rcases zk2 with ⟨g5, -⟩ | ⟨a2, b2, g5, g6, ha2, hb2, g7, -⟩
              · rw [g5] at el; exact absurd el.symm (nI_ne_m1 (by omega))
              · have : l = a2 := (nI_eq (by omega) (by omega)).mp (el.symm.trans g5)
                subst this
                exact ⟨z1, by omega, by omega, b2, by omega, (U2 j hj hu').2 b2 g6 (by omega), g7⟩
        obtain ⟨tb, hbegin, CB0⟩ := CB.begin (N := N) (k := k) B
        have AR0 : AllR n1 n (fun j => tM σ1 (nI j)) y2 := fun kk hkk => by
          obtain ⟨j, hj, ej⟩ := i1.2.2.1 kk hkk
          exact ⟨j, by omega, by show tC y2 (nI kk) = tM σ1 (nI j); rw [ht2, old1 _ (Or.inr ⟨j, hj, rfl⟩)]; exact ej⟩
        obtain ⟨y', t', nc', M', hnc', -, hcase⟩ := retC_loop (σ0 := σ1) (ρ := fun j => tM σ1 (nI j)) (G := G) (n1 := n1) (i := i) (E := s (i + 1)) hN TCy e11 (by omega) h8C hG hGk B (by omega) l2 (k6 (i + 1) (by omega)).1 (fun z hz => by
          obtain ⟨-, ⟨⟨l, hl, el⟩, -⟩, -⟩ := i5.src (by omega : z < s m)
          exact ⟨l, hl, el⟩) (s (i + 1) - s i) (s i) y2 n tb k 0 N (by omega) (by omega) M0 CB0
        obtain ⟨P1, P2, P3, P4, P5, P6, P7⟩ := id M'
        rw [htCy] at P3
        have hst : f_X1_start N tb k (nI i) = some (nI (s i), (tb, k)) := by
          have := start_ok (N := N) (t := tb) (k := k) (by omega : i < 513)
          rw [CB0.1 2 (by decide) (by decide) (by decide) (by decide), (k6 i (by omega)).1] at this
          exact this
        have yrow : ∀ r, r ≠ 0 → r ≠ 1 → r ≠ 2 → r ≠ 3 → r ≠ 4 → r ≠ 5 → r ≠ 6 → r ≠ 7 → r ≠ 8 → r ≠ 10 → r ≠ 11 → y' r = y r := fun r h0 h1 h2 h3 h4 h5 h6 h7 h8 h10 h11' => by
          rw [P4 r h0 h1 h2 h3 h4 h5 h6 h7 h8 h10, up2_row h11']
        have i7' : I7 (w + 1) y' := I7.stamps hu h8 e11 (P4 11 (by decide) (by decide) (by decide) (by decide) (by decide) (by decide) (by decide) (by decide) (by decide) (by decide)) (fun kk => by
          rcases P5 kk with e | e
          · left; rw [e, up2_row (by decide)]
          · exact Or.inr e)
        have mo : Mo n y (up2 σ 0 0 0) n1 y' σ1 := ⟨hn1, P3, old1⟩
        have Gterm : okk → ∀ z, s i ≤ z → z < s (i + 1) → ∀ l, t 1 z = nI l → l < n → G l := fun hok z q1 q2 l el hl => by
          obtain ⟨l', j, hl', hj, el', ej, e, -⟩ := tys z q1 q2
          have : l = l' := (nI_eq (by omega) (by omega)).mp (el.symm.trans el')
          subst this
          have hz := hok
          rw [hokk, hsmz] at hz
          obtain ⟨q3, q4⟩ := hz.1 z q1 q2 l el hl
          rw [hGd]
          exact ⟨hok, q3, q4, j, hj, U1 z q1 q2 j ej hj, e⟩
        -- the reference fails
        have failM : ¬ okk → f_X5_retype N σ (nI i) (nI v) (nI hx) = f_X5_retype_188 N σ' (nI n) := fun hno => by
          rewrite [toEnd, f_X5_retype_86]
          rcases hx5 with ⟨rfl, hall⟩ | ⟨rfl, -⟩
          · have : 8000 < n1 := by
              rcases Nat.lt_or_ge 8000 n1 with z | z
              · exact z
              · exact absurd (by rw [hokk]; exact ⟨hall, z⟩) hno
            repeat (first | with_reducible refine bnE ?_ | with_reducible refine exI ?_ | with_reducible refine exJ ?_ | ((with_reducible refine iN ?_ ?_); · simp (disch := omega) only [ltL, Llt, leL, Lle, eqL, addL, Ladd, subL, subN, decN, eqM, Mle, mulL, nI_add, nI_ltI, nI_leI, nI_eq, nI_clamp, up2_at, nltT, nltF, nleT, nleF, neqT, neqF, ↓reduceIte, true_or, or_true, false_or, or_false, or_self, true_and, and_true, false_and, and_false, and_self, not_true, not_false_eq_true, i10, i01, im0, im12, im21, m1lt, m2lt, m1le, m2le, i00, i0le0, i1le0, i2le0, i3le0, eq_self, e19', e5']) | ((with_reducible refine ip ?_ ?_); · simp (disch := omega) only [ltL, Llt, leL, Lle, eqL, addL, Ladd, subL, subN, decN, eqM, Mle, mulL, nI_add, nI_ltI, nI_leI, nI_eq, nI_clamp, up2_at, nltT, nltF, nleT, nleF, neqT, neqF, ↓reduceIte, true_or, or_true, false_or, or_false, or_self, true_and, and_true, false_and, and_false, and_self, not_true, not_false_eq_true, i10, i01, im0, im12, im21, m1lt, m2lt, m1le, m2le, i00, i0le0, i1le0, i2le0, i3le0, eq_self, e19', e5']))
            rfl
          · repeat (first | with_reducible refine bnE ?_ | with_reducible refine exI ?_ | with_reducible refine exJ ?_ | ((with_reducible refine iN ?_ ?_); · simp (disch := omega) only [ltL, Llt, leL, Lle, eqL, addL, Ladd, subL, subN, decN, eqM, Mle, mulL, nI_add, nI_ltI, nI_leI, nI_eq, nI_clamp, up2_at, nltT, nltF, nleT, nleF, neqT, neqF, ↓reduceIte, true_or, or_true, false_or, or_false, or_self, true_and, and_true, false_and, and_false, and_self, not_true, not_false_eq_true, i10, i01, im0, im12, im21, m1lt, m2lt, m1le, m2le, i00, i0le0, i1le0, i2le0, i3le0, eq_self, e19']) | ((with_reducible refine ip ?_ ?_); · simp (disch := omega) only [ltL, Llt, leL, Lle, eqL, addL, Ladd, subL, subN, decN, eqM, Mle, mulL, nI_add, nI_ltI, nI_leI, nI_eq, nI_clamp, up2_at, nltT, nltF, nleT, nleF, neqT, neqF, ↓reduceIte, true_or, or_true, false_or, or_false, or_self, true_and, and_true, false_and, and_false, and_self, not_true, not_false_eq_true, i10, i01, im0, im12, im21, m1lt, m2lt, m1le, m2le, i00, i0le0, i1le0, i2le0, i3le0, eq_self, e19']))
            rfl
        have endF : ∀ {σk : St} {ζ : St}, f_X5_cut N σk (nI n) = some ζ → σk 0 0 = 3 → f_X5_retype_193 N σk (nI n) 0 = some (0, ζ) := fun {σk ζ} hcut h0 => by
          rewrite [f_X5_retype_193]
          refine iN (by rw [h0]; decide) ?_
          repeat (first | with_reducible refine bnE ?_ | with_reducible refine exI ?_ | with_reducible refine exJ ?_ | with_reducible refine bs (hcut) ?_ | ((with_reducible refine iN ?_ ?_); · simp (disch := omega) only [ltL, Llt, leL, Lle, eqL, addL, Ladd, subL, subN, decN, eqM, Mle, mulL, nI_add, nI_ltI, nI_leI, nI_eq, nI_clamp, up2_at, nltT, nltF, nleT, nleF, neqT, neqF, ↓reduceIte, true_or, or_true, false_or, or_false, or_self, true_and, and_true, false_and, and_false, and_self, not_true, not_false_eq_true, i10, i01, im0, im12, im21, m1lt, m2lt, m1le, m2le, i00, i0le0, i1le0, i2le0, i3le0, eq_self]) | ((with_reducible refine ip ?_ ?_); · simp (disch := omega) only [ltL, Llt, leL, Lle, eqL, addL, Ladd, subL, subN, decN, eqM, Mle, mulL, nI_add, nI_ltI, nI_leI, nI_eq, nI_clamp, up2_at, nltT, nltF, nleT, nleF, neqT, neqF, ↓reduceIte, true_or, or_true, false_or, or_false, or_self, true_and, and_true, false_and, and_false, and_self, not_true, not_false_eq_true, i10, i01, im0, im12, im21, m1lt, m2lt, m1le, m2le, i00, i0le0, i1le0, i2le0, i3le0, eq_self]))
          rfl
        rcases hcase with ⟨x1, x2, x3, x4, x5, x6⟩ | ⟨x1, ⟨L', x2⟩, x3⟩
        · -- all types are made
          have hadd : f_X1_addRetyped N tb k y2 (nI i) = some (1, (t', k, y')) := by
            rewrite [f_X1_addRetyped]
            exact bs hst x1
          have hP1 := P1.1
          -- an image of a class's node, as the table has it
          have memo : ∀ kk, kk < n → y' 8 kk = nI u → y' 7 kk ≠ -1 → ∃ g, g < nc' ∧ y' 7 kk = nI g ∧ tC y' (nI g) = sb (-1 - nI v) (tC y (nI a0)) (tC y (nI kk)) := fun kk hkk h8k h7k => by
            rcases P7 kk hkk h8k with z | ⟨⟨g, hg1, eg⟩, z2, -⟩
            · exact absurd z h7k
            · rw [eg, htCy] at z2
              exact ⟨g, hg1, eg, z2⟩
          have Qp : ∀ j, j < n → U j → ∃ kk, kk < n ∧ tC y (nI kk) = tM (up2 σ 0 0 0) (nI j) ∧ y' 8 kk = nI u ∧ y' 7 kk ≠ -1 := by
            refine U3 (fun j => ∃ kk, kk < n ∧ tC y (nI kk) = tM (up2 σ 0 0 0) (nI j) ∧ y' 8 kk = nI u ∧ y' 7 kk ≠ -1) (fun z q1 q2 j hj ej => ?_) (fun j hj hq => ?_)
            · obtain ⟨l, j', hl, hj', el, ej', e, -⟩ := tys z q1 q2
              have : j = j' := (nI_eq (by omega) (by omega)).mp (ej.symm.trans ej')
              subst this
              obtain ⟨v1, v2⟩ := x4 z q1 q2 l el hl
              exact ⟨l, hl, e, v1, v2⟩
            · obtain ⟨kk, hkk, ek, h8k, h7k⟩ := hq
              rcases P7 kk hkk h8k with z | ⟨-, -, c1, c2⟩
              · exact absurd z h7k
              · obtain ⟨z0, zk⟩ := RT.kids i1 i2.2.1 hkk hj ek
                rcases zk with ⟨-, g1, -, g2, -⟩ | ⟨a1, b1, g1, g3, ha1, hb1, g4, -, zk2⟩
                · refine ⟨fun l el hl => ?_, fun l el hl => ?_⟩
                  · rw [g1] at el; exact absurd el.symm (nI_ne_m1 (by omega))
                  · rw [g2] at el; exact absurd el.symm (nI_ne_m1 (by omega))
                · refine ⟨fun l el hl => ?_, fun l el hl => ?_⟩
                  · have : l = b1 := (nI_eq (by omega) (by omega)).mp (el.symm.trans g3)
                    subst this
                    obtain ⟨v1, v2⟩ := c1 a1 (by rw [y1r]; exact g1) (by omega)
                    exact ⟨a1, by omega, g4, v1, v2⟩
                  · rcases zk2 with ⟨-, g6, -⟩ | ⟨a2, b2, g5, g6, ha2, hb2, g7, -⟩
                    · rw [g6] at el; exact absurd el.symm (nI_ne_m1 (by omega))
                    · have : l = b2 := (nI_eq (by omega) (by omega)).mp (el.symm.trans g6)
                      subst this
                      obtain ⟨v1, v2⟩ := c2 a2 (by rw [y2r]; exact g5) (by omega)
                      exact ⟨a2, by omega, g7, v1, v2⟩
          -- each type of the reference is one of the class
          have toC : ∀ j, j < n1 → ∃ kk, kk < nc' ∧ tC y' (nI kk) = tM σ1 (nI j) := fun j hj => by
            by_cases hjn : j < n
            · obtain ⟨kk, hkk, ek⟩ := prt j hjn
              exact ⟨kk, by omega, by rw [P3 _ (Or.inr ⟨kk, hkk, rfl⟩), old1 _ (Or.inr ⟨j, hjn, rfl⟩)]; exact ek⟩
            · obtain ⟨ii, hii, hUi, eii⟩ := new1 j (by omega) hj
              obtain ⟨kk, hkk, ek, h8k, h7k⟩ := Qp ii hii hUi
              obtain ⟨g, hg1, eg, tg⟩ := memo kk hkk h8k h7k
              exact ⟨g, hg1, by rw [tg, eii, ek]⟩
          have le1 : n1 ≤ nc' := php2 (R := fun j kk => tC y' (nI kk) = tM σ1 (nI j)) toC (fun j j' kk h1 h2 e1 e2 => by
            have := tT_inj TM1.2.2.2.1 TM1.2.2.2.2.1 (by omega) _ _ (Or.inr ⟨j, h1, rfl⟩) (Or.inr ⟨j', h2, rfl⟩) (e1.symm.trans e2)
            exact (nI_eq (by omega) (by omega)).mp this)
          have hok : okk := by
            rw [hokk, hsmz]
            refine ⟨fun z q1 q2 l el hl => ?_, by omega⟩
            obtain ⟨v1, v2⟩ := x4 z q1 q2 l el hl
            obtain ⟨g, hg1, eg, tg⟩ := memo l hl v1 v2
            have := P1.2.2.2.2.2 g hg1
            rw [← tg]
            exact this.2.2
          obtain ⟨-, AR'⟩ := x6 (Gterm hok) NF0 AR0
          have le2 : nc' ≤ n1 := php2 (R := fun kk j => tC y' (nI kk) = tM σ1 (nI j)) AR' (fun kk l j h1 h2 e1 e2 => by
            have := tT_inj P1.2.2.2.1 P1.2.2.2.2.1 (by omega) _ _ (Or.inr ⟨kk, h1, rfl⟩) (Or.inr ⟨l, h2, rfl⟩) (e1.trans e2.symm)
            exact (nI_eq (by omega) (by omega)).mp this)
          have enc : nc' = n1 := by omega
          subst enc
          have hτ0 : tC y (nI a0) ≠ Term.null := fun e => nI_ne_m1 (by omega) ((null_iffC i1.1 (Or.inr ⟨a0, ha0, rfl⟩)).mp e)
          have I1' : I1 nc' (x 3) q y' σ1 := ⟨P1, TM1, AR', toC, fun kk hkk => by
            obtain ⟨j, hj, ej⟩ := AR' kk hkk
            have ej : tC y' (nI kk) = tM σ1 (nI j) := ej
            rw [ej]
            by_cases hjn : j < n
            · obtain ⟨k0, hk0, ek0⟩ := prt j hjn
              rw [old1 _ (Or.inr ⟨j, hjn, rfl⟩), ← ek0]
              exact i1.2.2.2.2 k0 hk0
            · obtain ⟨ii, hii, hUi, eii⟩ := new1 j (by omega) hj
              obtain ⟨k0, hk0, ek0⟩ := prt ii hii
              rw [eii, ← ek0]
              exact AT_sb i1 i2.2.1 hv (i1.2.2.2.2 a0 ha0) hτ0 hk0⟩
          have i2' : I2 q x σ1 := by
            obtain ⟨b1, b2, b3, b4, b5, b6⟩ := i2
            refine ⟨b1, b2, b3, ?_, b5, ?_⟩
            · rw [fr1 1 (by decide) (by decide) (by decide) (by decide) (by decide) (by decide) (by decide) (by decide) (by decide) (by decide)]; exact b4
            · rw [fr1 2 (by decide) (by decide) (by decide) (by decide) (by decide) (by decide) (by decide) (by decide) (by decide) (by decide)]; exact b6
          have i3' : I3 p nc' x y' σ1 := i3.tr mo (by simp (disch := decide) only [up2_row, upR_row, and_self, eq_self, fr1])
          have i4' := i4.tr (Nat.le_refl w) mo (by simp (disch := decide) only [up2_row, upR_row, and_self, eq_self, fr1, yrow])
          have i5' : I5 w m s nc' y' t σ1 := i5.tr (Nat.le_refl w) mo ⟨rfl, by simp (disch := decide) only [up2_row, upR_row, and_self, eq_self, fr1], fun i _ => by simp (disch := decide) only [up2_row, upR_row, and_self, eq_self, fr1], fun _ _ => rfl, fun k _ => by simp (disch := decide) only [up2_row, upR_row, and_self, eq_self, fr1]⟩
          have i6' : I6 f (s m) t b σ1 := i6.tr (Nat.le_refl _) (fun _ _ => rfl) rfl (by simp (disch := decide) only [up2_row, upR_row, and_self, eq_self, fr1])
          have hx51 : x5' = 1 := by
            rcases hx5 with ⟨z, -⟩ | ⟨-, z, q1, q2, q3⟩
            · exact z
            · rw [hokk] at hok; exact absurd (hok.1 z q1 q2) q3
          subst hx51
          have hn18 : nc' ≤ 8000 := P1.1
          -- the built term
          have hB : Bd (QT nc' y' σ1) (fun j => t 0 (s i + j)) (s m) (0 + (s (i + 1) - s i)) t σ1 t' σ' p' := by
            refine ⟨w2, x2.1, x2.2.1, ?_⟩
            rcases x2.2.2 with ⟨q1, q2, q3, q4⟩ | q1
            · refine Or.inl ⟨q1, q2, q3, q4, fun j hj => ?_⟩
              obtain ⟨v1, v2⟩ := x5 j (by omega) ⟨q1, q2⟩
              obtain ⟨v3, v4⟩ := w5 j (by omega) (by omega)
              rw [Nat.zero_add] at v1 v2 v3 v4
              obtain ⟨l, jj, gg, hl, hjj, hgg, el, ej, eg, tg, e, hlam⟩ := key (s i + j) (by omega) (by omega)
              have s20 := (i5'.src (by omega : s i + j < s m)).1
              refine ⟨v1, v3.trans s20.symm, ?_, fun hc2 => ?_⟩
              · rw [v2 l el hl, v4 jj ej (by omega), eg]
                obtain ⟨a1, a2⟩ := x4 (s i + j) (by omega) (by omega) l el hl
                obtain ⟨g, hg1, eg', tg'⟩ := memo l hl a1 a2
                rw [eg']
                exact ⟨⟨g, hg1, rfl⟩, ⟨gg, hgg, rfl⟩, by rw [tg', tg]⟩
              · rw [v2 l el hl]
                obtain ⟨a1, a2⟩ := x4 (s i + j) (by omega) (by omega) l el hl
                obtain ⟨g, hg1, eg', tg'⟩ := memo l hl a1 a2
                obtain ⟨A, C, hAC⟩ := hlam hc2
                rw [eg', tg', hAC, sb_nd, if_neg (fun z => var_ne2 hv z.symm)]
                exact ⟨_, _, rfl⟩
            · exact Or.inr q1
          have hT : Tm (fun j => t 0 (s i + j)) 0 hT0 0 (0 + (s (i + 1) - s i)) := T1.shift (c' := fun j => t 0 (s i + j)) (a' := 0) (fun z _ => by rw [Nat.zero_add])
          obtain ⟨rr', tk, kkk, vv, σk, c1, c2, low, hc3⟩ := keep_fin (k := k) 3 B hN hB hT
          have e00 : ∀ {σ'' : St} {v' : Int32}, f_X5_finish N σ' p' 3 = some (v', σ'') → f_X5_retype N σ (nI i) (nI v) (nI hx) = f_X5_retype_193 N σ'' (nI n) v' := by
            intro σ'' v' hfin
            rewrite [toEnd, f_X5_retype_86]
            repeat (first | with_reducible refine bnE ?_ | with_reducible refine exI ?_ | with_reducible refine exJ ?_ | with_reducible refine bs (hfin) ?_ | ((with_reducible refine iN ?_ ?_); · simp (disch := omega) only [ltL, Llt, leL, Lle, eqL, addL, Ladd, subL, subN, decN, eqM, Mle, mulL, nI_add, nI_ltI, nI_leI, nI_eq, nI_clamp, up2_at, nltT, nltF, nleT, nleF, neqT, neqF, ↓reduceIte, true_or, or_true, false_or, or_false, or_self, true_and, and_true, false_and, and_false, and_self, not_true, not_false_eq_true, i10, i01, im0, im12, im21, m1lt, m2lt, m1le, m2le, i00, i0le0, i1le0, i2le0, i3le0, eq_self, e19', e5']) | ((with_reducible refine ip ?_ ?_); · simp (disch := omega) only [ltL, Llt, leL, Lle, eqL, addL, Ladd, subL, subN, decN, eqM, Mle, mulL, nI_add, nI_ltI, nI_leI, nI_eq, nI_clamp, up2_at, nltT, nltF, nleT, nleF, neqT, neqF, ↓reduceIte, true_or, or_true, false_or, or_false, or_self, true_and, and_true, false_and, and_false, and_self, not_true, not_false_eq_true, i10, i01, im0, im12, im21, m1lt, m2lt, m1le, m2le, i00, i0le0, i1le0, i2le0, i3le0, eq_self, e19', e5']))
            rfl
          rcases hc3 with ⟨rfl, rfl, d1, d2, d3, fr, d4, d5, d6, d7, d8, d9, d10, d11⟩ | ⟨rfl, rfl, -, fr, d1, frt⟩
          · have hInv := push_inv hn18 I1' i2' i3' i4' i5' i6' i7' hT low d1 d2 d3 fr d4 d5 d6 d7 d8 d9 d10 d11
            have z0 : σk 0 0 = 0 := by rw [fr 0 (by decide) (by decide) (by decide) (by decide) (by decide)]; exact r0
            have hsettle : f_X4_settled N x y' tk kkk b (nI m) (nI n) = some (.inl (nI m), (x, y', tk, kkk, b)) := by
              rewrite [f_X4_settled]
              exact iN (nI_ne_m1 (by omega)) rfl
            refine ⟨.inl (nI m), x, y', tk, kkk, b, nI m, σk, ?_, ?_, hInv, Or.inl ⟨_, rfl, z0, rfl⟩⟩
            · rewrite [f_X4_retype]
              repeat (first | with_reducible refine bnE ?_ | with_reducible refine exI ?_ | with_reducible refine exJ ?_ | with_reducible refine bs (hr) ?_ | with_reducible refine bs (hb) ?_ | with_reducible refine bs (req_ok (N := N) hv) ?_ | with_reducible refine bs (hcnt) ?_ | with_reducible refine bs (hbeg) ?_ | with_reducible refine bs (hHead) ?_ | with_reducible refine bs (hfind) ?_ | with_reducible refine bs (hset) ?_ | with_reducible refine bs (hbegin) ?_ | with_reducible refine bs (hadd) ?_ | with_reducible refine bs (c1) ?_ | ((with_reducible refine iN ?_ ?_); · simp (disch := omega) only [ltL, Llt, leL, Lle, eqL, addL, Ladd, subL, subN, decN, eqM, Mle, mulL, nI_add, nI_ltI, nI_leI, nI_eq, nI_clamp, up2_at, nltT, nltF, nleT, nleF, neqT, neqF, ↓reduceIte, true_or, or_true, false_or, or_false, or_self, true_and, and_true, false_and, and_false, and_self, not_true, not_false_eq_true, i10, i01, im0, im12, im21, m1lt, m2lt, m1le, m2le, i00, i0le0, i1le0, i2le0, i3le0, eq_self]) | ((with_reducible refine ip ?_ ?_); · simp (disch := omega) only [ltL, Llt, leL, Lle, eqL, addL, Ladd, subL, subN, decN, eqM, Mle, mulL, nI_add, nI_ltI, nI_leI, nI_eq, nI_clamp, up2_at, nltT, nltF, nleT, nleF, neqT, neqF, ↓reduceIte, true_or, or_true, false_or, or_false, or_self, true_and, and_true, false_and, and_false, and_self, not_true, not_false_eq_true, i10, i01, im0, im12, im21, m1lt, m2lt, m1le, m2le, i00, i0le0, i1le0, i2le0, i3le0, eq_self]))
              rewrite [f_X4_retype_92]
              repeat (first | with_reducible refine bnE ?_ | with_reducible refine exI ?_ | with_reducible refine exJ ?_ | with_reducible refine bs (hsettle) ?_ | ((with_reducible refine iN ?_ ?_); · simp (disch := omega) only [ltL, Llt, leL, Lle, eqL, addL, Ladd, subL, subN, decN, eqM, Mle, mulL, nI_add, nI_ltI, nI_leI, nI_eq, nI_clamp, up2_at, nltT, nltF, nleT, nleF, neqT, neqF, ↓reduceIte, true_or, or_true, false_or, or_false, or_self, true_and, and_true, false_and, and_false, and_self, not_true, not_false_eq_true, i10, i01, im0, im12, im21, m1lt, m2lt, m1le, m2le, i00, i0le0, i1le0, i2le0, i3le0, eq_self]) | ((with_reducible refine ip ?_ ?_); · simp (disch := omega) only [ltL, Llt, leL, Lle, eqL, addL, Ladd, subL, subN, decN, eqM, Mle, mulL, nI_add, nI_ltI, nI_leI, nI_eq, nI_clamp, up2_at, nltT, nltF, nleT, nleF, neqT, neqF, ↓reduceIte, true_or, or_true, false_or, or_false, or_self, true_and, and_true, false_and, and_false, and_self, not_true, not_false_eq_true, i10, i01, im0, im12, im21, m1lt, m2lt, m1le, m2le, i00, i0le0, i1le0, i2le0, i3le0, eq_self]))
              rfl
            · rewrite [e00 c2, f_X5_retype_193]
              repeat (first | with_reducible refine bnE ?_ | with_reducible refine exI ?_ | with_reducible refine exJ ?_ | ((with_reducible refine iN ?_ ?_); · simp (disch := omega) only [ltL, Llt, leL, Lle, eqL, addL, Ladd, subL, subN, decN, eqM, Mle, mulL, nI_add, nI_ltI, nI_leI, nI_eq, nI_clamp, up2_at, nltT, nltF, nleT, nleF, neqT, neqF, ↓reduceIte, true_or, or_true, false_or, or_false, or_self, true_and, and_true, false_and, and_false, and_self, not_true, not_false_eq_true, i10, i01, im0, im12, im21, m1lt, m2lt, m1le, m2le, i00, i0le0, i1le0, i2le0, i3le0, eq_self, z0]) | ((with_reducible refine ip ?_ ?_); · simp (disch := omega) only [ltL, Llt, leL, Lle, eqL, addL, Ladd, subL, subN, decN, eqM, Mle, mulL, nI_add, nI_ltI, nI_leI, nI_eq, nI_clamp, up2_at, nltT, nltF, nleT, nleF, neqT, neqF, ↓reduceIte, true_or, or_true, false_or, or_false, or_self, true_and, and_true, false_and, and_false, and_self, not_true, not_false_eq_true, i10, i01, im0, im12, im21, m1lt, m2lt, m1le, m2le, i00, i0le0, i1le0, i2le0, i3le0, eq_self, z0]))
              rfl
          · obtain ⟨TM2, htM2⟩ := TM1.congr (σ' := σk) (by simp (disch := decide) only [up2_row, upR_row, and_self, eq_self, fr])
            have mo' : Mo n y (up2 σ 0 0 0) nc' y' σk := ⟨hn1, P3, fun z hz => by rw [htM2]; exact old1 z hz⟩
            obtain ⟨z, ζ, hz, hζ, hc0, hInv⟩ := term_fail (N := N) (t' := tk) (by omega) hn i1 i2 i3 i4 i5 i6 P1 P2 TM2 hn1 mo' (by unfold SameN; simp (disch := decide) only [up2_row, upR_row, and_self, eq_self, fr, fr1]) (by simp (disch := decide) only [up2_row, upR_row, and_self, eq_self, yrow]) (fun z hz => by
              obtain ⟨q1, q2, q3, q4⟩ := low z hz
              refine ⟨q1, q2, ?_, ?_⟩
              · rw [q3, r20]
              · rw [q4, r21]) (by simp (disch := decide) only [up2_row, upR_row, and_self, eq_self, frt]) (w + 1) (Nat.le_succ w) i7'
            have hsettle : f_X4_settled N x y' tk kkk b (-1) (nI n) = some (.inr 1, (x, z, tk, kkk, b)) := by
              rewrite [f_X4_settled]
              exact ip rfl (bs hz rfl)
            refine ⟨.inr 1, x, z, tk, kkk, b, 0, ζ, ?_, ?_, hInv, Or.inr ⟨1, rfl, by rw [hc0, d1]; decide, by decide⟩⟩
            · rewrite [f_X4_retype]
              repeat (first | with_reducible refine bnE ?_ | with_reducible refine exI ?_ | with_reducible refine exJ ?_ | with_reducible refine bs (hr) ?_ | with_reducible refine bs (hb) ?_ | with_reducible refine bs (req_ok (N := N) hv) ?_ | with_reducible refine bs (hcnt) ?_ | with_reducible refine bs (hbeg) ?_ | with_reducible refine bs (hHead) ?_ | with_reducible refine bs (hfind) ?_ | with_reducible refine bs (hset) ?_ | with_reducible refine bs (hbegin) ?_ | with_reducible refine bs (hadd) ?_ | with_reducible refine bs (c1) ?_ | ((with_reducible refine iN ?_ ?_); · simp (disch := omega) only [ltL, Llt, leL, Lle, eqL, addL, Ladd, subL, subN, decN, eqM, Mle, mulL, nI_add, nI_ltI, nI_leI, nI_eq, nI_clamp, up2_at, nltT, nltF, nleT, nleF, neqT, neqF, ↓reduceIte, true_or, or_true, false_or, or_false, or_self, true_and, and_true, false_and, and_false, and_self, not_true, not_false_eq_true, i10, i01, im0, im12, im21, m1lt, m2lt, m1le, m2le, i00, i0le0, i1le0, i2le0, i3le0, eq_self]) | ((with_reducible refine ip ?_ ?_); · simp (disch := omega) only [ltL, Llt, leL, Lle, eqL, addL, Ladd, subL, subN, decN, eqM, Mle, mulL, nI_add, nI_ltI, nI_leI, nI_eq, nI_clamp, up2_at, nltT, nltF, nleT, nleF, neqT, neqF, ↓reduceIte, true_or, or_true, false_or, or_false, or_self, true_and, and_true, false_and, and_false, and_self, not_true, not_false_eq_true, i10, i01, im0, im12, im21, m1lt, m2lt, m1le, m2le, i00, i0le0, i1le0, i2le0, i3le0, eq_self]))
              rewrite [f_X4_retype_92]
              repeat (first | with_reducible refine bnE ?_ | with_reducible refine exI ?_ | with_reducible refine exJ ?_ | with_reducible refine bs (hsettle) ?_ | ((with_reducible refine iN ?_ ?_); · simp (disch := omega) only [ltL, Llt, leL, Lle, eqL, addL, Ladd, subL, subN, decN, eqM, Mle, mulL, nI_add, nI_ltI, nI_leI, nI_eq, nI_clamp, up2_at, nltT, nltF, nleT, nleF, neqT, neqF, ↓reduceIte, true_or, or_true, false_or, or_false, or_self, true_and, and_true, false_and, and_false, and_self, not_true, not_false_eq_true, i10, i01, im0, im12, im21, m1lt, m2lt, m1le, m2le, i00, i0le0, i1le0, i2le0, i3le0, eq_self]) | ((with_reducible refine ip ?_ ?_); · simp (disch := omega) only [ltL, Llt, leL, Lle, eqL, addL, Ladd, subL, subN, decN, eqM, Mle, mulL, nI_add, nI_ltI, nI_leI, nI_eq, nI_clamp, up2_at, nltT, nltF, nleT, nleF, neqT, neqF, ↓reduceIte, true_or, or_true, false_or, or_false, or_self, true_and, and_true, false_and, and_false, and_self, not_true, not_false_eq_true, i10, i01, im0, im12, im21, m1lt, m2lt, m1le, m2le, i00, i0le0, i1le0, i2le0, i3le0, eq_self]))
              rfl
            · rewrite [e00 c2]
              exact endF hζ d1
        · -- some type can't be made
          have hno : ¬ okk := fun hok => x3 ⟨Gterm hok, NF0, AR0⟩
          have hadd : f_X1_addRetyped N tb k y2 (nI i) = some (0, (t', k, y')) := by
            rewrite [f_X1_addRetyped]
            exact bs hst x1
          obtain ⟨TM2, htM2⟩ := TM1.congr (σ' := up2 σ' 0 0 3) (by simp (disch := decide) only [up2_row, upR_row, and_self, eq_self, fr'])
          have mo' : Mo n y (up2 σ 0 0 0) n1 y' (up2 σ' 0 0 3) := ⟨hn1, P3, fun z hz => by rw [htM2]; exact old1 z hz⟩
          obtain ⟨z, ζ, hz, hζ, hc0, hInv⟩ := term_fail (N := N) (t' := t') (by omega) hn i1 i2 i3 i4 i5 i6 P1 P2 TM2 hn1 mo' (by unfold SameN; simp (disch := decide) only [up2_row, upR_row, and_self, eq_self, fr', fr1]) (by simp (disch := decide) only [up2_row, upR_row, and_self, eq_self, yrow]) (fun z hz => by
            obtain ⟨q1, q2⟩ := x2.2.1 z hz
            obtain ⟨q3, q4⟩ := low' z hz
            refine ⟨q1, q2, ?_, ?_⟩
            · rw [up2_row (by decide), q3, r20]
            · rw [up2_row (by decide), q4, r21]) (by
            have := x2.1
            simp (disch := decide) only [up2_row, upR_row, and_self, eq_self, this]) (w + 1) (Nat.le_succ w) i7'
          have hsettle : f_X4_settled N x y' t' k b (-1) (nI n) = some (.inr 1, (x, z, t', k, b)) := by
            rewrite [f_X4_settled]
            exact ip rfl (bs hz rfl)
          refine ⟨.inr 1, x, z, t', k, b, 0, ζ, ?_, ?_, hInv, Or.inr ⟨1, rfl, by rw [hc0]; rfl, by decide⟩⟩
          · rewrite [f_X4_retype]
            repeat (first | with_reducible refine bnE ?_ | with_reducible refine exI ?_ | with_reducible refine exJ ?_ | with_reducible refine bs (hr) ?_ | with_reducible refine bs (hb) ?_ | with_reducible refine bs (req_ok (N := N) hv) ?_ | with_reducible refine bs (hcnt) ?_ | with_reducible refine bs (hbeg) ?_ | with_reducible refine bs (hHead) ?_ | with_reducible refine bs (hfind) ?_ | with_reducible refine bs (hset) ?_ | with_reducible refine bs (hbegin) ?_ | with_reducible refine bs (hadd) ?_ | ((with_reducible refine iN ?_ ?_); · simp (disch := omega) only [ltL, Llt, leL, Lle, eqL, addL, Ladd, subL, subN, decN, eqM, Mle, mulL, nI_add, nI_ltI, nI_leI, nI_eq, nI_clamp, up2_at, nltT, nltF, nleT, nleF, neqT, neqF, ↓reduceIte, true_or, or_true, false_or, or_false, or_self, true_and, and_true, false_and, and_false, and_self, not_true, not_false_eq_true, i10, i01, im0, im12, im21, m1lt, m2lt, m1le, m2le, i00, i0le0, i1le0, i2le0, i3le0, eq_self]) | ((with_reducible refine ip ?_ ?_); · simp (disch := omega) only [ltL, Llt, leL, Lle, eqL, addL, Ladd, subL, subN, decN, eqM, Mle, mulL, nI_add, nI_ltI, nI_leI, nI_eq, nI_clamp, up2_at, nltT, nltF, nleT, nleF, neqT, neqF, ↓reduceIte, true_or, or_true, false_or, or_false, or_self, true_and, and_true, false_and, and_false, and_self, not_true, not_false_eq_true, i10, i01, im0, im12, im21, m1lt, m2lt, m1le, m2le, i00, i0le0, i1le0, i2le0, i3le0, eq_self]))
            rewrite [f_X4_retype_92]
            repeat (first | with_reducible refine bnE ?_ | with_reducible refine exI ?_ | with_reducible refine exJ ?_ | with_reducible refine bs (hsettle) ?_ | ((with_reducible refine iN ?_ ?_); · simp (disch := omega) only [ltL, Llt, leL, Lle, eqL, addL, Ladd, subL, subN, decN, eqM, Mle, mulL, nI_add, nI_ltI, nI_leI, nI_eq, nI_clamp, up2_at, nltT, nltF, nleT, nleF, neqT, neqF, ↓reduceIte, true_or, or_true, false_or, or_false, or_self, true_and, and_true, false_and, and_false, and_self, not_true, not_false_eq_true, i10, i01, im0, im12, im21, m1lt, m2lt, m1le, m2le, i00, i0le0, i1le0, i2le0, i3le0, eq_self]) | ((with_reducible refine ip ?_ ?_); · simp (disch := omega) only [ltL, Llt, leL, Lle, eqL, addL, Ladd, subL, subN, decN, eqM, Mle, mulL, nI_add, nI_ltI, nI_leI, nI_eq, nI_clamp, up2_at, nltT, nltF, nleT, nleF, neqT, neqF, ↓reduceIte, true_or, or_true, false_or, or_false, or_self, true_and, and_true, false_and, and_false, and_self, not_true, not_false_eq_true, i10, i01, im0, im12, im21, m1lt, m2lt, m1le, m2le, i00, i0le0, i1le0, i2le0, i3le0, eq_self]))
            rfl
          · rewrite [failM hno, f_X5_retype_188]
            repeat (first | with_reducible refine bnE ?_ | with_reducible refine exI ?_ | with_reducible refine exJ ?_ | with_reducible refine bs (hfail σ' 3) ?_ | ((with_reducible refine iN ?_ ?_); · simp (disch := omega) only [ltL, Llt, leL, Lle, eqL, addL, Ladd, subL, subN, decN, eqM, Mle, mulL, nI_add, nI_ltI, nI_leI, nI_eq, nI_clamp, up2_at, nltT, nltF, nleT, nleF, neqT, neqF, ↓reduceIte, true_or, or_true, false_or, or_false, or_self, true_and, and_true, false_and, and_false, and_self, not_true, not_false_eq_true, i10, i01, im0, im12, im21, m1lt, m2lt, m1le, m2le, i00, i0le0, i1le0, i2le0, i3le0, eq_self]) | ((with_reducible refine ip ?_ ?_); · simp (disch := omega) only [ltL, Llt, leL, Lle, eqL, addL, Ladd, subL, subN, decN, eqM, Mle, mulL, nI_add, nI_ltI, nI_leI, nI_eq, nI_clamp, up2_at, nltT, nltF, nleT, nleF, neqT, neqF, ↓reduceIte, true_or, or_true, false_or, or_false, or_self, true_and, and_true, false_and, and_false, and_self, not_true, not_false_eq_true, i10, i01, im0, im12, im21, m1lt, m2lt, m1le, m2le, i00, i0le0, i1le0, i2le0, i3le0, eq_self]))
            exact endF hζ (by simp (disch := omega) only [ltL, Llt, leL, Lle, eqL, addL, Ladd, subL, subN, decN, eqM, Mle, mulL, nI_add, nI_ltI, nI_leI, nI_eq, nI_clamp, up2_at, nltT, nltF, nleT, nleF, neqT, neqF, ↓reduceIte, true_or, or_true, false_or, or_false, or_self, true_and, and_true, false_and, and_false, and_self, not_true, not_false_eq_true, i10, i01, im0, im12, im21, m1lt, m2lt, m1le, m2le, i00, i0le0, i1le0, i2le0, i3le0, eq_self, ])
    · rw [← j4] at ho
      refine bad1 ?_ ?_
      · rewrite [f_X4_retype]
        repeat (first | with_reducible refine bnE ?_ | with_reducible refine exI ?_ | with_reducible refine exJ ?_ | with_reducible refine bs (hr) ?_ | with_reducible refine bs (hb) ?_ | ((with_reducible refine iN ?_ ?_); · simp (disch := omega) only [ltL, Llt, leL, Lle, eqL, addL, Ladd, subL, subN, decN, eqM, Mle, mulL, nI_add, nI_ltI, nI_leI, nI_eq, nI_clamp, up2_at, nltT, nltF, nleT, nleF, neqT, neqF, ↓reduceIte, true_or, or_true, false_or, or_false, or_self, true_and, and_true, false_and, and_false, and_self, not_true, not_false_eq_true, i10, i01, im0, im12, im21, m1lt, m2lt, m1le, m2le, i00, i0le0, i1le0, i2le0, i3le0, eq_self]) | ((with_reducible refine ip ?_ ?_); · simp (disch := omega) only [ltL, Llt, leL, Lle, eqL, addL, Ladd, subL, subN, decN, eqM, Mle, mulL, nI_add, nI_ltI, nI_leI, nI_eq, nI_clamp, up2_at, nltT, nltF, nleT, nleF, neqT, neqF, ↓reduceIte, true_or, or_true, false_or, or_false, or_self, true_and, and_true, false_and, and_false, and_self, not_true, not_false_eq_true, i10, i01, im0, im12, im21, m1lt, m2lt, m1le, m2le, i00, i0le0, i1le0, i2le0, i3le0, eq_self]))
        rfl
      · rewrite [f_X5_retype]
        repeat (first | with_reducible refine bnE ?_ | with_reducible refine exI ?_ | with_reducible refine exJ ?_ | with_reducible refine bs (ht) ?_ | with_reducible refine bs (ho) ?_ | ((with_reducible refine iN ?_ ?_); · simp (disch := omega) only [ltL, Llt, leL, Lle, eqL, addL, Ladd, subL, subN, decN, eqM, Mle, mulL, nI_add, nI_ltI, nI_leI, nI_eq, nI_clamp, up2_at, nltT, nltF, nleT, nleF, neqT, neqF, ↓reduceIte, true_or, or_true, false_or, or_false, or_self, true_and, and_true, false_and, and_false, and_self, not_true, not_false_eq_true, i10, i01, im0, im12, im21, m1lt, m2lt, m1le, m2le, i00, i0le0, i1le0, i2le0, i3le0, eq_self]) | ((with_reducible refine ip ?_ ?_); · simp (disch := omega) only [ltL, Llt, leL, Lle, eqL, addL, Ladd, subL, subN, decN, eqM, Mle, mulL, nI_add, nI_ltI, nI_leI, nI_eq, nI_clamp, up2_at, nltT, nltF, nleT, nleF, neqT, neqF, ↓reduceIte, true_or, or_true, false_or, or_false, or_self, true_and, and_true, false_and, and_false, and_self, not_true, not_false_eq_true, i10, i01, im0, im12, im21, m1lt, m2lt, m1le, m2le, i00, i0le0, i1le0, i2le0, i3le0, eq_self]))
        rfl
  · refine bad1 ?_ ?_
    · rewrite [f_X4_retype]
      repeat (first | with_reducible refine bnE ?_ | with_reducible refine exI ?_ | with_reducible refine exJ ?_ | with_reducible refine bs (hr) ?_ | ((with_reducible refine iN ?_ ?_); · simp (disch := omega) only [ltL, Llt, leL, Lle, eqL, addL, Ladd, subL, subN, decN, eqM, Mle, mulL, nI_add, nI_ltI, nI_leI, nI_eq, nI_clamp, up2_at, nltT, nltF, nleT, nleF, neqT, neqF, ↓reduceIte, true_or, or_true, false_or, or_false, or_self, true_and, and_true, false_and, and_false, and_self, not_true, not_false_eq_true, i10, i01, im0, im12, im21, m1lt, m2lt, m1le, m2le, i00, i0le0, i1le0, i2le0, i3le0, eq_self]) | ((with_reducible refine ip ?_ ?_); · simp (disch := omega) only [ltL, Llt, leL, Lle, eqL, addL, Ladd, subL, subN, decN, eqM, Mle, mulL, nI_add, nI_ltI, nI_leI, nI_eq, nI_clamp, up2_at, nltT, nltF, nleT, nleF, neqT, neqF, ↓reduceIte, true_or, or_true, false_or, or_false, or_self, true_and, and_true, false_and, and_false, and_self, not_true, not_false_eq_true, i10, i01, im0, im12, im21, m1lt, m2lt, m1le, m2le, i00, i0le0, i1le0, i2le0, i3le0, eq_self]))
      rfl
    · rewrite [f_X5_retype]
      repeat (first | with_reducible refine bnE ?_ | with_reducible refine exI ?_ | with_reducible refine exJ ?_ | with_reducible refine bs (ht (z := up2 σ 0 0 0) rfl) ?_ | ((with_reducible refine iN ?_ ?_); · simp (disch := omega) only [ltL, Llt, leL, Lle, eqL, addL, Ladd, subL, subN, decN, eqM, Mle, mulL, nI_add, nI_ltI, nI_leI, nI_eq, nI_clamp, up2_at, nltT, nltF, nleT, nleF, neqT, neqF, ↓reduceIte, true_or, or_true, false_or, or_false, or_self, true_and, and_true, false_and, and_false, and_self, not_true, not_false_eq_true, i10, i01, im0, im12, im21, m1lt, m2lt, m1le, m2le, i00, i0le0, i1le0, i2le0, i3le0, eq_self]) | ((with_reducible refine ip ?_ ?_); · simp (disch := omega) only [ltL, Llt, leL, Lle, eqL, addL, Ladd, subL, subN, decN, eqM, Mle, mulL, nI_add, nI_ltI, nI_leI, nI_eq, nI_clamp, up2_at, nltT, nltF, nleT, nleF, neqT, neqF, ↓reduceIte, true_or, or_true, false_or, or_false, or_self, true_and, and_true, false_and, and_false, and_self, not_true, not_false_eq_true, i10, i01, im0, im12, im21, m1lt, m2lt, m1le, m2le, i00, i0le0, i1le0, i2le0, i3le0, eq_self]))
      rfl
