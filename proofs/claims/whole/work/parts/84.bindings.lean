/-! PURE: the class's bindings -/
def BT (f : Nat) (hs : Nat → Nat) (b : St) : Prop := f ≤ 2000 ∧ b 6 0 = nI f ∧ (∀ i, i < f → hs i < 1000 ∧ b 0 i = nI (4 * hs i + 1)) ∧ (∀ c, c < 1000 → b 5 c = lst hs f c) ∧ ∀ i, i < f → b 4 i = lst hs i (hs i)
theorem lst_none {hs : Nat → Nat} {c : Nat} : ∀ f, (∀ i, i < f → hs i ≠ c) → lst hs f c = -1 := by
  intro f
  induction f with
  | zero => intro _; rfl
  | succ f ih =>
    intro h
    rw [lst, if_neg (h f (Nat.lt_succ_self f))]
    exact ih (fun i hi => h i (by omega))
theorem find_18 {N f c : Nat} {hs : Nat → Nat} {b : St} {ty : Int32} (hf : f ≤ 2000) (h4 : ∀ i, i < f → b 4 i = lst hs i (hs i)) : ∀ m, m ≤ f → ∀ left fuel, m ≤ left → left < 2 ^ 31 → m < fuel → ∃ r, f_X0_find_18 N fuel b ty (lst hs m c) (nI left) = some (r, b) ∧ ((∃ i, i < m ∧ hs i = c ∧ b 1 i = ty ∧ r = nI i) ∨ ((∀ i, i < m → hs i = c → b 1 i ≠ ty) ∧ r = -1)) := by
  intro m
  induction m with
  | zero =>
    intro _ left fuel h1 h2 h3
    obtain ⟨fuel, rfl⟩ : ∃ z, fuel = z + 1 := ⟨fuel - 1, by omega⟩
    refine ⟨-1, ?_, Or.inr ⟨fun i hi => absurd hi (by omega), rfl⟩⟩
    rewrite [f_X0_find_18, lst]
    by_cases h0 : nI left ≤ 0
    · exact ip h0 rfl
    · exact iN h0 (ip rfl rfl)
  | succ m ih =>
    intro hm left fuel h1 h2 h3
    obtain ⟨fuel, rfl⟩ : ∃ z, fuel = z + 1 := ⟨fuel - 1, by omega⟩
    by_cases e : hs m = c
    · rw [lst, if_pos e]
      have r1 := rd_in (N := N) (g := b 1) (by omega : m < 2000) (by omega)
      have r4 := rd_in (N := N) (g := b 4) (by omega : m < 2000) (by omega)
      have nm : ¬ nI m = -1 := nI_ne_m1 (by omega)
      by_cases q : b 1 m = ty
      · refine ⟨nI m, ?_, Or.inl ⟨m, by omega, e, q, rfl⟩⟩
        rewrite [f_X0_find_18]
        repeat (first | with_reducible refine bnE ?_ | with_reducible refine exI ?_ | with_reducible refine exJ ?_ | with_reducible refine bs (r1) ?_ | ((with_reducible refine iN ?_ ?_); · simp (disch := omega) only [ltL, Llt, leL, Lle, eqL, addL, Ladd, subL, subN, decN, eqM, Mle, mulL, nI_add, nI_ltI, nI_leI, nI_eq, nI_clamp, up2_at, nltT, nltF, nleT, nleF, neqT, neqF, ↓reduceIte, true_or, or_true, false_or, or_false, or_self, true_and, and_true, false_and, and_false, and_self, not_true, not_false_eq_true, i10, i01, im0, im12, im21, m1lt, m2lt, m1le, m2le, i00, i0le0, i1le0, i2le0, i3le0, eq_self, nm, q]) | ((with_reducible refine ip ?_ ?_); · simp (disch := omega) only [ltL, Llt, leL, Lle, eqL, addL, Ladd, subL, subN, decN, eqM, Mle, mulL, nI_add, nI_ltI, nI_leI, nI_eq, nI_clamp, up2_at, nltT, nltF, nleT, nleF, neqT, neqF, ↓reduceIte, true_or, or_true, false_or, or_false, or_self, true_and, and_true, false_and, and_false, and_self, not_true, not_false_eq_true, i10, i01, im0, im12, im21, m1lt, m2lt, m1le, m2le, i00, i0le0, i1le0, i2le0, i3le0, eq_self, nm, q]))
        rfl
      · obtain ⟨r, g1, g2⟩ := ih (by omega) (left - 1) fuel (by omega) (by omega) (by omega)
        refine ⟨r, ?_, ?_⟩
        · rw [h4 m (by omega), e] at r4
          rewrite [f_X0_find_18]
          repeat (first | with_reducible refine bnE ?_ | with_reducible refine exI ?_ | with_reducible refine exJ ?_ | with_reducible refine bs (r1) ?_ | with_reducible refine bs (r4) ?_ | ((with_reducible refine iN ?_ ?_); · simp (disch := omega) only [ltL, Llt, leL, Lle, eqL, addL, Ladd, subL, subN, decN, eqM, Mle, mulL, nI_add, nI_ltI, nI_leI, nI_eq, nI_clamp, up2_at, nltT, nltF, nleT, nleF, neqT, neqF, ↓reduceIte, true_or, or_true, false_or, or_false, or_self, true_and, and_true, false_and, and_false, and_self, not_true, not_false_eq_true, i10, i01, im0, im12, im21, m1lt, m2lt, m1le, m2le, i00, i0le0, i1le0, i2le0, i3le0, eq_self, nm, q]) | ((with_reducible refine ip ?_ ?_); · simp (disch := omega) only [ltL, Llt, leL, Lle, eqL, addL, Ladd, subL, subN, decN, eqM, Mle, mulL, nI_add, nI_ltI, nI_leI, nI_eq, nI_clamp, up2_at, nltT, nltF, nleT, nleF, neqT, neqF, ↓reduceIte, true_or, or_true, false_or, or_false, or_self, true_and, and_true, false_and, and_false, and_self, not_true, not_false_eq_true, i10, i01, im0, im12, im21, m1lt, m2lt, m1le, m2le, i00, i0le0, i1le0, i2le0, i3le0, eq_self, nm, q]))
          simp (disch := omega) only [ltL, Llt, leL, Lle, eqL, addL, Ladd, subL, subN, decN, eqM, Mle, mulL, nI_add, nI_ltI, nI_leI, nI_eq, nI_clamp, up2_at, nltT, nltF, nleT, nleF, neqT, neqF, ↓reduceIte, true_or, or_true, false_or, or_false, or_self, true_and, and_true, false_and, and_false, and_self, not_true, not_false_eq_true, i10, i01, im0, im12, im21, m1lt, m2lt, m1le, m2le, i00, i0le0, i1le0, i2le0, i3le0, eq_self, ]
          exact g1
        · rcases g2 with ⟨i, a1, a2⟩ | ⟨a1, a2⟩
          · exact Or.inl ⟨i, by omega, a2⟩
          · refine Or.inr ⟨fun i hi hc => ?_, a2⟩
            by_cases z : i = m
            · subst z; exact q
            · exact a1 i (by omega) hc
    · rw [lst, if_neg e]
      obtain ⟨r, g1, g2⟩ := ih (by omega) left (fuel + 1) (by omega) h2 (by omega)
      refine ⟨r, g1, ?_⟩
      rcases g2 with ⟨i, a1, a2⟩ | ⟨a1, a2⟩
      · exact Or.inl ⟨i, by omega, a2⟩
      · refine Or.inr ⟨fun i hi hc => ?_, a2⟩
        by_cases z : i = m
        · subst z; exact absurd hc e
        · exact a1 i (by omega) hc
theorem find_bt {N f c : Nat} {hs : Nat → Nat} {b : St} (hN : 34100 < N) (B : BT f hs b) (hc : c < 1000) (ty : Int32) : ∃ r, f_X0_find N b (nI (4 * c + 1)) ty = some (r, b) ∧ ((∃ i, i < f ∧ hs i = c ∧ b 1 i = ty ∧ r = nI i) ∨ ((∀ i, i < f → hs i = c → b 1 i ≠ ty) ∧ r = -1)) := by
  obtain ⟨b1, b2, b3, b4, b5⟩ := B
  obtain ⟨r, g1, g2⟩ := find_18 (N := N) (c := c) (ty := ty) b1 b5 f (Nat.le_refl _) f N (Nat.le_refl _) (by omega) (by omega)
  refine ⟨r, ?_, g2⟩
  have hnum := num_ok (N := N) (by omega : 4 * c + 1 < 2 ^ 31)
  have e1 : (4 * c + 1) / 4 = c := by omega
  rw [e1] at hnum
  have hrd := rd_in (N := N) (g := b 5) (by omega : c < 1000) (by omega)
  rw [b4 c hc] at hrd
  rewrite [f_X0_find]
  refine bs hnum (bs hrd ?_)
  rw [b2]; exact g1
theorem setNewest_ok {N c : Nat} {b : St} {v : Int32} (hc : c < 1000) : f_X0_setNewest N b (nI (4 * c + 1)) v = some (up2 b 5 c v) := by
  have hnum := num_ok (N := N) (by omega : 4 * c + 1 < 2 ^ 31)
  have e1 : (4 * c + 1) / 4 = c := by omega
  rw [e1] at hnum
  rewrite [f_X0_setNewest]
  repeat (first | with_reducible refine bnE ?_ | with_reducible refine exI ?_ | with_reducible refine exJ ?_ | with_reducible refine bs (hnum) ?_ | ((with_reducible refine iN ?_ ?_); · simp (disch := omega) only [ltL, Llt, leL, Lle, eqL, addL, Ladd, subL, subN, decN, eqM, Mle, mulL, nI_add, nI_ltI, nI_leI, nI_eq, nI_clamp, up2_at, nltT, nltF, nleT, nleF, neqT, neqF, ↓reduceIte, true_or, or_true, false_or, or_false, or_self, true_and, and_true, false_and, and_false, and_self, not_true, not_false_eq_true, i10, i01, im0, im12, im21, m1lt, m2lt, m1le, m2le, i00, i0le0, i1le0, i2le0, i3le0, eq_self]) | ((with_reducible refine ip ?_ ?_); · simp (disch := omega) only [ltL, Llt, leL, Lle, eqL, addL, Ladd, subL, subN, decN, eqM, Mle, mulL, nI_add, nI_ltI, nI_leI, nI_eq, nI_clamp, up2_at, nltT, nltF, nleT, nleF, neqT, neqF, ↓reduceIte, true_or, or_true, false_or, or_false, or_self, true_and, and_true, false_and, and_false, and_self, not_true, not_false_eq_true, i10, i01, im0, im12, im21, m1lt, m2lt, m1le, m2le, i00, i0le0, i1le0, i2le0, i3le0, eq_self]))
  rewrite [f_X0_setNewest_23]
  simp (disch := omega) only [ltL, Llt, leL, Lle, eqL, addL, Ladd, subL, subN, decN, eqM, Mle, mulL, nI_add, nI_ltI, nI_leI, nI_eq, nI_clamp, up2_at, nltT, nltF, nleT, nleF, neqT, neqF, ↓reduceIte, true_or, or_true, false_or, or_false, or_self, true_and, and_true, false_and, and_false, and_self, not_true, not_false_eq_true, i10, i01, im0, im12, im21, m1lt, m2lt, m1le, m2le, i00, i0le0, i1le0, i2le0, i3le0, eq_self, ]
theorem add_bt {N f c : Nat} {hs : Nat → Nat} {b : St} (ty u v : Int32) (B : BT f hs b) (hf : f < 2000) (hc : c < 1000) : ∃ b', f_X0_add N b (nI (4 * c + 1)) ty u v = some b' ∧ BT (f + 1) (fun i => if i = f then c else hs i) b' ∧ b' 0 f = nI (4 * c + 1) ∧ b' 1 f = ty ∧ b' 2 f = u ∧ b' 3 f = v ∧ ∀ i, i < f → b' 0 i = b 0 i ∧ b' 1 i = b 1 i ∧ b' 2 i = b 2 i ∧ b' 3 i = b 3 i := by
  obtain ⟨b1, b2, b3, b4, b5⟩ := B
  have hnum := num_ok (N := N) (by omega : 4 * c + 1 < 2 ^ 31)
  have e1 : (4 * c + 1) / 4 = c := by omega
  rw [e1] at hnum
  refine ⟨up2 (up2 (up2 (up2 (up2 (up2 (up2 b 0 f (nI (4 * c + 1))) 1 f ty) 2 f u) 3 f v) 4 f (b 5 c)) 5 c (nI f)) 6 0 (nI (f + 1)), ?_, ⟨by omega, ?_, fun i hi => ?_, fun d hd => ?_, fun i hi => ?_⟩, ?_, ?_, ?_, ?_, fun i hi => ?_⟩
  · have hrd : ∀ z : St, z 5 = b 5 → f_X4_read N 1000 (z 5) (nI c) = some (b 5 c, ()) := fun z hz => by
      rw [rd_in (by omega) (by omega), hz]
    have hsn : ∀ (z : St) (v : Int32), f_X0_setNewest N z (nI (4 * c + 1)) v = some (up2 z 5 c v) := fun z v => setNewest_ok hc
    rewrite [f_X0_add]
    repeat (first | with_reducible refine bnE ?_ | with_reducible refine exI ?_ | with_reducible refine exJ ?_ | with_reducible refine bs (hnum) ?_ | ((with_reducible refine iN ?_ ?_); · simp (disch := omega) only [ltL, Llt, leL, Lle, eqL, addL, Ladd, subL, subN, decN, eqM, Mle, mulL, nI_add, nI_ltI, nI_leI, nI_eq, nI_clamp, up2_at, nltT, nltF, nleT, nleF, neqT, neqF, ↓reduceIte, true_or, or_true, false_or, or_false, or_self, true_and, and_true, false_and, and_false, and_self, not_true, not_false_eq_true, i10, i01, im0, im12, im21, m1lt, m2lt, m1le, m2le, i00, i0le0, i1le0, i2le0, i3le0, eq_self, b2]) | ((with_reducible refine ip ?_ ?_); · simp (disch := omega) only [ltL, Llt, leL, Lle, eqL, addL, Ladd, subL, subN, decN, eqM, Mle, mulL, nI_add, nI_ltI, nI_leI, nI_eq, nI_clamp, up2_at, nltT, nltF, nleT, nleF, neqT, neqF, ↓reduceIte, true_or, or_true, false_or, or_false, or_self, true_and, and_true, false_and, and_false, and_self, not_true, not_false_eq_true, i10, i01, im0, im12, im21, m1lt, m2lt, m1le, m2le, i00, i0le0, i1le0, i2le0, i3le0, eq_self, b2]))
    refine bs (hrd _ rfl) ?_
    repeat (first | with_reducible refine bnE ?_ | with_reducible refine exI ?_ | with_reducible refine exJ ?_ | with_reducible refine bs (hsn _ _) ?_ | ((with_reducible refine iN ?_ ?_); · simp (disch := omega) only [ltL, Llt, leL, Lle, eqL, addL, Ladd, subL, subN, decN, eqM, Mle, mulL, nI_add, nI_ltI, nI_leI, nI_eq, nI_clamp, up2_at, nltT, nltF, nleT, nleF, neqT, neqF, ↓reduceIte, true_or, or_true, false_or, or_false, or_self, true_and, and_true, false_and, and_false, and_self, not_true, not_false_eq_true, i10, i01, im0, im12, im21, m1lt, m2lt, m1le, m2le, i00, i0le0, i1le0, i2le0, i3le0, eq_self, b2]) | ((with_reducible refine ip ?_ ?_); · simp (disch := omega) only [ltL, Llt, leL, Lle, eqL, addL, Ladd, subL, subN, decN, eqM, Mle, mulL, nI_add, nI_ltI, nI_leI, nI_eq, nI_clamp, up2_at, nltT, nltF, nleT, nleF, neqT, neqF, ↓reduceIte, true_or, or_true, false_or, or_false, or_self, true_and, and_true, false_and, and_false, and_self, not_true, not_false_eq_true, i10, i01, im0, im12, im21, m1lt, m2lt, m1le, m2le, i00, i0le0, i1le0, i2le0, i3le0, eq_self, b2]))
    simp (disch := omega) only [ltL, Llt, leL, Lle, eqL, addL, Ladd, subL, subN, decN, eqM, Mle, mulL, nI_add, nI_ltI, nI_leI, nI_eq, nI_clamp, up2_at, nltT, nltF, nleT, nleF, neqT, neqF, ↓reduceIte, true_or, or_true, false_or, or_false, or_self, true_and, and_true, false_and, and_false, and_self, not_true, not_false_eq_true, i10, i01, im0, im12, im21, m1lt, m2lt, m1le, m2le, i00, i0le0, i1le0, i2le0, i3le0, eq_self, b2]
  · simp (disch := omega) only [ltL, Llt, leL, Lle, eqL, addL, Ladd, subL, subN, decN, eqM, Mle, mulL, nI_add, nI_ltI, nI_leI, nI_eq, nI_clamp, up2_at, nltT, nltF, nleT, nleF, neqT, neqF, ↓reduceIte, true_or, or_true, false_or, or_false, or_self, true_and, and_true, false_and, and_false, and_self, not_true, not_false_eq_true, i10, i01, im0, im12, im21, m1lt, m2lt, m1le, m2le, i00, i0le0, i1le0, i2le0, i3le0, eq_self, ]
  · show (if i = f then c else hs i) < 1000 ∧ _ = nI (4 * (if i = f then c else hs i) + 1)
    by_cases e : i = f
    · subst e
      rw [if_pos rfl]
      exact ⟨hc, by simp (disch := omega) only [ltL, Llt, leL, Lle, eqL, addL, Ladd, subL, subN, decN, eqM, Mle, mulL, nI_add, nI_ltI, nI_leI, nI_eq, nI_clamp, up2_at, nltT, nltF, nleT, nleF, neqT, neqF, ↓reduceIte, true_or, or_true, false_or, or_false, or_self, true_and, and_true, false_and, and_false, and_self, not_true, not_false_eq_true, i10, i01, im0, im12, im21, m1lt, m2lt, m1le, m2le, i00, i0le0, i1le0, i2le0, i3le0, eq_self, ]⟩
    · rw [if_neg e]
      obtain ⟨q1, q2⟩ := b3 i (by omega)
      refine ⟨q1, ?_⟩
      rw [← q2]
      simp (disch := omega) only [ltL, Llt, leL, Lle, eqL, addL, Ladd, subL, subN, decN, eqM, Mle, mulL, nI_add, nI_ltI, nI_leI, nI_eq, nI_clamp, up2_at, nltT, nltF, nleT, nleF, neqT, neqF, ↓reduceIte, true_or, or_true, false_or, or_false, or_self, true_and, and_true, false_and, and_false, and_self, not_true, not_false_eq_true, i10, i01, im0, im12, im21, m1lt, m2lt, m1le, m2le, i00, i0le0, i1le0, i2le0, i3le0, eq_self, e]
  · rw [lst]
    show _ = if (if f = f then c else hs f) = d then nI f else lst (fun i => if i = f then c else hs i) f d
    rw [if_pos rfl, lst_congr (hs' := hs) (fun k hk => if_neg (by omega))]
    by_cases e : c = d
    · subst e; rw [if_pos rfl]; simp (disch := omega) only [ltL, Llt, leL, Lle, eqL, addL, Ladd, subL, subN, decN, eqM, Mle, mulL, nI_add, nI_ltI, nI_leI, nI_eq, nI_clamp, up2_at, nltT, nltF, nleT, nleF, neqT, neqF, ↓reduceIte, true_or, or_true, false_or, or_false, or_self, true_and, and_true, false_and, and_false, and_self, not_true, not_false_eq_true, i10, i01, im0, im12, im21, m1lt, m2lt, m1le, m2le, i00, i0le0, i1le0, i2le0, i3le0, eq_self, ]
    · rw [if_neg e, ← b4 d hd]
      have : ¬ d = c := fun z => e z.symm
      simp (disch := omega) only [ltL, Llt, leL, Lle, eqL, addL, Ladd, subL, subN, decN, eqM, Mle, mulL, nI_add, nI_ltI, nI_leI, nI_eq, nI_clamp, up2_at, nltT, nltF, nleT, nleF, neqT, neqF, ↓reduceIte, true_or, or_true, false_or, or_false, or_self, true_and, and_true, false_and, and_false, and_self, not_true, not_false_eq_true, i10, i01, im0, im12, im21, m1lt, m2lt, m1le, m2le, i00, i0le0, i1le0, i2le0, i3le0, eq_self, this]
  · rw [lst_congr (hs' := hs) (fun k hk => if_neg (by omega))]
    show _ = lst hs i (if i = f then c else hs i)
    by_cases e : i = f
    · subst e
      rw [if_pos rfl, ← b4 c hc]
      simp (disch := omega) only [ltL, Llt, leL, Lle, eqL, addL, Ladd, subL, subN, decN, eqM, Mle, mulL, nI_add, nI_ltI, nI_leI, nI_eq, nI_clamp, up2_at, nltT, nltF, nleT, nleF, neqT, neqF, ↓reduceIte, true_or, or_true, false_or, or_false, or_self, true_and, and_true, false_and, and_false, and_self, not_true, not_false_eq_true, i10, i01, im0, im12, im21, m1lt, m2lt, m1le, m2le, i00, i0le0, i1le0, i2le0, i3le0, eq_self, ]
    · rw [if_neg e, ← b5 i (by omega)]
      simp (disch := omega) only [ltL, Llt, leL, Lle, eqL, addL, Ladd, subL, subN, decN, eqM, Mle, mulL, nI_add, nI_ltI, nI_leI, nI_eq, nI_clamp, up2_at, nltT, nltF, nleT, nleF, neqT, neqF, ↓reduceIte, true_or, or_true, false_or, or_false, or_self, true_and, and_true, false_and, and_false, and_self, not_true, not_false_eq_true, i10, i01, im0, im12, im21, m1lt, m2lt, m1le, m2le, i00, i0le0, i1le0, i2le0, i3le0, eq_self, e]
  · simp (disch := omega) only [ltL, Llt, leL, Lle, eqL, addL, Ladd, subL, subN, decN, eqM, Mle, mulL, nI_add, nI_ltI, nI_leI, nI_eq, nI_clamp, up2_at, nltT, nltF, nleT, nleF, neqT, neqF, ↓reduceIte, true_or, or_true, false_or, or_false, or_self, true_and, and_true, false_and, and_false, and_self, not_true, not_false_eq_true, i10, i01, im0, im12, im21, m1lt, m2lt, m1le, m2le, i00, i0le0, i1le0, i2le0, i3le0, eq_self, ]
  · simp (disch := omega) only [ltL, Llt, leL, Lle, eqL, addL, Ladd, subL, subN, decN, eqM, Mle, mulL, nI_add, nI_ltI, nI_leI, nI_eq, nI_clamp, up2_at, nltT, nltF, nleT, nleF, neqT, neqF, ↓reduceIte, true_or, or_true, false_or, or_false, or_self, true_and, and_true, false_and, and_false, and_self, not_true, not_false_eq_true, i10, i01, im0, im12, im21, m1lt, m2lt, m1le, m2le, i00, i0le0, i1le0, i2le0, i3le0, eq_self, ]
  · simp (disch := omega) only [ltL, Llt, leL, Lle, eqL, addL, Ladd, subL, subN, decN, eqM, Mle, mulL, nI_add, nI_ltI, nI_leI, nI_eq, nI_clamp, up2_at, nltT, nltF, nleT, nleF, neqT, neqF, ↓reduceIte, true_or, or_true, false_or, or_false, or_self, true_and, and_true, false_and, and_false, and_self, not_true, not_false_eq_true, i10, i01, im0, im12, im21, m1lt, m2lt, m1le, m2le, i00, i0le0, i1le0, i2le0, i3le0, eq_self, ]
  · simp (disch := omega) only [ltL, Llt, leL, Lle, eqL, addL, Ladd, subL, subN, decN, eqM, Mle, mulL, nI_add, nI_ltI, nI_leI, nI_eq, nI_clamp, up2_at, nltT, nltF, nleT, nleF, neqT, neqF, ↓reduceIte, true_or, or_true, false_or, or_false, or_self, true_and, and_true, false_and, and_false, and_self, not_true, not_false_eq_true, i10, i01, im0, im12, im21, m1lt, m2lt, m1le, m2le, i00, i0le0, i1le0, i2le0, i3le0, eq_self, ]
  · have n1 : ¬ i = f := by omega
    exact ⟨by simp (disch := omega) only [ltL, Llt, leL, Lle, eqL, addL, Ladd, subL, subN, decN, eqM, Mle, mulL, nI_add, nI_ltI, nI_leI, nI_eq, nI_clamp, up2_at, nltT, nltF, nleT, nleF, neqT, neqF, ↓reduceIte, true_or, or_true, false_or, or_false, or_self, true_and, and_true, false_and, and_false, and_self, not_true, not_false_eq_true, i10, i01, im0, im12, im21, m1lt, m2lt, m1le, m2le, i00, i0le0, i1le0, i2le0, i3le0, eq_self, n1], by simp (disch := omega) only [ltL, Llt, leL, Lle, eqL, addL, Ladd, subL, subN, decN, eqM, Mle, mulL, nI_add, nI_ltI, nI_leI, nI_eq, nI_clamp, up2_at, nltT, nltF, nleT, nleF, neqT, neqF, ↓reduceIte, true_or, or_true, false_or, or_false, or_self, true_and, and_true, false_and, and_false, and_self, not_true, not_false_eq_true, i10, i01, im0, im12, im21, m1lt, m2lt, m1le, m2le, i00, i0le0, i1le0, i2le0, i3le0, eq_self, n1], by simp (disch := omega) only [ltL, Llt, leL, Lle, eqL, addL, Ladd, subL, subN, decN, eqM, Mle, mulL, nI_add, nI_ltI, nI_leI, nI_eq, nI_clamp, up2_at, nltT, nltF, nleT, nleF, neqT, neqF, ↓reduceIte, true_or, or_true, false_or, or_false, or_self, true_and, and_true, false_and, and_false, and_self, not_true, not_false_eq_true, i10, i01, im0, im12, im21, m1lt, m2lt, m1le, m2le, i00, i0le0, i1le0, i2le0, i3le0, eq_self, n1], by simp (disch := omega) only [ltL, Llt, leL, Lle, eqL, addL, Ladd, subL, subN, decN, eqM, Mle, mulL, nI_add, nI_ltI, nI_leI, nI_eq, nI_clamp, up2_at, nltT, nltF, nleT, nleF, neqT, neqF, ↓reduceIte, true_or, or_true, false_or, or_false, or_self, true_and, and_true, false_and, and_false, and_self, not_true, not_false_eq_true, i10, i01, im0, im12, im21, m1lt, m2lt, m1le, m2le, i00, i0le0, i1le0, i2le0, i3le0, eq_self, n1]⟩
theorem forget_loop {N f : Nat} {b0 : St} (hf : f ≤ 2000) (hcode : ∀ i, i < f → ∃ c, c < 1000 ∧ b0 0 i = nI (4 * c + 1)) : ∀ d i fuel b, i + d = f → d < fuel → (∀ r, r ≠ 5 → b r = b0 r) → b0 6 0 = nI f → ∃ b', f_X0_forget_2 N fuel b (nI i) = some b' ∧ b' 6 0 = 0 ∧ (∀ r, r ≠ 5 → r ≠ 6 → b' r = b0 r) ∧ ∀ c, c < 1000 → (b' 5 c = -1 ∨ b' 5 c = b 5 c) ∧ (∀ j, i ≤ j → j < f → b0 0 j = nI (4 * c + 1) → b' 5 c = -1) := by
  intro d
  induction d with
  | zero =>
    intro i fuel b hi hfu fr h6
    obtain ⟨fuel, rfl⟩ : ∃ z, fuel = z + 1 := ⟨fuel - 1, by omega⟩
    have b6 : b 6 0 = nI f := by rw [fr 6 (by decide)]; exact h6
    refine ⟨up2 b 6 0 0, ?_, by simp (disch := omega) only [ltL, Llt, leL, Lle, eqL, addL, Ladd, subL, subN, decN, eqM, Mle, mulL, nI_add, nI_ltI, nI_leI, nI_eq, nI_clamp, up2_at, nltT, nltF, nleT, nleF, neqT, neqF, ↓reduceIte, true_or, or_true, false_or, or_false, or_self, true_and, and_true, false_and, and_false, and_self, not_true, not_false_eq_true, i10, i01, im0, im12, im21, m1lt, m2lt, m1le, m2le, i00, i0le0, i1le0, i2le0, i3le0, eq_self, ], fun r h5 h6 => by rw [up2_row h6]; exact fr r h5, fun c hc => ⟨Or.inr (by rw [up2_row (by decide)]), fun j h1 h2 => absurd h1 (by omega)⟩⟩
    rewrite [f_X0_forget_2]
    repeat (first | with_reducible refine bnE ?_ | with_reducible refine exI ?_ | with_reducible refine exJ ?_ | ((with_reducible refine iN ?_ ?_); · simp (disch := omega) only [ltL, Llt, leL, Lle, eqL, addL, Ladd, subL, subN, decN, eqM, Mle, mulL, nI_add, nI_ltI, nI_leI, nI_eq, nI_clamp, up2_at, nltT, nltF, nleT, nleF, neqT, neqF, ↓reduceIte, true_or, or_true, false_or, or_false, or_self, true_and, and_true, false_and, and_false, and_self, not_true, not_false_eq_true, i10, i01, im0, im12, im21, m1lt, m2lt, m1le, m2le, i00, i0le0, i1le0, i2le0, i3le0, eq_self, b6]) | ((with_reducible refine ip ?_ ?_); · simp (disch := omega) only [ltL, Llt, leL, Lle, eqL, addL, Ladd, subL, subN, decN, eqM, Mle, mulL, nI_add, nI_ltI, nI_leI, nI_eq, nI_clamp, up2_at, nltT, nltF, nleT, nleF, neqT, neqF, ↓reduceIte, true_or, or_true, false_or, or_false, or_self, true_and, and_true, false_and, and_false, and_self, not_true, not_false_eq_true, i10, i01, im0, im12, im21, m1lt, m2lt, m1le, m2le, i00, i0le0, i1le0, i2le0, i3le0, eq_self, b6]))
    rfl
  | succ d ih =>
    intro i fuel b hi hfu fr h6
    obtain ⟨fuel, rfl⟩ : ∃ z, fuel = z + 1 := ⟨fuel - 1, by omega⟩
    have b6 : b 6 0 = nI f := by rw [fr 6 (by decide)]; exact h6
    obtain ⟨c0, hc0, ec0⟩ := hcode i (by omega)
    have ec0' : b 0 i = nI (4 * c0 + 1) := by rw [fr 0 (by decide)]; exact ec0
    have hsn := setNewest_ok (N := N) (b := b) (v := -1) hc0
    obtain ⟨b', g1, g2, g3, g4⟩ := ih (i + 1) fuel (up2 b 5 c0 (-1)) (by omega) (by omega) (fun r hr => by rw [up2_row hr]; exact fr r hr) h6
    refine ⟨b', ?_, g2, g3, fun c hc => ?_⟩
    · rewrite [f_X0_forget_2]
      repeat (first | with_reducible refine bnE ?_ | with_reducible refine exI ?_ | with_reducible refine exJ ?_ | ((with_reducible refine iN ?_ ?_); · simp (disch := omega) only [ltL, Llt, leL, Lle, eqL, addL, Ladd, subL, subN, decN, eqM, Mle, mulL, nI_add, nI_ltI, nI_leI, nI_eq, nI_clamp, up2_at, nltT, nltF, nleT, nleF, neqT, neqF, ↓reduceIte, true_or, or_true, false_or, or_false, or_self, true_and, and_true, false_and, and_false, and_self, not_true, not_false_eq_true, i10, i01, im0, im12, im21, m1lt, m2lt, m1le, m2le, i00, i0le0, i1le0, i2le0, i3le0, eq_self, b6]) | ((with_reducible refine ip ?_ ?_); · simp (disch := omega) only [ltL, Llt, leL, Lle, eqL, addL, Ladd, subL, subN, decN, eqM, Mle, mulL, nI_add, nI_ltI, nI_leI, nI_eq, nI_clamp, up2_at, nltT, nltF, nleT, nleF, neqT, neqF, ↓reduceIte, true_or, or_true, false_or, or_false, or_self, true_and, and_true, false_and, and_false, and_self, not_true, not_false_eq_true, i10, i01, im0, im12, im21, m1lt, m2lt, m1le, m2le, i00, i0le0, i1le0, i2le0, i3le0, eq_self, b6]))
      simp (disch := omega) only [nI_clamp, ec0']
      repeat (first | with_reducible refine bnE ?_ | with_reducible refine exI ?_ | with_reducible refine exJ ?_ | with_reducible refine bs (hsn) ?_ | ((with_reducible refine iN ?_ ?_); · simp (disch := omega) only [ltL, Llt, leL, Lle, eqL, addL, Ladd, subL, subN, decN, eqM, Mle, mulL, nI_add, nI_ltI, nI_leI, nI_eq, nI_clamp, up2_at, nltT, nltF, nleT, nleF, neqT, neqF, ↓reduceIte, true_or, or_true, false_or, or_false, or_self, true_and, and_true, false_and, and_false, and_self, not_true, not_false_eq_true, i10, i01, im0, im12, im21, m1lt, m2lt, m1le, m2le, i00, i0le0, i1le0, i2le0, i3le0, eq_self]) | ((with_reducible refine ip ?_ ?_); · simp (disch := omega) only [ltL, Llt, leL, Lle, eqL, addL, Ladd, subL, subN, decN, eqM, Mle, mulL, nI_add, nI_ltI, nI_leI, nI_eq, nI_clamp, up2_at, nltT, nltF, nleT, nleF, neqT, neqF, ↓reduceIte, true_or, or_true, false_or, or_false, or_self, true_and, and_true, false_and, and_false, and_self, not_true, not_false_eq_true, i10, i01, im0, im12, im21, m1lt, m2lt, m1le, m2le, i00, i0le0, i1le0, i2le0, i3le0, eq_self]))
      simp (disch := omega) only [ltL, Llt, leL, Lle, eqL, addL, Ladd, subL, subN, decN, eqM, Mle, mulL, nI_add, nI_ltI, nI_leI, nI_eq, nI_clamp, up2_at, nltT, nltF, nleT, nleF, neqT, neqF, ↓reduceIte, true_or, or_true, false_or, or_false, or_self, true_and, and_true, false_and, and_false, and_self, not_true, not_false_eq_true, i10, i01, im0, im12, im21, m1lt, m2lt, m1le, m2le, i00, i0le0, i1le0, i2le0, i3le0, eq_self, ]
      exact g1
    · obtain ⟨a1, a2⟩ := g4 c hc
      have up5 : up2 b 5 c0 (-1) 5 c = if c = c0 then -1 else b 5 c := by
        by_cases e : c = c0
        · subst e; rw [if_pos rfl]; simp (disch := omega) only [ltL, Llt, leL, Lle, eqL, addL, Ladd, subL, subN, decN, eqM, Mle, mulL, nI_add, nI_ltI, nI_leI, nI_eq, nI_clamp, up2_at, nltT, nltF, nleT, nleF, neqT, neqF, ↓reduceIte, true_or, or_true, false_or, or_false, or_self, true_and, and_true, false_and, and_false, and_self, not_true, not_false_eq_true, i10, i01, im0, im12, im21, m1lt, m2lt, m1le, m2le, i00, i0le0, i1le0, i2le0, i3le0, eq_self, ]
        · rw [if_neg e]; simp (disch := omega) only [ltL, Llt, leL, Lle, eqL, addL, Ladd, subL, subN, decN, eqM, Mle, mulL, nI_add, nI_ltI, nI_leI, nI_eq, nI_clamp, up2_at, nltT, nltF, nleT, nleF, neqT, neqF, ↓reduceIte, true_or, or_true, false_or, or_false, or_self, true_and, and_true, false_and, and_false, and_self, not_true, not_false_eq_true, i10, i01, im0, im12, im21, m1lt, m2lt, m1le, m2le, i00, i0le0, i1le0, i2le0, i3le0, eq_self, e]
      rw [up5] at a1
      refine ⟨?_, fun j h1 h2 h3 => ?_⟩
      · rcases a1 with e | e
        · exact Or.inl e
        · by_cases z : c = c0
          · rw [if_pos z] at e; exact Or.inl e
          · rw [if_neg z] at e; exact Or.inr e
      · by_cases z : j = i
        · subst z
          have : c = c0 := by
            rw [ec0] at h3
            have := (nI_eq (by omega) (by omega)).mp h3
            omega
          rw [if_pos this] at a1
          rcases a1 with e | e <;> exact e
        · exact a2 j (by omega) h2 h3
theorem forget_bt {N f : Nat} {b : St} (hN : 34100 < N) (hf : f ≤ 2000) (h6 : b 6 0 = nI f) (hcode : ∀ i, i < f → ∃ c, c < 1000 ∧ b 0 i = nI (4 * c + 1)) (h5 : ∀ c, c < 1000 → (∀ i, i < f → b 0 i ≠ nI (4 * c + 1)) → b 5 c = -1) (hs : Nat → Nat) : ∃ b', f_X0_forget N b = some b' ∧ BT 0 hs b' := by
  obtain ⟨b', g1, g2, g3, g4⟩ := forget_loop (N := N) hf hcode f 0 N b (by omega) (by omega) (fun _ _ => rfl) h6
  refine ⟨b', g1, by omega, g2, fun i hi => absurd hi (by omega), fun c hc => ?_, fun i hi => absurd hi (by omega)⟩
  show b' 5 c = -1
  obtain ⟨a1, a2⟩ := g4 c hc
  by_cases q : ∃ j, j < f ∧ b 0 j = nI (4 * c + 1)
  · obtain ⟨j, hj, e⟩ := q
    exact a2 j (by omega) hj e
  · rcases a1 with e | e
    · exact e
    · rw [e]; exact h5 c hc (fun i hi e => q ⟨i, hi, e⟩)
theorem BT.codes {f : Nat} {hs : Nat → Nat} {b : St} (B : BT f hs b) : (∀ i, i < f → ∃ c, c < 1000 ∧ b 0 i = nI (4 * c + 1)) ∧ ∀ c, c < 1000 → (∀ i, i < f → b 0 i ≠ nI (4 * c + 1)) → b 5 c = -1 := by
  obtain ⟨b1, b2, b3, b4, b5⟩ := B
  refine ⟨fun i hi => ⟨hs i, (b3 i hi).1, (b3 i hi).2⟩, fun c hc h => ?_⟩
  rw [b4 c hc]
  exact lst_none f (fun i hi e => h i hi (by rw [(b3 i hi).2, e]))
