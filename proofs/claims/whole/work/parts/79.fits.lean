/-! PURE: types that fit: the reference's rounds -/
theorem var_back (z : Int32) : (-1 : Int32) - (-1 - z) = z := by
  have h : (-1 : Int32) - z + z = -1 := Int32.sub_add_cancel _ _
  have h2 : (-1 : Int32) - (-1 - z) = (-1 - z + z) - (-1 - z) := by rw [h]
  rw [h2, Int32.add_comm, Int32.add_sub_cancel]
theorem var_neg {v : Nat} (h : v < 1000) : (-1 : Int32) - nI v < 0 := by
  have h1 : (-1 : Int32) - nI v + (nI v + 1) = 0 := by
    rw [← Int32.add_assoc, Int32.sub_add_cancel]; decide
  have h2 : (-1 : Int32) - nI v = nI 0 - nI (v + 1) := by
    rw [← nI_add1]
    show _ = (0 : Int32) - _
    rw [← h1, Int32.add_sub_cancel]
  rw [h2]
  exact pk_sneg (by omega) (by omega)
theorem var_inj {v v' : Nat} (h : v < 1000) (h' : v' < 1000) (e : (-1 : Int32) - nI v = -1 - nI v') : v = v' := by
  have h1 := var_back (nI v)
  rw [e, var_back] at h1
  exact ((nI_eq (by omega) (by omega)).mp h1).symm
/-- what a type becomes by an assignment of its variables, all of them set -/
def ins (θ : Nat → Option Ty) : Ty → Option Ty
  | .add (.int h) (.add A B) => if h < 0 then θ (((-1 : Int32) - h).toNatClampNeg) else (ins θ A).bind fun a => (ins θ B).bind fun b => some (nd h a b)
  | _ => some Term.null
theorem ins_null {θ : Nat → Option Ty} : ins θ Term.null = some Term.null := by rw [ins]; intro _ _ _ e; cases e
theorem ins_var {θ : Nat → Option Ty} {v : Nat} {A B : Ty} (hv : v < 1000) : ins θ (nd (-1 - nI v) A B) = θ v := by
  rw [nd, ins, if_pos (var_neg hv), var_back, nI_clamp (by omega)]
theorem ins_con {θ : Nat → Option Ty} {c : Nat} {A B : Ty} (hc : c < 2 ^ 31) : ins θ (nd (nI c) A B) = (ins θ A).bind fun a => (ins θ B).bind fun b => some (nd (nI c) a b) := by
  rw [nd, ins, if_neg (nn hc)]
theorem ins_mono {θ θ' : Nat → Option Ty} (h : ∀ v τ, θ v = some τ → θ' v = some τ) : ∀ (P : Ty) (τ : Ty), ins θ P = some τ → ins θ' P = some τ
  | .add (.int hd) (.add A B), τ => by
    intro e
    rw [ins] at e ⊢
    split at e
    · rename_i q; rw [if_pos q]; exact h _ _ e
    · rename_i q
      rw [if_neg q]
      cases hA : ins θ A with
      | none => rw [hA] at e; exact absurd e (by simp)
      | some a =>
        cases hB : ins θ B with
        | none => rw [hA, hB] at e; exact absurd e (by simp)
        | some b =>
          rw [hA, hB] at e
          rw [ins_mono h A a hA, ins_mono h B b hB]; exact e
  | P, τ => by
    intro e
    by_cases q : ∃ hd A B, P = .add (.int hd) (.add A B)
    · obtain ⟨hd, A, B, rfl⟩ := q
      rw [ins] at e ⊢
      split at e
      · rename_i q; rw [if_pos q]; exact h _ _ e
      · rename_i q
        rw [if_neg q]
        cases hA : ins θ A with
        | none => rw [hA] at e; exact absurd e (by simp)
        | some a =>
          cases hB : ins θ B with
          | none => rw [hA, hB] at e; exact absurd e (by simp)
          | some b =>
            rw [hA, hB] at e
            rw [ins_mono h A a hA, ins_mono h B b hB]; exact e
    · rw [ins] at e ⊢
      · exact e
      · intro a b c z; exact q ⟨a, b, c, z⟩
      · intro a b c z; exact q ⟨a, b, c, z⟩
/-- the reference's assignment -/
def th (σ : St) : Nat → Option Ty := fun v => if σ 25 v = -1 then none else some (tM σ (σ 25 v))
/-- one round of the reference's search -/
theorem fit_var0 {N f z b d v : Nat} {σ : St} (hz : z < 63) (hb : b < 16000) (hd : d < 16000) (hv : v < 1000) (e22 : σ 22 z = nI b) (e23 : σ 23 z = nI d) (e6 : σ 6 b = -1 - nI v) (e25 : σ 25 v = -1) : f_X5_fits_16 N (f + 1) σ (nI (z + 1)) = f_X5_fits_16 N f (up2 σ 25 v (nI d)) (nI z) := by
  have hneg : ¬ (0 : Int32) ≤ -1 - nI v := Int32.not_le.mpr (var_neg hv)
  have c1 : up2 σ 25 v (nI d) 25 v = nI d := by simp (disch := omega) only [ltL, Llt, leL, Lle, eqL, addL, Ladd, subL, subN, decN, eqM, Mle, mulL, nI_add, nI_ltI, nI_leI, nI_eq, nI_clamp, up2_at, nltT, nltF, nleT, nleF, neqT, neqF, ↓reduceIte, true_or, or_true, false_or, or_false, or_self, true_and, and_true, false_and, and_false, and_self, not_true, not_false_eq_true, i10, i01, im0, im12, im21, m1lt, m2lt, m1le, m2le, i00, i0le0, i1le0, i2le0, i3le0, eq_self, ]
  have ez : nI (z + 1) + -1 = nI z := nI_dec
  rewrite [f_X5_fits_16, ez]
  repeat (first | with_reducible refine bnE ?_ | with_reducible refine exI ?_ | with_reducible refine exJ ?_ | ((with_reducible refine iN ?_ ?_); · simp (disch := omega) only [ltL, Llt, leL, Lle, eqL, addL, Ladd, subL, subN, decN, eqM, Mle, mulL, nI_add, nI_ltI, nI_leI, nI_eq, nI_clamp, up2_at, nltT, nltF, nleT, nleF, neqT, neqF, ↓reduceIte, true_or, or_true, false_or, or_false, or_self, true_and, and_true, false_and, and_false, and_self, not_true, not_false_eq_true, i10, i01, im0, im12, im21, m1lt, m2lt, m1le, m2le, i00, i0le0, i1le0, i2le0, i3le0, eq_self, e22, e23, e6, var_back, e25, hneg]) | ((with_reducible refine ip ?_ ?_); · simp (disch := omega) only [ltL, Llt, leL, Lle, eqL, addL, Ladd, subL, subN, decN, eqM, Mle, mulL, nI_add, nI_ltI, nI_leI, nI_eq, nI_clamp, up2_at, nltT, nltF, nleT, nleF, neqT, neqF, ↓reduceIte, true_or, or_true, false_or, or_false, or_self, true_and, and_true, false_and, and_false, and_self, not_true, not_false_eq_true, i10, i01, im0, im12, im21, m1lt, m2lt, m1le, m2le, i00, i0le0, i1le0, i2le0, i3le0, eq_self, e22, e23, e6, var_back, e25, hneg]))
  rewrite [f_X5_fits_80]
  simp (disch := omega) only [e22, e23, e6, var_back, nI_clamp]
  repeat (first | with_reducible refine bnE ?_ | with_reducible refine exI ?_ | with_reducible refine exJ ?_ | ((with_reducible refine iN ?_ ?_); · simp (disch := omega) only [ltL, Llt, leL, Lle, eqL, addL, Ladd, subL, subN, decN, eqM, Mle, mulL, nI_add, nI_ltI, nI_leI, nI_eq, nI_clamp, up2_at, nltT, nltF, nleT, nleF, neqT, neqF, ↓reduceIte, true_or, or_true, false_or, or_false, or_self, true_and, and_true, false_and, and_false, and_self, not_true, not_false_eq_true, i10, i01, im0, im12, im21, m1lt, m2lt, m1le, m2le, i00, i0le0, i1le0, i2le0, i3le0, eq_self, c1]) | ((with_reducible refine ip ?_ ?_); · simp (disch := omega) only [ltL, Llt, leL, Lle, eqL, addL, Ladd, subL, subN, decN, eqM, Mle, mulL, nI_add, nI_ltI, nI_leI, nI_eq, nI_clamp, up2_at, nltT, nltF, nleT, nleF, neqT, neqF, ↓reduceIte, true_or, or_true, false_or, or_false, or_self, true_and, and_true, false_and, and_false, and_self, not_true, not_false_eq_true, i10, i01, im0, im12, im21, m1lt, m2lt, m1le, m2le, i00, i0le0, i1le0, i2le0, i3le0, eq_self, c1]))
  rfl
theorem fit_var1 {N f z b d v : Nat} {σ : St} (hz : z < 63) (hb : b < 16000) (hd : d < 16000) (hv : v < 1000) (e22 : σ 22 z = nI b) (e23 : σ 23 z = nI d) (e6 : σ 6 b = -1 - nI v) (e25 : ¬ σ 25 v = -1) : f_X5_fits_16 N (f + 1) σ (nI (z + 1)) = if σ 25 v = nI d then f_X5_fits_16 N f σ (nI z) else some (0, σ) := by
  have hneg : ¬ (0 : Int32) ≤ -1 - nI v := Int32.not_le.mpr (var_neg hv)
  have ez : nI (z + 1) + -1 = nI z := nI_dec
  rewrite [f_X5_fits_16, ez]
  repeat (first | with_reducible refine bnE ?_ | with_reducible refine exI ?_ | with_reducible refine exJ ?_ | ((with_reducible refine iN ?_ ?_); · simp (disch := omega) only [ltL, Llt, leL, Lle, eqL, addL, Ladd, subL, subN, decN, eqM, Mle, mulL, nI_add, nI_ltI, nI_leI, nI_eq, nI_clamp, up2_at, nltT, nltF, nleT, nleF, neqT, neqF, ↓reduceIte, true_or, or_true, false_or, or_false, or_self, true_and, and_true, false_and, and_false, and_self, not_true, not_false_eq_true, i10, i01, im0, im12, im21, m1lt, m2lt, m1le, m2le, i00, i0le0, i1le0, i2le0, i3le0, eq_self, e22, e23, e6, var_back, e25, hneg]) | ((with_reducible refine ip ?_ ?_); · simp (disch := omega) only [ltL, Llt, leL, Lle, eqL, addL, Ladd, subL, subN, decN, eqM, Mle, mulL, nI_add, nI_ltI, nI_leI, nI_eq, nI_clamp, up2_at, nltT, nltF, nleT, nleF, neqT, neqF, ↓reduceIte, true_or, or_true, false_or, or_false, or_self, true_and, and_true, false_and, and_false, and_self, not_true, not_false_eq_true, i10, i01, im0, im12, im21, m1lt, m2lt, m1le, m2le, i00, i0le0, i1le0, i2le0, i3le0, eq_self, e22, e23, e6, var_back, e25, hneg]))
  rewrite [f_X5_fits_80]
  simp (disch := omega) only [e22, e23, e6, var_back, nI_clamp]
  repeat (first | with_reducible refine bnE ?_ | with_reducible refine exI ?_ | with_reducible refine exJ ?_ | ((with_reducible refine iN ?_ ?_); · simp (disch := omega) only [ltL, Llt, leL, Lle, eqL, addL, Ladd, subL, subN, decN, eqM, Mle, mulL, nI_add, nI_ltI, nI_leI, nI_eq, nI_clamp, up2_at, nltT, nltF, nleT, nleF, neqT, neqF, ↓reduceIte, true_or, or_true, false_or, or_false, or_self, true_and, and_true, false_and, and_false, and_self, not_true, not_false_eq_true, i10, i01, im0, im12, im21, m1lt, m2lt, m1le, m2le, i00, i0le0, i1le0, i2le0, i3le0, eq_self]) | ((with_reducible refine ip ?_ ?_); · simp (disch := omega) only [ltL, Llt, leL, Lle, eqL, addL, Ladd, subL, subN, decN, eqM, Mle, mulL, nI_add, nI_ltI, nI_leI, nI_eq, nI_clamp, up2_at, nltT, nltF, nleT, nleF, neqT, neqF, ↓reduceIte, true_or, or_true, false_or, or_false, or_self, true_and, and_true, false_and, and_false, and_self, not_true, not_false_eq_true, i10, i01, im0, im12, im21, m1lt, m2lt, m1le, m2le, i00, i0le0, i1le0, i2le0, i3le0, eq_self]))
  rfl
theorem fit_ne {N f z b d : Nat} {σ : St} (hz : z < 63) (hb : b < 16000) (hd : d < 16000) (e22 : σ 22 z = nI b) (e23 : σ 23 z = nI d) (e6 : 0 ≤ σ 6 b) (hne : ¬ σ 6 b = σ 6 d) : f_X5_fits_16 N (f + 1) σ (nI (z + 1)) = some (0, σ) := by
  have ez : nI (z + 1) + -1 = nI z := nI_dec
  rewrite [f_X5_fits_16, ez]
  repeat (first | with_reducible refine bnE ?_ | with_reducible refine exI ?_ | with_reducible refine exJ ?_ | ((with_reducible refine iN ?_ ?_); · simp (disch := omega) only [ltL, Llt, leL, Lle, eqL, addL, Ladd, subL, subN, decN, eqM, Mle, mulL, nI_add, nI_ltI, nI_leI, nI_eq, nI_clamp, up2_at, nltT, nltF, nleT, nleF, neqT, neqF, ↓reduceIte, true_or, or_true, false_or, or_false, or_self, true_and, and_true, false_and, and_false, and_self, not_true, not_false_eq_true, i10, i01, im0, im12, im21, m1lt, m2lt, m1le, m2le, i00, i0le0, i1le0, i2le0, i3le0, eq_self, e22, e23, e6, hne]) | ((with_reducible refine ip ?_ ?_); · simp (disch := omega) only [ltL, Llt, leL, Lle, eqL, addL, Ladd, subL, subN, decN, eqM, Mle, mulL, nI_add, nI_ltI, nI_leI, nI_eq, nI_clamp, up2_at, nltT, nltF, nleT, nleF, neqT, neqF, ↓reduceIte, true_or, or_true, false_or, or_false, or_self, true_and, and_true, false_and, and_false, and_self, not_true, not_false_eq_true, i10, i01, im0, im12, im21, m1lt, m2lt, m1le, m2le, i00, i0le0, i1le0, i2le0, i3le0, eq_self, e22, e23, e6, hne]))
  rfl
theorem fit_kid0 {N f z b d : Nat} {σ : St} (hz : z < 63) (hb : b < 16000) (hd : d < 16000) (e22 : σ 22 z = nI b) (e23 : σ 23 z = nI d) (e6 : 0 ≤ σ 6 b) (he : σ 6 b = σ 6 d) (k1 : σ 7 b = -1) (k2 : σ 8 b = -1) : f_X5_fits_16 N (f + 1) σ (nI (z + 1)) = f_X5_fits_16 N f σ (nI z) := by
  have ez : nI (z + 1) + -1 = nI z := nI_dec
  have e6' : 0 ≤ σ 6 d := by rw [← he]; exact e6
  rewrite [f_X5_fits_16, ez]
  repeat (first | with_reducible refine bnE ?_ | with_reducible refine exI ?_ | with_reducible refine exJ ?_ | ((with_reducible refine iN ?_ ?_); · simp (disch := omega) only [ltL, Llt, leL, Lle, eqL, addL, Ladd, subL, subN, decN, eqM, Mle, mulL, nI_add, nI_ltI, nI_leI, nI_eq, nI_clamp, up2_at, nltT, nltF, nleT, nleF, neqT, neqF, ↓reduceIte, true_or, or_true, false_or, or_false, or_self, true_and, and_true, false_and, and_false, and_self, not_true, not_false_eq_true, i10, i01, im0, im12, im21, m1lt, m2lt, m1le, m2le, i00, i0le0, i1le0, i2le0, i3le0, eq_self, e22, e23, he, e6', k2]) | ((with_reducible refine ip ?_ ?_); · simp (disch := omega) only [ltL, Llt, leL, Lle, eqL, addL, Ladd, subL, subN, decN, eqM, Mle, mulL, nI_add, nI_ltI, nI_leI, nI_eq, nI_clamp, up2_at, nltT, nltF, nleT, nleF, neqT, neqF, ↓reduceIte, true_or, or_true, false_or, or_false, or_self, true_and, and_true, false_and, and_false, and_self, not_true, not_false_eq_true, i10, i01, im0, im12, im21, m1lt, m2lt, m1le, m2le, i00, i0le0, i1le0, i2le0, i3le0, eq_self, e22, e23, he, e6', k2]))
  rewrite [f_X5_fits_153]
  repeat (first | with_reducible refine bnE ?_ | with_reducible refine exI ?_ | with_reducible refine exJ ?_ | ((with_reducible refine iN ?_ ?_); · simp (disch := omega) only [ltL, Llt, leL, Lle, eqL, addL, Ladd, subL, subN, decN, eqM, Mle, mulL, nI_add, nI_ltI, nI_leI, nI_eq, nI_clamp, up2_at, nltT, nltF, nleT, nleF, neqT, neqF, ↓reduceIte, true_or, or_true, false_or, or_false, or_self, true_and, and_true, false_and, and_false, and_self, not_true, not_false_eq_true, i10, i01, im0, im12, im21, m1lt, m2lt, m1le, m2le, i00, i0le0, i1le0, i2le0, i3le0, eq_self, e22, k1]) | ((with_reducible refine ip ?_ ?_); · simp (disch := omega) only [ltL, Llt, leL, Lle, eqL, addL, Ladd, subL, subN, decN, eqM, Mle, mulL, nI_add, nI_ltI, nI_leI, nI_eq, nI_clamp, up2_at, nltT, nltF, nleT, nleF, neqT, neqF, ↓reduceIte, true_or, or_true, false_or, or_false, or_self, true_and, and_true, false_and, and_false, and_self, not_true, not_false_eq_true, i10, i01, im0, im12, im21, m1lt, m2lt, m1le, m2le, i00, i0le0, i1le0, i2le0, i3le0, eq_self, e22, k1]))
  rfl
theorem fit_kid1 {N f z b d : Nat} {σ : St} {u u' : Int32} (hz : z < 63) (hb : b < 16000) (hd : d < 16000) (e22 : σ 22 z = nI b) (e23 : σ 23 z = nI d) (e6 : 0 ≤ σ 6 b) (he : σ 6 b = σ 6 d) (k1 : σ 7 b = u) (n1 : ¬ u = -1) (k1' : σ 7 d = u') (k2 : σ 8 b = -1) : f_X5_fits_16 N (f + 1) σ (nI (z + 1)) = f_X5_fits_16 N f (up2 (up2 σ 22 z u) 23 z u') (nI (z + 1)) := by
  have ez : nI (z + 1) + -1 = nI z := nI_dec
  have e6' : 0 ≤ σ 6 d := by rw [← he]; exact e6
  rewrite [f_X5_fits_16, ez]
  repeat (first | with_reducible refine bnE ?_ | with_reducible refine exI ?_ | with_reducible refine exJ ?_ | ((with_reducible refine iN ?_ ?_); · simp (disch := omega) only [ltL, Llt, leL, Lle, eqL, addL, Ladd, subL, subN, decN, eqM, Mle, mulL, nI_add, nI_ltI, nI_leI, nI_eq, nI_clamp, up2_at, nltT, nltF, nleT, nleF, neqT, neqF, ↓reduceIte, true_or, or_true, false_or, or_false, or_self, true_and, and_true, false_and, and_false, and_self, not_true, not_false_eq_true, i10, i01, im0, im12, im21, m1lt, m2lt, m1le, m2le, i00, i0le0, i1le0, i2le0, i3le0, eq_self, e22, e23, he, e6', k2]) | ((with_reducible refine ip ?_ ?_); · simp (disch := omega) only [ltL, Llt, leL, Lle, eqL, addL, Ladd, subL, subN, decN, eqM, Mle, mulL, nI_add, nI_ltI, nI_leI, nI_eq, nI_clamp, up2_at, nltT, nltF, nleT, nleF, neqT, neqF, ↓reduceIte, true_or, or_true, false_or, or_false, or_self, true_and, and_true, false_and, and_false, and_self, not_true, not_false_eq_true, i10, i01, im0, im12, im21, m1lt, m2lt, m1le, m2le, i00, i0le0, i1le0, i2le0, i3le0, eq_self, e22, e23, he, e6', k2]))
  rewrite [f_X5_fits_153]
  repeat (first | with_reducible refine bnE ?_ | with_reducible refine exI ?_ | with_reducible refine exJ ?_ | ((with_reducible refine iN ?_ ?_); · simp (disch := omega) only [ltL, Llt, leL, Lle, eqL, addL, Ladd, subL, subN, decN, eqM, Mle, mulL, nI_add, nI_ltI, nI_leI, nI_eq, nI_clamp, up2_at, nltT, nltF, nleT, nleF, neqT, neqF, ↓reduceIte, true_or, or_true, false_or, or_false, or_self, true_and, and_true, false_and, and_false, and_self, not_true, not_false_eq_true, i10, i01, im0, im12, im21, m1lt, m2lt, m1le, m2le, i00, i0le0, i1le0, i2le0, i3le0, eq_self, e22, e23, k1, n1]) | ((with_reducible refine ip ?_ ?_); · simp (disch := omega) only [ltL, Llt, leL, Lle, eqL, addL, Ladd, subL, subN, decN, eqM, Mle, mulL, nI_add, nI_ltI, nI_leI, nI_eq, nI_clamp, up2_at, nltT, nltF, nleT, nleF, neqT, neqF, ↓reduceIte, true_or, or_true, false_or, or_false, or_self, true_and, and_true, false_and, and_false, and_self, not_true, not_false_eq_true, i10, i01, im0, im12, im21, m1lt, m2lt, m1le, m2le, i00, i0le0, i1le0, i2le0, i3le0, eq_self, e22, e23, k1, n1]))
  rewrite [f_X5_fits_193]
  simp (disch := omega) only [ltL, Llt, leL, Lle, eqL, addL, Ladd, subL, subN, decN, eqM, Mle, mulL, nI_add, nI_ltI, nI_leI, nI_eq, nI_clamp, up2_at, nltT, nltF, nleT, nleF, neqT, neqF, ↓reduceIte, true_or, or_true, false_or, or_false, or_self, true_and, and_true, false_and, and_false, and_self, not_true, not_false_eq_true, i10, i01, im0, im12, im21, m1lt, m2lt, m1le, m2le, i00, i0le0, i1le0, i2le0, i3le0, eq_self, e22, e23, k1, k1']
theorem fit_kid2 {N f z b d : Nat} {σ : St} {u u' v v' : Int32} (hz : z < 62) (hb : b < 16000) (hd : d < 16000) (e22 : σ 22 z = nI b) (e23 : σ 23 z = nI d) (e6 : 0 ≤ σ 6 b) (he : σ 6 b = σ 6 d) (k1 : σ 7 b = u) (n1 : ¬ u = -1) (k1' : σ 7 d = u') (k2 : σ 8 b = v) (n2 : ¬ v = -1) (k2' : σ 8 d = v') : f_X5_fits_16 N (f + 1) σ (nI (z + 1)) = f_X5_fits_16 N f (up2 (up2 (up2 (up2 σ 22 z v) 23 z v') 22 (z + 1) u) 23 (z + 1) u') (nI (z + 2)) := by
  have ez : nI (z + 1) + -1 = nI z := nI_dec
  have e6' : 0 ≤ σ 6 d := by rw [← he]; exact e6
  rewrite [f_X5_fits_16, ez]
  repeat (first | with_reducible refine bnE ?_ | with_reducible refine exI ?_ | with_reducible refine exJ ?_ | ((with_reducible refine iN ?_ ?_); · simp (disch := omega) only [ltL, Llt, leL, Lle, eqL, addL, Ladd, subL, subN, decN, eqM, Mle, mulL, nI_add, nI_ltI, nI_leI, nI_eq, nI_clamp, up2_at, nltT, nltF, nleT, nleF, neqT, neqF, ↓reduceIte, true_or, or_true, false_or, or_false, or_self, true_and, and_true, false_and, and_false, and_self, not_true, not_false_eq_true, i10, i01, im0, im12, im21, m1lt, m2lt, m1le, m2le, i00, i0le0, i1le0, i2le0, i3le0, eq_self, e22, e23, he, e6', k2, n2]) | ((with_reducible refine ip ?_ ?_); · simp (disch := omega) only [ltL, Llt, leL, Lle, eqL, addL, Ladd, subL, subN, decN, eqM, Mle, mulL, nI_add, nI_ltI, nI_leI, nI_eq, nI_clamp, up2_at, nltT, nltF, nleT, nleF, neqT, neqF, ↓reduceIte, true_or, or_true, false_or, or_false, or_self, true_and, and_true, false_and, and_false, and_self, not_true, not_false_eq_true, i10, i01, im0, im12, im21, m1lt, m2lt, m1le, m2le, i00, i0le0, i1le0, i2le0, i3le0, eq_self, e22, e23, he, e6', k2, n2]))
  rewrite [f_X5_fits_153]
  repeat (first | with_reducible refine bnE ?_ | with_reducible refine exI ?_ | with_reducible refine exJ ?_ | ((with_reducible refine iN ?_ ?_); · simp (disch := omega) only [ltL, Llt, leL, Lle, eqL, addL, Ladd, subL, subN, decN, eqM, Mle, mulL, nI_add, nI_ltI, nI_leI, nI_eq, nI_clamp, up2_at, nltT, nltF, nleT, nleF, neqT, neqF, ↓reduceIte, true_or, or_true, false_or, or_false, or_self, true_and, and_true, false_and, and_false, and_self, not_true, not_false_eq_true, i10, i01, im0, im12, im21, m1lt, m2lt, m1le, m2le, i00, i0le0, i1le0, i2le0, i3le0, eq_self, e22, e23, k1, n1]) | ((with_reducible refine ip ?_ ?_); · simp (disch := omega) only [ltL, Llt, leL, Lle, eqL, addL, Ladd, subL, subN, decN, eqM, Mle, mulL, nI_add, nI_ltI, nI_leI, nI_eq, nI_clamp, up2_at, nltT, nltF, nleT, nleF, neqT, neqF, ↓reduceIte, true_or, or_true, false_or, or_false, or_self, true_and, and_true, false_and, and_false, and_self, not_true, not_false_eq_true, i10, i01, im0, im12, im21, m1lt, m2lt, m1le, m2le, i00, i0le0, i1le0, i2le0, i3le0, eq_self, e22, e23, k1, n1]))
  rewrite [f_X5_fits_193]
  simp (disch := omega) only [ltL, Llt, leL, Lle, eqL, addL, Ladd, subL, subN, decN, eqM, Mle, mulL, nI_add, nI_ltI, nI_leI, nI_eq, nI_clamp, up2_at, nltT, nltF, nleT, nleF, neqT, neqF, ↓reduceIte, true_or, or_true, false_or, or_false, or_self, true_and, and_true, false_and, and_false, and_self, not_true, not_false_eq_true, i10, i01, im0, im12, im21, m1lt, m2lt, m1le, m2le, i00, i0le0, i1le0, i2le0, i3le0, eq_self, e22, e23, k1, k1', k2, k2']
