/-! PURE: the class's fits, beside the reference's -/
abbrev YF (yb y : St) : Prop := ∀ r, r ≠ 7 → r ≠ 8 → y r = yb r
abbrev SF (σb σ : St) : Prop := ∀ r, r ≠ 22 → r ≠ 23 → r ≠ 25 → σ r = σb r
/-- images and what the variables became, u the stamp -/
def FI (n u : Nat) (yb σb y σ : St) : Prop := yb 11 0 = nI u ∧ (∀ v, v < 1000 → σ 25 v = -1 ∨ Kd n (σ 25 v)) ∧ (∀ k, k < n → y 8 k = nI u → Kd n (y 7 k) ∧ ins (thr σb (σ 25)) (tC yb (nI k)) = some (tC yb (y 7 k))) ∧ ∀ k v, k < n → v < 1000 → yb 0 k = -1 - nI v → (y 8 k = nI u ↔ ¬ σ 25 v = -1)
theorem thr_mono {σb : St} {r r' : Nat → Int32} (h : ∀ v, ¬ r v = -1 → r' v = r v) : ∀ v τ, thr σb r v = some τ → thr σb r' v = some τ := by
  intro v τ e
  rw [thr] at e ⊢
  by_cases q : r v = -1
  · rw [if_pos q] at e; exact absurd e (by simp)
  · rw [if_neg q] at e
    rw [h v q, if_neg q]; exact e
theorem fits_null {N d : Nat} {y : St} {x3 : Int32} : f_X2_fitsWithin N (d + 1) y (-1) (-1) x3 = some (1, y) := by
  rewrite [f_X2_fitsWithin, f_X2_fitsWithin_step]
  refine ip rfl ?_
  rewrite [f_X2_fitsWithin_10]
  refine ip rfl ?_
  rfl
theorem hasImage_ok {N a : Nat} {y : St} (h : a < 8000) : f_X2_hasImage N y (nI a) = some ((if y 8 a = y 11 0 then 1 else 0), y) := by
  have hr := rd_in (N := N) (g := y 8) h (by omega)
  by_cases q : y 8 a = y 11 0
  · rw [if_pos q]
    rewrite [f_X2_hasImage]
    refine bs hr (ip q ?_)
    rfl
  · rw [if_neg q]
    rewrite [f_X2_hasImage]
    refine bs hr (iN q ?_)
    rfl
theorem setImage_ok {N a : Nat} {y : St} {v : Int32} (h : a < 8000) : f_X2_setImage N y (nI a) v = some (up2 (up2 y 7 a v) 8 a (y 11 0)) := by
  rewrite [f_X2_setImage]
  repeat (first | with_reducible refine bnE ?_ | with_reducible refine exI ?_ | with_reducible refine exJ ?_ | ((with_reducible refine iN ?_ ?_); · simp (disch := omega) only [ltL, Llt, leL, Lle, eqL, addL, Ladd, subL, subN, decN, eqM, Mle, mulL, nI_add, nI_ltI, nI_leI, nI_eq, nI_clamp, up2_at, nltT, nltF, nleT, nleF, neqT, neqF, ↓reduceIte, true_or, or_true, false_or, or_false, or_self, true_and, and_true, false_and, and_false, and_self, not_true, not_false_eq_true, i10, i01, im0, im12, im21, m1lt, m2lt, m1le, m2le, i00, i0le0, i1le0, i2le0, i3le0, eq_self]) | ((with_reducible refine ip ?_ ?_); · simp (disch := omega) only [ltL, Llt, leL, Lle, eqL, addL, Ladd, subL, subN, decN, eqM, Mle, mulL, nI_add, nI_ltI, nI_leI, nI_eq, nI_clamp, up2_at, nltT, nltF, nleT, nleF, neqT, neqF, ↓reduceIte, true_or, or_true, false_or, or_false, or_self, true_and, and_true, false_and, and_false, and_self, not_true, not_false_eq_true, i10, i01, im0, im12, im21, m1lt, m2lt, m1le, m2le, i00, i0le0, i1le0, i2le0, i3le0, eq_self]))
  rewrite [f_X2_setImage_28]
  simp (disch := omega) only [ltL, Llt, leL, Lle, eqL, addL, Ladd, subL, subN, decN, eqM, Mle, mulL, nI_add, nI_ltI, nI_leI, nI_eq, nI_clamp, up2_at, nltT, nltF, nleT, nleF, neqT, neqF, ↓reduceIte, true_or, or_true, false_or, or_false, or_self, true_and, and_true, false_and, and_false, and_self, not_true, not_false_eq_true, i10, i01, im0, im12, im21, m1lt, m2lt, m1le, m2le, i00, i0le0, i1le0, i2le0, i3le0, eq_self, ]
/-- the memory after an image more -/
theorem FI.set {n u a c q : Nat} {g : Nat → Int32} {yb σb y σ : St} (I : I1 n g q yb σb) (F : FI n u yb σb y σ) (hy : YF yb y) (ha : a < n) (hc : c < n) (hins : ins (thr σb (σ 25)) (tC yb (nI a)) = some (tC yb (nI c))) (hvar : ∀ k v, k < n → v < 1000 → yb 0 k = -1 - nI v → k = a → ¬ σ 25 v = -1) : FI n u yb σb (up2 (up2 y 7 a (nI c)) 8 a (y 11 0)) σ ∧ YF yb (up2 (up2 y 7 a (nI c)) 8 a (y 11 0)) ∧ ∀ k, (up2 (up2 y 7 a (nI c)) 8 a (y 11 0)) 8 k = y 8 k ∨ (up2 (up2 y 7 a (nI c)) 8 a (y 11 0)) 8 k = nI u := by
  obtain ⟨F1, F2, F3, F4⟩ := F
  have e11 : y 11 0 = nI u := by rw [hy 11 (by decide) (by decide)]; exact F1
  have z8 : ∀ k, up2 (up2 y 7 a (nI c)) 8 a (y 11 0) 8 k = if k = a then nI u else y 8 k := fun k => by
    by_cases e : k = a
    · subst e; rw [if_pos rfl]; simp (disch := omega) only [ltL, Llt, leL, Lle, eqL, addL, Ladd, subL, subN, decN, eqM, Mle, mulL, nI_add, nI_ltI, nI_leI, nI_eq, nI_clamp, up2_at, nltT, nltF, nleT, nleF, neqT, neqF, ↓reduceIte, true_or, or_true, false_or, or_false, or_self, true_and, and_true, false_and, and_false, and_self, not_true, not_false_eq_true, i10, i01, im0, im12, im21, m1lt, m2lt, m1le, m2le, i00, i0le0, i1le0, i2le0, i3le0, eq_self, ]; exact e11
    · rw [if_neg e]; simp (disch := omega) only [ltL, Llt, leL, Lle, eqL, addL, Ladd, subL, subN, decN, eqM, Mle, mulL, nI_add, nI_ltI, nI_leI, nI_eq, nI_clamp, up2_at, nltT, nltF, nleT, nleF, neqT, neqF, ↓reduceIte, true_or, or_true, false_or, or_false, or_self, true_and, and_true, false_and, and_false, and_self, not_true, not_false_eq_true, i10, i01, im0, im12, im21, m1lt, m2lt, m1le, m2le, i00, i0le0, i1le0, i2le0, i3le0, eq_self, e]
  have z7 : ∀ k, up2 (up2 y 7 a (nI c)) 8 a (y 11 0) 7 k = if k = a then nI c else y 7 k := fun k => by
    by_cases e : k = a
    · subst e; rw [if_pos rfl]; simp (disch := omega) only [ltL, Llt, leL, Lle, eqL, addL, Ladd, subL, subN, decN, eqM, Mle, mulL, nI_add, nI_ltI, nI_leI, nI_eq, nI_clamp, up2_at, nltT, nltF, nleT, nleF, neqT, neqF, ↓reduceIte, true_or, or_true, false_or, or_false, or_self, true_and, and_true, false_and, and_false, and_self, not_true, not_false_eq_true, i10, i01, im0, im12, im21, m1lt, m2lt, m1le, m2le, i00, i0le0, i1le0, i2le0, i3le0, eq_self, ]
    · rw [if_neg e]; simp (disch := omega) only [ltL, Llt, leL, Lle, eqL, addL, Ladd, subL, subN, decN, eqM, Mle, mulL, nI_add, nI_ltI, nI_leI, nI_eq, nI_clamp, up2_at, nltT, nltF, nleT, nleF, neqT, neqF, ↓reduceIte, true_or, or_true, false_or, or_false, or_self, true_and, and_true, false_and, and_false, and_self, not_true, not_false_eq_true, i10, i01, im0, im12, im21, m1lt, m2lt, m1le, m2le, i00, i0le0, i1le0, i2le0, i3le0, eq_self, e]
  refine ⟨⟨F1, F2, fun k hk h8 => ?_, fun k v hk hv e0 => ?_⟩, fun r h7 h8 => by rw [up2_row h8, up2_row h7]; exact hy r h7 h8, fun k => ?_⟩
  · rw [z8] at h8
    rw [z7]
    by_cases e : k = a
    · subst e; rw [if_pos rfl]; exact ⟨⟨c, hc, rfl⟩, hins⟩
    · rw [if_neg e] at h8 ⊢; exact F3 k hk h8
  · rw [z8]
    by_cases e : k = a
    · rw [if_pos e]
      exact ⟨fun _ => hvar k v hk hv e0 e, fun _ => rfl⟩
    · rw [if_neg e]; exact F4 k v hk hv e0
  · rw [z8]
    by_cases e : k = a
    · rw [if_pos e]; exact Or.inr rfl
    · rw [if_neg e]; exact Or.inl rfl
theorem fits_ok {N n q u : Nat} {g : Nat → Int32} {yb σb : St} (I : I1 n g q yb σb) (hq : q ≤ 40) :
    ∀ a b c d z f lev dd y σ, a < n → b < n → c < n → d < n → tC yb (nI a) = tM σb (nI b) → tC yb (nI c) = tM σb (nI d) → YF yb y → SF σb σ → FI n u yb σb y σ → σ 22 z = nI b → σ 23 z = nI d → z + hg (tC yb (nI a)) ≤ 63 → hg (tC yb (nI a)) ≤ lev → lev < dd → dd ≤ 100 → sz (tC yb (nI a)) < f →
      ∃ y', YF yb y' ∧ (∀ k, y' 8 k = y 8 k ∨ y' 8 k = nI u) ∧ ((f_X2_fitsWithin N dd y (nI a) (nI c) (nI lev) = some (1, y') ∧ ∃ σ', f_X5_fits_16 N f σ (nI (z + 1)) = f_X5_fits_16 N (f - sz (tC yb (nI a))) σ' (nI z) ∧ SF σb σ' ∧ (∀ i, i < z → σ' 22 i = σ 22 i ∧ σ' 23 i = σ 23 i) ∧ FI n u yb σb y' σ' ∧ ins (thr σb (σ' 25)) (tC yb (nI a)) = some (tC yb (nI c)) ∧ (∀ v, ¬ σ 25 v = -1 → σ' 25 v = σ 25 v) ∧ y' 8 a = nI u ∧ y' 7 a = nI c) ∨ (f_X2_fitsWithin N dd y (nI a) (nI c) (nI lev) = some (0, y') ∧ ∃ σ', f_X5_fits_16 N f σ (nI (z + 1)) = some (0, σ') ∧ SF σb σ')) := by
  obtain ⟨T, M, -⟩ := id I
  have hn := T.1
  intro a
  induction a using Nat.strongRecOn with
  | _ a ih =>
    intro b c d z f lev dd y σ ha hb hc hd eab ecd hy hs F e22 e23 hz hlev hdd hdd' hf
    obtain ⟨dd, rfl⟩ : ∃ w, dd = w + 1 := ⟨dd - 1, by omega⟩
    obtain ⟨F1, F2, F3, F4⟩ := id F
    have e11 : y 11 0 = nI u := by rw [hy 11 (by decide) (by decide)]; exact F1
    have hpos := sz_pos T ha
    obtain ⟨e0, hk⟩ := RT.kids I hq ha hb eab
    obtain ⟨e0', hk'⟩ := RT.kids I hq hc hd ecd
    obtain ⟨eta, hcs⟩ := hd_cases I hq ha
    obtain ⟨etc, -⟩ := hd_cases I hq hc
    have r6 : σ 6 = σb 6 := hs 6 (by decide) (by decide) (by decide)
    have r7 : σ 7 = σb 7 := hs 7 (by decide) (by decide) (by decide)
    have r8 : σ 8 = σb 8 := hs 8 (by decide) (by decide) (by decide)
    have y0 : ∀ k, y 0 k = yb 0 k := fun k => by rw [hy 0 (by decide) (by decide)]
    have y1 : ∀ k, y 1 k = yb 1 k := fun k => by rw [hy 1 (by decide) (by decide)]
    have y2 : ∀ k, y 2 k = yb 2 k := fun k => by rw [hy 2 (by decide) (by decide)]
    have him := hasImage_ok (N := N) (y := y) (by omega : a < 8000)
    rw [e11] at him
    have na : ¬ nI a = -1 := nI_ne_m1 (by omega)
    have nc : ¬ nI c = -1 := nI_ne_m1 (by omega)
    by_cases memo : y 8 a = nI u
    · -- seen since the stamp
      rw [if_pos memo] at him
      obtain ⟨⟨gg, hgg, eg⟩, hins⟩ := F3 a ha memo
      have hrd := rd_in (N := N) (g := y 7) (by omega : a < 8000) (by omega)
      rw [eg] at hrd hins
      have hC : f_X2_fitsWithin N (dd + 1) y (nI a) (nI c) (nI lev) = some ((if nI gg = nI c then 1 else 0), y) := by
        by_cases q : nI gg = nI c
        · have e : (if nI gg = nI c then (1 : Int32) else 0) = 1 := if_pos q
          rewrite [e, f_X2_fitsWithin, f_X2_fitsWithin_step]
          repeat (first | with_reducible refine bnE ?_ | with_reducible refine exI ?_ | with_reducible refine exJ ?_ | with_reducible refine bs (him) ?_ | with_reducible refine bs (hrd) ?_ | ((with_reducible refine iN ?_ ?_); · simp (disch := omega) only [ltL, Llt, leL, Lle, eqL, addL, Ladd, subL, subN, decN, eqM, Mle, mulL, nI_add, nI_ltI, nI_leI, nI_eq, nI_clamp, up2_at, nltT, nltF, nleT, nleF, neqT, neqF, ↓reduceIte, true_or, or_true, false_or, or_false, or_self, true_and, and_true, false_and, and_false, and_self, not_true, not_false_eq_true, i10, i01, im0, im12, im21, m1lt, m2lt, m1le, m2le, i00, i0le0, i1le0, i2le0, i3le0, eq_self, na, nc]) | ((with_reducible refine ip ?_ ?_); · simp (disch := omega) only [ltL, Llt, leL, Lle, eqL, addL, Ladd, subL, subN, decN, eqM, Mle, mulL, nI_add, nI_ltI, nI_leI, nI_eq, nI_clamp, up2_at, nltT, nltF, nleT, nleF, neqT, neqF, ↓reduceIte, true_or, or_true, false_or, or_false, or_self, true_and, and_true, false_and, and_false, and_self, not_true, not_false_eq_true, i10, i01, im0, im12, im21, m1lt, m2lt, m1le, m2le, i00, i0le0, i1le0, i2le0, i3le0, eq_self, na, nc]))
          refine ip q ?_
          rfl
        · have e : (if nI gg = nI c then (1 : Int32) else 0) = 0 := if_neg q
          rewrite [e, f_X2_fitsWithin, f_X2_fitsWithin_step]
          repeat (first | with_reducible refine bnE ?_ | with_reducible refine exI ?_ | with_reducible refine exJ ?_ | with_reducible refine bs (him) ?_ | with_reducible refine bs (hrd) ?_ | ((with_reducible refine iN ?_ ?_); · simp (disch := omega) only [ltL, Llt, leL, Lle, eqL, addL, Ladd, subL, subN, decN, eqM, Mle, mulL, nI_add, nI_ltI, nI_leI, nI_eq, nI_clamp, up2_at, nltT, nltF, nleT, nleF, neqT, neqF, ↓reduceIte, true_or, or_true, false_or, or_false, or_self, true_and, and_true, false_and, and_false, and_self, not_true, not_false_eq_true, i10, i01, im0, im12, im21, m1lt, m2lt, m1le, m2le, i00, i0le0, i1le0, i2le0, i3le0, eq_self, na, nc]) | ((with_reducible refine ip ?_ ?_); · simp (disch := omega) only [ltL, Llt, leL, Lle, eqL, addL, Ladd, subL, subN, decN, eqM, Mle, mulL, nI_add, nI_ltI, nI_leI, nI_eq, nI_clamp, up2_at, nltT, nltF, nleT, nleF, neqT, neqF, ↓reduceIte, true_or, or_true, false_or, or_false, or_self, true_and, and_true, false_and, and_false, and_self, not_true, not_false_eq_true, i10, i01, im0, im12, im21, m1lt, m2lt, m1le, m2le, i00, i0le0, i1le0, i2le0, i3le0, eq_self, na, nc]))
          refine iN q ?_
          rfl
      refine ⟨y, hy, fun k => Or.inl rfl, ?_⟩
      rcases fit_check (N := N) I hq F2 a b c d z f σ _ ha hb hc hd eab ecd hs rfl e22 e23 hz hins hf with ⟨g1, σ', g2, g3, g4, g5⟩ | ⟨g1, σ', g2, g3⟩
      · have : nI gg = nI c := (tT_inj T.2.2.2.1 T.2.2.2.2.1 (by omega) _ _ (Or.inr ⟨c, hc, rfl⟩) (Or.inr ⟨gg, hgg, rfl⟩) g1).symm
        rw [if_pos this] at hC
        refine Or.inl ⟨hC, σ', g2, g3, g5, ⟨F1, by rw [g4]; exact F2, by rw [g4]; exact F3, by rw [g4]; exact F4⟩, by rw [g4, ← this]; exact hins, fun v _ => by rw [g4], memo, by rw [eg]; exact this⟩
      · rw [if_neg (fun q => g1 (by rw [q]))] at hC
        exact Or.inr ⟨hC, σ', g2, g3⟩
    · rw [if_neg memo] at him
      have hset := setImage_ok (N := N) (y := y) (v := nI c) (by omega : a < 8000)
      have hhd := head_in (N := N) (y := y) (by omega : a < 8000)
      rw [y0] at hhd
      rcases hcs with ⟨v, hv, ev, ek1, ek2⟩ | ⟨kc, hkc, ekc, hge, -⟩
      · -- a variable that became nothing yet
        have h25 : σ 25 v = -1 := by
          by_cases q : σ 25 v = -1
          · exact q
          · exact absurd ((F4 a v ha hv ev).mpr q) memo
        have hs1 : sz (tC yb (nI a)) = 1 := by rw [eta, ek1, ek2, null_C, sz_nd, sz_null]
        obtain ⟨f, rfl⟩ : ∃ w, f = w + 1 := ⟨f - 1, by omega⟩
        have st := fit_var0 (N := N) (f := f) (σ := σ) (by omega : z < 63) (by omega : b < 16000) (by omega : d < 16000) hv e22 e23 (by rw [r6, ← e0, ev]) h25
        have z25 : ∀ w, up2 σ 25 v (nI d) 25 w = if w = v then nI d else σ 25 w := fun w => by
          by_cases e : w = v
          · subst e; rw [if_pos rfl]; simp (disch := omega) only [ltL, Llt, leL, Lle, eqL, addL, Ladd, subL, subN, decN, eqM, Mle, mulL, nI_add, nI_ltI, nI_leI, nI_eq, nI_clamp, up2_at, nltT, nltF, nleT, nleF, neqT, neqF, ↓reduceIte, true_or, or_true, false_or, or_false, or_self, true_and, and_true, false_and, and_false, and_self, not_true, not_false_eq_true, i10, i01, im0, im12, im21, m1lt, m2lt, m1le, m2le, i00, i0le0, i1le0, i2le0, i3le0, eq_self, ]
          · rw [if_neg e]; simp (disch := omega) only [ltL, Llt, leL, Lle, eqL, addL, Ladd, subL, subN, decN, eqM, Mle, mulL, nI_add, nI_ltI, nI_leI, nI_eq, nI_clamp, up2_at, nltT, nltF, nleT, nleF, neqT, neqF, ↓reduceIte, true_or, or_true, false_or, or_false, or_self, true_and, and_true, false_and, and_false, and_self, not_true, not_false_eq_true, i10, i01, im0, im12, im21, m1lt, m2lt, m1le, m2le, i00, i0le0, i1le0, i2le0, i3le0, eq_self, e]
        have hmono : ∀ w, ¬ σ 25 w = -1 → up2 σ 25 v (nI d) 25 w = σ 25 w := fun w hw => by
          rw [z25, if_neg (fun e => hw (by rw [e]; exact h25))]
        have hins : ins (thr σb (up2 σ 25 v (nI d) 25)) (tC yb (nI a)) = some (tC yb (nI c)) := by
          have e1 := ins_var (θ := thr σb (up2 σ 25 v (nI d) 25)) (A := tC yb (yb 1 a)) (B := tC yb (yb 2 a)) hv
          rw [← ev, ← eta] at e1
          rw [e1, thr, z25, if_pos rfl, if_neg (nI_ne_m1 (by omega)), ecd]
        have F' : FI n u yb σb (up2 (up2 y 7 a (nI c)) 8 a (y 11 0)) (up2 σ 25 v (nI d)) := by
          have z8 : ∀ k, up2 (up2 y 7 a (nI c)) 8 a (y 11 0) 8 k = if k = a then nI u else y 8 k := fun k => by
            by_cases e : k = a
            · subst e; rw [if_pos rfl]; simp (disch := omega) only [ltL, Llt, leL, Lle, eqL, addL, Ladd, subL, subN, decN, eqM, Mle, mulL, nI_add, nI_ltI, nI_leI, nI_eq, nI_clamp, up2_at, nltT, nltF, nleT, nleF, neqT, neqF, ↓reduceIte, true_or, or_true, false_or, or_false, or_self, true_and, and_true, false_and, and_false, and_self, not_true, not_false_eq_true, i10, i01, im0, im12, im21, m1lt, m2lt, m1le, m2le, i00, i0le0, i1le0, i2le0, i3le0, eq_self, ]; exact e11
            · rw [if_neg e]; simp (disch := omega) only [ltL, Llt, leL, Lle, eqL, addL, Ladd, subL, subN, decN, eqM, Mle, mulL, nI_add, nI_ltI, nI_leI, nI_eq, nI_clamp, up2_at, nltT, nltF, nleT, nleF, neqT, neqF, ↓reduceIte, true_or, or_true, false_or, or_false, or_self, true_and, and_true, false_and, and_false, and_self, not_true, not_false_eq_true, i10, i01, im0, im12, im21, m1lt, m2lt, m1le, m2le, i00, i0le0, i1le0, i2le0, i3le0, eq_self, e]
          have z7 : ∀ k, up2 (up2 y 7 a (nI c)) 8 a (y 11 0) 7 k = if k = a then nI c else y 7 k := fun k => by
            by_cases e : k = a
            · subst e; rw [if_pos rfl]; simp (disch := omega) only [ltL, Llt, leL, Lle, eqL, addL, Ladd, subL, subN, decN, eqM, Mle, mulL, nI_add, nI_ltI, nI_leI, nI_eq, nI_clamp, up2_at, nltT, nltF, nleT, nleF, neqT, neqF, ↓reduceIte, true_or, or_true, false_or, or_false, or_self, true_and, and_true, false_and, and_false, and_self, not_true, not_false_eq_true, i10, i01, im0, im12, im21, m1lt, m2lt, m1le, m2le, i00, i0le0, i1le0, i2le0, i3le0, eq_self, ]
            · rw [if_neg e]; simp (disch := omega) only [ltL, Llt, leL, Lle, eqL, addL, Ladd, subL, subN, decN, eqM, Mle, mulL, nI_add, nI_ltI, nI_leI, nI_eq, nI_clamp, up2_at, nltT, nltF, nleT, nleF, neqT, neqF, ↓reduceIte, true_or, or_true, false_or, or_false, or_self, true_and, and_true, false_and, and_false, and_self, not_true, not_false_eq_true, i10, i01, im0, im12, im21, m1lt, m2lt, m1le, m2le, i00, i0le0, i1le0, i2le0, i3le0, eq_self, e]
          refine ⟨F1, fun w hw => ?_, fun k hk h8 => ?_, fun k w hk hw ekw => ?_⟩
          · rw [z25]
            by_cases e : w = v
            · rw [if_pos e]; exact Or.inr ⟨d, hd, rfl⟩
            · rw [if_neg e]; exact F2 w hw
          · rw [z8] at h8
            rw [z7]
            by_cases e : k = a
            · subst e; rw [if_pos rfl]; exact ⟨⟨c, hc, rfl⟩, hins⟩
            · rw [if_neg e] at h8 ⊢
              obtain ⟨q1, q2⟩ := F3 k hk h8
              exact ⟨q1, ins_mono (thr_mono hmono) _ _ q2⟩
          · rw [z8, z25]
            by_cases e : k = a
            · subst e
              have : w = v := var_inj hw hv (ekw.symm.trans ev)
              rw [if_pos rfl, if_pos this]
              exact ⟨fun _ => nI_ne_m1 (by omega), fun _ => rfl⟩
            · have nw : ¬ w = v := by
                rintro rfl
                apply e
                rcases (hd_cases I hq hk).2 with ⟨v', hv', f1, f2, f3⟩ | ⟨kc, hkc, f1, f2, f3⟩
                · exact T.2.2.2.2.1 k a hk ha (ekw.trans ev.symm) (f2.trans ek1.symm) (f3.trans ek2.symm)
                · rw [ekw] at f2; exact absurd (var_neg hw) (Int32.not_lt.mpr f2)
              rw [if_neg e, if_neg nw]; exact F4 k w hk hw ekw
        refine ⟨up2 (up2 y 7 a (nI c)) 8 a (y 11 0), fun r h7 h8 => by rw [up2_row h8, up2_row h7]; exact hy r h7 h8, fun k => ?_, Or.inl ⟨?_, up2 σ 25 v (nI d), by rw [hs1]; exact st, fun r h22 h23 h25 => by rw [up2_row h25]; exact hs r h22 h23 h25, fun i _ => ⟨by rw [up2_row (by decide)], by rw [up2_row (by decide)]⟩, F', hins, hmono, by simp (disch := omega) only [ltL, Llt, leL, Lle, eqL, addL, Ladd, subL, subN, decN, eqM, Mle, mulL, nI_add, nI_ltI, nI_leI, nI_eq, nI_clamp, up2_at, nltT, nltF, nleT, nleF, neqT, neqF, ↓reduceIte, true_or, or_true, false_or, or_false, or_self, true_and, and_true, false_and, and_false, and_self, not_true, not_false_eq_true, i10, i01, im0, im12, im21, m1lt, m2lt, m1le, m2le, i00, i0le0, i1le0, i2le0, i3le0, eq_self, ]; exact e11, by simp (disch := omega) only [ltL, Llt, leL, Lle, eqL, addL, Ladd, subL, subN, decN, eqM, Mle, mulL, nI_add, nI_ltI, nI_leI, nI_eq, nI_clamp, up2_at, nltT, nltF, nleT, nleF, neqT, neqF, ↓reduceIte, true_or, or_true, false_or, or_false, or_self, true_and, and_true, false_and, and_false, and_self, not_true, not_false_eq_true, i10, i01, im0, im12, im21, m1lt, m2lt, m1le, m2le, i00, i0le0, i1le0, i2le0, i3le0, eq_self, ]⟩⟩
        · by_cases e : k = a
          · subst e; right; simp (disch := omega) only [ltL, Llt, leL, Lle, eqL, addL, Ladd, subL, subN, decN, eqM, Mle, mulL, nI_add, nI_ltI, nI_leI, nI_eq, nI_clamp, up2_at, nltT, nltF, nleT, nleF, neqT, neqF, ↓reduceIte, true_or, or_true, false_or, or_false, or_self, true_and, and_true, false_and, and_false, and_self, not_true, not_false_eq_true, i10, i01, im0, im12, im21, m1lt, m2lt, m1le, m2le, i00, i0le0, i1le0, i2le0, i3le0, eq_self, ]; exact e11
          · left; simp (disch := omega) only [ltL, Llt, leL, Lle, eqL, addL, Ladd, subL, subN, decN, eqM, Mle, mulL, nI_add, nI_ltI, nI_leI, nI_eq, nI_clamp, up2_at, nltT, nltF, nleT, nleF, neqT, neqF, ↓reduceIte, true_or, or_true, false_or, or_false, or_self, true_and, and_true, false_and, and_false, and_self, not_true, not_false_eq_true, i10, i01, im0, im12, im21, m1lt, m2lt, m1le, m2le, i00, i0le0, i1le0, i2le0, i3le0, eq_self, e]
        · have hneg : yb 0 a < 0 := by rw [ev]; exact var_neg hv
          rewrite [f_X2_fitsWithin, f_X2_fitsWithin_step]
          repeat (first | with_reducible refine bnE ?_ | with_reducible refine exI ?_ | with_reducible refine exJ ?_ | with_reducible refine bs (him) ?_ | with_reducible refine bs (hhd) ?_ | ((with_reducible refine iN ?_ ?_); · simp (disch := omega) only [ltL, Llt, leL, Lle, eqL, addL, Ladd, subL, subN, decN, eqM, Mle, mulL, nI_add, nI_ltI, nI_leI, nI_eq, nI_clamp, up2_at, nltT, nltF, nleT, nleF, neqT, neqF, ↓reduceIte, true_or, or_true, false_or, or_false, or_self, true_and, and_true, false_and, and_false, and_self, not_true, not_false_eq_true, i10, i01, im0, im12, im21, m1lt, m2lt, m1le, m2le, i00, i0le0, i1le0, i2le0, i3le0, eq_self, na, nc, hneg]) | ((with_reducible refine ip ?_ ?_); · simp (disch := omega) only [ltL, Llt, leL, Lle, eqL, addL, Ladd, subL, subN, decN, eqM, Mle, mulL, nI_add, nI_ltI, nI_leI, nI_eq, nI_clamp, up2_at, nltT, nltF, nleT, nleF, neqT, neqF, ↓reduceIte, true_or, or_true, false_or, or_false, or_self, true_and, and_true, false_and, and_false, and_self, not_true, not_false_eq_true, i10, i01, im0, im12, im21, m1lt, m2lt, m1le, m2le, i00, i0le0, i1le0, i2le0, i3le0, eq_self, na, nc, hneg]))
          rewrite [f_X2_fitsWithin_114, f_X2_fitsWithin_119]
          exact iN (by decide) (bs hset rfl)
      · -- a type of parts
        have hnneg : ¬ yb 0 a < 0 := Int32.not_lt.mpr hge
        have hge' : 0 ≤ σ 6 b := by rw [r6, ← e0]; exact hge
        have hhd' := head_in (N := N) (y := y) (by omega : c < 8000)
        rw [y0] at hhd'
        obtain ⟨f, rfl⟩ : ∃ w, f = w + 1 := ⟨f - 1, by omega⟩
        have e1 : nI lev - 1 = nI (lev - 1) := subL (k := 1) (by show 1 ≤ lev; omega)
        by_cases heq : yb 0 a = yb 0 c
        · obtain ⟨sh1, sh2⟩ := shape I hq ha hc heq
          have he : σ 6 b = σ 6 d := by rw [r6, ← e0, ← e0', heq]
          have hnneg' : ¬ yb 0 c < 0 := by rw [← heq]; exact hnneg
          have hhead : yb 0 c = nI kc := heq.symm.trans ekc
          have hfa := first_in (N := N) (y := y) (by omega : a < 8000)
          have hfc := first_in (N := N) (y := y) (by omega : c < 8000)
          rw [y1] at hfa hfc
          have secs : ∀ {y' : St}, YF yb y' → f_X2_second N y' (nI a) = some (yb 2 a, y') ∧ f_X2_second N y' (nI c) = some (yb 2 c, y') := fun {y'} hy' => by
            have q1 := second_in (N := N) (y := y') (by omega : a < 8000)
            have q2 := second_in (N := N) (y := y') (by omega : c < 8000)
            rw [hy' 2 (by decide) (by decide)] at q1 q2
            exact ⟨q1, q2⟩
          obtain ⟨dd, rfl⟩ : ∃ w, dd = w + 1 := ⟨dd - 1, by omega⟩
          -- parts that fit: the whole does
          have fin : ∀ {y' σ' : St}, f_X2_fitsWithin N (dd + 1 + 1) y (nI a) (nI c) (nI lev) = f_X2_fitsWithin_119 N (f_X2_fitsWithin N (dd + 1)) y' (nI a) (nI c) 1 → YF yb y' → (∀ k, y' 8 k = y 8 k ∨ y' 8 k = nI u) → f_X5_fits_16 N (f + 1) σ (nI (z + 1)) = f_X5_fits_16 N (f + 1 - sz (tC yb (nI a))) σ' (nI z) → SF σb σ' → (∀ i, i < z → σ' 22 i = σ 22 i ∧ σ' 23 i = σ 23 i) → FI n u yb σb y' σ' → ins (thr σb (σ' 25)) (tC yb (nI a)) = some (tC yb (nI c)) → (∀ v, ¬ σ 25 v = -1 → σ' 25 v = σ 25 v) → ∃ y', YF yb y' ∧ (∀ k, y' 8 k = y 8 k ∨ y' 8 k = nI u) ∧ ((f_X2_fitsWithin N (dd + 1 + 1) y (nI a) (nI c) (nI lev) = some (1, y') ∧ ∃ σ', f_X5_fits_16 N (f + 1) σ (nI (z + 1)) = f_X5_fits_16 N (f + 1 - sz (tC yb (nI a))) σ' (nI z) ∧ SF σb σ' ∧ (∀ i, i < z → σ' 22 i = σ 22 i ∧ σ' 23 i = σ 23 i) ∧ FI n u yb σb y' σ' ∧ ins (thr σb (σ' 25)) (tC yb (nI a)) = some (tC yb (nI c)) ∧ (∀ v, ¬ σ 25 v = -1 → σ' 25 v = σ 25 v) ∧ y' 8 a = nI u ∧ y' 7 a = nI c) ∨ (f_X2_fitsWithin N (dd + 1 + 1) y (nI a) (nI c) (nI lev) = some (0, y') ∧ ∃ σ', f_X5_fits_16 N (f + 1) σ (nI (z + 1)) = some (0, σ') ∧ SF σb σ')) := by
            intro y' σ' hp hy' h8 hm hs' hst hF' hi hmon
            obtain ⟨G1, G2, G3⟩ := FI.set I hF' hy' ha hc hi (fun k v hk hv ekv e => by
              subst e
              rw [ekv] at hge
              exact absurd (var_neg hv) (Int32.not_lt.mpr hge))
            have e11' : y' 11 0 = nI u := by rw [hy' 11 (by decide) (by decide)]; exact F1
            refine ⟨_, G2, fun k => ?_, Or.inl ⟨?_, σ', hm, hs', hst, G1, hi, hmon, by simp (disch := omega) only [ltL, Llt, leL, Lle, eqL, addL, Ladd, subL, subN, decN, eqM, Mle, mulL, nI_add, nI_ltI, nI_leI, nI_eq, nI_clamp, up2_at, nltT, nltF, nleT, nleF, neqT, neqF, ↓reduceIte, true_or, or_true, false_or, or_false, or_self, true_and, and_true, false_and, and_false, and_self, not_true, not_false_eq_true, i10, i01, im0, im12, im21, m1lt, m2lt, m1le, m2le, i00, i0le0, i1le0, i2le0, i3le0, eq_self, ]; exact e11', by simp (disch := omega) only [ltL, Llt, leL, Lle, eqL, addL, Ladd, subL, subN, decN, eqM, Mle, mulL, nI_add, nI_ltI, nI_leI, nI_eq, nI_clamp, up2_at, nltT, nltF, nleT, nleF, neqT, neqF, ↓reduceIte, true_or, or_true, false_or, or_false, or_self, true_and, and_true, false_and, and_false, and_self, not_true, not_false_eq_true, i10, i01, im0, im12, im21, m1lt, m2lt, m1le, m2le, i00, i0le0, i1le0, i2le0, i3le0, eq_self, ]⟩⟩
            · rcases G3 k with q | q
              · rw [q]; exact h8 k
              · exact Or.inr q
            · rewrite [hp, f_X2_fitsWithin_119]
              refine iN (by decide) ?_
              exact bs (setImage_ok (by omega)) rfl
          have bad : ∀ {y' σ' : St}, f_X2_fitsWithin N (dd + 1 + 1) y (nI a) (nI c) (nI lev) = f_X2_fitsWithin_119 N (f_X2_fitsWithin N (dd + 1)) y' (nI a) (nI c) 0 → YF yb y' → (∀ k, y' 8 k = y 8 k ∨ y' 8 k = nI u) → f_X5_fits_16 N (f + 1) σ (nI (z + 1)) = some (0, σ') → SF σb σ' → ∃ y', YF yb y' ∧ (∀ k, y' 8 k = y 8 k ∨ y' 8 k = nI u) ∧ ((f_X2_fitsWithin N (dd + 1 + 1) y (nI a) (nI c) (nI lev) = some (1, y') ∧ ∃ σ', f_X5_fits_16 N (f + 1) σ (nI (z + 1)) = f_X5_fits_16 N (f + 1 - sz (tC yb (nI a))) σ' (nI z) ∧ SF σb σ' ∧ (∀ i, i < z → σ' 22 i = σ 22 i ∧ σ' 23 i = σ 23 i) ∧ FI n u yb σb y' σ' ∧ ins (thr σb (σ' 25)) (tC yb (nI a)) = some (tC yb (nI c)) ∧ (∀ v, ¬ σ 25 v = -1 → σ' 25 v = σ 25 v) ∧ y' 8 a = nI u ∧ y' 7 a = nI c) ∨ (f_X2_fitsWithin N (dd + 1 + 1) y (nI a) (nI c) (nI lev) = some (0, y') ∧ ∃ σ', f_X5_fits_16 N (f + 1) σ (nI (z + 1)) = some (0, σ') ∧ SF σb σ')) := by
            intro y' σ' hp hy' h8 hm hs'
            refine ⟨y', hy', h8, Or.inr ⟨?_, σ', hm, hs'⟩⟩
            rewrite [hp, f_X2_fitsWithin_119]
            exact ip rfl rfl
          rcases hk with ⟨p1, p2, p3, p4, p5, p6⟩ | ⟨a1, b1, p1, p2, p3, p4, p5, -, hk2⟩
          · -- nothing below
            have st := fit_kid0 (N := N) (f := f) (σ := σ) (by omega : z < 63) (by omega) (by omega) e22 e23 hge' he (by rw [r7]; exact p2) (by rw [r8]; exact p4)
            obtain ⟨sa, sc⟩ := secs hy
            rw [p3] at sa
            rw [sh2.mp p3] at sc
            rw [p1] at hfa
            rw [sh1.mp p1] at hfc
            refine fin (y' := y) (σ' := σ) ?_ hy (fun k => Or.inl rfl) (by rw [p5]; exact st) hs (fun _ _ => ⟨rfl, rfl⟩) F ?_ (fun _ _ => rfl)
            · rewrite [f_X2_fitsWithin, f_X2_fitsWithin_step, e1]
              repeat (first | with_reducible refine bnE ?_ | with_reducible refine exI ?_ | with_reducible refine exJ ?_ | with_reducible refine bs (him) ?_ | with_reducible refine bs (hhd) ?_ | with_reducible refine bs (hhd') ?_ | with_reducible refine bs (hfa) ?_ | with_reducible refine bs (hfc) ?_ | with_reducible refine bs (fits_null (N := N) (d := dd) (y := y)) ?_ | with_reducible refine bs (sa) ?_ | with_reducible refine bs (sc) ?_ | ((with_reducible refine iN ?_ ?_); · simp (disch := omega) only [ltL, Llt, leL, Lle, eqL, addL, Ladd, subL, subN, decN, eqM, Mle, mulL, nI_add, nI_ltI, nI_leI, nI_eq, nI_clamp, up2_at, nltT, nltF, nleT, nleF, neqT, neqF, ↓reduceIte, true_or, or_true, false_or, or_false, or_self, true_and, and_true, false_and, and_false, and_self, not_true, not_false_eq_true, i10, i01, im0, im12, im21, m1lt, m2lt, m1le, m2le, i00, i0le0, i1le0, i2le0, i3le0, eq_self, na, nc, hnneg, hnneg', heq]) | ((with_reducible refine ip ?_ ?_); · simp (disch := omega) only [ltL, Llt, leL, Lle, eqL, addL, Ladd, subL, subN, decN, eqM, Mle, mulL, nI_add, nI_ltI, nI_leI, nI_eq, nI_clamp, up2_at, nltT, nltF, nleT, nleF, neqT, neqF, ↓reduceIte, true_or, or_true, false_or, or_false, or_self, true_and, and_true, false_and, and_false, and_self, not_true, not_false_eq_true, i10, i01, im0, im12, im21, m1lt, m2lt, m1le, m2le, i00, i0le0, i1le0, i2le0, i3le0, eq_self, na, nc, hnneg, hnneg', heq]))
              rfl
            · rw [eta, etc, p1, p3, sh1.mp p1, sh2.mp p3, null_C, ekc, hhead, ins_con (by omega), ins_null]
              rfl
          · rcases hk' with ⟨q1, q2, q3, q4, q5, q6⟩ | ⟨c1, d1, q1, q2, q3, q4, q5, -, hk2'⟩
            · have := sh1.mpr q1
              rw [p1] at this
              exact absurd this (nI_ne_m1 (by omega))
            rw [p1] at hfa
            rw [q1] at hfc
            have hp1 := sz_pos T (by omega : a1 < n)
            rcases hk2 with ⟨p6, p7, p8, p9⟩ | ⟨a2, b2, p6, p7, p8, p9, p10, p11, p12⟩
            · -- one part
              have st := fit_kid1 (N := N) (f := f) (σ := σ) (u := nI b1) (u' := nI d1) (by omega : z < 63) (by omega) (by omega) e22 e23 hge' he (by rw [r7]; exact p2) (nI_ne_m1 (by omega)) (by rw [r7]; exact q2) (by rw [r8]; exact p7)
              have ez : f + 1 - sz (tC yb (nI a)) = f - sz (tC yb (nI a1)) := by omega
              have F0 : FI n u yb σb y (up2 (up2 σ 22 z (nI b1)) 23 z (nI d1)) := by
                have z25 : up2 (up2 σ 22 z (nI b1)) 23 z (nI d1) 25 = σ 25 := by simp (disch := decide) only [up2_row, upR_row, and_self, eq_self, ]
                exact ⟨F1, by rw [z25]; exact F2, by rw [z25]; exact F3, by rw [z25]; exact F4⟩
              obtain ⟨y', w1, w2, w3⟩ := ih a1 p3 b1 c1 d1 z f (lev - 1) (dd + 1) y (up2 (up2 σ 22 z (nI b1)) 23 z (nI d1)) (by omega) (by omega) (by omega) (by omega) p5 q5 hy (fun r h22 h23 h25 => by rw [up2_row h23, up2_row h22]; exact hs r h22 h23 h25) F0 (by simp (disch := omega) only [ltL, Llt, leL, Lle, eqL, addL, Ladd, subL, subN, decN, eqM, Mle, mulL, nI_add, nI_ltI, nI_leI, nI_eq, nI_clamp, up2_at, nltT, nltF, nleT, nleF, neqT, neqF, ↓reduceIte, true_or, or_true, false_or, or_false, or_self, true_and, and_true, false_and, and_false, and_self, not_true, not_false_eq_true, i10, i01, im0, im12, im21, m1lt, m2lt, m1le, m2le, i00, i0le0, i1le0, i2le0, i3le0, eq_self, ]) (by simp (disch := omega) only [ltL, Llt, leL, Lle, eqL, addL, Ladd, subL, subN, decN, eqM, Mle, mulL, nI_add, nI_ltI, nI_leI, nI_eq, nI_clamp, up2_at, nltT, nltF, nleT, nleF, neqT, neqF, ↓reduceIte, true_or, or_true, false_or, or_false, or_self, true_and, and_true, false_and, and_false, and_self, not_true, not_false_eq_true, i10, i01, im0, im12, im21, m1lt, m2lt, m1le, m2le, i00, i0le0, i1le0, i2le0, i3le0, eq_self, ]) (by omega) (by omega) (by omega) (by omega) (by omega)
              rcases w3 with ⟨w3, σ', w4, w5, w6, w7, w8, w9, -⟩ | ⟨w3, σ', w4, w5⟩
              · obtain ⟨sa, sc⟩ := secs w1
                rw [p6] at sa
                rw [sh2.mp p6] at sc
                refine fin (y' := y') (σ' := σ') ?_ w1 w2 (by rw [ez]; exact st.trans w4) w5 (fun i hi => ?_) w7 ?_ (fun v hv => ?_)
                · rewrite [f_X2_fitsWithin, f_X2_fitsWithin_step, e1]
                  repeat (first | with_reducible refine bnE ?_ | with_reducible refine exI ?_ | with_reducible refine exJ ?_ | with_reducible refine bs (him) ?_ | with_reducible refine bs (hhd) ?_ | with_reducible refine bs (hhd') ?_ | with_reducible refine bs (hfa) ?_ | with_reducible refine bs (hfc) ?_ | with_reducible refine bs (w3) ?_ | with_reducible refine bs (fits_null (N := N) (d := dd) (y := y')) ?_ | with_reducible refine bs (sa) ?_ | with_reducible refine bs (sc) ?_ | ((with_reducible refine iN ?_ ?_); · simp (disch := omega) only [ltL, Llt, leL, Lle, eqL, addL, Ladd, subL, subN, decN, eqM, Mle, mulL, nI_add, nI_ltI, nI_leI, nI_eq, nI_clamp, up2_at, nltT, nltF, nleT, nleF, neqT, neqF, ↓reduceIte, true_or, or_true, false_or, or_false, or_self, true_and, and_true, false_and, and_false, and_self, not_true, not_false_eq_true, i10, i01, im0, im12, im21, m1lt, m2lt, m1le, m2le, i00, i0le0, i1le0, i2le0, i3le0, eq_self, na, nc, hnneg, hnneg', heq]) | ((with_reducible refine ip ?_ ?_); · simp (disch := omega) only [ltL, Llt, leL, Lle, eqL, addL, Ladd, subL, subN, decN, eqM, Mle, mulL, nI_add, nI_ltI, nI_leI, nI_eq, nI_clamp, up2_at, nltT, nltF, nleT, nleF, neqT, neqF, ↓reduceIte, true_or, or_true, false_or, or_false, or_self, true_and, and_true, false_and, and_false, and_self, not_true, not_false_eq_true, i10, i01, im0, im12, im21, m1lt, m2lt, m1le, m2le, i00, i0le0, i1le0, i2le0, i3le0, eq_self, na, nc, hnneg, hnneg', heq]))
                  rfl
                · obtain ⟨v1, v2⟩ := w6 i hi
                  rw [v1, v2]
                  have n1 : ¬ i = z := by omega
                  exact ⟨by simp (disch := omega) only [ltL, Llt, leL, Lle, eqL, addL, Ladd, subL, subN, decN, eqM, Mle, mulL, nI_add, nI_ltI, nI_leI, nI_eq, nI_clamp, up2_at, nltT, nltF, nleT, nleF, neqT, neqF, ↓reduceIte, true_or, or_true, false_or, or_false, or_self, true_and, and_true, false_and, and_false, and_self, not_true, not_false_eq_true, i10, i01, im0, im12, im21, m1lt, m2lt, m1le, m2le, i00, i0le0, i1le0, i2le0, i3le0, eq_self, n1], by simp (disch := omega) only [ltL, Llt, leL, Lle, eqL, addL, Ladd, subL, subN, decN, eqM, Mle, mulL, nI_add, nI_ltI, nI_leI, nI_eq, nI_clamp, up2_at, nltT, nltF, nleT, nleF, neqT, neqF, ↓reduceIte, true_or, or_true, false_or, or_false, or_self, true_and, and_true, false_and, and_false, and_self, not_true, not_false_eq_true, i10, i01, im0, im12, im21, m1lt, m2lt, m1le, m2le, i00, i0le0, i1le0, i2le0, i3le0, eq_self, n1]⟩
                · rw [eta, etc, p1, q1, p6, sh2.mp p6, null_C, ekc, hhead, ins_con (by omega), ins_null, w8]
                  rfl
                · have z25 : up2 (up2 σ 22 z (nI b1)) 23 z (nI d1) 25 = σ 25 := by simp (disch := decide) only [up2_row, upR_row, and_self, eq_self, ]
                  rw [z25] at w9
                  exact w9 v hv
              · refine bad (y' := y') (σ' := σ') ?_ w1 w2 (st.trans w4) w5
                rewrite [f_X2_fitsWithin, f_X2_fitsWithin_step, e1]
                repeat (first | with_reducible refine bnE ?_ | with_reducible refine exI ?_ | with_reducible refine exJ ?_ | with_reducible refine bs (him) ?_ | with_reducible refine bs (hhd) ?_ | with_reducible refine bs (hhd') ?_ | with_reducible refine bs (hfa) ?_ | with_reducible refine bs (hfc) ?_ | with_reducible refine bs (w3) ?_ | ((with_reducible refine iN ?_ ?_); · simp (disch := omega) only [ltL, Llt, leL, Lle, eqL, addL, Ladd, subL, subN, decN, eqM, Mle, mulL, nI_add, nI_ltI, nI_leI, nI_eq, nI_clamp, up2_at, nltT, nltF, nleT, nleF, neqT, neqF, ↓reduceIte, true_or, or_true, false_or, or_false, or_self, true_and, and_true, false_and, and_false, and_self, not_true, not_false_eq_true, i10, i01, im0, im12, im21, m1lt, m2lt, m1le, m2le, i00, i0le0, i1le0, i2le0, i3le0, eq_self, na, nc, hnneg, hnneg', heq]) | ((with_reducible refine ip ?_ ?_); · simp (disch := omega) only [ltL, Llt, leL, Lle, eqL, addL, Ladd, subL, subN, decN, eqM, Mle, mulL, nI_add, nI_ltI, nI_leI, nI_eq, nI_clamp, up2_at, nltT, nltF, nleT, nleF, neqT, neqF, ↓reduceIte, true_or, or_true, false_or, or_false, or_self, true_and, and_true, false_and, and_false, and_self, not_true, not_false_eq_true, i10, i01, im0, im12, im21, m1lt, m2lt, m1le, m2le, i00, i0le0, i1le0, i2le0, i3le0, eq_self, na, nc, hnneg, hnneg', heq]))
                rfl
            · -- two parts
              rcases hk2' with ⟨q6, -⟩ | ⟨c2, d2, q6, q7, q8, q9, q10, -⟩
              · have := sh2.mpr q6
                rw [p6] at this
                exact absurd this (nI_ne_m1 (by omega))
              have st := fit_kid2 (N := N) (f := f) (σ := σ) (u := nI b1) (u' := nI d1) (v := nI b2) (v' := nI d2) (by omega : z < 62) (by omega) (by omega) e22 e23 hge' he (by rw [r7]; exact p2) (nI_ne_m1 (by omega)) (by rw [r7]; exact q2) (by rw [r8]; exact p7) (nI_ne_m1 (by omega)) (by rw [r8]; exact q7)
              have ez : f + 1 - sz (tC yb (nI a)) = f - sz (tC yb (nI a1)) - sz (tC yb (nI a2)) := by omega
              have z25 : (up2 (up2 (up2 (up2 σ 22 z (nI b2)) 23 z (nI d2)) 22 (z + 1) (nI b1)) 23 (z + 1) (nI d1)) 25 = σ 25 := by simp (disch := decide) only [up2_row, upR_row, and_self, eq_self, ]
              have F0 : FI n u yb σb y (up2 (up2 (up2 (up2 σ 22 z (nI b2)) 23 z (nI d2)) 22 (z + 1) (nI b1)) 23 (z + 1) (nI d1)) := ⟨F1, by rw [z25]; exact F2, by rw [z25]; exact F3, by rw [z25]; exact F4⟩
              obtain ⟨y', w1, w2, w3⟩ := ih a1 p3 b1 c1 d1 (z + 1) f (lev - 1) (dd + 1) y (up2 (up2 (up2 (up2 σ 22 z (nI b2)) 23 z (nI d2)) 22 (z + 1) (nI b1)) 23 (z + 1) (nI d1)) (by omega) (by omega) (by omega) (by omega) p5 q5 hy (fun r h22 h23 h25 => by rw [up2_row h23, up2_row h22, up2_row h23, up2_row h22]; exact hs r h22 h23 h25) F0 (by simp (disch := omega) only [ltL, Llt, leL, Lle, eqL, addL, Ladd, subL, subN, decN, eqM, Mle, mulL, nI_add, nI_ltI, nI_leI, nI_eq, nI_clamp, up2_at, nltT, nltF, nleT, nleF, neqT, neqF, ↓reduceIte, true_or, or_true, false_or, or_false, or_self, true_and, and_true, false_and, and_false, and_self, not_true, not_false_eq_true, i10, i01, im0, im12, im21, m1lt, m2lt, m1le, m2le, i00, i0le0, i1le0, i2le0, i3le0, eq_self, ]) (by simp (disch := omega) only [ltL, Llt, leL, Lle, eqL, addL, Ladd, subL, subN, decN, eqM, Mle, mulL, nI_add, nI_ltI, nI_leI, nI_eq, nI_clamp, up2_at, nltT, nltF, nleT, nleF, neqT, neqF, ↓reduceIte, true_or, or_true, false_or, or_false, or_self, true_and, and_true, false_and, and_false, and_self, not_true, not_false_eq_true, i10, i01, im0, im12, im21, m1lt, m2lt, m1le, m2le, i00, i0le0, i1le0, i2le0, i3le0, eq_self, ]) (by omega) (by omega) (by omega) (by omega) (by omega)
              rcases w3 with ⟨w3, σ', w4, w5, w6, w7, w8, w9, -⟩ | ⟨w3, σ', w4, w5⟩
              · rw [z25] at w9
                obtain ⟨v1, v2⟩ := w6 z (by omega)
                have nz : ¬ z = z + 1 := by omega
                have v1' : σ' 22 z = nI b2 := by rw [v1]; simp (disch := omega) only [ltL, Llt, leL, Lle, eqL, addL, Ladd, subL, subN, decN, eqM, Mle, mulL, nI_add, nI_ltI, nI_leI, nI_eq, nI_clamp, up2_at, nltT, nltF, nleT, nleF, neqT, neqF, ↓reduceIte, true_or, or_true, false_or, or_false, or_self, true_and, and_true, false_and, and_false, and_self, not_true, not_false_eq_true, i10, i01, im0, im12, im21, m1lt, m2lt, m1le, m2le, i00, i0le0, i1le0, i2le0, i3le0, eq_self, nz]
                have v2' : σ' 23 z = nI d2 := by rw [v2]; simp (disch := omega) only [ltL, Llt, leL, Lle, eqL, addL, Ladd, subL, subN, decN, eqM, Mle, mulL, nI_add, nI_ltI, nI_leI, nI_eq, nI_clamp, up2_at, nltT, nltF, nleT, nleF, neqT, neqF, ↓reduceIte, true_or, or_true, false_or, or_false, or_self, true_and, and_true, false_and, and_false, and_self, not_true, not_false_eq_true, i10, i01, im0, im12, im21, m1lt, m2lt, m1le, m2le, i00, i0le0, i1le0, i2le0, i3le0, eq_self, nz]
                obtain ⟨sa, sc⟩ := secs w1
                rw [p6] at sa
                rw [q6] at sc
                obtain ⟨y'', x1, x2, x3⟩ := ih a2 p8 b2 c2 d2 z (f - sz (tC yb (nI a1))) (lev - 1) (dd + 1) y' σ' (by omega) (by omega) (by omega) (by omega) p10 q10 w1 w5 w7 v1' v2' (by omega) (by omega) (by omega) (by omega) (by omega)
                have x2' : ∀ k, y'' 8 k = y 8 k ∨ y'' 8 k = nI u := fun k => by
                  rcases x2 k with q | q
                  · rw [q]; exact w2 k
                  · exact Or.inr q
                rcases x3 with ⟨x3, σ'', x4, x5, x6, x7, x8, x9, -⟩ | ⟨x3, σ'', x4, x5⟩
                · refine fin (y' := y'') (σ' := σ'') ?_ x1 x2' (by rw [ez]; exact (st.trans w4).trans x4) x5 (fun i hi => ?_) x7 ?_ (fun v hv => ?_)
                  · rewrite [f_X2_fitsWithin, f_X2_fitsWithin_step, e1]
                    repeat (first | with_reducible refine bnE ?_ | with_reducible refine exI ?_ | with_reducible refine exJ ?_ | with_reducible refine bs (him) ?_ | with_reducible refine bs (hhd) ?_ | with_reducible refine bs (hhd') ?_ | with_reducible refine bs (hfa) ?_ | with_reducible refine bs (hfc) ?_ | with_reducible refine bs (w3) ?_ | with_reducible refine bs (sa) ?_ | with_reducible refine bs (sc) ?_ | with_reducible refine bs (x3) ?_ | ((with_reducible refine iN ?_ ?_); · simp (disch := omega) only [ltL, Llt, leL, Lle, eqL, addL, Ladd, subL, subN, decN, eqM, Mle, mulL, nI_add, nI_ltI, nI_leI, nI_eq, nI_clamp, up2_at, nltT, nltF, nleT, nleF, neqT, neqF, ↓reduceIte, true_or, or_true, false_or, or_false, or_self, true_and, and_true, false_and, and_false, and_self, not_true, not_false_eq_true, i10, i01, im0, im12, im21, m1lt, m2lt, m1le, m2le, i00, i0le0, i1le0, i2le0, i3le0, eq_self, na, nc, hnneg, hnneg', heq]) | ((with_reducible refine ip ?_ ?_); · simp (disch := omega) only [ltL, Llt, leL, Lle, eqL, addL, Ladd, subL, subN, decN, eqM, Mle, mulL, nI_add, nI_ltI, nI_leI, nI_eq, nI_clamp, up2_at, nltT, nltF, nleT, nleF, neqT, neqF, ↓reduceIte, true_or, or_true, false_or, or_false, or_self, true_and, and_true, false_and, and_false, and_self, not_true, not_false_eq_true, i10, i01, im0, im12, im21, m1lt, m2lt, m1le, m2le, i00, i0le0, i1le0, i2le0, i3le0, eq_self, na, nc, hnneg, hnneg', heq]))
                    rfl
                  · obtain ⟨u1, u2⟩ := x6 i hi
                    obtain ⟨u3, u4⟩ := w6 i (by omega)
                    rw [u1, u2, u3, u4]
                    have n1 : ¬ i = z := by omega
                    have n2 : ¬ i = z + 1 := by omega
                    exact ⟨by simp (disch := omega) only [ltL, Llt, leL, Lle, eqL, addL, Ladd, subL, subN, decN, eqM, Mle, mulL, nI_add, nI_ltI, nI_leI, nI_eq, nI_clamp, up2_at, nltT, nltF, nleT, nleF, neqT, neqF, ↓reduceIte, true_or, or_true, false_or, or_false, or_self, true_and, and_true, false_and, and_false, and_self, not_true, not_false_eq_true, i10, i01, im0, im12, im21, m1lt, m2lt, m1le, m2le, i00, i0le0, i1le0, i2le0, i3le0, eq_self, n1, n2], by simp (disch := omega) only [ltL, Llt, leL, Lle, eqL, addL, Ladd, subL, subN, decN, eqM, Mle, mulL, nI_add, nI_ltI, nI_leI, nI_eq, nI_clamp, up2_at, nltT, nltF, nleT, nleF, neqT, neqF, ↓reduceIte, true_or, or_true, false_or, or_false, or_self, true_and, and_true, false_and, and_false, and_self, not_true, not_false_eq_true, i10, i01, im0, im12, im21, m1lt, m2lt, m1le, m2le, i00, i0le0, i1le0, i2le0, i3le0, eq_self, n1, n2]⟩
                  · have := ins_mono (thr_mono (σb := σb) x9) _ _ w8
                    rw [eta, etc, p1, q1, p6, q6, ekc, hhead, ins_con (by omega), this, x8]
                    rfl
                  · rw [x9 v (by rw [w9 v hv]; exact hv), w9 v hv]
                · refine bad (y' := y'') (σ' := σ'') ?_ x1 x2' ((st.trans w4).trans x4) x5
                  rewrite [f_X2_fitsWithin, f_X2_fitsWithin_step, e1]
                  repeat (first | with_reducible refine bnE ?_ | with_reducible refine exI ?_ | with_reducible refine exJ ?_ | with_reducible refine bs (him) ?_ | with_reducible refine bs (hhd) ?_ | with_reducible refine bs (hhd') ?_ | with_reducible refine bs (hfa) ?_ | with_reducible refine bs (hfc) ?_ | with_reducible refine bs (w3) ?_ | with_reducible refine bs (sa) ?_ | with_reducible refine bs (sc) ?_ | with_reducible refine bs (x3) ?_ | ((with_reducible refine iN ?_ ?_); · simp (disch := omega) only [ltL, Llt, leL, Lle, eqL, addL, Ladd, subL, subN, decN, eqM, Mle, mulL, nI_add, nI_ltI, nI_leI, nI_eq, nI_clamp, up2_at, nltT, nltF, nleT, nleF, neqT, neqF, ↓reduceIte, true_or, or_true, false_or, or_false, or_self, true_and, and_true, false_and, and_false, and_self, not_true, not_false_eq_true, i10, i01, im0, im12, im21, m1lt, m2lt, m1le, m2le, i00, i0le0, i1le0, i2le0, i3le0, eq_self, na, nc, hnneg, hnneg', heq]) | ((with_reducible refine ip ?_ ?_); · simp (disch := omega) only [ltL, Llt, leL, Lle, eqL, addL, Ladd, subL, subN, decN, eqM, Mle, mulL, nI_add, nI_ltI, nI_leI, nI_eq, nI_clamp, up2_at, nltT, nltF, nleT, nleF, neqT, neqF, ↓reduceIte, true_or, or_true, false_or, or_false, or_self, true_and, and_true, false_and, and_false, and_self, not_true, not_false_eq_true, i10, i01, im0, im12, im21, m1lt, m2lt, m1le, m2le, i00, i0le0, i1le0, i2le0, i3le0, eq_self, na, nc, hnneg, hnneg', heq]))
                  rfl
              · refine bad (y' := y') (σ' := σ') ?_ w1 w2 (st.trans w4) w5
                rewrite [f_X2_fitsWithin, f_X2_fitsWithin_step, e1]
                repeat (first | with_reducible refine bnE ?_ | with_reducible refine exI ?_ | with_reducible refine exJ ?_ | with_reducible refine bs (him) ?_ | with_reducible refine bs (hhd) ?_ | with_reducible refine bs (hhd') ?_ | with_reducible refine bs (hfa) ?_ | with_reducible refine bs (hfc) ?_ | with_reducible refine bs (w3) ?_ | ((with_reducible refine iN ?_ ?_); · simp (disch := omega) only [ltL, Llt, leL, Lle, eqL, addL, Ladd, subL, subN, decN, eqM, Mle, mulL, nI_add, nI_ltI, nI_leI, nI_eq, nI_clamp, up2_at, nltT, nltF, nleT, nleF, neqT, neqF, ↓reduceIte, true_or, or_true, false_or, or_false, or_self, true_and, and_true, false_and, and_false, and_self, not_true, not_false_eq_true, i10, i01, im0, im12, im21, m1lt, m2lt, m1le, m2le, i00, i0le0, i1le0, i2le0, i3le0, eq_self, na, nc, hnneg, hnneg', heq]) | ((with_reducible refine ip ?_ ?_); · simp (disch := omega) only [ltL, Llt, leL, Lle, eqL, addL, Ladd, subL, subN, decN, eqM, Mle, mulL, nI_add, nI_ltI, nI_leI, nI_eq, nI_clamp, up2_at, nltT, nltF, nleT, nleF, neqT, neqF, ↓reduceIte, true_or, or_true, false_or, or_false, or_self, true_and, and_true, false_and, and_false, and_self, not_true, not_false_eq_true, i10, i01, im0, im12, im21, m1lt, m2lt, m1le, m2le, i00, i0le0, i1le0, i2le0, i3le0, eq_self, na, nc, hnneg, hnneg', heq]))
                rfl
        · have st := fit_ne (N := N) (f := f) (σ := σ) (by omega : z < 63) (by omega) (by omega) e22 e23 hge' (by rw [r6, ← e0, ← e0']; exact heq)
          refine ⟨y, hy, fun k => Or.inl rfl, Or.inr ⟨?_, σ, st, hs⟩⟩
          have hp : f_X2_fitsWithin N (dd + 1) y (nI a) (nI c) (nI lev) = f_X2_fitsWithin_119 N (f_X2_fitsWithin N dd) y (nI a) (nI c) 0 := by
            rewrite [f_X2_fitsWithin, f_X2_fitsWithin_step, e1]
            repeat (first | with_reducible refine bnE ?_ | with_reducible refine exI ?_ | with_reducible refine exJ ?_ | with_reducible refine bs (him) ?_ | with_reducible refine bs (hhd) ?_ | with_reducible refine bs (hhd') ?_ | ((with_reducible refine iN ?_ ?_); · simp (disch := omega) only [ltL, Llt, leL, Lle, eqL, addL, Ladd, subL, subN, decN, eqM, Mle, mulL, nI_add, nI_ltI, nI_leI, nI_eq, nI_clamp, up2_at, nltT, nltF, nleT, nleF, neqT, neqF, ↓reduceIte, true_or, or_true, false_or, or_false, or_self, true_and, and_true, false_and, and_false, and_self, not_true, not_false_eq_true, i10, i01, im0, im12, im21, m1lt, m2lt, m1le, m2le, i00, i0le0, i1le0, i2le0, i3le0, eq_self, na, nc, hnneg, heq]) | ((with_reducible refine ip ?_ ?_); · simp (disch := omega) only [ltL, Llt, leL, Lle, eqL, addL, Ladd, subL, subN, decN, eqM, Mle, mulL, nI_add, nI_ltI, nI_leI, nI_eq, nI_clamp, up2_at, nltT, nltF, nleT, nleF, neqT, neqF, ↓reduceIte, true_or, or_true, false_or, or_false, or_self, true_and, and_true, false_and, and_false, and_self, not_true, not_false_eq_true, i10, i01, im0, im12, im21, m1lt, m2lt, m1le, m2le, i00, i0le0, i1le0, i2le0, i3le0, eq_self, na, nc, hnneg, heq]))
            rfl
          rewrite [hp, f_X2_fitsWithin_119]
          exact ip rfl rfl
