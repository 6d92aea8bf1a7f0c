/-! PURE: the class's images -/
theorem php : ∀ (b a : Nat) (f : Nat → Nat), (∀ k, k < a → f k < b) → (∀ k l, k < a → l < a → f k = f l → k = l) → a ≤ b := by
  intro b
  induction b with
  | zero =>
    intro a f h _
    rcases Nat.eq_zero_or_pos a with e | e
    · omega
    · exact absurd (h 0 e) (by omega)
  | succ b ih =>
    intro a f h hi
    rcases Nat.eq_zero_or_pos a with e | e
    · omega
    · obtain ⟨a, rfl⟩ : ∃ z, a = z + 1 := ⟨a - 1, by omega⟩
      have := ih a (fun k => if f k = b then f a else f k) (fun k hk => by
        show (if f k = b then f a else f k) < b
        by_cases q : f k = b
        · rw [if_pos q]
          have h1 := h a (by omega)
          have h2 : f a ≠ b := fun z => by
            have := hi k a (by omega) (by omega) (q.trans z.symm)
            omega
          omega
        · rw [if_neg q]
          have := h k (by omega)
          omega) (fun k l hk hl e => by
        have e : (if f k = b then f a else f k) = (if f l = b then f a else f l) := e
        by_cases q1 : f k = b
        · by_cases q2 : f l = b
          · exact hi k l (by omega) (by omega) (q1.trans q2.symm)
          · rw [if_pos q1, if_neg q2] at e
            have := hi a l (by omega) (by omega) e
            omega
        · by_cases q2 : f l = b
          · rw [if_neg q1, if_pos q2] at e
            have := hi k a (by omega) (by omega) e
            omega
          · rw [if_neg q1, if_neg q2] at e
            exact hi k l (by omega) (by omega) e)
      omega
theorem php2 {a b : Nat} {R : Nat → Nat → Prop} (h : ∀ k, k < a → ∃ j, j < b ∧ R k j) (hi : ∀ k l j, k < a → l < a → R k j → R l j → k = l) : a ≤ b := by
  refine php b a (fun k => if hk : k < a then Classical.choose (h k hk) else 0) (fun k hk => ?_) (fun k l hk hl e => ?_)
  · show (if hk : k < a then Classical.choose (h k hk) else 0) < b
    rw [dif_pos hk]; exact (Classical.choose_spec (h k hk)).1
  · have e : (if hk : k < a then Classical.choose (h k hk) else 0) = (if hk : l < a then Classical.choose (h l hk) else 0) := e
    rw [dif_pos hk, dif_pos hl] at e
    refine hi k l _ hk hl (Classical.choose_spec (h k hk)).2 ?_
    rw [e]; exact (Classical.choose_spec (h l hl)).2
theorem made_cases {N n : Nat} {y : St} (T : TC n y) (hN : 8000 < N) {a b : Int32} (ha : Kid n a) (hb : Kid n b) (h : Int32) : ∃ r y', f_X2_made N y h a b = some (r, y') ∧ ((r = -1 ∧ y' = y ∧ (¬ (sz (nd h (tC y a) (tC y b)) ≤ 200 ∧ hg (nd h (tC y a) (tC y b)) ≤ 24) ∨ (n = 8000 ∧ ∀ k, k < n → tC y (nI k) ≠ nd h (tC y a) (tC y b)))) ∨ (∃ g n', r = nI g ∧ g < n' ∧ TC n' y' ∧ n ≤ n' ∧ n' ≤ n + 1 ∧ (∀ i, Kid n i → tC y' i = tC y i) ∧ tC y' (nI g) = nd h (tC y a) (tC y b) ∧ FrC y y' ∧ (n' = n ∨ tC y' (nI n) = nd h (tC y a) (tC y b)))) := by
  obtain ⟨hn, h10, hC, hL, hU, hS⟩ := id T
  obtain ⟨r, hF, hr⟩ := made_run (N := N) T hN ha hb h
  by_cases s1 : sz (nd h (tC y a) (tC y b)) ≤ 200
  · rw [if_neg (by omega)] at hr
    by_cases s2 : hg (nd h (tC y a) (tC y b)) ≤ 24
    · rw [if_pos s2] at hr
      rcases hF with ⟨k, hk, e0, e1, e2, er⟩ | ⟨hno, er⟩
      · rw [if_neg (by rw [er]; exact nI_ne_m1 (by omega))] at hr
        refine ⟨r, y, hr, Or.inr ⟨k, n, er, hk, T, Nat.le_refl _, by omega, fun _ _ => rfl, ?_, fun _ _ _ _ _ _ _ _ _ => rfl, Or.inl rfl⟩⟩
        exact (tT_is hL hU (by omega) hk ha hb).mpr ⟨e0, e1, e2⟩
      · rw [if_pos er] at hr
        by_cases hlt : n < 8000
        · rw [if_pos hlt] at hr
          obtain ⟨c1, c2, c3⟩ := mkC_ok T hlt ha hb hno s1 s2 rfl
          refine ⟨nI n, _, hr, Or.inr ⟨n, n + 1, rfl, by omega, c1, by omega, by omega, c3, c2, ?_, Or.inr c2⟩⟩
          intro r a0 a1 a2 a3 a4 a5 a6 a10
          funext i
          rw [mk_row]
          simp [a0, a1, a2, a3, a4, a5, a6, a10]
        · rw [if_neg hlt] at hr
          refine ⟨-1, y, hr, Or.inl ⟨rfl, rfl, Or.inr ⟨by omega, fun k hk e => ?_⟩⟩⟩
          exact hno k hk ((tT_is hL hU (by omega) hk ha hb).mp e)
    · rw [if_neg s2] at hr
      exact ⟨-1, y, hr, Or.inl ⟨rfl, rfl, Or.inl (fun z => s2 z.2)⟩⟩
  · rw [if_pos (by omega)] at hr
    exact ⟨-1, y, hr, Or.inl ⟨rfl, rfl, Or.inl (fun z => s1 z.1)⟩⟩
theorem old_rowsC {n nc : Nat} {y0 y : St} (T0 : TC n y0) (T : TC nc y) (hn : n ≤ nc) (ht : ∀ i, Kid n i → tC y i = tC y0 i) : ∀ z, z < n → y 0 z = y0 0 z ∧ y 1 z = y0 1 z ∧ y 2 z = y0 2 z := by
  intro z hz
  have hb := T.1
  have e1 : tC y (nI z) = nd (y 0 z) (tC y (y 1 z)) (tC y (y 2 z)) := tT_nd (hd := y 0) T.2.2.2.1 (by omega) (by omega)
  have e2 : tC y0 (nI z) = nd (y0 0 z) (tC y0 (y0 1 z)) (tC y0 (y0 2 z)) := tT_nd (hd := y0 0) T0.2.2.2.1 (by omega) hz
  have e3 := ht (nI z) (Or.inr ⟨z, hz, rfl⟩)
  rw [e1, e2] at e3
  obtain ⟨p1, p2, p3⟩ := nd_inj e3
  have k1 := (T0.2.2.2.1 z hz).1.mono (by omega : z ≤ n)
  have k2 := (T0.2.2.2.1 z hz).2.mono (by omega : z ≤ n)
  rw [← ht _ k1] at p2
  rw [← ht _ k2] at p3
  exact ⟨p1, tT_inj T.2.2.2.1 T.2.2.2.2.1 (by omega) _ _ ((T.2.2.2.1 z (by omega)).1.mono (by omega)) (k1.mono hn) p2, tT_inj T.2.2.2.1 T.2.2.2.2.1 (by omega) _ _ ((T.2.2.2.1 z (by omega)).2.mono (by omega)) (k2.mono hn) p3⟩
/-- the class's memory of images, u the stamp -/
def MMi (n u nc : Nat) (h0 : Int32) (τ0 : Ty) (y0 y : St) : Prop := TC nc y ∧ n ≤ nc ∧ (∀ i, Kid n i → tC y i = tC y0 i) ∧ (∀ r, r ≠ 0 → r ≠ 1 → r ≠ 2 → r ≠ 3 → r ≠ 4 → r ≠ 5 → r ≠ 6 → r ≠ 7 → r ≠ 8 → r ≠ 10 → y r = y0 r) ∧ (∀ k, y 8 k = y0 8 k ∨ y 8 k = nI u) ∧ (∀ k, k < n → y0 0 k = h0 → y 8 k = nI u) ∧ ∀ k, k < n → y 8 k = nI u → y 7 k = -1 ∨ (Kd nc (y 7 k) ∧ tC y (y 7 k) = sb h0 τ0 (tC y0 (nI k)) ∧ (∀ l, y0 1 k = nI l → l < n → y 8 l = nI u ∧ y 7 l ≠ -1) ∧ (∀ l, y0 2 k = nI l → l < n → y 8 l = nI u ∧ y 7 l ≠ -1))
def NoF (n u : Nat) (y : St) : Prop := ∀ k, k < n → y 8 k = nI u → y 7 k ≠ -1
def AllR (n1 nc : Nat) (ρ : Nat → Ty) (y : St) : Prop := ∀ k, k < nc → ∃ j, j < n1 ∧ tC y (nI k) = ρ j
theorem img_null {N d : Nat} {y : St} {x : Int32} : f_X2_imageWithin N (d + 1) y (-1) x = some (-1, y) := by
  rewrite [f_X2_imageWithin, f_X2_imageWithin_step]
  exact ip rfl rfl
/-- an image more -/
theorem MMi.set {n u nc a : Nat} {h0 r : Int32} {τ0 : Ty} {y0 y : St} (h11 : y0 11 0 = nI u) (hu : u < 2 ^ 31) (M : MMi n u nc h0 τ0 y0 y) (ha : a < n) (hna : y 8 a ≠ nI u) (hL : Low n (y0 1) (y0 2)) (hr : r = -1 ∨ (Kd nc r ∧ tC y r = sb h0 τ0 (tC y0 (nI a)) ∧ (∀ l, y0 1 a = nI l → l < n → y 8 l = nI u ∧ y 7 l ≠ -1) ∧ (∀ l, y0 2 a = nI l → l < n → y 8 l = nI u ∧ y 7 l ≠ -1))) : MMi n u nc h0 τ0 y0 (up2 (up2 y 7 a r) 8 a (y 11 0)) ∧ (∀ k, (up2 (up2 y 7 a r) 8 a (y 11 0)) 8 k = if k = a then nI u else y 8 k) ∧ (∀ k, (up2 (up2 y 7 a r) 8 a (y 11 0)) 7 k = if k = a then r else y 7 k) ∧ tC (up2 (up2 y 7 a r) 8 a (y 11 0)) = tC y := by
  obtain ⟨M1, M2, M3, M4, M5, M6, M7⟩ := M
  have e11 : y 11 0 = nI u := by rw [M4 11 (by decide) (by decide) (by decide) (by decide) (by decide) (by decide) (by decide) (by decide) (by decide) (by decide)]; exact h11
  have z8 : ∀ k, up2 (up2 y 7 a r) 8 a (y 11 0) 8 k = if k = a then nI u else y 8 k := fun k => by
    by_cases e : k = a
    · subst e; rw [if_pos rfl]; simp (disch := omega) only [ltL, Llt, leL, Lle, eqL, addL, Ladd, subL, subN, decN, eqM, Mle, mulL, nI_add, nI_ltI, nI_leI, nI_eq, nI_clamp, up2_at, nltT, nltF, nleT, nleF, neqT, neqF, ↓reduceIte, true_or, or_true, false_or, or_false, or_self, true_and, and_true, false_and, and_false, and_self, not_true, not_false_eq_true, i10, i01, im0, im12, im21, m1lt, m2lt, m1le, m2le, i00, i0le0, i1le0, i2le0, i3le0, eq_self, ]; exact e11
    · rw [if_neg e]; simp (disch := omega) only [ltL, Llt, leL, Lle, eqL, addL, Ladd, subL, subN, decN, eqM, Mle, mulL, nI_add, nI_ltI, nI_leI, nI_eq, nI_clamp, up2_at, nltT, nltF, nleT, nleF, neqT, neqF, ↓reduceIte, true_or, or_true, false_or, or_false, or_self, true_and, and_true, false_and, and_false, and_self, not_true, not_false_eq_true, i10, i01, im0, im12, im21, m1lt, m2lt, m1le, m2le, i00, i0le0, i1le0, i2le0, i3le0, eq_self, e]
  have z7 : ∀ k, up2 (up2 y 7 a r) 8 a (y 11 0) 7 k = if k = a then r else y 7 k := fun k => by
    by_cases e : k = a
    · subst e; rw [if_pos rfl]; simp (disch := omega) only [ltL, Llt, leL, Lle, eqL, addL, Ladd, subL, subN, decN, eqM, Mle, mulL, nI_add, nI_ltI, nI_leI, nI_eq, nI_clamp, up2_at, nltT, nltF, nleT, nleF, neqT, neqF, ↓reduceIte, true_or, or_true, false_or, or_false, or_self, true_and, and_true, false_and, and_false, and_self, not_true, not_false_eq_true, i10, i01, im0, im12, im21, m1lt, m2lt, m1le, m2le, i00, i0le0, i1le0, i2le0, i3le0, eq_self, ]
    · rw [if_neg e]; simp (disch := omega) only [ltL, Llt, leL, Lle, eqL, addL, Ladd, subL, subN, decN, eqM, Mle, mulL, nI_add, nI_ltI, nI_leI, nI_eq, nI_clamp, up2_at, nltT, nltF, nleT, nleF, neqT, neqF, ↓reduceIte, true_or, or_true, false_or, or_false, or_self, true_and, and_true, false_and, and_false, and_self, not_true, not_false_eq_true, i10, i01, im0, im12, im21, m1lt, m2lt, m1le, m2le, i00, i0le0, i1le0, i2le0, i3le0, eq_self, e]
  obtain ⟨T1, ht⟩ := M1.congr (y' := up2 (up2 y 7 a r) 8 a (y 11 0)) (by simp (disch := decide) only [up2_row, upR_row, and_self, eq_self, ])
  refine ⟨⟨T1, M2, by rw [ht]; exact M3, fun r' h0 h1 h2 h3 h4 h5 h6 h7 h8 h10 => by rw [up2_row h8, up2_row h7]; exact M4 r' h0 h1 h2 h3 h4 h5 h6 h7 h8 h10, fun k => ?_, fun k hk e0 => ?_, fun k hk h8 => ?_⟩, z8, z7, ht⟩
  · rw [z8]
    by_cases e : k = a
    · rw [if_pos e]; exact Or.inr rfl
    · rw [if_neg e]; exact M5 k
  · rw [z8]
    by_cases e : k = a
    · rw [if_pos e]
    · rw [if_neg e]; exact M6 k hk e0
  · have kids : ∀ l, y 8 l = nI u ∧ y 7 l ≠ -1 → up2 (up2 y 7 a r) 8 a (y 11 0) 8 l = nI u ∧ up2 (up2 y 7 a r) 8 a (y 11 0) 7 l ≠ -1 := fun l hl => by
      have : ¬ l = a := fun e => by subst e; exact hna hl.1
      rw [z8, z7, if_neg this, if_neg this]; exact hl
    rw [z8] at h8
    rw [z7, ht]
    by_cases e : k = a
    · subst e
      rw [if_pos rfl]
      rcases hr with hr | ⟨q1, q2, q3, q4⟩
      · exact Or.inl hr
      · exact Or.inr ⟨q1, q2, fun l el hl => kids l (q3 l el hl), fun l el hl => kids l (q4 l el hl)⟩
    · rw [if_neg e] at h8 ⊢
      rcases M7 k hk h8 with q | ⟨q1, q2, q3, q4⟩
      · exact Or.inl q
      · exact Or.inr ⟨q1, q2, fun l el hl => kids l (q3 l el hl), fun l el hl => kids l (q4 l el hl)⟩
theorem img_ok {N n u n1 : Nat} {h0 : Int32} {τ0 : Ty} {y0 : St} {ρ : Nat → Ty} {G : Nat → Prop} (hN : 34100 < N) (T0 : TC n y0) (h11 : y0 11 0 = nI u) (hu : u < 2 ^ 31) (h8 : ∀ j, j < n → y0 1 j = -1 → y0 2 j = -1) (hG : ∀ k, k < n → G k → n1 ≤ 8000 ∧ sz (sb h0 τ0 (tC y0 (nI k))) ≤ 200 ∧ hg (sb h0 τ0 (tC y0 (nI k))) ≤ 24 ∧ ∃ j, j < n1 ∧ ρ j = sb h0 τ0 (tC y0 (nI k))) (hGk : ∀ k, k < n → G k → (∀ l, y0 1 k = nI l → l < n → G l) ∧ (∀ l, y0 2 k = nI l → l < n → G l)) :
    ∀ a y nc lev dd, a < n → MMi n u nc h0 τ0 y0 y → hg (tC y0 (nI a)) ≤ lev → lev < dd → dd ≤ 100 → ∃ r y' nc', f_X2_imageWithin N dd y (nI a) (nI lev) = some (r, y') ∧ MMi n u nc' h0 τ0 y0 y' ∧ nc ≤ nc' ∧ (∀ i, Kid nc i → tC y' i = tC y i) ∧ y' 8 a = nI u ∧ y' 7 a = r ∧ (∀ k, k < n → y 8 k = nI u → y' 8 k = nI u ∧ y' 7 k = y 7 k) ∧ (∀ k, a < k → y' 8 k = y 8 k ∧ y' 7 k = y 7 k) ∧ (G a → NoF n u y → AllR n1 nc ρ y → NoF n u y' ∧ AllR n1 nc' ρ y') := by
  have hn := T0.1
  intro a
  induction a using Nat.strongRecOn with
  | _ a ih =>
    intro y nc lev dd ha M hlev hdd hdd'
    obtain ⟨M1, M2, M3, M4, M5, M6, M7⟩ := id M
    obtain ⟨dd, rfl⟩ : ∃ w, dd = w + 1 := ⟨dd - 1, by omega⟩
    have hnc := M1.1
    have hpos := sz_pos T0 ha
    obtain ⟨o0, o1, o2⟩ := old_rowsC T0 M1 M2 M3 a ha
    have e11 : y 11 0 = nI u := by rw [M4 11 (by decide) (by decide) (by decide) (by decide) (by decide) (by decide) (by decide) (by decide) (by decide) (by decide)]; exact h11
    have him := hasImage_ok (N := N) (y := y) (by omega : a < 8000)
    rw [e11] at him
    have na : ¬ nI a = -1 := nI_ne_m1 (by omega)
    have hfst := first_in (N := N) (y := y) (by omega : a < 8000)
    rw [o1] at hfst
    have et : tC y0 (nI a) = nd (y0 0 a) (tC y0 (y0 1 a)) (tC y0 (y0 2 a)) := tT_nd (hd := y0 0) T0.2.2.2.1 (by omega) ha
    have ehg : hg (tC y0 (nI a)) = 1 + max (hg (tC y0 (y0 1 a))) (hg (tC y0 (y0 2 a))) := by rw [et, hg_nd]
    have elev : nI lev - 1 = nI (lev - 1) := subL (k := 1) (by show 1 ≤ lev; omega)
    by_cases memo : y 8 a = nI u
    · rw [if_pos memo] at him
      refine ⟨y 7 a, y, nc, ?_, M, Nat.le_refl _, fun _ _ => rfl, memo, rfl, fun _ _ h => ⟨h, rfl⟩, fun _ _ => ⟨rfl, rfl⟩, fun _ h1 h2 => ⟨h1, h2⟩⟩
      have hrd := rd_in (N := N) (g := y 7) (by omega : a < 8000) (by omega)
      rewrite [f_X2_imageWithin, f_X2_imageWithin_step]
      repeat (first | with_reducible refine bnE ?_ | with_reducible refine exI ?_ | with_reducible refine exJ ?_ | with_reducible refine bs (him) ?_ | ((with_reducible refine iN ?_ ?_); · simp (disch := omega) only [ltL, Llt, leL, Lle, eqL, addL, Ladd, subL, subN, decN, eqM, Mle, mulL, nI_add, nI_ltI, nI_leI, nI_eq, nI_clamp, up2_at, nltT, nltF, nleT, nleF, neqT, neqF, ↓reduceIte, true_or, or_true, false_or, or_false, or_self, true_and, and_true, false_and, and_false, and_self, not_true, not_false_eq_true, i10, i01, im0, im12, im21, m1lt, m2lt, m1le, m2le, i00, i0le0, i1le0, i2le0, i3le0, eq_self, na]) | ((with_reducible refine ip ?_ ?_); · simp (disch := omega) only [ltL, Llt, leL, Lle, eqL, addL, Ladd, subL, subN, decN, eqM, Mle, mulL, nI_add, nI_ltI, nI_leI, nI_eq, nI_clamp, up2_at, nltT, nltF, nleT, nleF, neqT, neqF, ↓reduceIte, true_or, or_true, false_or, or_false, or_self, true_and, and_true, false_and, and_false, and_self, not_true, not_false_eq_true, i10, i01, im0, im12, im21, m1lt, m2lt, m1le, m2le, i00, i0le0, i1le0, i2le0, i3le0, eq_self, na]))
      rewrite [f_X2_imageWithin_45]
      exact bs hrd rfl
    · rw [if_neg memo] at him
      have nh0 : ¬ y0 0 a = h0 := fun e => memo (M6 a ha e)
      -- the end: r is set as the image
      have fin : ∀ (r : Int32) (y1 : St) (n2 : Nat), MMi n u n2 h0 τ0 y0 y1 → nc ≤ n2 → (∀ i, Kid nc i → tC y1 i = tC y i) → (∀ k, k < n → y 8 k = nI u → y1 8 k = nI u ∧ y1 7 k = y 7 k) → (∀ k, a ≤ k → y1 8 k = y 8 k ∧ y1 7 k = y 7 k) → (r = -1 ∨ (Kd n2 r ∧ tC y1 r = sb h0 τ0 (tC y0 (nI a)) ∧ (∀ l, y0 1 a = nI l → l < n → y1 8 l = nI u ∧ y1 7 l ≠ -1) ∧ (∀ l, y0 2 a = nI l → l < n → y1 8 l = nI u ∧ y1 7 l ≠ -1))) → (G a → NoF n u y → AllR n1 nc ρ y → r ≠ -1 ∧ NoF n u y1 ∧ AllR n1 n2 ρ y1) → f_X2_imageWithin N (dd + 1) y (nI a) (nI lev) = f_X2_imageWithin_42 N (f_X2_imageWithin N dd) y1 (nI a) (nI a) r → ∃ r y' nc', f_X2_imageWithin N (dd + 1) y (nI a) (nI lev) = some (r, y') ∧ MMi n u nc' h0 τ0 y0 y' ∧ nc ≤ nc' ∧ (∀ i, Kid nc i → tC y' i = tC y i) ∧ y' 8 a = nI u ∧ y' 7 a = r ∧ (∀ k, k < n → y 8 k = nI u → y' 8 k = nI u ∧ y' 7 k = y 7 k) ∧ (∀ k, a < k → y' 8 k = y 8 k ∧ y' 7 k = y 7 k) ∧ (G a → NoF n u y → AllR n1 nc ρ y → NoF n u y' ∧ AllR n1 nc' ρ y') := by
        intro r y1 n2 g1 g2 g3 g4 g5 g6 g7 g8
        obtain ⟨S1, z8, z7, ht⟩ := MMi.set h11 hu g1 ha (by rw [(g5 a (Nat.le_refl _)).1]; exact memo) T0.2.2.2.1 g6
        have v8 : up2 (up2 y1 7 a r) 8 a (y1 11 0) 8 a = nI u := by rw [z8, if_pos rfl]
        have v7 : up2 (up2 y1 7 a r) 8 a (y1 11 0) 7 a = r := by rw [z7, if_pos rfl]
        refine ⟨r, up2 (up2 y1 7 a r) 8 a (y1 11 0), n2, ?_, S1, g2, fun i hi => by rw [ht]; exact g3 i hi, v8, v7, fun k hk h8' => ?_, fun k hk => ?_, fun q1 q2 q3 => ?_⟩
        · have hset := setImage_ok (N := N) (y := y1) (v := r) (by omega : a < 8000)
          have hrd := rd_in (N := N) (g := up2 (up2 y1 7 a r) 8 a (y1 11 0) 7) (by omega : a < 8000) (by omega)
          rw [v7] at hrd
          rewrite [g8, f_X2_imageWithin_42]
          refine bs hset ?_
          rewrite [f_X2_imageWithin_45]
          exact bs hrd rfl
        · have : ¬ k = a := fun e => by subst e; exact memo h8'
          rw [z8, z7, if_neg this, if_neg this]; exact g4 k hk h8'
        · have : ¬ k = a := by omega
          rw [z8, z7, if_neg this, if_neg this]; exact g5 k (by omega)
        · obtain ⟨w1, w2, w3⟩ := g7 q1 q2 q3
          refine ⟨fun k hk h8' => ?_, fun k hk => by rw [ht]; exact w3 k hk⟩
          rw [z8] at h8'
          rw [z7]
          by_cases e : k = a
          · rw [if_pos e]; exact w1
          · rw [if_neg e] at h8' ⊢; exact w2 k hk h8'
      rcases (T0.2.2.2.1 a ha).1 with k1 | ⟨a1, ha1, ea1⟩
      · -- no parts
        have k2 := h8 a ha k1
        rw [k1] at hfst
        refine fin (nI a) y nc M (Nat.le_refl _) (fun _ _ => rfl) (fun _ _ h => ⟨h, rfl⟩) (fun _ _ => ⟨rfl, rfl⟩) (Or.inr ⟨⟨a, by omega, rfl⟩, ?_, fun l el hl => ?_, fun l el hl => ?_⟩) (fun _ h1 h2 => ⟨na, h1, h2⟩) ?_
        · rw [M3 _ (Or.inr ⟨a, ha, rfl⟩), et, k1, k2, null_C, sb_nd, if_neg nh0, sb_null]
        · rw [k1] at el; exact absurd el.symm (nI_ne_m1 (by omega))
        · rw [k2] at el; exact absurd el.symm (nI_ne_m1 (by omega))
        · rewrite [f_X2_imageWithin, f_X2_imageWithin_step]
          repeat (first | with_reducible refine bnE ?_ | with_reducible refine exI ?_ | with_reducible refine exJ ?_ | with_reducible refine bs (him) ?_ | with_reducible refine bs (hfst) ?_ | ((with_reducible refine iN ?_ ?_); · simp (disch := omega) only [ltL, Llt, leL, Lle, eqL, addL, Ladd, subL, subN, decN, eqM, Mle, mulL, nI_add, nI_ltI, nI_leI, nI_eq, nI_clamp, up2_at, nltT, nltF, nleT, nleF, neqT, neqF, ↓reduceIte, true_or, or_true, false_or, or_false, or_self, true_and, and_true, false_and, and_false, and_self, not_true, not_false_eq_true, i10, i01, im0, im12, im21, m1lt, m2lt, m1le, m2le, i00, i0le0, i1le0, i2le0, i3le0, eq_self, na]) | ((with_reducible refine ip ?_ ?_); · simp (disch := omega) only [ltL, Llt, leL, Lle, eqL, addL, Ladd, subL, subN, decN, eqM, Mle, mulL, nI_add, nI_ltI, nI_leI, nI_eq, nI_clamp, up2_at, nltT, nltF, nleT, nleF, neqT, neqF, ↓reduceIte, true_or, or_true, false_or, or_false, or_self, true_and, and_true, false_and, and_false, and_self, not_true, not_false_eq_true, i10, i01, im0, im12, im21, m1lt, m2lt, m1le, m2le, i00, i0le0, i1le0, i2le0, i3le0, eq_self, na]))
          rfl
      · -- parts
        rw [ea1] at hfst
        have n1' : ¬ nI a1 = -1 := nI_ne_m1 (by omega)
        obtain ⟨dd, rfl⟩ : ∃ w, dd = w + 1 := ⟨dd - 1, by omega⟩
        obtain ⟨r1, y1, nc1, f1, F1, F2, F3, F4, F5, F6, F7, F8⟩ := ih a1 ha1 y nc (lev - 1) (dd + 1) (by omega) M (by rw [ea1] at ehg; omega) (by omega) (by omega)
        -- the second part: an image, or none
        have second : ∃ r2 y2 nc2, f_X2_second N y1 (nI a) = some (y0 2 a, y1) ∧ f_X2_imageWithin N (dd + 1) y1 (y0 2 a) (nI (lev - 1)) = some (r2, y2) ∧ f_X2_second N y2 (nI a) = some (y0 2 a, y2) ∧ f_X2_head N y2 (nI a) = some (y0 0 a, y2) ∧ MMi n u nc2 h0 τ0 y0 y2 ∧ nc1 ≤ nc2 ∧ (∀ i, Kid nc1 i → tC y2 i = tC y1 i) ∧ (∀ k, k < n → y1 8 k = nI u → y2 8 k = nI u ∧ y2 7 k = y1 7 k) ∧ (∀ k, a ≤ k → y2 8 k = y1 8 k ∧ y2 7 k = y1 7 k) ∧ (G a → NoF n u y1 → AllR n1 nc1 ρ y1 → (y0 2 a = -1 ∨ r2 ≠ -1) ∧ NoF n u y2 ∧ AllR n1 nc2 ρ y2) ∧ ((r2 = -1) ∨ (y0 2 a ≠ -1 ∧ Kd nc2 r2)) ∧ (r2 = -1 → y0 2 a = -1 → tC y2 r2 = sb h0 τ0 (tC y0 (y0 2 a))) ∧ (r2 ≠ -1 → tC y2 r2 = sb h0 τ0 (tC y0 (y0 2 a)) ∧ ∀ l, y0 2 a = nI l → l < n → y2 8 l = nI u ∧ y2 7 l ≠ -1) := by
          obtain ⟨G1, G2, G3, G4, G5, G6, G7⟩ := id F1
          obtain ⟨q0, q1, q2⟩ := old_rowsC T0 G1 G2 G3 a ha
          have hs1 := second_in (N := N) (y := y1) (by omega : a < 8000)
          rw [q2] at hs1
          rcases (T0.2.2.2.1 a ha).2 with k2 | ⟨a2, ha2, ea2⟩
          · have hh1 := head_in (N := N) (y := y1) (by omega : a < 8000)
            rw [q0] at hh1
            refine ⟨-1, y1, nc1, hs1, by rw [k2]; exact img_null, hs1, hh1, F1, Nat.le_refl _, fun _ _ => rfl, fun _ _ h => ⟨h, rfl⟩, fun _ _ => ⟨rfl, rfl⟩, fun _ h1 h2 => ⟨Or.inl k2, h1, h2⟩, Or.inl rfl, fun _ _ => ?_, fun q => absurd rfl q⟩
            rw [k2, null_C, null_C, sb_null]
          · obtain ⟨r2, y2, nc2, g0, g1, g2, g3, g4, g5, g6, g7, g8⟩ := ih a2 ha2 y1 nc1 (lev - 1) (dd + 1) (by omega) F1 (by rw [ea2] at ehg; omega) (by omega) (by omega)
            obtain ⟨H1, H2, H3, H4, H5, H6, H7⟩ := id g1
            obtain ⟨p0, p1, p2⟩ := old_rowsC T0 H1 H2 H3 a ha
            have hs2 := second_in (N := N) (y := y2) (by have := H1.1; omega : a < 8000)
            rw [p2] at hs2
            have hh2 := head_in (N := N) (y := y2) (by omega : a < 8000)
            rw [p0] at hh2
            have img2 : r2 ≠ -1 → Kd nc2 r2 ∧ tC y2 r2 = sb h0 τ0 (tC y0 (y0 2 a)) := fun q => by
              rcases H7 a2 (by omega) g4 with z | ⟨z1, z2, -⟩
              · rw [g5] at z; exact absurd z q
              · rw [g5] at z1 z2
                rw [ea2]; exact ⟨z1, z2⟩
            refine ⟨r2, y2, nc2, hs1, by rw [ea2]; exact g0, hs2, hh2, g1, g2, g3, g6, fun k hk => g7 k (by omega), fun hg' h1 h2 => ?_, ?_, fun _ q => ?_, fun q => ⟨(img2 q).2, fun l el hl => ?_⟩⟩
            · obtain ⟨w1, w2⟩ := g8 ((hGk a ha hg').2 a2 ea2 (by omega)) h1 h2
              exact ⟨Or.inr (by rw [← g5]; exact w1 a2 (by omega) g4), w1, w2⟩
            · by_cases q : r2 = -1
              · exact Or.inl q
              · exact Or.inr ⟨by rw [ea2]; exact nI_ne_m1 (by omega), (img2 q).1⟩
            · rw [ea2] at q; exact absurd q (nI_ne_m1 (by omega))
            · have : l = a2 := (nI_eq (by omega) (by omega)).mp (el.symm.trans ea2)
              subst this
              exact ⟨g4, by rw [g5]; exact q⟩
        obtain ⟨r2, y2, nc2, s1, f2, s2, s3, S1, S2, S3, S4, S5, S6, S7, S8, S9⟩ := second
        obtain ⟨H1, H2, H3, H4, H5, H6, H7⟩ := id S1
        have hnc2 := H1.1
        -- what the class does with both
        have toR : f_X2_imageWithin N (dd + 1 + 1) y (nI a) (nI lev) = (f_X2_rebuilt N (f_X2_imageWithin N (dd + 1)) y (nI a) (nI (lev - 1))).bind (fun q7 => f_X2_imageWithin_42 N (f_X2_imageWithin N (dd + 1)) q7.2 (nI a) (nI a) q7.1) := by
          rewrite [f_X2_imageWithin, f_X2_imageWithin_step, elev]
          repeat (first | with_reducible refine bnE ?_ | with_reducible refine exI ?_ | with_reducible refine exJ ?_ | with_reducible refine bs (him) ?_ | with_reducible refine bs (hfst) ?_ | ((with_reducible refine iN ?_ ?_); · simp (disch := omega) only [ltL, Llt, leL, Lle, eqL, addL, Ladd, subL, subN, decN, eqM, Mle, mulL, nI_add, nI_ltI, nI_leI, nI_eq, nI_clamp, up2_at, nltT, nltF, nleT, nleF, neqT, neqF, ↓reduceIte, true_or, or_true, false_or, or_false, or_self, true_and, and_true, false_and, and_false, and_self, not_true, not_false_eq_true, i10, i01, im0, im12, im21, m1lt, m2lt, m1le, m2le, i00, i0le0, i1le0, i2le0, i3le0, eq_self, na, n1']) | ((with_reducible refine ip ?_ ?_); · simp (disch := omega) only [ltL, Llt, leL, Lle, eqL, addL, Ladd, subL, subN, decN, eqM, Mle, mulL, nI_add, nI_ltI, nI_leI, nI_eq, nI_clamp, up2_at, nltT, nltF, nleT, nleF, neqT, neqF, ↓reduceIte, true_or, or_true, false_or, or_false, or_self, true_and, and_true, false_and, and_false, and_self, not_true, not_false_eq_true, i10, i01, im0, im12, im21, m1lt, m2lt, m1le, m2le, i00, i0le0, i1le0, i2le0, i3le0, eq_self, na, n1']))
          rfl
        have trans4 : ∀ k, k < n → y 8 k = nI u → y2 8 k = nI u ∧ y2 7 k = y 7 k := fun k hk h => by
          obtain ⟨w1, w2⟩ := F6 k hk h
          obtain ⟨w3, w4⟩ := S4 k hk w1
          exact ⟨w3, w4.trans w2⟩
        have trans5 : ∀ k, a ≤ k → y2 8 k = y 8 k ∧ y2 7 k = y 7 k := fun k hk => by
          obtain ⟨w1, w2⟩ := F7 k (by omega)
          obtain ⟨w3, w4⟩ := S5 k hk
          exact ⟨w3.trans w1, w4.trans w2⟩
        have trans3 : ∀ i, Kid nc i → tC y2 i = tC y i := fun i hi => by rw [S3 i (hi.mono F2), F3 i hi]
        have orc : G a → NoF n u y → AllR n1 nc ρ y → r1 ≠ -1 ∧ (y0 2 a = -1 ∨ r2 ≠ -1) ∧ NoF n u y2 ∧ AllR n1 nc2 ρ y2 := fun h1 h2 h3 => by
          obtain ⟨w1, w2⟩ := F8 ((hGk a ha h1).1 a1 ea1 (by omega)) h2 h3
          obtain ⟨w3, w4, w5⟩ := S6 h1 w1 w2
          exact ⟨by rw [← F5]; exact w1 a1 (by omega) F4, w3, w4, w5⟩
        have failR : (r1 = -1 ∨ (r2 = -1 ∧ y0 2 a ≠ -1)) → f_X2_rebuilt N (f_X2_imageWithin N (dd + 1)) y (nI a) (nI (lev - 1)) = some (-1, y2) := by
          intro hbad
          rewrite [f_X2_rebuilt]
          repeat (first | with_reducible refine bnE ?_ | with_reducible refine exI ?_ | with_reducible refine exJ ?_ | with_reducible refine bs (hfst) ?_ | with_reducible refine bs (f1) ?_ | with_reducible refine bs (s1) ?_ | with_reducible refine bs (f2) ?_ | ((with_reducible refine iN ?_ ?_); · simp (disch := omega) only [ltL, Llt, leL, Lle, eqL, addL, Ladd, subL, subN, decN, eqM, Mle, mulL, nI_add, nI_ltI, nI_leI, nI_eq, nI_clamp, up2_at, nltT, nltF, nleT, nleF, neqT, neqF, ↓reduceIte, true_or, or_true, false_or, or_false, or_self, true_and, and_true, false_and, and_false, and_self, not_true, not_false_eq_true, i10, i01, im0, im12, im21, m1lt, m2lt, m1le, m2le, i00, i0le0, i1le0, i2le0, i3le0, eq_self]) | ((with_reducible refine ip ?_ ?_); · simp (disch := omega) only [ltL, Llt, leL, Lle, eqL, addL, Ladd, subL, subN, decN, eqM, Mle, mulL, nI_add, nI_ltI, nI_leI, nI_eq, nI_clamp, up2_at, nltT, nltF, nleT, nleF, neqT, neqF, ↓reduceIte, true_or, or_true, false_or, or_false, or_self, true_and, and_true, false_and, and_false, and_self, not_true, not_false_eq_true, i10, i01, im0, im12, im21, m1lt, m2lt, m1le, m2le, i00, i0le0, i1le0, i2le0, i3le0, eq_self]))
          by_cases q : r2 = -1
          · refine ip q (bs s2 ?_)
            by_cases q2 : y0 2 a = -1
            · refine ip q2 ?_
              rewrite [f_X2_rebuilt_42, f_X2_rebuilt_43]
              rcases hbad with hb | ⟨-, hb⟩
              · exact ip hb rfl
              · exact absurd q2 hb
            · refine iN q2 ?_
              rewrite [f_X2_rebuilt_43]
              by_cases q3 : r1 = -1
              · exact ip q3 rfl
              · exact iN q3 (iN (by decide) rfl)
          · refine iN q ?_
            rewrite [f_X2_rebuilt_42, f_X2_rebuilt_43]
            rcases hbad with hb | ⟨hb, -⟩
            · exact ip hb rfl
            · exact absurd hb q
        by_cases hbad : r1 = -1 ∨ (r2 = -1 ∧ y0 2 a ≠ -1)
        · refine fin (-1) y2 nc2 S1 (by omega) trans3 trans4 trans5 (Or.inl rfl) (fun h1 h2 h3 => ?_) ?_
          · obtain ⟨w1, w2, w3⟩ := orc h1 h2 h3
            rcases hbad with hb | ⟨hb1, hb2⟩
            · exact absurd hb w1
            · rcases w2 with w2 | w2
              · exact absurd w2 hb2
              · exact absurd hb1 w2
          · rewrite [toR]
            exact bs (failR hbad) rfl
        · have g1 : r1 ≠ -1 := fun z => hbad (Or.inl z)
          have g2 : r2 = -1 → y0 2 a = -1 := fun z => by
            by_cases q : y0 2 a = -1
            · exact q
            · exact absurd (Or.inr ⟨z, q⟩) hbad
          -- the first part's image, still there
          obtain ⟨w8, w7⟩ := S4 a1 (by omega) F4
          rw [F5] at w7
          have imgs : Kd nc2 r1 ∧ tC y2 r1 = sb h0 τ0 (tC y0 (nI a1)) := by
            rcases H7 a1 (by omega) w8 with z | ⟨z1, z2, -⟩
            · rw [w7] at z; exact absurd z g1
            · rw [w7] at z1 z2; exact ⟨z1, z2⟩
          have k2' : Kid nc2 r2 := by
            rcases S7 with z | ⟨-, z⟩
            · exact Or.inl z
            · exact z.kid
          have t2' : tC y2 r2 = sb h0 τ0 (tC y0 (y0 2 a)) := by
            by_cases q : r2 = -1
            · exact S8 q (g2 q)
            · exact (S9 q).1
          have esb : nd (y0 0 a) (tC y2 r1) (tC y2 r2) = sb h0 τ0 (tC y0 (nI a)) := by
            rw [et, sb_nd, if_neg nh0, imgs.2, t2', ea1]
          obtain ⟨r, y3, hmade, hcase⟩ := made_cases (N := N) H1 (by omega) imgs.1.kid k2' (y0 0 a)
          rw [esb] at hcase
          have okR : f_X2_rebuilt N (f_X2_imageWithin N (dd + 1)) y (nI a) (nI (lev - 1)) = some (r, y3) := by
            have h43 : f_X2_rebuilt_43 N (f_X2_imageWithin N (dd + 1)) y2 (nI a) r1 r2 0 = some (r, y3) := by
              rewrite [f_X2_rebuilt_43]
              refine iN g1 (ip rfl (bs s3 (bs hmade ?_)))
              rfl
            rewrite [f_X2_rebuilt]
            repeat (first | with_reducible refine bnE ?_ | with_reducible refine exI ?_ | with_reducible refine exJ ?_ | with_reducible refine bs (hfst) ?_ | with_reducible refine bs (f1) ?_ | with_reducible refine bs (s1) ?_ | with_reducible refine bs (f2) ?_ | ((with_reducible refine iN ?_ ?_); · simp (disch := omega) only [ltL, Llt, leL, Lle, eqL, addL, Ladd, subL, subN, decN, eqM, Mle, mulL, nI_add, nI_ltI, nI_leI, nI_eq, nI_clamp, up2_at, nltT, nltF, nleT, nleF, neqT, neqF, ↓reduceIte, true_or, or_true, false_or, or_false, or_self, true_and, and_true, false_and, and_false, and_self, not_true, not_false_eq_true, i10, i01, im0, im12, im21, m1lt, m2lt, m1le, m2le, i00, i0le0, i1le0, i2le0, i3le0, eq_self]) | ((with_reducible refine ip ?_ ?_); · simp (disch := omega) only [ltL, Llt, leL, Lle, eqL, addL, Ladd, subL, subN, decN, eqM, Mle, mulL, nI_add, nI_ltI, nI_leI, nI_eq, nI_clamp, up2_at, nltT, nltF, nleT, nleF, neqT, neqF, ↓reduceIte, true_or, or_true, false_or, or_false, or_self, true_and, and_true, false_and, and_false, and_self, not_true, not_false_eq_true, i10, i01, im0, im12, im21, m1lt, m2lt, m1le, m2le, i00, i0le0, i1le0, i2le0, i3le0, eq_self]))
            by_cases q : r2 = -1
            · refine ip q (bs s2 (ip (g2 q) ?_))
              rewrite [f_X2_rebuilt_42]
              exact h43
            · refine iN q ?_
              rewrite [f_X2_rebuilt_42]
              exact h43
          have toF : f_X2_imageWithin N (dd + 1 + 1) y (nI a) (nI lev) = f_X2_imageWithin_42 N (f_X2_imageWithin N (dd + 1)) y3 (nI a) (nI a) r := by
            rewrite [toR]
            exact bs okR rfl
          rcases hcase with ⟨er, ey, hwhy⟩ | ⟨g, n3, er, hg3, T3, hn3, hn3', old3, t3, fr3, new3⟩
          · subst ey
            refine fin r y3 nc2 S1 (by omega) trans3 trans4 trans5 (Or.inl er) (fun h1 h2 h3 => ?_) toF
            exfalso
            obtain ⟨w1, w2, w3, w4⟩ := orc h1 h2 h3
            obtain ⟨o1, o2, o3, jr, hjr, ejr⟩ := hG a ha h1
            rcases hwhy with hw | ⟨hw1, hw2⟩
            · exact hw ⟨o2, o3⟩
            · -- more trees than places
              have : nc2 + 1 ≤ n1 := by
                refine php2 (R := fun k j => if k = nc2 then j = jr ∨ ρ j = ρ jr else tC y3 (nI k) = ρ j) (fun k hk => ?_) (fun k l j hk hl e1 e2 => ?_)
                · show ∃ j, j < n1 ∧ (if k = nc2 then j = jr ∨ ρ j = ρ jr else tC y3 (nI k) = ρ j)
                  by_cases e : k = nc2
                  · exact ⟨jr, hjr, by rw [if_pos e]; exact Or.inl rfl⟩
                  · obtain ⟨jq, hjq, ejq⟩ := w4 k (by omega)
                    exact ⟨jq, hjq, by rw [if_neg e]; exact ejq⟩
                · have e1 : (if k = nc2 then j = jr ∨ ρ j = ρ jr else tC y3 (nI k) = ρ j) := e1
                  have e2 : (if l = nc2 then j = jr ∨ ρ j = ρ jr else tC y3 (nI l) = ρ j) := e2
                  have big : (j = jr ∨ ρ j = ρ jr) → ρ j = sb h0 τ0 (tC y0 (nI a)) := fun z => by
                    rcases z with z | z
                    · rw [z]; exact ejr
                    · rw [z]; exact ejr
                  by_cases c1 : k = nc2
                  · by_cases c2 : l = nc2
                    · omega
                    · rw [if_pos c1] at e1
                      rw [if_neg c2, big e1] at e2
                      exact absurd e2 (hw2 l (by omega))
                  · by_cases c2 : l = nc2
                    · rw [if_pos c2] at e2
                      rw [if_neg c1, big e2] at e1
                      exact absurd e1 (hw2 k (by omega))
                    · rw [if_neg c1] at e1
                      rw [if_neg c2] at e2
                      have := tT_inj H1.2.2.2.1 H1.2.2.2.2.1 (by omega) _ _ (Or.inr ⟨k, by omega, rfl⟩) (Or.inr ⟨l, by omega, rfl⟩) (e1.trans e2.symm)
                      exact (nI_eq (by omega) (by omega)).mp this
              omega
          · have r7' : y3 7 = y2 7 := fr3 7 (by decide) (by decide) (by decide) (by decide) (by decide) (by decide) (by decide) (by decide)
            have r8' : y3 8 = y2 8 := fr3 8 (by decide) (by decide) (by decide) (by decide) (by decide) (by decide) (by decide) (by decide)
            have M3' : MMi n u n3 h0 τ0 y0 y3 := by
              refine ⟨T3, by omega, fun i hi => by rw [old3 i (hi.mono H2)]; exact H3 i hi, fun r' h0 h1 h2 h3 h4 h5 h6 h7 h8 h10 => by rw [fr3 r' h0 h1 h2 h3 h4 h5 h6 h10]; exact H4 r' h0 h1 h2 h3 h4 h5 h6 h7 h8 h10, by rw [r8']; exact H5, by rw [r8']; exact H6, fun k hk hk8 => ?_⟩
              rw [r8'] at hk8 ⊢
              rw [r7']
              rcases H7 k hk hk8 with z | ⟨z1, z2, z3⟩
              · exact Or.inl z
              · exact Or.inr ⟨z1.mono hn3, by rw [old3 _ z1.kid]; exact z2, z3⟩
            refine fin r y3 n3 M3' (by omega) (fun i hi => by rw [old3 i (hi.mono (by omega))]; exact trans3 i hi) (by rw [r7', r8']; exact trans4) (by rw [r7', r8']; exact trans5) (Or.inr ⟨⟨g, hg3, er⟩, by rw [er]; exact t3, fun l el hl => ?_, fun l el hl => ?_⟩) (fun h1 h2 h3 => ?_) toF
            · have : l = a1 := (nI_eq (by omega) (by omega)).mp (el.symm.trans ea1)
              subst this
              rw [r7', r8']
              exact ⟨w8, by rw [w7]; exact g1⟩
            · rw [r7', r8']
              have : r2 ≠ -1 := fun z => by
                have := g2 z
                rw [el] at this
                exact nI_ne_m1 (by omega) this
              exact (S9 this).2 l el hl
            · obtain ⟨w1, w2, w3, w4⟩ := orc h1 h2 h3
              obtain ⟨o1, o2, o3, jr, hjr, ejr⟩ := hG a ha h1
              refine ⟨by rw [er]; exact nI_ne_m1 (by have := T3.1; omega), by unfold NoF; rw [r7', r8']; exact w3, fun k hk => ?_⟩
              by_cases e : k < nc2
              · rw [old3 _ (Or.inr ⟨k, e, rfl⟩)]; exact w4 k e
              · rcases new3 with z | z
                · omega
                · obtain rfl : k = nc2 := by omega
                  exact ⟨jr, hjr, by rw [z]; exact ejr.symm⟩
