/-! PURE: a built term is kept, or the building fails -/
/-- what a symbol of a term must be -/
abbrev QT (n : Nat) (y σ : St) (c u v : Int32) : Prop := RT n y σ u v ∧ (c = -2 → ∃ A B, tC y u = nd 2 A B)
theorem push_inv {w w7 n q p hc tot m f L h : Nat} {s : Nat → Nat} {x y t b σ t' σ' : St} {e : Nat → Int32} (hn : n ≤ 8000) (i1 : I1 n (x 3) q y σ) (i2 : I2 q x σ) (i3 : I3 p n x y σ) (i4 : I4 w hc tot n y σ) (i5 : I5 w m s n y t σ) (i6 : I6 f (s m) t b σ) (i7 : I7 w7 y) (T : Tm e 0 h 0 L) (low : ∀ j, j < s m → t' 0 j = t 0 j ∧ t' 1 j = t 1 j ∧ σ' 20 j = σ 20 j ∧ σ' 21 j = σ 21 j) (hL : L ≤ 4000) (hS : s m + L ≤ 30000) (hh : h ≤ 120) (fr : ∀ r, r ≠ 20 → r ≠ 21 → r ≠ 24 → r ≠ 18 → r ≠ 19 → σ' r = σ r) (t5 : t' 5 0 = nI (m + 1)) (s18 : σ' 18 0 = nI (m + 1)) (st : ∀ i, i ≤ m → t' 2 i = t 2 i ∧ σ' 19 i = σ 19 i) (t2 : t' 2 (m + 1) = nI (s m + L)) (s19 : σ' 19 (m + 1) = nI (s m + L)) (t3 : ∀ i, i < m → t' 3 i = t 3 i) (t3m : t' 3 m = nI h) (new : ∀ i, i < L → t' 0 (s m + i) = e i ∧ σ' 20 (s m + i) = e i ∧ QT n y σ (e i) (t' 1 (s m + i)) (σ' 21 (s m + i))) (h7 : w7 ≤ w + 1 := by omega) : Inv (w + 1) x y t' b σ' := by
  have hl := T.lt
  have sm := i5.smono
  obtain ⟨Tz, ht⟩ := i1.2.1.congr (σ' := σ') (by simp (disch := decide) only [up2_row, upR_row, and_self, eq_self, fr])
  have mo : Mo n y σ n y σ' := ⟨Nat.le_refl _, fun _ _ => rfl, fun _ _ => by rw [ht]⟩
  have r1 : σ' 1 = σ 1 := by simp (disch := decide) only [up2_row, upR_row, and_self, eq_self, fr]
  have r2 : σ' 2 = σ 2 := by simp (disch := decide) only [up2_row, upR_row, and_self, eq_self, fr]
  have r3 : σ' 3 = σ 3 := by simp (disch := decide) only [up2_row, upR_row, and_self, eq_self, fr]
  have r4 : σ' 4 = σ 4 := by simp (disch := decide) only [up2_row, upR_row, and_self, eq_self, fr]
  obtain ⟨z, z1, z2⟩ : ∃ z : Nat → Nat, (∀ i, i ≤ m → z i = s i) ∧ z (m + 1) = s m + L := ⟨fun i => if i ≤ m then s i else s m + L, fun i hi => if_pos hi, if_neg (by omega)⟩
  refine ⟨n, q, p, hc, tot, m + 1, z, f, hn, I1_restore i1 i1.1 Tz mo, ?_, i3.tr mo ⟨rfl, rfl, r3, r4⟩, i4.tr (Nat.le_succ w) mo (by simp (disch := decide) only [up2_row, upR_row, and_self, eq_self, fr]), ?_, i6.tr (by rw [z2]; omega) (fun k hk => (low k hk).1) rfl (by simp (disch := decide) only [up2_row, upR_row, and_self, eq_self, fr]), i7.tr h7 ⟨rfl, rfl⟩⟩
  · obtain ⟨b1, b2, b3, b4, b5, b6⟩ := i2
    exact ⟨b1, b2, b3, by rw [r1]; exact b4, b5, by rw [r2]; exact b6⟩
  · obtain ⟨k1, k2, k3, k4, k5, k6, k7, k8⟩ := i5
    refine ⟨by omega, t5, s18, ?_, ?_, fun i hi => ?_, fun i hi => ?_, fun k hk => ?_⟩
    · rw [z1 0 (by omega)]; exact k4
    · rw [z2]; exact hS
    · by_cases c : i ≤ m
      · rw [z1 i c, (st i c).1, (st i c).2]; exact k6 i c
      · obtain rfl : i = m + 1 := by omega
        rw [z2]; exact ⟨t2, s19⟩
    · by_cases c : i < m
      · rw [z1 i (by omega), z1 (i + 1) (by omega), t3 i c]
        obtain ⟨a1, a2, h', a3, a4, a5⟩ := k7 i c
        have := sm (i + 1) m (by omega) (by omega)
        exact ⟨a1, a2, h', a3, a4, a5.congr (fun k q1 q2 => (low k (by omega)).1)⟩
      · obtain rfl : i = m := by omega
        rw [z1 i (by omega), z2]
        refine ⟨by omega, by omega, h, hh, t3m, ?_⟩
        have := T.shift (c' := t' 0) (a' := s i) (fun j hj => by rw [Nat.zero_add]; exact (new j (by omega)).1)
        rwa [Nat.sub_zero] at this
    · rw [z2] at hk
      by_cases c : k < s m
      · obtain ⟨a1, a2, a3⟩ := k8 k c
        obtain ⟨d1, d2, d3, d4⟩ := low k c
        refine ⟨by rw [d1, d3]; exact a1, by rw [d2, d4]; exact a2.mono mo, by rw [d1, d2]; exact a3⟩
      · obtain ⟨i, rfl⟩ : ∃ i, k = s m + i := ⟨k - s m, by omega⟩
        obtain ⟨a1, a2, a3, a4⟩ := new i (by omega)
        exact ⟨by rw [a1, a2], a3.mono mo, by rw [a1]; exact a4⟩
theorem stay_inv {w w7 n q p hc tot m f : Nat} {s : Nat → Nat} {x y t b σ t' σ' : St} (hn : n ≤ 8000) (i1 : I1 n (x 3) q y σ) (i2 : I2 q x σ) (i3 : I3 p n x y σ) (i4 : I4 w hc tot n y σ) (i5 : I5 w m s n y t σ) (i6 : I6 f (s m) t b σ) (i7 : I7 w7 y) (low : ∀ j, j < s m → t' 0 j = t 0 j ∧ t' 1 j = t 1 j ∧ σ' 20 j = σ 20 j ∧ σ' 21 j = σ 21 j) (fr : ∀ r, r ≠ 0 → r ≠ 20 → r ≠ 21 → r ≠ 24 → σ' r = σ r) (frt : ∀ r, r ≠ 0 → r ≠ 1 → r ≠ 6 → r ≠ 7 → t' r = t r) (h7 : w7 ≤ w + 1 := by omega) : Inv (w + 1) x y t' b σ' := by
  obtain ⟨Tz, ht⟩ := i1.2.1.congr (σ' := σ') (by simp (disch := decide) only [up2_row, upR_row, and_self, eq_self, fr])
  have mo : Mo n y σ n y σ' := ⟨Nat.le_refl _, fun _ _ => rfl, fun _ _ => by rw [ht]⟩
  have r1 : σ' 1 = σ 1 := by simp (disch := decide) only [up2_row, upR_row, and_self, eq_self, fr]
  have r2 : σ' 2 = σ 2 := by simp (disch := decide) only [up2_row, upR_row, and_self, eq_self, fr]
  refine ⟨n, q, p, hc, tot, m, s, f, hn, I1_restore i1 i1.1 Tz mo, ?_, i3.tr mo (by simp (disch := decide) only [up2_row, upR_row, and_self, eq_self, fr]), i4.tr (Nat.le_succ w) mo (by simp (disch := decide) only [up2_row, upR_row, and_self, eq_self, fr]), i5.tr (Nat.le_succ w) mo ⟨by simp (disch := decide) only [up2_row, upR_row, and_self, eq_self, frt], by simp (disch := decide) only [up2_row, upR_row, and_self, eq_self, fr], fun i _ => by simp (disch := decide) only [up2_row, upR_row, and_self, eq_self, fr, frt], fun i _ => by simp (disch := decide) only [up2_row, upR_row, and_self, eq_self, frt], low⟩, i6.tr (Nat.le_refl _) (fun k hk => (low k hk).1) rfl (by simp (disch := decide) only [up2_row, upR_row, and_self, eq_self, fr]), i7.tr h7 ⟨rfl, rfl⟩⟩
  obtain ⟨b1, b2, b3, b4, b5, b6⟩ := i2
  exact ⟨b1, b2, b3, by rw [r1]; exact b4, b5, by rw [r2]; exact b6⟩
theorem forget_none {N n : Nat} {y : St} (hN : 0 < N) (h : y 10 0 = nI n) (hn : n ≤ 8000) : f_X2_forgetFrom N y (nI n) = some y := by
  obtain ⟨N', rfl⟩ : ∃ z, N = z + 1 := ⟨N - 1, by omega⟩
  rewrite [f_X2_forgetFrom, h, min8000 hn, f_X2_forgetFrom_15]
  exact ip (pred_lt (by omega)) rfl
/-- the end of a building that made no types -/
theorem term_end {N w w7 n q p hc tot m f L h : Nat} (er : Int32) {s : Nat → Nat} {x y t k b σ tc σc : St} {e : Nat → Int32} {pl : Int32} (hN : 34100 < N) (hw : w < 512) (hn : n ≤ 8000) (i1 : I1 n (x 3) q y σ) (i2 : I2 q x σ) (i3 : I3 p n x y σ) (i4 : I4 w hc tot n y σ) (i5 : I5 w m s n y t σ) (i6 : I6 f (s m) t b σ) (i7 : I7 w7 y) (h0 : σ 0 0 = 0) (hB : Bd (QT n y σ) e (s m) L t σ tc σc pl) (T : Tm e 0 h 0 L) (h7 : w7 ≤ w + 1 := by omega) :
    ∃ r tk kk v σ' res, f_X1_keep N tc k = some (r, (tk, kk)) ∧ f_X4_settled N x y tk kk b r (nI n) = some (res, (x, y, tk, kk, b)) ∧ f_X5_finish N σc pl er = some (v, σ') ∧ Inv (w + 1) x y tk b σ' ∧ ((res = .inl v ∧ σ' 0 0 = 0) ∨ (res = .inr 1 ∧ σ' 0 0 = er)) := by
  obtain ⟨k1, k2, k3, k4, k5, k6, k7, k8⟩ := id i5
  have B : Bs m (s m) t σ := ⟨by omega, k5, k2, (k6 m (Nat.le_refl _)).1, k3, (k6 m (Nat.le_refl _)).2⟩
  obtain ⟨r, tk, kk, v, σ', h1, h2, low, hc⟩ := keep_fin (k := k) er B hN hB T
  rcases hc with ⟨rfl, rfl, c1, c2, c3, fr, c4, c5, c6, c7, c8, c9, c10, c11⟩ | ⟨rfl, rfl, -, fr, c1, frt⟩
  · refine ⟨_, tk, kk, _, σ', .inl (nI m), h1, ?_, h2, push_inv hn i1 i2 i3 i4 i5 i6 i7 T low c1 c2 c3 fr c4 c5 c6 c7 c8 c9 c10 c11 h7, Or.inl ⟨rfl, by rw [fr 0 (by decide) (by decide) (by decide) (by decide) (by decide)]; exact h0⟩⟩
    rewrite [f_X4_settled]
    exact iN (nI_ne_m1 (by omega)) rfl
  · refine ⟨_, tk, kk, _, σ', .inr 1, h1, ?_, h2, stay_inv hn i1 i2 i3 i4 i5 i6 i7 low fr frt h7, Or.inr ⟨rfl, c1⟩⟩
    rewrite [f_X4_settled]
    refine ip rfl (bs (forget_none (by omega) i1.1.2.1 hn) rfl)
theorem Inv.bs {w m n : Nat} {s : Nat → Nat} {y t σ : St} (hw : w < 512) (i5 : I5 w m s n y t σ) : Bs m (s m) t σ := by
  obtain ⟨k1, k2, k3, k4, k5, k6, k7, k8⟩ := i5
  exact ⟨by omega, k5, k2, (k6 m (Nat.le_refl _)).1, k3, (k6 m (Nat.le_refl _)).2⟩
