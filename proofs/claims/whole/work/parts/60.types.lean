/-! PURE: calls that make a type -/
theorem type_fail {N w n q p hc tot m f nc n1 : Nat} {s : Nat → Nat} {x y t b σ y1 σ1 : St} (e : Int32) (hN : 16000 < N) (hn : n ≤ 8000) (i1 : I1 n (x 3) q y σ) (i2 : I2 q x σ) (i3 : I3 p n x y σ) (i4 : I4 w hc tot n y σ) (i5 : I5 w m s n y t σ) (i6 : I6 f (s m) t b σ) (i7 : I7 w y) (TC1 : TC nc y1) (hnc : n ≤ nc) (TM1 : TM n1 σ1) (hn1 : n ≤ n1) (mo : Mo n y σ n1 y1 σ1) (frM : FrM σ σ1) (e9 : y1 9 = y 9 ∧ y1 12 = y 12 ∧ y1 13 = y 13) (w' : Nat) (hw' : w ≤ w') (i7' : I7 w' y1) :
    ∃ z ζ, f_X2_forgetFrom N y1 (nI n) = some z ∧ f_X5_cut N (up2 σ1 0 0 e) (nI n) = some ζ ∧ ζ 0 0 = e ∧ Inv w' x z t b ζ := by
  obtain ⟨z, hz, Tz, frz⟩ := forget_ok (N := N) TC1 hnc (by omega)
  obtain ⟨TM2, ht2⟩ := TM1.congr (σ' := up2 σ1 0 0 e) (by simp (disch := decide) only [up2_row, upR_row, and_self, eq_self, ])
  obtain ⟨ζ, hζ, Tζ, frζ⟩ := cut_ok (N := N) TM2 hn1 (by omega)
  have tz : tC z = tC y1 := by show tT _ _ _ = tT _ _ _; rw [frz 0 (by decide) (by decide), frz 1 (by decide) (by decide), frz 2 (by decide) (by decide)]
  have tζ : tM ζ = tM σ1 := by
    rw [← ht2]
    show tT _ _ _ = tT _ _ _; rw [frζ 6 (by decide) (by decide), frζ 7 (by decide) (by decide), frζ 8 (by decide) (by decide)]
  have mo' : Mo n y σ n z ζ := ⟨Nat.le_refl _, fun i hi => by rw [tz]; exact mo.2.1 i hi, fun i hi => by rw [tζ]; exact mo.2.2 i hi⟩
  refine ⟨z, ζ, hz, hζ, by rw [frζ 0 (by decide) (by decide)]; simp (disch := omega) only [ltL, Llt, leL, Lle, eqL, addL, Ladd, subL, subN, decN, eqM, Mle, mulL, nI_add, nI_ltI, nI_leI, nI_eq, nI_clamp, up2_at, nltT, nltF, nleT, nleF, neqT, neqF, ↓reduceIte, true_or, or_true, false_or, or_false, or_self, true_and, and_true, false_and, and_false, and_self, not_true, not_false_eq_true, i10, i01, im0, im12, im21, m1lt, m2lt, m1le, m2le, i00, i0le0, i1le0, i2le0, i3le0, eq_self, ], n, q, p, hc, tot, m, s, f, hn, I1_restore i1 Tz Tζ mo', ?_, i3.tr mo' (by simp (disch := decide) only [up2_row, upR_row, and_self, eq_self, frζ, frM]), i4.tr hw' mo' (by simp (disch := decide) only [up2_row, upR_row, and_self, eq_self, frζ, frM, frz, e9.1, e9.2.1, e9.2.2]), i5.tr hw' mo' ⟨rfl, by simp (disch := decide) only [up2_row, upR_row, and_self, eq_self, frζ, frM], fun i _ => by simp (disch := decide) only [up2_row, upR_row, and_self, eq_self, frζ, frM], fun _ _ => rfl, fun k _ => by simp (disch := decide) only [up2_row, upR_row, and_self, eq_self, frζ, frM]⟩, i6.tr (Nat.le_refl _) (fun _ _ => rfl) rfl (by simp (disch := decide) only [up2_row, upR_row, and_self, eq_self, frζ, frM]), i7'.tr (Nat.le_refl _) (by simp (disch := decide) only [up2_row, upR_row, and_self, eq_self, frz])⟩
  obtain ⟨b1, b2, b3, b4, b5, b6⟩ := i2
  refine ⟨b1, b2, b3, ?_, b5, ?_⟩
  · simp (disch := decide) only [up2_row, frζ, frM]; exact b4
  · simp (disch := decide) only [up2_row, frζ, frM]; exact b6
theorem type_tail {N w n q p hc tot m f : Nat} {s : Nat → Nat} {x y t k b σ : St} (e : Int32) (hN : 16000 < N) (hw : w < 512) (hn : n ≤ 8000) (i1 : I1 n (x 3) q y σ) (i2 : I2 q x σ) (i3 : I3 p n x y σ) (i4 : I4 w hc tot n y σ) (i5 : I5 w m s n y t σ) (i6 : I6 f (s m) t b σ) (i7 : I7 w y) (h0 : σ 0 0 = 0) {r : Int32} {y1 σ1 : St} {j n1 : Nat} {τ : Ty} (TM1 : TM n1 σ1) (hj : j < n1) (hn1 : n ≤ n1) (ej : tM σ1 (nI j) = τ) (mo : Mo n y σ n1 y1 σ1) (frM : FrM σ σ1) (frC : FrC y y1)
      (hr : (r = -1 ∧ y1 = y ∧ ¬ (sz τ ≤ 200 ∧ hg τ ≤ 24 ∧ n1 ≤ 8000)) ∨ (∃ k, r = nI k ∧ k < n1 ∧ sz τ ≤ 200 ∧ hg τ ≤ 24 ∧ n1 ≤ 8000 ∧ I1 n1 (x 3) q y1 σ1 ∧ RT n1 y1 σ1 (nI k) (nI j))) :
    ∃ r' y2 res y3 v σ2 σ3, f_X2_keep N y1 r = some (r', y2) ∧ f_X4_settled N x y2 t k b r' (nI n) = some (res, (x, y3, t, k, b)) ∧ f_X5_keepType N σ1 (nI j) e = some (v, σ2) ∧ ((σ2 0 0 = 0 ∧ σ3 = σ2 ∧ res = .inl v) ∨ (σ2 0 0 = e ∧ f_X5_cut N σ2 (nI n) = some σ3 ∧ res = .inr 1)) ∧ σ3 0 0 = σ2 0 0 ∧ Inv (w + 1) x y3 t b σ3 ∧ y2 10 = y1 10 ∧ σ2 5 = σ1 5 := by
  obtain ⟨j1, j2, j3, j4, j5, j6, j7⟩ := id i4
  have e12 : y1 12 0 = nI hc := by rw [frC 12 (by decide) (by decide) (by decide) (by decide) (by decide) (by decide) (by decide) (by decide)]; exact j3
  have e13 : y1 13 0 = nI tot := by rw [frC 13 (by decide) (by decide) (by decide) (by decide) (by decide) (by decide) (by decide) (by decide)]; exact j5
  have f13 : σ1 13 0 = nI hc := by rw [frM 13 (by decide) (by decide) (by decide) (by decide) (by decide) (by decide) (by decide) (by decide)]; exact j4
  have f14 : σ1 14 0 = nI tot := by rw [frM 14 (by decide) (by decide) (by decide) (by decide) (by decide) (by decide) (by decide) (by decide)]; exact j6
  have f0 : σ1 0 0 = 0 := by rw [frM 0 (by decide) (by decide) (by decide) (by decide) (by decide) (by decide) (by decide) (by decide)]; exact h0
  have kM := keepM_ok (N := N) (e := e) TM1 hj f13 (by omega) f14 j2
  rw [ej] at kM
  have i7' : I7 (w + 1) y1 := i7.tr (Nat.le_succ w) (by simp (disch := decide) only [up2_row, upR_row, and_self, eq_self, frC])
  have hrow : y1 9 = y 9 ∧ y1 12 = y 12 ∧ y1 13 = y 13 := by simp (disch := decide) only [up2_row, upR_row, and_self, eq_self, frC]
  have hset : ∀ {z : St} {y2 : St}, f_X2_forgetFrom N y2 (nI n) = some z → f_X4_settled N x y2 t k b (-1) (nI n) = some (.inr 1, (x, z, t, k, b)) := fun {z y2} h => by
    rewrite [f_X4_settled]
    refine ip rfl ?_
    exact bs h rfl
  rcases hr with ⟨rfl, rfl, hbad⟩ | ⟨kk, rfl, hk, s1, s2, s3, j1', hRT⟩
  · obtain ⟨z, ζ, hz, hζ, hc0, hInv⟩ := type_fail e hN hn i1 i2 i3 i4 i5 i6 i7 i1.1 (Nat.le_refl n) TM1 hn1 mo frM ⟨rfl, rfl, rfl⟩ (w + 1) (Nat.le_succ w) i7'
    rw [if_neg (fun q => hbad ⟨q.1, q.2.1, q.2.2.1⟩)] at kM
    exact ⟨-1, _, .inr 1, z, 0, _, ζ, keep_m1, hset hz, kM, Or.inr ⟨by simp (disch := omega) only [ltL, Llt, leL, Lle, eqL, addL, Ladd, subL, subN, decN, eqM, Mle, mulL, nI_add, nI_ltI, nI_leI, nI_eq, nI_clamp, up2_at, nltT, nltF, nleT, nleF, neqT, neqF, ↓reduceIte, true_or, or_true, false_or, or_false, or_self, true_and, and_true, false_and, and_false, and_self, not_true, not_false_eq_true, i10, i01, im0, im12, im21, m1lt, m2lt, m1le, m2le, i00, i0le0, i1le0, i2le0, i3le0, eq_self, ], hζ, rfl⟩, by rw [hc0]; simp (disch := omega) only [ltL, Llt, leL, Lle, eqL, addL, Ladd, subL, subN, decN, eqM, Mle, mulL, nI_add, nI_ltI, nI_leI, nI_eq, nI_clamp, up2_at, nltT, nltF, nleT, nleF, neqT, neqF, ↓reduceIte, true_or, or_true, false_or, or_false, or_self, true_and, and_true, false_and, and_false, and_self, not_true, not_false_eq_true, i10, i01, im0, im12, im21, m1lt, m2lt, m1le, m2le, i00, i0le0, i1le0, i2le0, i3le0, eq_self, ], hInv, rfl, rfl⟩
  · have kC := keep_ok (N := N) j1'.1 hk e12 (by omega) e13 j2
    rw [show tC y1 (nI kk) = τ from hRT.2.2.trans ej] at kC
    by_cases g : tot + sz τ ≤ 6000
    · rw [if_pos g] at kC
      rw [if_pos ⟨s1, s2, s3, g⟩] at kM
      refine ⟨_, _, .inl (nI hc), up2 (up2 (up2 y1 9 hc (nI kk)) 12 0 (nI (hc + 1))) 13 0 (nI (tot + sz τ)), _, _, _, kC, ?_, kM, Or.inl ⟨?_, rfl, rfl⟩, rfl, ?_, rfl, rfl⟩
      · rewrite [f_X4_settled]
        exact iN (nI_ne_m1 (by omega)) rfl
      · simp (disch := omega) only [ltL, Llt, leL, Lle, eqL, addL, Ladd, subL, subN, decN, eqM, Mle, mulL, nI_add, nI_ltI, nI_leI, nI_eq, nI_clamp, up2_at, nltT, nltF, nleT, nleF, neqT, neqF, ↓reduceIte, true_or, or_true, false_or, or_false, or_self, true_and, and_true, false_and, and_false, and_self, not_true, not_false_eq_true, i10, i01, im0, im12, im21, m1lt, m2lt, m1le, m2le, i00, i0le0, i1le0, i2le0, i3le0, eq_self, f0]
      · obtain ⟨Tc, htc⟩ := j1'.1.congr (y' := up2 (up2 (up2 y1 9 hc (nI kk)) 12 0 (nI (hc + 1))) 13 0 (nI (tot + sz τ))) (by simp (disch := decide) only [up2_row, upR_row, and_self, eq_self, ])
        obtain ⟨Tm', htm⟩ := TM1.congr (σ' := up2 (up2 (up2 σ1 15 hc (nI j)) 14 0 (nI (tot + sz τ))) 13 0 (nI (hc + 1))) (by simp (disch := decide) only [up2_row, upR_row, and_self, eq_self, ])
        have mo1 : Mo n1 y1 σ1 n1 (up2 (up2 (up2 y1 9 hc (nI kk)) 12 0 (nI (hc + 1))) 13 0 (nI (tot + sz τ))) (up2 (up2 (up2 σ1 15 hc (nI j)) 14 0 (nI (tot + sz τ))) 13 0 (nI (hc + 1))) := ⟨Nat.le_refl _, fun _ _ => by rw [htc], fun _ _ => by rw [htm]⟩
        have mo2 : Mo n y σ n1 (up2 (up2 (up2 y1 9 hc (nI kk)) 12 0 (nI (hc + 1))) 13 0 (nI (tot + sz τ))) (up2 (up2 (up2 σ1 15 hc (nI j)) 14 0 (nI (tot + sz τ))) 13 0 (nI (hc + 1))) := ⟨hn1, fun i hi => by rw [htc]; exact mo.2.1 i hi, fun i hi => by rw [htm]; exact mo.2.2 i hi⟩
        refine ⟨n1, q, p, hc + 1, tot + sz τ, m, s, f, s3, I1_restore j1' Tc Tm' mo1, ?_, i3.tr mo2 (by simp (disch := decide) only [up2_row, upR_row, and_self, eq_self, frM]), ⟨by omega, g, ?_, ?_, ?_, ?_, fun i hi => ?_⟩, i5.tr (Nat.le_succ w) mo2 ⟨rfl, by simp (disch := decide) only [up2_row, upR_row, and_self, eq_self, frM], fun i _ => by simp (disch := decide) only [up2_row, upR_row, and_self, eq_self, frM], fun _ _ => rfl, fun k _ => by simp (disch := decide) only [up2_row, upR_row, and_self, eq_self, frM]⟩, i6.tr (Nat.le_refl _) (fun _ _ => rfl) rfl (by simp (disch := decide) only [up2_row, upR_row, and_self, eq_self, frM]), i7'.tr (Nat.le_refl _) (by simp (disch := decide) only [up2_row, upR_row, and_self, eq_self, ])⟩
        · obtain ⟨b1, b2, b3, b4, b5, b6⟩ := i2
          refine ⟨b1, b2, b3, ?_, b5, ?_⟩
          · simp (disch := decide) only [up2_row, frM]; exact b4
          · simp (disch := decide) only [up2_row, frM]; exact b6
        · simp (disch := omega) only [ltL, Llt, leL, Lle, eqL, addL, Ladd, subL, subN, decN, eqM, Mle, mulL, nI_add, nI_ltI, nI_leI, nI_eq, nI_clamp, up2_at, nltT, nltF, nleT, nleF, neqT, neqF, ↓reduceIte, true_or, or_true, false_or, or_false, or_self, true_and, and_true, false_and, and_false, and_self, not_true, not_false_eq_true, i10, i01, im0, im12, im21, m1lt, m2lt, m1le, m2le, i00, i0le0, i1le0, i2le0, i3le0, eq_self, ]
        · simp (disch := omega) only [ltL, Llt, leL, Lle, eqL, addL, Ladd, subL, subN, decN, eqM, Mle, mulL, nI_add, nI_ltI, nI_leI, nI_eq, nI_clamp, up2_at, nltT, nltF, nleT, nleF, neqT, neqF, ↓reduceIte, true_or, or_true, false_or, or_false, or_self, true_and, and_true, false_and, and_false, and_self, not_true, not_false_eq_true, i10, i01, im0, im12, im21, m1lt, m2lt, m1le, m2le, i00, i0le0, i1le0, i2le0, i3le0, eq_self, ]
        · simp (disch := omega) only [ltL, Llt, leL, Lle, eqL, addL, Ladd, subL, subN, decN, eqM, Mle, mulL, nI_add, nI_ltI, nI_leI, nI_eq, nI_clamp, up2_at, nltT, nltF, nleT, nleF, neqT, neqF, ↓reduceIte, true_or, or_true, false_or, or_false, or_self, true_and, and_true, false_and, and_false, and_self, not_true, not_false_eq_true, i10, i01, im0, im12, im21, m1lt, m2lt, m1le, m2le, i00, i0le0, i1le0, i2le0, i3le0, eq_self, ]
        · simp (disch := omega) only [ltL, Llt, leL, Lle, eqL, addL, Ladd, subL, subN, decN, eqM, Mle, mulL, nI_add, nI_ltI, nI_leI, nI_eq, nI_clamp, up2_at, nltT, nltF, nleT, nleF, neqT, neqF, ↓reduceIte, true_or, or_true, false_or, or_false, or_self, true_and, and_true, false_and, and_false, and_self, not_true, not_false_eq_true, i10, i01, im0, im12, im21, m1lt, m2lt, m1le, m2le, i00, i0le0, i1le0, i2le0, i3le0, eq_self, ]
        · by_cases ei : i = hc
          · subst ei
            have a1 : up2 (up2 (up2 y1 9 i (nI kk)) 12 0 (nI (i + 1))) 13 0 (nI (tot + sz τ)) 9 i = nI kk := by simp (disch := omega) only [ltL, Llt, leL, Lle, eqL, addL, Ladd, subL, subN, decN, eqM, Mle, mulL, nI_add, nI_ltI, nI_leI, nI_eq, nI_clamp, up2_at, nltT, nltF, nleT, nleF, neqT, neqF, ↓reduceIte, true_or, or_true, false_or, or_false, or_self, true_and, and_true, false_and, and_false, and_self, not_true, not_false_eq_true, i10, i01, im0, im12, im21, m1lt, m2lt, m1le, m2le, i00, i0le0, i1le0, i2le0, i3le0, eq_self, ]
            have a2 : up2 (up2 (up2 σ1 15 i (nI j)) 14 0 (nI (tot + sz τ))) 13 0 (nI (i + 1)) 15 i = nI j := by simp (disch := omega) only [ltL, Llt, leL, Lle, eqL, addL, Ladd, subL, subN, decN, eqM, Mle, mulL, nI_add, nI_ltI, nI_leI, nI_eq, nI_clamp, up2_at, nltT, nltF, nleT, nleF, neqT, neqF, ↓reduceIte, true_or, or_true, false_or, or_false, or_self, true_and, and_true, false_and, and_false, and_self, not_true, not_false_eq_true, i10, i01, im0, im12, im21, m1lt, m2lt, m1le, m2le, i00, i0le0, i1le0, i2le0, i3le0, eq_self, ]
            rw [a1, a2]
            exact hRT.mono mo1
          · have a1 : up2 (up2 (up2 y1 9 hc (nI kk)) 12 0 (nI (hc + 1))) 13 0 (nI (tot + sz τ)) 9 i = y 9 i := by
              rw [← hrow.1]; simp (disch := omega) only [ltL, Llt, leL, Lle, eqL, addL, Ladd, subL, subN, decN, eqM, Mle, mulL, nI_add, nI_ltI, nI_leI, nI_eq, nI_clamp, up2_at, nltT, nltF, nleT, nleF, neqT, neqF, ↓reduceIte, true_or, or_true, false_or, or_false, or_self, true_and, and_true, false_and, and_false, and_self, not_true, not_false_eq_true, i10, i01, im0, im12, im21, m1lt, m2lt, m1le, m2le, i00, i0le0, i1le0, i2le0, i3le0, eq_self, ei]
            have a2 : up2 (up2 (up2 σ1 15 hc (nI j)) 14 0 (nI (tot + sz τ))) 13 0 (nI (hc + 1)) 15 i = σ 15 i := by
              rw [← frM 15 (by decide) (by decide) (by decide) (by decide) (by decide) (by decide) (by decide) (by decide)]; simp (disch := omega) only [ltL, Llt, leL, Lle, eqL, addL, Ladd, subL, subN, decN, eqM, Mle, mulL, nI_add, nI_ltI, nI_leI, nI_eq, nI_clamp, up2_at, nltT, nltF, nleT, nleF, neqT, neqF, ↓reduceIte, true_or, or_true, false_or, or_false, or_self, true_and, and_true, false_and, and_false, and_self, not_true, not_false_eq_true, i10, i01, im0, im12, im21, m1lt, m2lt, m1le, m2le, i00, i0le0, i1le0, i2le0, i3le0, eq_self, ei]
            rw [a1, a2]
            exact (j7 i (by omega)).mono mo2
    · rw [if_neg g] at kC
      rw [if_neg (fun q => g q.2.2.2)] at kM
      obtain ⟨z, ζ, hz, hζ, hc0, hInv⟩ := type_fail e hN hn i1 i2 i3 i4 i5 i6 i7 j1'.1 hn1 TM1 hn1 mo frM hrow (w + 1) (Nat.le_succ w) i7'
      exact ⟨-1, _, .inr 1, z, 0, _, ζ, kC, hset hz, kM, Or.inr ⟨by simp (disch := omega) only [ltL, Llt, leL, Lle, eqL, addL, Ladd, subL, subN, decN, eqM, Mle, mulL, nI_add, nI_ltI, nI_leI, nI_eq, nI_clamp, up2_at, nltT, nltF, nleT, nleF, neqT, neqF, ↓reduceIte, true_or, or_true, false_or, or_false, or_self, true_and, and_true, false_and, and_false, and_self, not_true, not_false_eq_true, i10, i01, im0, im12, im21, m1lt, m2lt, m1le, m2le, i00, i0le0, i1le0, i2le0, i3le0, eq_self, ], hζ, rfl⟩, by rw [hc0]; simp (disch := omega) only [ltL, Llt, leL, Lle, eqL, addL, Ladd, subL, subN, decN, eqM, Mle, mulL, nI_add, nI_ltI, nI_leI, nI_eq, nI_clamp, up2_at, nltT, nltF, nleT, nleF, neqT, neqF, ↓reduceIte, true_or, or_true, false_or, or_false, or_self, true_and, and_true, false_and, and_false, and_self, not_true, not_false_eq_true, i10, i01, im0, im12, im21, m1lt, m2lt, m1le, m2le, i00, i0le0, i1le0, i2le0, i3le0, eq_self, ], hInv, rfl, rfl⟩
