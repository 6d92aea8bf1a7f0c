def g_law_4 (N : Nat) (xs : Nat → Int32) (L : Nat) (K : Int32 → S5 → (Nat → Int64) → St → Option Int32) (i : Int32) (u : S5) (o : Nat → Int64) (σ : St) : Option Int32 := if (i + 1) < 0 ∨ L ≤ ((i + 1)).toNatClampNeg then none else (f_L_declare N u.1 u.2.1 u.2.2.1 u.2.2.2.1 u.2.2.2.2 o (xs ((i + 1)).toNatClampNeg)).bind (fun q1 => if (i + 1) < 0 ∨ L ≤ ((i + 1)).toNatClampNeg then none else (f_X5_declare N σ (xs ((i + 1)).toNatClampNeg)).bind (fun q2 => (f_X5_thrown N q2.2 ).bind (fun q3 => if q3.1 = q1.1 then if q1.1 = 0 then if (lg_cmp (q1.2.2 (Int32.toNatClampNeg 0)) (Int32.toInt64 q2.1)) = 0 then K (i + 4) q1.2.1 q1.2.2 q3.2 else some (0 : Int32) else K (i + 4) q1.2.1 q1.2.2 q3.2 else some (0 : Int32))))
set_option maxHeartbeats 4000000 in
set_option maxRecDepth 100000 in
theorem k_law_4 {p : Program} {l : Launch} {e : Env} {s : State} {m : MethodId} {below : List Frame} {meth : Method} {c : Code} {D : va_G} {cI cZ cJ : ClassId} {sa : Nat → Nat} {a4 a2 a1 a3 a0 a5 : Nat → Nat} {ao b L : Nat} {xs : Nat → Int32} (C0 : lC p l s m meth c b L xs D cI cZ cJ sa) (N : Nat) (n : Nat) (K : Int32 → S5 → (Nat → Int64) → St → Option Int32) (hk : KPl p l e s m below meth c D cI cZ cJ a4 a2 a1 a3 a0 a5 ao b n K 23) : KPl p l e s m below meth c D cI cZ cJ a4 a2 a1 a3 a0 a5 ao b (n + 1) (g_law_4 N xs L K) 396 := by
  obtain ⟨hx, hb, hr, hml, hown, hts, hX9, hbl, hlocks, hK3, hN, hXP, hC, hlt⟩ := id C0
  have hK : va_K D vwCl (kT cI cZ) s := hK3.sub [0, 1] rfl
  have hA : ∀ q : Nat, s.heap.size ≤ q → (fun q : Nat => s.heap.size ≤ q) q := fun _ h => h
  have hbA : ¬ (fun q : Nat => s.heap.size ≤ q) b := Nat.not_le.mpr hbl
  intro i u o σ cells slots H locs ls hc9 hs9 hP hD hS hl h
  unfold g_law_4 at h
  refine lv_aload_n hx hb dL_law_396 rfl (lv_at hl 1 rfl) ?_
  refine lv_aload_n hx hb dL_law_397 rfl (lv_at hl 0 rfl) ?_
  refine lv_iload hx hb dL_law_398 (lv_at hl 4 rfl) ?_
  refine lv_iconst (v := 1) hx hb dL_law_400 rfl ?_
  refine lv_iadd hx hb dL_law_401 ?_
  by_cases hi : (i + 1) < 0 ∨ L ≤ ((i + 1)).toNatClampNeg
  · rw [if_pos hi] at h; exact no h
  rw [if_neg hi] at h
  refine va_sld hx hb hX9 hbl hbA hS (i := (i + 1)) hi dL_law_402 ?_
  refine lv_aload_n hx hb dL_law_403 rfl (lv_at hl 3 rfl) ?_
  obtain ⟨q1, hq1, h⟩ := ob h
  refine mh_i (ws' := wLL a4 a2 a1 a3 a0 ao a5 cI cZ cJ ((q1.2.1, q1.2.2), σ)) (wr := wX5 a5 cI cZ σ) [0, 1, 2, 3, 4, 5, 6, 7, 8, 9, 10, 11, 12, 13, 14, 15, 16, 17, 18, 19, 20, 21, 22, 23, 24, 25, 26, 27, 28, 29] [30, 31, 32, 33, 34, 35, 36, 37, 38, 39, 40, 41, 42, 43, 44, 45, 46, 47, 48, 49, 50, 51, 52] [23, 24, 25, 26, 27, 28, 29, 30, 31, 32, 33, 34, 35, 36, 37, 38, 39, 40, 41, 42, 43, 44, 45, 46, 47, 48, 49, 50, 51, 52, 0, 1, 2, 3, 4, 5, 6, 7, 8, 9, 10, 11, 12, 13, 14, 15, 16, 17, 18, 19, 20, 21, 22] (vx_runSW (As := [.ref (a4 0), .int (xs ((i + 1)).toNatClampNeg), .ref (ao)]) (rest := []) ⟨hx, hb, hml, hown, hts⟩ (c_L_declare l hlt D cI cZ cJ sa a4 a2 a1 a3 a0 ao N u.1 u.2.1 u.2.2.1 u.2.2.2.1 u.2.2.2.2 o (xs ((i + 1)).toNatClampNeg) q1.1 q1.2 hq1 H.size) (vx_cwSW 3 hts gL_law_L_declare rfl rfl rfl (by decide +kernel) ⟨Nat.le_of_ble_eq_true rfl, Nat.le_of_ble_eq_true rfl⟩) (pLS [0, 1, 2, 3, 4, 5, 6, 7, 8, 9, 10, 11, 12, 13, 14, 15, 16, 17, 18, 19, 20, 21, 22, 23, 24, 25, 26, 27, 28, 29] hP hD hS hA hK3 hN hXP hC rfl rfl) rfl rfl hl.1 rfl (lv_room (Nat.le_of_ble_eq_true rfl)) dL_law_404 ⟨by show cells + 2 ≤ 601024; omega, by show slots + 12 ≤ 7293034; omega⟩) hP hD hS hA rfl rfl rfl (by decide) rfl rfl (fun H locs hP hD hS => ?_)
  refine lv_istore (lv' := [(5, .int q1.1), (0, .ref (b)), (1, .ref (a4 0)), (2, .ref (a5 0)), (3, .ref (ao)), (4, .int i)]) hx hb dL_law_407 hl (by decide) rfl (fun ls hl => ?_)
  refine lv_aload_n hx hb dL_law_409 rfl (lv_at hl 3 rfl) ?_
  refine lv_aload_n hx hb dL_law_410 rfl (lv_at hl 1 rfl) ?_
  refine lv_iload hx hb dL_law_411 (lv_at hl 5 rfl) ?_
  refine lv_iconst (v := 1) hx hb dL_law_413 rfl ?_
  refine lv_iadd hx hb dL_law_414 ?_
  by_cases hi : (i + 1) < 0 ∨ L ≤ ((i + 1)).toNatClampNeg
  · rw [if_pos hi] at h; exact no h
  rw [if_neg hi] at h
  refine va_sld hx hb hX9 hbl hbA hS (i := (i + 1)) hi dL_law_415 ?_
  obtain ⟨q2, hq2, h⟩ := ob h
  refine mg_i (ws' := wLL a4 a2 a1 a3 a0 ao a5 cI cZ cJ ((q1.2.1, q1.2.2), q2.2)) (wr := wL4 a4 a2 a1 a3 a0 ao cI cZ cJ (q1.2.1, q1.2.2)) [30, 31, 32, 33, 34, 35, 36, 37, 38, 39, 40, 41, 42, 43, 44, 45, 46, 47, 48, 49, 50, 51, 52] [0, 1, 2, 3, 4, 5, 6, 7, 8, 9, 10, 11, 12, 13, 14, 15, 16, 17, 18, 19, 20, 21, 22, 23, 24, 25, 26, 27, 28, 29] [0, 1, 2, 3, 4, 5, 6, 7, 8, 9, 10, 11, 12, 13, 14, 15, 16, 17, 18, 19, 20, 21, 22, 23, 24, 25, 26, 27, 28, 29, 30, 31, 32, 33, 34, 35, 36, 37, 38, 39, 40, 41, 42, 43, 44, 45, 46, 47, 48, 49, 50, 51, 52] (va_runV (As := [.int (xs ((i + 1)).toNatClampNeg)]) (rest := []) ⟨hx, hb, hml, hown, hts⟩ (c_X5_declare l D cI cZ a5 N σ (xs ((i + 1)).toNatClampNeg) q2.1 q2.2 hq2 H.size) (cwV 1 hts gL_law_X5_declare rfl rfl rfl (by decide +kernel) ⟨Nat.le_of_ble_eq_true rfl, Nat.le_of_ble_eq_true rfl⟩) (pV [30, 31, 32, 33, 34, 35, 36, 37, 38, 39, 40, 41, 42, 43, 44, 45, 46, 47, 48, 49, 50, 51, 52] hP hD hK hN rfl rfl rfl rfl) rfl rfl hl.1 rfl (lv_room (Nat.le_of_ble_eq_true rfl)) dL_law_416 ⟨by show cells + 2 + 0 ≤ 601024; omega, by show slots + 12 + 0 ≤ 7293034; omega⟩) hP hD hS hA rfl rfl rfl (by decide) rfl rfl (fun H locs hP hD hS => ?_)
  refine lv_istore (lv' := [(6, .int q2.1), (5, .int q1.1), (0, .ref (b)), (1, .ref (a4 0)), (2, .ref (a5 0)), (3, .ref (ao)), (4, .int i)]) hx hb dL_law_419 hl (by decide) rfl (fun ls hl => ?_)
  refine lv_aload_n hx hb dL_law_421 rfl (lv_at hl 4 rfl) ?_
  obtain ⟨q3, hq3, h⟩ := ob h
  refine mg_i (ws' := wLL a4 a2 a1 a3 a0 ao a5 cI cZ cJ ((q1.2.1, q1.2.2), q3.2)) (wr := wL4 a4 a2 a1 a3 a0 ao cI cZ cJ (q1.2.1, q1.2.2)) [30, 31, 32, 33, 34, 35, 36, 37, 38, 39, 40, 41, 42, 43, 44, 45, 46, 47, 48, 49, 50, 51, 52] [0, 1, 2, 3, 4, 5, 6, 7, 8, 9, 10, 11, 12, 13, 14, 15, 16, 17, 18, 19, 20, 21, 22, 23, 24, 25, 26, 27, 28, 29] [0, 1, 2, 3, 4, 5, 6, 7, 8, 9, 10, 11, 12, 13, 14, 15, 16, 17, 18, 19, 20, 21, 22, 23, 24, 25, 26, 27, 28, 29, 30, 31, 32, 33, 34, 35, 36, 37, 38, 39, 40, 41, 42, 43, 44, 45, 46, 47, 48, 49, 50, 51, 52] (va_runV (As := []) (rest := []) ⟨hx, hb, hml, hown, hts⟩ (c_X5_thrown l D cI cZ a5 N q2.2  q3.1 q3.2 hq3 H.size) (cwV 0 hts gL_law_X5_thrown rfl rfl rfl (by decide +kernel) ⟨Nat.le_of_ble_eq_true rfl, Nat.le_of_ble_eq_true rfl⟩) (pV [30, 31, 32, 33, 34, 35, 36, 37, 38, 39, 40, 41, 42, 43, 44, 45, 46, 47, 48, 49, 50, 51, 52] hP hD hK hN rfl rfl rfl rfl) rfl rfl hl.1 rfl (lv_room (Nat.le_of_ble_eq_true rfl)) dL_law_422 ⟨by show cells + 2 + 0 ≤ 601024; omega, by show slots + 12 + 0 ≤ 7293034; omega⟩) hP hD hS hA rfl rfl rfl (by decide) rfl rfl (fun H locs hP hD hS => ?_)
  refine lv_iload hx hb dL_law_425 (lv_at hl 1 rfl) ?_
  refine lv_icmp_eq (tgt := 432) hx hb dL_law_427 (by decide) (fun hc4 => ?_) (fun hc4 => ?_)
  · rw [if_pos hc4] at h
    refine lv_iload hx hb dL_law_432 (lv_at hl 1 rfl) ?_
    refine lv_if_ne (tgt := 449) hx hb dL_law_434 (by decide) (fun hc5 => ?_) (fun hc5 => ?_)
    · rw [if_neg hc5] at h
      refine lv_goto (tgt := 1561) hx hb dL_law_449 (by decide) ?_
      refine lv_iinc (v := (i + 4)) (lv' := [(4, .int (i + 4)), (6, .int q2.1), (5, .int q1.1), (0, .ref (b)), (1, .ref (a4 0)), (2, .ref (a5 0)), (3, .ref (ao))]) hx hb dL_law_1561 hl (k := 6) rfl rfl (by decide) rfl (fun ls hl => ?_)
      refine lv_goto (tgt := 23) hx hb dL_law_1564 (by decide) ?_
      refine W.widen (k := cells + 5) (n := slots + 30) (by omega) (by omega) ?_
      exact hk (i + 4) q1.2.1 q1.2.2 q3.2 _ _ _ _ _ (by omega) (by omega) hP hD hS (lv_sub hl [3, 4, 5, 6, 0] rfl) h
    · rw [if_pos hc5] at h
      refine lv_aload_n hx hb dL_law_437 rfl (lv_at hl 5 rfl) ?_
      refine lv_iconst (v := 0) hx hb dL_law_438 rfl ?_
      refine va_lald (f := q1.2.2) hx hb hK3 hP 29 2 rfl rfl (i := 0) (by unfold vp_in; decide) dL_law_439 ?_
      refine lv_iload hx hb dL_law_440 (lv_at hl 0 rfl) ?_
      refine lv_i2l (v := Int32.toInt64 q2.1) hx hb dL_law_442 rfl ?_
      refine W.lcmp hx hb dL_law_443 ?_
      refine lv_if_eq (tgt := 449) hx hb dL_law_444 (by decide) (fun hc6 => ?_) (fun hc6 => ?_)
      · rw [if_pos hc6] at h
        refine lv_goto (tgt := 1561) hx hb dL_law_449 (by decide) ?_
        refine lv_iinc (v := (i + 4)) (lv' := [(4, .int (i + 4)), (6, .int q2.1), (5, .int q1.1), (0, .ref (b)), (1, .ref (a4 0)), (2, .ref (a5 0)), (3, .ref (ao))]) hx hb dL_law_1561 hl (k := 6) rfl rfl (by decide) rfl (fun ls hl => ?_)
        refine lv_goto (tgt := 23) hx hb dL_law_1564 (by decide) ?_
        refine W.widen (k := cells + 5) (n := slots + 30) (by omega) (by omega) ?_
        exact hk (i + 4) q1.2.1 q1.2.2 q3.2 _ _ _ _ _ (by omega) (by omega) hP hD hS (lv_sub hl [3, 4, 5, 6, 0] rfl) h
      · rw [if_neg hc6] at h
        refine lv_iconst (v := 0) hx hb dL_law_447 rfl ?_
        exact absurd (Option.some.inj h) (by decide)
  · rw [if_neg hc4] at h
    refine lv_iconst (v := 0) hx hb dL_law_430 rfl ?_
    exact absurd (Option.some.inj h) (by decide)
def g_law_5 (N : Nat) (xs : Nat → Int32) (L : Nat) (K : Int32 → S5 → (Nat → Int64) → St → Option Int32) (i : Int32) (u : S5) (o : Nat → Int64) (σ : St) : Option Int32 := if (i + 1) < 0 ∨ L ≤ ((i + 1)).toNatClampNeg then none else if (i + 2) < 0 ∨ L ≤ ((i + 2)).toNatClampNeg then none else (f_L_free N u.1 u.2.1 u.2.2.1 u.2.2.2.1 u.2.2.2.2 o (xs ((i + 1)).toNatClampNeg) (xs ((i + 2)).toNatClampNeg)).bind (fun q1 => if (i + 1) < 0 ∨ L ≤ ((i + 1)).toNatClampNeg then none else if (i + 2) < 0 ∨ L ≤ ((i + 2)).toNatClampNeg then none else (f_X5_free N σ (xs ((i + 1)).toNatClampNeg) (xs ((i + 2)).toNatClampNeg)).bind (fun q2 => (f_X5_thrown N q2.2 ).bind (fun q3 => if q3.1 = q1.1 then if q1.1 = 0 then if (lg_cmp (q1.2.2 (Int32.toNatClampNeg 0)) (Int32.toInt64 q2.1)) = 0 then K (i + 4) q1.2.1 q1.2.2 q3.2 else some (0 : Int32) else K (i + 4) q1.2.1 q1.2.2 q3.2 else some (0 : Int32))))
set_option maxHeartbeats 4000000 in
set_option maxRecDepth 100000 in
theorem k_law_5 {p : Program} {l : Launch} {e : Env} {s : State} {m : MethodId} {below : List Frame} {meth : Method} {c : Code} {D : va_G} {cI cZ cJ : ClassId} {sa : Nat → Nat} {a4 a2 a1 a3 a0 a5 : Nat → Nat} {ao b L : Nat} {xs : Nat → Int32} (C0 : lC p l s m meth c b L xs D cI cZ cJ sa) (N : Nat) (n : Nat) (K : Int32 → S5 → (Nat → Int64) → St → Option Int32) (hk : KPl p l e s m below meth c D cI cZ cJ a4 a2 a1 a3 a0 a5 ao b n K 23) : KPl p l e s m below meth c D cI cZ cJ a4 a2 a1 a3 a0 a5 ao b (n + 1) (g_law_5 N xs L K) 452 := by
  obtain ⟨hx, hb, hr, hml, hown, hts, hX9, hbl, hlocks, hK3, hN, hXP, hC, hlt⟩ := id C0
  have hK : va_K D vwCl (kT cI cZ) s := hK3.sub [0, 1] rfl
  have hA : ∀ q : Nat, s.heap.size ≤ q → (fun q : Nat => s.heap.size ≤ q) q := fun _ h => h
  have hbA : ¬ (fun q : Nat => s.heap.size ≤ q) b := Nat.not_le.mpr hbl
  intro i u o σ cells slots H locs ls hc9 hs9 hP hD hS hl h
  unfold g_law_5 at h
  refine lv_aload_n hx hb dL_law_452 rfl (lv_at hl 1 rfl) ?_
  refine lv_aload_n hx hb dL_law_453 rfl (lv_at hl 0 rfl) ?_
  refine lv_iload hx hb dL_law_454 (lv_at hl 4 rfl) ?_
  refine lv_iconst (v := 1) hx hb dL_law_456 rfl ?_
  refine lv_iadd hx hb dL_law_457 ?_
  by_cases hi : (i + 1) < 0 ∨ L ≤ ((i + 1)).toNatClampNeg
  · rw [if_pos hi] at h; exact no h
  rw [if_neg hi] at h
  refine va_sld hx hb hX9 hbl hbA hS (i := (i + 1)) hi dL_law_458 ?_
  refine lv_aload_n hx hb dL_law_459 rfl (lv_at hl 0 rfl) ?_
  refine lv_iload hx hb dL_law_460 (lv_at hl 4 rfl) ?_
  refine lv_iconst (v := 2) hx hb dL_law_462 rfl ?_
  refine lv_iadd hx hb dL_law_463 ?_
  by_cases hi : (i + 2) < 0 ∨ L ≤ ((i + 2)).toNatClampNeg
  · rw [if_pos hi] at h; exact no h
  rw [if_neg hi] at h
  refine va_sld hx hb hX9 hbl hbA hS (i := (i + 2)) hi dL_law_464 ?_
  refine lv_aload_n hx hb dL_law_465 rfl (lv_at hl 3 rfl) ?_
  obtain ⟨q1, hq1, h⟩ := ob h
  refine mh_i (ws' := wLL a4 a2 a1 a3 a0 ao a5 cI cZ cJ ((q1.2.1, q1.2.2), σ)) (wr := wX5 a5 cI cZ σ) [0, 1, 2, 3, 4, 5, 6, 7, 8, 9, 10, 11, 12, 13, 14, 15, 16, 17, 18, 19, 20, 21, 22, 23, 24, 25, 26, 27, 28, 29] [30, 31, 32, 33, 34, 35, 36, 37, 38, 39, 40, 41, 42, 43, 44, 45, 46, 47, 48, 49, 50, 51, 52] [23, 24, 25, 26, 27, 28, 29, 30, 31, 32, 33, 34, 35, 36, 37, 38, 39, 40, 41, 42, 43, 44, 45, 46, 47, 48, 49, 50, 51, 52, 0, 1, 2, 3, 4, 5, 6, 7, 8, 9, 10, 11, 12, 13, 14, 15, 16, 17, 18, 19, 20, 21, 22] (vx_runSW (As := [.ref (a4 0), .int (xs ((i + 1)).toNatClampNeg), .int (xs ((i + 2)).toNatClampNeg), .ref (ao)]) (rest := []) ⟨hx, hb, hml, hown, hts⟩ (c_L_free l hlt D cI cZ cJ sa a4 a2 a1 a3 a0 ao N u.1 u.2.1 u.2.2.1 u.2.2.2.1 u.2.2.2.2 o (xs ((i + 1)).toNatClampNeg) (xs ((i + 2)).toNatClampNeg) q1.1 q1.2 hq1 H.size) (vx_cwSW 4 hts gL_law_L_free rfl rfl rfl (by decide +kernel) ⟨Nat.le_of_ble_eq_true rfl, Nat.le_of_ble_eq_true rfl⟩) (pLS [0, 1, 2, 3, 4, 5, 6, 7, 8, 9, 10, 11, 12, 13, 14, 15, 16, 17, 18, 19, 20, 21, 22, 23, 24, 25, 26, 27, 28, 29] hP hD hS hA hK3 hN hXP hC rfl rfl) rfl rfl hl.1 rfl (lv_room (Nat.le_of_ble_eq_true rfl)) dL_law_466 ⟨by show cells + 3 ≤ 601024; omega, by show slots + 18 ≤ 7293034; omega⟩) hP hD hS hA rfl rfl rfl (by decide) rfl rfl (fun H locs hP hD hS => ?_)
  refine lv_istore (lv' := [(5, .int q1.1), (0, .ref (b)), (1, .ref (a4 0)), (2, .ref (a5 0)), (3, .ref (ao)), (4, .int i)]) hx hb dL_law_469 hl (by decide) rfl (fun ls hl => ?_)
  refine lv_aload_n hx hb dL_law_471 rfl (lv_at hl 3 rfl) ?_
  refine lv_aload_n hx hb dL_law_472 rfl (lv_at hl 1 rfl) ?_
  refine lv_iload hx hb dL_law_473 (lv_at hl 5 rfl) ?_
  refine lv_iconst (v := 1) hx hb dL_law_475 rfl ?_
  refine lv_iadd hx hb dL_law_476 ?_
  by_cases hi : (i + 1) < 0 ∨ L ≤ ((i + 1)).toNatClampNeg
  · rw [if_pos hi] at h; exact no h
  rw [if_neg hi] at h
  refine va_sld hx hb hX9 hbl hbA hS (i := (i + 1)) hi dL_law_477 ?_
  refine lv_aload_n hx hb dL_law_478 rfl (lv_at hl 1 rfl) ?_
  refine lv_iload hx hb dL_law_479 (lv_at hl 5 rfl) ?_
  refine lv_iconst (v := 2) hx hb dL_law_481 rfl ?_
  refine lv_iadd hx hb dL_law_482 ?_
  by_cases hi : (i + 2) < 0 ∨ L ≤ ((i + 2)).toNatClampNeg
  · rw [if_pos hi] at h; exact no h
  rw [if_neg hi] at h
  refine va_sld hx hb hX9 hbl hbA hS (i := (i + 2)) hi dL_law_483 ?_
  obtain ⟨q2, hq2, h⟩ := ob h
  refine mg_i (ws' := wLL a4 a2 a1 a3 a0 ao a5 cI cZ cJ ((q1.2.1, q1.2.2), q2.2)) (wr := wL4 a4 a2 a1 a3 a0 ao cI cZ cJ (q1.2.1, q1.2.2)) [30, 31, 32, 33, 34, 35, 36, 37, 38, 39, 40, 41, 42, 43, 44, 45, 46, 47, 48, 49, 50, 51, 52] [0, 1, 2, 3, 4, 5, 6, 7, 8, 9, 10, 11, 12, 13, 14, 15, 16, 17, 18, 19, 20, 21, 22, 23, 24, 25, 26, 27, 28, 29] [0, 1, 2, 3, 4, 5, 6, 7, 8, 9, 10, 11, 12, 13, 14, 15, 16, 17, 18, 19, 20, 21, 22, 23, 24, 25, 26, 27, 28, 29, 30, 31, 32, 33, 34, 35, 36, 37, 38, 39, 40, 41, 42, 43, 44, 45, 46, 47, 48, 49, 50, 51, 52] (va_runV (As := [.int (xs ((i + 1)).toNatClampNeg), .int (xs ((i + 2)).toNatClampNeg)]) (rest := []) ⟨hx, hb, hml, hown, hts⟩ (c_X5_free l D cI cZ a5 N σ (xs ((i + 1)).toNatClampNeg) (xs ((i + 2)).toNatClampNeg) q2.1 q2.2 hq2 H.size) (cwV 2 hts gL_law_X5_free rfl rfl rfl (by decide +kernel) ⟨Nat.le_of_ble_eq_true rfl, Nat.le_of_ble_eq_true rfl⟩) (pV [30, 31, 32, 33, 34, 35, 36, 37, 38, 39, 40, 41, 42, 43, 44, 45, 46, 47, 48, 49, 50, 51, 52] hP hD hK hN rfl rfl rfl rfl) rfl rfl hl.1 rfl (lv_room (Nat.le_of_ble_eq_true rfl)) dL_law_484 ⟨by show cells + 3 + 0 ≤ 601024; omega, by show slots + 18 + 0 ≤ 7293034; omega⟩) hP hD hS hA rfl rfl rfl (by decide) rfl rfl (fun H locs hP hD hS => ?_)
  refine lv_istore (lv' := [(6, .int q2.1), (5, .int q1.1), (0, .ref (b)), (1, .ref (a4 0)), (2, .ref (a5 0)), (3, .ref (ao)), (4, .int i)]) hx hb dL_law_487 hl (by decide) rfl (fun ls hl => ?_)
  refine lv_aload_n hx hb dL_law_489 rfl (lv_at hl 4 rfl) ?_
  obtain ⟨q3, hq3, h⟩ := ob h
  refine mg_i (ws' := wLL a4 a2 a1 a3 a0 ao a5 cI cZ cJ ((q1.2.1, q1.2.2), q3.2)) (wr := wL4 a4 a2 a1 a3 a0 ao cI cZ cJ (q1.2.1, q1.2.2)) [30, 31, 32, 33, 34, 35, 36, 37, 38, 39, 40, 41, 42, 43, 44, 45, 46, 47, 48, 49, 50, 51, 52] [0, 1, 2, 3, 4, 5, 6, 7, 8, 9, 10, 11, 12, 13, 14, 15, 16, 17, 18, 19, 20, 21, 22, 23, 24, 25, 26, 27, 28, 29] [0, 1, 2, 3, 4, 5, 6, 7, 8, 9, 10, 11, 12, 13, 14, 15, 16, 17, 18, 19, 20, 21, 22, 23, 24, 25, 26, 27, 28, 29, 30, 31, 32, 33, 34, 35, 36, 37, 38, 39, 40, 41, 42, 43, 44, 45, 46, 47, 48, 49, 50, 51, 52] (va_runV (As := []) (rest := []) ⟨hx, hb, hml, hown, hts⟩ (c_X5_thrown l D cI cZ a5 N q2.2  q3.1 q3.2 hq3 H.size) (cwV 0 hts gL_law_X5_thrown rfl rfl rfl (by decide +kernel) ⟨Nat.le_of_ble_eq_true rfl, Nat.le_of_ble_eq_true rfl⟩) (pV [30, 31, 32, 33, 34, 35, 36, 37, 38, 39, 40, 41, 42, 43, 44, 45, 46, 47, 48, 49, 50, 51, 52] hP hD hK hN rfl rfl rfl rfl) rfl rfl hl.1 rfl (lv_room (Nat.le_of_ble_eq_true rfl)) dL_law_490 ⟨by show cells + 3 + 0 ≤ 601024; omega, by show slots + 18 + 0 ≤ 7293034; omega⟩) hP hD hS hA rfl rfl rfl (by decide) rfl rfl (fun H locs hP hD hS => ?_)
  refine lv_iload hx hb dL_law_493 (lv_at hl 1 rfl) ?_
  refine lv_icmp_eq (tgt := 500) hx hb dL_law_495 (by decide) (fun hc4 => ?_) (fun hc4 => ?_)
  · rw [if_pos hc4] at h
    refine lv_iload hx hb dL_law_500 (lv_at hl 1 rfl) ?_
    refine lv_if_ne (tgt := 517) hx hb dL_law_502 (by decide) (fun hc5 => ?_) (fun hc5 => ?_)
    · rw [if_neg hc5] at h
      refine lv_goto (tgt := 1561) hx hb dL_law_517 (by decide) ?_
      refine lv_iinc (v := (i + 4)) (lv' := [(4, .int (i + 4)), (6, .int q2.1), (5, .int q1.1), (0, .ref (b)), (1, .ref (a4 0)), (2, .ref (a5 0)), (3, .ref (ao))]) hx hb dL_law_1561 hl (k := 6) rfl rfl (by decide) rfl (fun ls hl => ?_)
      refine lv_goto (tgt := 23) hx hb dL_law_1564 (by decide) ?_
      refine W.widen (k := cells + 5) (n := slots + 30) (by omega) (by omega) ?_
      exact hk (i + 4) q1.2.1 q1.2.2 q3.2 _ _ _ _ _ (by omega) (by omega) hP hD hS (lv_sub hl [3, 4, 5, 6, 0] rfl) h
    · rw [if_pos hc5] at h
      refine lv_aload_n hx hb dL_law_505 rfl (lv_at hl 5 rfl) ?_
      refine lv_iconst (v := 0) hx hb dL_law_506 rfl ?_
      refine va_lald (f := q1.2.2) hx hb hK3 hP 29 2 rfl rfl (i := 0) (by unfold vp_in; decide) dL_law_507 ?_
      refine lv_iload hx hb dL_law_508 (lv_at hl 0 rfl) ?_
      refine lv_i2l (v := Int32.toInt64 q2.1) hx hb dL_law_510 rfl ?_
      refine W.lcmp hx hb dL_law_511 ?_
      refine lv_if_eq (tgt := 517) hx hb dL_law_512 (by decide) (fun hc6 => ?_) (fun hc6 => ?_)
      · rw [if_pos hc6] at h
        refine lv_goto (tgt := 1561) hx hb dL_law_517 (by decide) ?_
        refine lv_iinc (v := (i + 4)) (lv' := [(4, .int (i + 4)), (6, .int q2.1), (5, .int q1.1), (0, .ref (b)), (1, .ref (a4 0)), (2, .ref (a5 0)), (3, .ref (ao))]) hx hb dL_law_1561 hl (k := 6) rfl rfl (by decide) rfl (fun ls hl => ?_)
        refine lv_goto (tgt := 23) hx hb dL_law_1564 (by decide) ?_
        refine W.widen (k := cells + 5) (n := slots + 30) (by omega) (by omega) ?_
        exact hk (i + 4) q1.2.1 q1.2.2 q3.2 _ _ _ _ _ (by omega) (by omega) hP hD hS (lv_sub hl [3, 4, 5, 6, 0] rfl) h
      · rw [if_neg hc6] at h
        refine lv_iconst (v := 0) hx hb dL_law_515 rfl ?_
        exact absurd (Option.some.inj h) (by decide)
  · rw [if_neg hc4] at h
    refine lv_iconst (v := 0) hx hb dL_law_498 rfl ?_
    exact absurd (Option.some.inj h) (by decide)
def g_law_6 (N : Nat) (xs : Nat → Int32) (L : Nat) (K : Int32 → S5 → (Nat → Int64) → St → Option Int32) (i : Int32) (u : S5) (o : Nat → Int64) (σ : St) : Option Int32 := if (i + 1) < 0 ∨ L ≤ ((i + 1)).toNatClampNeg then none else if (i + 2) < 0 ∨ L ≤ ((i + 2)).toNatClampNeg then none else (f_L_constant N u.1 u.2.1 u.2.2.1 u.2.2.2.1 u.2.2.2.2 o (xs ((i + 1)).toNatClampNeg) (xs ((i + 2)).toNatClampNeg)).bind (fun q1 => if (i + 1) < 0 ∨ L ≤ ((i + 1)).toNatClampNeg then none else if (i + 2) < 0 ∨ L ≤ ((i + 2)).toNatClampNeg then none else (f_X5_constant N σ (xs ((i + 1)).toNatClampNeg) (xs ((i + 2)).toNatClampNeg)).bind (fun q2 => (f_X5_thrown N q2.2 ).bind (fun q3 => if q3.1 = q1.1 then if q1.1 = 0 then if (lg_cmp (q1.2.2 (Int32.toNatClampNeg 0)) (Int32.toInt64 q2.1)) = 0 then K (i + 4) q1.2.1 q1.2.2 q3.2 else some (0 : Int32) else K (i + 4) q1.2.1 q1.2.2 q3.2 else some (0 : Int32))))
set_option maxHeartbeats 4000000 in
set_option maxRecDepth 100000 in
theorem k_law_6 {p : Program} {l : Launch} {e : Env} {s : State} {m : MethodId} {below : List Frame} {meth : Method} {c : Code} {D : va_G} {cI cZ cJ : ClassId} {sa : Nat → Nat} {a4 a2 a1 a3 a0 a5 : Nat → Nat} {ao b L : Nat} {xs : Nat → Int32} (C0 : lC p l s m meth c b L xs D cI cZ cJ sa) (N : Nat) (n : Nat) (K : Int32 → S5 → (Nat → Int64) → St → Option Int32) (hk : KPl p l e s m below meth c D cI cZ cJ a4 a2 a1 a3 a0 a5 ao b n K 23) : KPl p l e s m below meth c D cI cZ cJ a4 a2 a1 a3 a0 a5 ao b (n + 1) (g_law_6 N xs L K) 520 := by
  obtain ⟨hx, hb, hr, hml, hown, hts, hX9, hbl, hlocks, hK3, hN, hXP, hC, hlt⟩ := id C0
  have hK : va_K D vwCl (kT cI cZ) s := hK3.sub [0, 1] rfl
  have hA : ∀ q : Nat, s.heap.size ≤ q → (fun q : Nat => s.heap.size ≤ q) q := fun _ h => h
  have hbA : ¬ (fun q : Nat => s.heap.size ≤ q) b := Nat.not_le.mpr hbl
  intro i u o σ cells slots H locs ls hc9 hs9 hP hD hS hl h
  unfold g_law_6 at h
  refine lv_aload_n hx hb dL_law_520 rfl (lv_at hl 1 rfl) ?_
  refine lv_aload_n hx hb dL_law_521 rfl (lv_at hl 0 rfl) ?_
  refine lv_iload hx hb dL_law_522 (lv_at hl 4 rfl) ?_
  refine lv_iconst (v := 1) hx hb dL_law_524 rfl ?_
  refine lv_iadd hx hb dL_law_525 ?_
  by_cases hi : (i + 1) < 0 ∨ L ≤ ((i + 1)).toNatClampNeg
  · rw [if_pos hi] at h; exact no h
  rw [if_neg hi] at h
  refine va_sld hx hb hX9 hbl hbA hS (i := (i + 1)) hi dL_law_526 ?_
  refine lv_aload_n hx hb dL_law_527 rfl (lv_at hl 0 rfl) ?_
  refine lv_iload hx hb dL_law_528 (lv_at hl 4 rfl) ?_
  refine lv_iconst (v := 2) hx hb dL_law_530 rfl ?_
  refine lv_iadd hx hb dL_law_531 ?_
  by_cases hi : (i + 2) < 0 ∨ L ≤ ((i + 2)).toNatClampNeg
  · rw [if_pos hi] at h; exact no h
  rw [if_neg hi] at h
  refine va_sld hx hb hX9 hbl hbA hS (i := (i + 2)) hi dL_law_532 ?_
  refine lv_aload_n hx hb dL_law_533 rfl (lv_at hl 3 rfl) ?_
  obtain ⟨q1, hq1, h⟩ := ob h
  refine mh_i (ws' := wLL a4 a2 a1 a3 a0 ao a5 cI cZ cJ ((q1.2.1, q1.2.2), σ)) (wr := wX5 a5 cI cZ σ) [0, 1, 2, 3, 4, 5, 6, 7, 8, 9, 10, 11, 12, 13, 14, 15, 16, 17, 18, 19, 20, 21, 22, 23, 24, 25, 26, 27, 28, 29] [30, 31, 32, 33, 34, 35, 36, 37, 38, 39, 40, 41, 42, 43, 44, 45, 46, 47, 48, 49, 50, 51, 52] [23, 24, 25, 26, 27, 28, 29, 30, 31, 32, 33, 34, 35, 36, 37, 38, 39, 40, 41, 42, 43, 44, 45, 46, 47, 48, 49, 50, 51, 52, 0, 1, 2, 3, 4, 5, 6, 7, 8, 9, 10, 11, 12, 13, 14, 15, 16, 17, 18, 19, 20, 21, 22] (vx_runSW (As := [.ref (a4 0), .int (xs ((i + 1)).toNatClampNeg), .int (xs ((i + 2)).toNatClampNeg), .ref (ao)]) (rest := []) ⟨hx, hb, hml, hown, hts⟩ (c_L_constant l hlt D cI cZ cJ sa a4 a2 a1 a3 a0 ao N u.1 u.2.1 u.2.2.1 u.2.2.2.1 u.2.2.2.2 o (xs ((i + 1)).toNatClampNeg) (xs ((i + 2)).toNatClampNeg) q1.1 q1.2 hq1 H.size) (vx_cwSW 4 hts gL_law_L_constant rfl rfl rfl (by decide +kernel) ⟨Nat.le_of_ble_eq_true rfl, Nat.le_of_ble_eq_true rfl⟩) (pLS [0, 1, 2, 3, 4, 5, 6, 7, 8, 9, 10, 11, 12, 13, 14, 15, 16, 17, 18, 19, 20, 21, 22, 23, 24, 25, 26, 27, 28, 29] hP hD hS hA hK3 hN hXP hC rfl rfl) rfl rfl hl.1 rfl (lv_room (Nat.le_of_ble_eq_true rfl)) dL_law_534 ⟨by show cells + 2 ≤ 601024; omega, by show slots + 12 ≤ 7293034; omega⟩) hP hD hS hA rfl rfl rfl (by decide) rfl rfl (fun H locs hP hD hS => ?_)
  refine lv_istore (lv' := [(5, .int q1.1), (0, .ref (b)), (1, .ref (a4 0)), (2, .ref (a5 0)), (3, .ref (ao)), (4, .int i)]) hx hb dL_law_537 hl (by decide) rfl (fun ls hl => ?_)
  refine lv_aload_n hx hb dL_law_539 rfl (lv_at hl 3 rfl) ?_
  refine lv_aload_n hx hb dL_law_540 rfl (lv_at hl 1 rfl) ?_
  refine lv_iload hx hb dL_law_541 (lv_at hl 5 rfl) ?_
  refine lv_iconst (v := 1) hx hb dL_law_543 rfl ?_
  refine lv_iadd hx hb dL_law_544 ?_
  by_cases hi : (i + 1) < 0 ∨ L ≤ ((i + 1)).toNatClampNeg
  · rw [if_pos hi] at h; exact no h
  rw [if_neg hi] at h
  refine va_sld hx hb hX9 hbl hbA hS (i := (i + 1)) hi dL_law_545 ?_
  refine lv_aload_n hx hb dL_law_546 rfl (lv_at hl 1 rfl) ?_
  refine lv_iload hx hb dL_law_547 (lv_at hl 5 rfl) ?_
  refine lv_iconst (v := 2) hx hb dL_law_549 rfl ?_
  refine lv_iadd hx hb dL_law_550 ?_
  by_cases hi : (i + 2) < 0 ∨ L ≤ ((i + 2)).toNatClampNeg
  · rw [if_pos hi] at h; exact no h
  rw [if_neg hi] at h
  refine va_sld hx hb hX9 hbl hbA hS (i := (i + 2)) hi dL_law_551 ?_
  obtain ⟨q2, hq2, h⟩ := ob h
  refine mg_i (ws' := wLL a4 a2 a1 a3 a0 ao a5 cI cZ cJ ((q1.2.1, q1.2.2), q2.2)) (wr := wL4 a4 a2 a1 a3 a0 ao cI cZ cJ (q1.2.1, q1.2.2)) [30, 31, 32, 33, 34, 35, 36, 37, 38, 39, 40, 41, 42, 43, 44, 45, 46, 47, 48, 49, 50, 51, 52] [0, 1, 2, 3, 4, 5, 6, 7, 8, 9, 10, 11, 12, 13, 14, 15, 16, 17, 18, 19, 20, 21, 22, 23, 24, 25, 26, 27, 28, 29] [0, 1, 2, 3, 4, 5, 6, 7, 8, 9, 10, 11, 12, 13, 14, 15, 16, 17, 18, 19, 20, 21, 22, 23, 24, 25, 26, 27, 28, 29, 30, 31, 32, 33, 34, 35, 36, 37, 38, 39, 40, 41, 42, 43, 44, 45, 46, 47, 48, 49, 50, 51, 52] (va_runV (As := [.int (xs ((i + 1)).toNatClampNeg), .int (xs ((i + 2)).toNatClampNeg)]) (rest := []) ⟨hx, hb, hml, hown, hts⟩ (c_X5_constant l D cI cZ a5 N σ (xs ((i + 1)).toNatClampNeg) (xs ((i + 2)).toNatClampNeg) q2.1 q2.2 hq2 H.size) (cwV 2 hts gL_law_X5_constant rfl rfl rfl (by decide +kernel) ⟨Nat.le_of_ble_eq_true rfl, Nat.le_of_ble_eq_true rfl⟩) (pV [30, 31, 32, 33, 34, 35, 36, 37, 38, 39, 40, 41, 42, 43, 44, 45, 46, 47, 48, 49, 50, 51, 52] hP hD hK hN rfl rfl rfl rfl) rfl rfl hl.1 rfl (lv_room (Nat.le_of_ble_eq_true rfl)) dL_law_552 ⟨by show cells + 2 + 0 ≤ 601024; omega, by show slots + 12 + 0 ≤ 7293034; omega⟩) hP hD hS hA rfl rfl rfl (by decide) rfl rfl (fun H locs hP hD hS => ?_)
  refine lv_istore (lv' := [(6, .int q2.1), (5, .int q1.1), (0, .ref (b)), (1, .ref (a4 0)), (2, .ref (a5 0)), (3, .ref (ao)), (4, .int i)]) hx hb dL_law_555 hl (by decide) rfl (fun ls hl => ?_)
  refine lv_aload_n hx hb dL_law_557 rfl (lv_at hl 4 rfl) ?_
  obtain ⟨q3, hq3, h⟩ := ob h
  refine mg_i (ws' := wLL a4 a2 a1 a3 a0 ao a5 cI cZ cJ ((q1.2.1, q1.2.2), q3.2)) (wr := wL4 a4 a2 a1 a3 a0 ao cI cZ cJ (q1.2.1, q1.2.2)) [30, 31, 32, 33, 34, 35, 36, 37, 38, 39, 40, 41, 42, 43, 44, 45, 46, 47, 48, 49, 50, 51, 52] [0, 1, 2, 3, 4, 5, 6, 7, 8, 9, 10, 11, 12, 13, 14, 15, 16, 17, 18, 19, 20, 21, 22, 23, 24, 25, 26, 27, 28, 29] [0, 1, 2, 3, 4, 5, 6, 7, 8, 9, 10, 11, 12, 13, 14, 15, 16, 17, 18, 19, 20, 21, 22, 23, 24, 25, 26, 27, 28, 29, 30, 31, 32, 33, 34, 35, 36, 37, 38, 39, 40, 41, 42, 43, 44, 45, 46, 47, 48, 49, 50, 51, 52] (va_runV (As := []) (rest := []) ⟨hx, hb, hml, hown, hts⟩ (c_X5_thrown l D cI cZ a5 N q2.2  q3.1 q3.2 hq3 H.size) (cwV 0 hts gL_law_X5_thrown rfl rfl rfl (by decide +kernel) ⟨Nat.le_of_ble_eq_true rfl, Nat.le_of_ble_eq_true rfl⟩) (pV [30, 31, 32, 33, 34, 35, 36, 37, 38, 39, 40, 41, 42, 43, 44, 45, 46, 47, 48, 49, 50, 51, 52] hP hD hK hN rfl rfl rfl rfl) rfl rfl hl.1 rfl (lv_room (Nat.le_of_ble_eq_true rfl)) dL_law_558 ⟨by show cells + 2 + 0 ≤ 601024; omega, by show slots + 12 + 0 ≤ 7293034; omega⟩) hP hD hS hA rfl rfl rfl (by decide) rfl rfl (fun H locs hP hD hS => ?_)
  refine lv_iload hx hb dL_law_561 (lv_at hl 1 rfl) ?_
  refine lv_icmp_eq (tgt := 568) hx hb dL_law_563 (by decide) (fun hc4 => ?_) (fun hc4 => ?_)
  · rw [if_pos hc4] at h
    refine lv_iload hx hb dL_law_568 (lv_at hl 1 rfl) ?_
    refine lv_if_ne (tgt := 585) hx hb dL_law_570 (by decide) (fun hc5 => ?_) (fun hc5 => ?_)
    · rw [if_neg hc5] at h
      refine lv_goto (tgt := 1561) hx hb dL_law_585 (by decide) ?_
      refine lv_iinc (v := (i + 4)) (lv' := [(4, .int (i + 4)), (6, .int q2.1), (5, .int q1.1), (0, .ref (b)), (1, .ref (a4 0)), (2, .ref (a5 0)), (3, .ref (ao))]) hx hb dL_law_1561 hl (k := 6) rfl rfl (by decide) rfl (fun ls hl => ?_)
      refine lv_goto (tgt := 23) hx hb dL_law_1564 (by decide) ?_
      refine W.widen (k := cells + 5) (n := slots + 30) (by omega) (by omega) ?_
      exact hk (i + 4) q1.2.1 q1.2.2 q3.2 _ _ _ _ _ (by omega) (by omega) hP hD hS (lv_sub hl [3, 4, 5, 6, 0] rfl) h
    · rw [if_pos hc5] at h
      refine lv_aload_n hx hb dL_law_573 rfl (lv_at hl 5 rfl) ?_
      refine lv_iconst (v := 0) hx hb dL_law_574 rfl ?_
      refine va_lald (f := q1.2.2) hx hb hK3 hP 29 2 rfl rfl (i := 0) (by unfold vp_in; decide) dL_law_575 ?_
      refine lv_iload hx hb dL_law_576 (lv_at hl 0 rfl) ?_
      refine lv_i2l (v := Int32.toInt64 q2.1) hx hb dL_law_578 rfl ?_
      refine W.lcmp hx hb dL_law_579 ?_
      refine lv_if_eq (tgt := 585) hx hb dL_law_580 (by decide) (fun hc6 => ?_) (fun hc6 => ?_)
      · rw [if_pos hc6] at h
        refine lv_goto (tgt := 1561) hx hb dL_law_585 (by decide) ?_
        refine lv_iinc (v := (i + 4)) (lv' := [(4, .int (i + 4)), (6, .int q2.1), (5, .int q1.1), (0, .ref (b)), (1, .ref (a4 0)), (2, .ref (a5 0)), (3, .ref (ao))]) hx hb dL_law_1561 hl (k := 6) rfl rfl (by decide) rfl (fun ls hl => ?_)
        refine lv_goto (tgt := 23) hx hb dL_law_1564 (by decide) ?_
        refine W.widen (k := cells + 5) (n := slots + 30) (by omega) (by omega) ?_
        exact hk (i + 4) q1.2.1 q1.2.2 q3.2 _ _ _ _ _ (by omega) (by omega) hP hD hS (lv_sub hl [3, 4, 5, 6, 0] rfl) h
      · rw [if_neg hc6] at h
        refine lv_iconst (v := 0) hx hb dL_law_583 rfl ?_
        exact absurd (Option.some.inj h) (by decide)
  · rw [if_neg hc4] at h
    refine lv_iconst (v := 0) hx hb dL_law_566 rfl ?_
    exact absurd (Option.some.inj h) (by decide)
def g_law_7 (N : Nat) (xs : Nat → Int32) (L : Nat) (K : Int32 → S5 → (Nat → Int64) → St → Option Int32) (i : Int32) (u : S5) (o : Nat → Int64) (σ : St) : Option Int32 := if (i + 1) < 0 ∨ L ≤ ((i + 1)).toNatClampNeg then none else if (i + 2) < 0 ∨ L ≤ ((i + 2)).toNatClampNeg then none else (f_L_apply N u.1 u.2.1 u.2.2.1 u.2.2.2.1 u.2.2.2.2 o (xs ((i + 1)).toNatClampNeg) (xs ((i + 2)).toNatClampNeg)).bind (fun q1 => if (i + 1) < 0 ∨ L ≤ ((i + 1)).toNatClampNeg then none else if (i + 2) < 0 ∨ L ≤ ((i + 2)).toNatClampNeg then none else (f_X5_apply N σ (xs ((i + 1)).toNatClampNeg) (xs ((i + 2)).toNatClampNeg)).bind (fun q2 => (f_X5_thrown N q2.2 ).bind (fun q3 => if q3.1 = q1.1 then if q1.1 = 0 then if (lg_cmp (q1.2.2 (Int32.toNatClampNeg 0)) (Int32.toInt64 q2.1)) = 0 then K (i + 4) q1.2.1 q1.2.2 q3.2 else some (0 : Int32) else K (i + 4) q1.2.1 q1.2.2 q3.2 else some (0 : Int32))))
set_option maxHeartbeats 4000000 in
set_option maxRecDepth 100000 in
theorem k_law_7 {p : Program} {l : Launch} {e : Env} {s : State} {m : MethodId} {below : List Frame} {meth : Method} {c : Code} {D : va_G} {cI cZ cJ : ClassId} {sa : Nat → Nat} {a4 a2 a1 a3 a0 a5 : Nat → Nat} {ao b L : Nat} {xs : Nat → Int32} (C0 : lC p l s m meth c b L xs D cI cZ cJ sa) (N : Nat) (n : Nat) (K : Int32 → S5 → (Nat → Int64) → St → Option Int32) (hk : KPl p l e s m below meth c D cI cZ cJ a4 a2 a1 a3 a0 a5 ao b n K 23) : KPl p l e s m below meth c D cI cZ cJ a4 a2 a1 a3 a0 a5 ao b (n + 1) (g_law_7 N xs L K) 588 := by
  obtain ⟨hx, hb, hr, hml, hown, hts, hX9, hbl, hlocks, hK3, hN, hXP, hC, hlt⟩ := id C0
  have hK : va_K D vwCl (kT cI cZ) s := hK3.sub [0, 1] rfl
  have hA : ∀ q : Nat, s.heap.size ≤ q → (fun q : Nat => s.heap.size ≤ q) q := fun _ h => h
  have hbA : ¬ (fun q : Nat => s.heap.size ≤ q) b := Nat.not_le.mpr hbl
  intro i u o σ cells slots H locs ls hc9 hs9 hP hD hS hl h
  unfold g_law_7 at h
  refine lv_aload_n hx hb dL_law_588 rfl (lv_at hl 1 rfl) ?_
  refine lv_aload_n hx hb dL_law_589 rfl (lv_at hl 0 rfl) ?_
  refine lv_iload hx hb dL_law_590 (lv_at hl 4 rfl) ?_
  refine lv_iconst (v := 1) hx hb dL_law_592 rfl ?_
  refine lv_iadd hx hb dL_law_593 ?_
  by_cases hi : (i + 1) < 0 ∨ L ≤ ((i + 1)).toNatClampNeg
  · rw [if_pos hi] at h; exact no h
  rw [if_neg hi] at h
  refine va_sld hx hb hX9 hbl hbA hS (i := (i + 1)) hi dL_law_594 ?_
  refine lv_aload_n hx hb dL_law_595 rfl (lv_at hl 0 rfl) ?_
  refine lv_iload hx hb dL_law_596 (lv_at hl 4 rfl) ?_
  refine lv_iconst (v := 2) hx hb dL_law_598 rfl ?_
  refine lv_iadd hx hb dL_law_599 ?_
  by_cases hi : (i + 2) < 0 ∨ L ≤ ((i + 2)).toNatClampNeg
  · rw [if_pos hi] at h; exact no h
  rw [if_neg hi] at h
  refine va_sld hx hb hX9 hbl hbA hS (i := (i + 2)) hi dL_law_600 ?_
  refine lv_aload_n hx hb dL_law_601 rfl (lv_at hl 3 rfl) ?_
  obtain ⟨q1, hq1, h⟩ := ob h
  refine mh_i (ws' := wLL a4 a2 a1 a3 a0 ao a5 cI cZ cJ ((q1.2.1, q1.2.2), σ)) (wr := wX5 a5 cI cZ σ) [0, 1, 2, 3, 4, 5, 6, 7, 8, 9, 10, 11, 12, 13, 14, 15, 16, 17, 18, 19, 20, 21, 22, 23, 24, 25, 26, 27, 28, 29] [30, 31, 32, 33, 34, 35, 36, 37, 38, 39, 40, 41, 42, 43, 44, 45, 46, 47, 48, 49, 50, 51, 52] [23, 24, 25, 26, 27, 28, 29, 30, 31, 32, 33, 34, 35, 36, 37, 38, 39, 40, 41, 42, 43, 44, 45, 46, 47, 48, 49, 50, 51, 52, 0, 1, 2, 3, 4, 5, 6, 7, 8, 9, 10, 11, 12, 13, 14, 15, 16, 17, 18, 19, 20, 21, 22] (vx_runSW (As := [.ref (a4 0), .int (xs ((i + 1)).toNatClampNeg), .int (xs ((i + 2)).toNatClampNeg), .ref (ao)]) (rest := []) ⟨hx, hb, hml, hown, hts⟩ (c_L_apply l hlt D cI cZ cJ sa a4 a2 a1 a3 a0 ao N u.1 u.2.1 u.2.2.1 u.2.2.2.1 u.2.2.2.2 o (xs ((i + 1)).toNatClampNeg) (xs ((i + 2)).toNatClampNeg) q1.1 q1.2 hq1 H.size) (vx_cwSW 4 hts gL_law_L_apply rfl rfl rfl (by decide +kernel) ⟨Nat.le_of_ble_eq_true rfl, Nat.le_of_ble_eq_true rfl⟩) (pLS [0, 1, 2, 3, 4, 5, 6, 7, 8, 9, 10, 11, 12, 13, 14, 15, 16, 17, 18, 19, 20, 21, 22, 23, 24, 25, 26, 27, 28, 29] hP hD hS hA hK3 hN hXP hC rfl rfl) rfl rfl hl.1 rfl (lv_room (Nat.le_of_ble_eq_true rfl)) dL_law_602 ⟨by show cells + 3 ≤ 601024; omega, by show slots + 18 ≤ 7293034; omega⟩) hP hD hS hA rfl rfl rfl (by decide) rfl rfl (fun H locs hP hD hS => ?_)
  refine lv_istore (lv' := [(5, .int q1.1), (0, .ref (b)), (1, .ref (a4 0)), (2, .ref (a5 0)), (3, .ref (ao)), (4, .int i)]) hx hb dL_law_605 hl (by decide) rfl (fun ls hl => ?_)
  refine lv_aload_n hx hb dL_law_607 rfl (lv_at hl 3 rfl) ?_
  refine lv_aload_n hx hb dL_law_608 rfl (lv_at hl 1 rfl) ?_
  refine lv_iload hx hb dL_law_609 (lv_at hl 5 rfl) ?_
  refine lv_iconst (v := 1) hx hb dL_law_611 rfl ?_
  refine lv_iadd hx hb dL_law_612 ?_
  by_cases hi : (i + 1) < 0 ∨ L ≤ ((i + 1)).toNatClampNeg
  · rw [if_pos hi] at h; exact no h
  rw [if_neg hi] at h
  refine va_sld hx hb hX9 hbl hbA hS (i := (i + 1)) hi dL_law_613 ?_
  refine lv_aload_n hx hb dL_law_614 rfl (lv_at hl 1 rfl) ?_
  refine lv_iload hx hb dL_law_615 (lv_at hl 5 rfl) ?_
  refine lv_iconst (v := 2) hx hb dL_law_617 rfl ?_
  refine lv_iadd hx hb dL_law_618 ?_
  by_cases hi : (i + 2) < 0 ∨ L ≤ ((i + 2)).toNatClampNeg
  · rw [if_pos hi] at h; exact no h
  rw [if_neg hi] at h
  refine va_sld hx hb hX9 hbl hbA hS (i := (i + 2)) hi dL_law_619 ?_
  obtain ⟨q2, hq2, h⟩ := ob h
  refine mg_i (ws' := wLL a4 a2 a1 a3 a0 ao a5 cI cZ cJ ((q1.2.1, q1.2.2), q2.2)) (wr := wL4 a4 a2 a1 a3 a0 ao cI cZ cJ (q1.2.1, q1.2.2)) [30, 31, 32, 33, 34, 35, 36, 37, 38, 39, 40, 41, 42, 43, 44, 45, 46, 47, 48, 49, 50, 51, 52] [0, 1, 2, 3, 4, 5, 6, 7, 8, 9, 10, 11, 12, 13, 14, 15, 16, 17, 18, 19, 20, 21, 22, 23, 24, 25, 26, 27, 28, 29] [0, 1, 2, 3, 4, 5, 6, 7, 8, 9, 10, 11, 12, 13, 14, 15, 16, 17, 18, 19, 20, 21, 22, 23, 24, 25, 26, 27, 28, 29, 30, 31, 32, 33, 34, 35, 36, 37, 38, 39, 40, 41, 42, 43, 44, 45, 46, 47, 48, 49, 50, 51, 52] (va_runV (As := [.int (xs ((i + 1)).toNatClampNeg), .int (xs ((i + 2)).toNatClampNeg)]) (rest := []) ⟨hx, hb, hml, hown, hts⟩ (c_X5_apply l D cI cZ a5 N σ (xs ((i + 1)).toNatClampNeg) (xs ((i + 2)).toNatClampNeg) q2.1 q2.2 hq2 H.size) (cwV 2 hts gL_law_X5_apply rfl rfl rfl (by decide +kernel) ⟨Nat.le_of_ble_eq_true rfl, Nat.le_of_ble_eq_true rfl⟩) (pV [30, 31, 32, 33, 34, 35, 36, 37, 38, 39, 40, 41, 42, 43, 44, 45, 46, 47, 48, 49, 50, 51, 52] hP hD hK hN rfl rfl rfl rfl) rfl rfl hl.1 rfl (lv_room (Nat.le_of_ble_eq_true rfl)) dL_law_620 ⟨by show cells + 3 + 0 ≤ 601024; omega, by show slots + 18 + 0 ≤ 7293034; omega⟩) hP hD hS hA rfl rfl rfl (by decide) rfl rfl (fun H locs hP hD hS => ?_)
  refine lv_istore (lv' := [(6, .int q2.1), (5, .int q1.1), (0, .ref (b)), (1, .ref (a4 0)), (2, .ref (a5 0)), (3, .ref (ao)), (4, .int i)]) hx hb dL_law_623 hl (by decide) rfl (fun ls hl => ?_)
  refine lv_aload_n hx hb dL_law_625 rfl (lv_at hl 4 rfl) ?_
  obtain ⟨q3, hq3, h⟩ := ob h
  refine mg_i (ws' := wLL a4 a2 a1 a3 a0 ao a5 cI cZ cJ ((q1.2.1, q1.2.2), q3.2)) (wr := wL4 a4 a2 a1 a3 a0 ao cI cZ cJ (q1.2.1, q1.2.2)) [30, 31, 32, 33, 34, 35, 36, 37, 38, 39, 40, 41, 42, 43, 44, 45, 46, 47, 48, 49, 50, 51, 52] [0, 1, 2, 3, 4, 5, 6, 7, 8, 9, 10, 11, 12, 13, 14, 15, 16, 17, 18, 19, 20, 21, 22, 23, 24, 25, 26, 27, 28, 29] [0, 1, 2, 3, 4, 5, 6, 7, 8, 9, 10, 11, 12, 13, 14, 15, 16, 17, 18, 19, 20, 21, 22, 23, 24, 25, 26, 27, 28, 29, 30, 31, 32, 33, 34, 35, 36, 37, 38, 39, 40, 41, 42, 43, 44, 45, 46, 47, 48, 49, 50, 51, 52] (va_runV (As := []) (rest := []) ⟨hx, hb, hml, hown, hts⟩ (c_X5_thrown l D cI cZ a5 N q2.2  q3.1 q3.2 hq3 H.size) (cwV 0 hts gL_law_X5_thrown rfl rfl rfl (by decide +kernel) ⟨Nat.le_of_ble_eq_true rfl, Nat.le_of_ble_eq_true rfl⟩) (pV [30, 31, 32, 33, 34, 35, 36, 37, 38, 39, 40, 41, 42, 43, 44, 45, 46, 47, 48, 49, 50, 51, 52] hP hD hK hN rfl rfl rfl rfl) rfl rfl hl.1 rfl (lv_room (Nat.le_of_ble_eq_true rfl)) dL_law_626 ⟨by show cells + 3 + 0 ≤ 601024; omega, by show slots + 18 + 0 ≤ 7293034; omega⟩) hP hD hS hA rfl rfl rfl (by decide) rfl rfl (fun H locs hP hD hS => ?_)
  refine lv_iload hx hb dL_law_629 (lv_at hl 1 rfl) ?_
  refine lv_icmp_eq (tgt := 636) hx hb dL_law_631 (by decide) (fun hc4 => ?_) (fun hc4 => ?_)
  · rw [if_pos hc4] at h
    refine lv_iload hx hb dL_law_636 (lv_at hl 1 rfl) ?_
    refine lv_if_ne (tgt := 653) hx hb dL_law_638 (by decide) (fun hc5 => ?_) (fun hc5 => ?_)
    · rw [if_neg hc5] at h
      refine lv_goto (tgt := 1561) hx hb dL_law_653 (by decide) ?_
      refine lv_iinc (v := (i + 4)) (lv' := [(4, .int (i + 4)), (6, .int q2.1), (5, .int q1.1), (0, .ref (b)), (1, .ref (a4 0)), (2, .ref (a5 0)), (3, .ref (ao))]) hx hb dL_law_1561 hl (k := 6) rfl rfl (by decide) rfl (fun ls hl => ?_)
      refine lv_goto (tgt := 23) hx hb dL_law_1564 (by decide) ?_
      refine W.widen (k := cells + 5) (n := slots + 30) (by omega) (by omega) ?_
      exact hk (i + 4) q1.2.1 q1.2.2 q3.2 _ _ _ _ _ (by omega) (by omega) hP hD hS (lv_sub hl [3, 4, 5, 6, 0] rfl) h
    · rw [if_pos hc5] at h
      refine lv_aload_n hx hb dL_law_641 rfl (lv_at hl 5 rfl) ?_
      refine lv_iconst (v := 0) hx hb dL_law_642 rfl ?_
      refine va_lald (f := q1.2.2) hx hb hK3 hP 29 2 rfl rfl (i := 0) (by unfold vp_in; decide) dL_law_643 ?_
      refine lv_iload hx hb dL_law_644 (lv_at hl 0 rfl) ?_
      refine lv_i2l (v := Int32.toInt64 q2.1) hx hb dL_law_646 rfl ?_
      refine W.lcmp hx hb dL_law_647 ?_
      refine lv_if_eq (tgt := 653) hx hb dL_law_648 (by decide) (fun hc6 => ?_) (fun hc6 => ?_)
      · rw [if_pos hc6] at h
        refine lv_goto (tgt := 1561) hx hb dL_law_653 (by decide) ?_
        refine lv_iinc (v := (i + 4)) (lv' := [(4, .int (i + 4)), (6, .int q2.1), (5, .int q1.1), (0, .ref (b)), (1, .ref (a4 0)), (2, .ref (a5 0)), (3, .ref (ao))]) hx hb dL_law_1561 hl (k := 6) rfl rfl (by decide) rfl (fun ls hl => ?_)
        refine lv_goto (tgt := 23) hx hb dL_law_1564 (by decide) ?_
        refine W.widen (k := cells + 5) (n := slots + 30) (by omega) (by omega) ?_
        exact hk (i + 4) q1.2.1 q1.2.2 q3.2 _ _ _ _ _ (by omega) (by omega) hP hD hS (lv_sub hl [3, 4, 5, 6, 0] rfl) h
      · rw [if_neg hc6] at h
        refine lv_iconst (v := 0) hx hb dL_law_651 rfl ?_
        exact absurd (Option.some.inj h) (by decide)
  · rw [if_neg hc4] at h
    refine lv_iconst (v := 0) hx hb dL_law_634 rfl ?_
    exact absurd (Option.some.inj h) (by decide)
