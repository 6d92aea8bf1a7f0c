def g_law_20 (N : Nat) (xs : Nat → Int32) (L : Nat) (K : Int32 → S5 → (Nat → Int64) → St → Option Int32) (i : Int32) (u : S5) (o : Nat → Int64) (σ : St) : Option Int32 := if (i + 1) < 0 ∨ L ≤ ((i + 1)).toNatClampNeg then none else (f_L_matched N u.1 u.2.1 u.2.2.1 u.2.2.2.1 u.2.2.2.2 o (xs ((i + 1)).toNatClampNeg)).bind (fun q1 => if (i + 1) < 0 ∨ L ≤ ((i + 1)).toNatClampNeg then none else (f_X5_matched N σ (xs ((i + 1)).toNatClampNeg)).bind (fun q2 => (f_X5_thrown N q2.2 ).bind (fun q3 => if q3.1 = q1.1 then if q1.1 = 0 then if (lg_cmp (q1.2.2 (Int32.toNatClampNeg 0)) (Int32.toInt64 q2.1)) = 0 then K (i + 4) q1.2.1 q1.2.2 q3.2 else some (0 : Int32) else K (i + 4) q1.2.1 q1.2.2 q3.2 else some (0 : Int32))))
set_option maxHeartbeats 4000000 in
set_option maxRecDepth 100000 in
theorem k_law_20 {p : Program} {l : Launch} {e : Env} {s : State} {m : MethodId} {below : List Frame} {meth : Method} {c : Code} {D : va_G} {cI cZ cJ : ClassId} {sa : Nat → Nat} {a4 a2 a1 a3 a0 a5 : Nat → Nat} {ao b L : Nat} {xs : Nat → Int32} (C0 : lC p l s m meth c b L xs D cI cZ cJ sa) (N : Nat) (n : Nat) (K : Int32 → S5 → (Nat → Int64) → St → Option Int32) (hk : KPl p l e s m below meth c D cI cZ cJ a4 a2 a1 a3 a0 a5 ao b n K 23) : KPl p l e s m below meth c D cI cZ cJ a4 a2 a1 a3 a0 a5 ao b (n + 1) (g_law_20 N xs L K) 1505 := by
  obtain ⟨hx, hb, hr, hml, hown, hts, hX9, hbl, hlocks, hK3, hN, hXP, hC, hlt⟩ := id C0
  have hK : va_K D vwCl (kT cI cZ) s := hK3.sub [0, 1] rfl
  have hA : ∀ q : Nat, s.heap.size ≤ q → (fun q : Nat => s.heap.size ≤ q) q := fun _ h => h
  have hbA : ¬ (fun q : Nat => s.heap.size ≤ q) b := Nat.not_le.mpr hbl
  intro i u o σ cells slots H locs ls hc9 hs9 hP hD hS hl h
  unfold g_law_20 at h
  refine lv_aload_n hx hb dL_law_1505 rfl (lv_at hl 1 rfl) ?_
  refine lv_aload_n hx hb dL_law_1506 rfl (lv_at hl 0 rfl) ?_
  refine lv_iload hx hb dL_law_1507 (lv_at hl 4 rfl) ?_
  refine lv_iconst (v := 1) hx hb dL_law_1509 rfl ?_
  refine lv_iadd hx hb dL_law_1510 ?_
  by_cases hi : (i + 1) < 0 ∨ L ≤ ((i + 1)).toNatClampNeg
  · rw [if_pos hi] at h; exact no h
  rw [if_neg hi] at h
  refine va_sld hx hb hX9 hbl hbA hS (i := (i + 1)) hi dL_law_1511 ?_
  refine lv_aload_n hx hb dL_law_1512 rfl (lv_at hl 3 rfl) ?_
  obtain ⟨q1, hq1, h⟩ := ob h
  refine mh_i (ws' := wLL a4 a2 a1 a3 a0 ao a5 cI cZ cJ ((q1.2.1, q1.2.2), σ)) (wr := wX5 a5 cI cZ σ) [0, 1, 2, 3, 4, 5, 6, 7, 8, 9, 10, 11, 12, 13, 14, 15, 16, 17, 18, 19, 20, 21, 22, 23, 24, 25, 26, 27, 28, 29] [30, 31, 32, 33, 34, 35, 36, 37, 38, 39, 40, 41, 42, 43, 44, 45, 46, 47, 48, 49, 50, 51, 52] [23, 24, 25, 26, 27, 28, 29, 30, 31, 32, 33, 34, 35, 36, 37, 38, 39, 40, 41, 42, 43, 44, 45, 46, 47, 48, 49, 50, 51, 52, 0, 1, 2, 3, 4, 5, 6, 7, 8, 9, 10, 11, 12, 13, 14, 15, 16, 17, 18, 19, 20, 21, 22] (vx_runSW (As := [.ref (a4 0), .int (xs ((i + 1)).toNatClampNeg), .ref (ao)]) (rest := []) ⟨hx, hb, hml, hown, hts⟩ (c_L_matched l hlt D cI cZ cJ sa a4 a2 a1 a3 a0 ao N u.1 u.2.1 u.2.2.1 u.2.2.2.1 u.2.2.2.2 o (xs ((i + 1)).toNatClampNeg) q1.1 q1.2 hq1 H.size) (vx_cwSW 3 hts gL_law_L_matched rfl rfl rfl (by decide +kernel) ⟨Nat.le_of_ble_eq_true rfl, Nat.le_of_ble_eq_true rfl⟩) (pLS [0, 1, 2, 3, 4, 5, 6, 7, 8, 9, 10, 11, 12, 13, 14, 15, 16, 17, 18, 19, 20, 21, 22, 23, 24, 25, 26, 27, 28, 29] hP hD hS hA hK3 hN hXP hC rfl rfl) rfl rfl hl.1 rfl (lv_room (Nat.le_of_ble_eq_true rfl)) dL_law_1513 ⟨by show cells + 1 ≤ 601024; omega, by show slots + 6 ≤ 7293034; omega⟩) hP hD hS hA rfl rfl rfl (by decide) rfl rfl (fun H locs hP hD hS => ?_)
  refine lv_istore (lv' := [(5, .int q1.1), (0, .ref (b)), (1, .ref (a4 0)), (2, .ref (a5 0)), (3, .ref (ao)), (4, .int i)]) hx hb dL_law_1516 hl (by decide) rfl (fun ls hl => ?_)
  refine lv_aload_n hx hb dL_law_1518 rfl (lv_at hl 3 rfl) ?_
  refine lv_aload_n hx hb dL_law_1519 rfl (lv_at hl 1 rfl) ?_
  refine lv_iload hx hb dL_law_1520 (lv_at hl 5 rfl) ?_
  refine lv_iconst (v := 1) hx hb dL_law_1522 rfl ?_
  refine lv_iadd hx hb dL_law_1523 ?_
  by_cases hi : (i + 1) < 0 ∨ L ≤ ((i + 1)).toNatClampNeg
  · rw [if_pos hi] at h; exact no h
  rw [if_neg hi] at h
  refine va_sld hx hb hX9 hbl hbA hS (i := (i + 1)) hi dL_law_1524 ?_
  obtain ⟨q2, hq2, h⟩ := ob h
  refine mg_i (ws' := wLL a4 a2 a1 a3 a0 ao a5 cI cZ cJ ((q1.2.1, q1.2.2), q2.2)) (wr := wL4 a4 a2 a1 a3 a0 ao cI cZ cJ (q1.2.1, q1.2.2)) [30, 31, 32, 33, 34, 35, 36, 37, 38, 39, 40, 41, 42, 43, 44, 45, 46, 47, 48, 49, 50, 51, 52] [0, 1, 2, 3, 4, 5, 6, 7, 8, 9, 10, 11, 12, 13, 14, 15, 16, 17, 18, 19, 20, 21, 22, 23, 24, 25, 26, 27, 28, 29] [0, 1, 2, 3, 4, 5, 6, 7, 8, 9, 10, 11, 12, 13, 14, 15, 16, 17, 18, 19, 20, 21, 22, 23, 24, 25, 26, 27, 28, 29, 30, 31, 32, 33, 34, 35, 36, 37, 38, 39, 40, 41, 42, 43, 44, 45, 46, 47, 48, 49, 50, 51, 52] (va_runV (As := [.int (xs ((i + 1)).toNatClampNeg)]) (rest := []) ⟨hx, hb, hml, hown, hts⟩ (c_X5_matched l D cI cZ a5 N σ (xs ((i + 1)).toNatClampNeg) q2.1 q2.2 hq2 H.size) (cwV 1 hts gL_law_X5_matched rfl rfl rfl (by decide +kernel) ⟨Nat.le_of_ble_eq_true rfl, Nat.le_of_ble_eq_true rfl⟩) (pV [30, 31, 32, 33, 34, 35, 36, 37, 38, 39, 40, 41, 42, 43, 44, 45, 46, 47, 48, 49, 50, 51, 52] hP hD hK hN rfl rfl rfl rfl) rfl rfl hl.1 rfl (lv_room (Nat.le_of_ble_eq_true rfl)) dL_law_1525 ⟨by show cells + 1 + 0 ≤ 601024; omega, by show slots + 6 + 0 ≤ 7293034; omega⟩) hP hD hS hA rfl rfl rfl (by decide) rfl rfl (fun H locs hP hD hS => ?_)
  refine lv_istore (lv' := [(6, .int q2.1), (5, .int q1.1), (0, .ref (b)), (1, .ref (a4 0)), (2, .ref (a5 0)), (3, .ref (ao)), (4, .int i)]) hx hb dL_law_1528 hl (by decide) rfl (fun ls hl => ?_)
  refine lv_aload_n hx hb dL_law_1530 rfl (lv_at hl 4 rfl) ?_
  obtain ⟨q3, hq3, h⟩ := ob h
  refine mg_i (ws' := wLL a4 a2 a1 a3 a0 ao a5 cI cZ cJ ((q1.2.1, q1.2.2), q3.2)) (wr := wL4 a4 a2 a1 a3 a0 ao cI cZ cJ (q1.2.1, q1.2.2)) [30, 31, 32, 33, 34, 35, 36, 37, 38, 39, 40, 41, 42, 43, 44, 45, 46, 47, 48, 49, 50, 51, 52] [0, 1, 2, 3, 4, 5, 6, 7, 8, 9, 10, 11, 12, 13, 14, 15, 16, 17, 18, 19, 20, 21, 22, 23, 24, 25, 26, 27, 28, 29] [0, 1, 2, 3, 4, 5, 6, 7, 8, 9, 10, 11, 12, 13, 14, 15, 16, 17, 18, 19, 20, 21, 22, 23, 24, 25, 26, 27, 28, 29, 30, 31, 32, 33, 34, 35, 36, 37, 38, 39, 40, 41, 42, 43, 44, 45, 46, 47, 48, 49, 50, 51, 52] (va_runV (As := []) (rest := []) ⟨hx, hb, hml, hown, hts⟩ (c_X5_thrown l D cI cZ a5 N q2.2  q3.1 q3.2 hq3 H.size) (cwV 0 hts gL_law_X5_thrown rfl rfl rfl (by decide +kernel) ⟨Nat.le_of_ble_eq_true rfl, Nat.le_of_ble_eq_true rfl⟩) (pV [30, 31, 32, 33, 34, 35, 36, 37, 38, 39, 40, 41, 42, 43, 44, 45, 46, 47, 48, 49, 50, 51, 52] hP hD hK hN rfl rfl rfl rfl) rfl rfl hl.1 rfl (lv_room (Nat.le_of_ble_eq_true rfl)) dL_law_1531 ⟨by show cells + 1 + 0 ≤ 601024; omega, by show slots + 6 + 0 ≤ 7293034; omega⟩) hP hD hS hA rfl rfl rfl (by decide) rfl rfl (fun H locs hP hD hS => ?_)
  refine lv_iload hx hb dL_law_1534 (lv_at hl 1 rfl) ?_
  refine lv_icmp_eq (tgt := 1541) hx hb dL_law_1536 (by decide) (fun hc4 => ?_) (fun hc4 => ?_)
  · rw [if_pos hc4] at h
    refine lv_iload hx hb dL_law_1541 (lv_at hl 1 rfl) ?_
    refine lv_if_ne (tgt := 1558) hx hb dL_law_1543 (by decide) (fun hc5 => ?_) (fun hc5 => ?_)
    · rw [if_neg hc5] at h
      refine lv_goto (tgt := 1561) hx hb dL_law_1558 (by decide) ?_
      refine lv_iinc (v := (i + 4)) (lv' := [(4, .int (i + 4)), (6, .int q2.1), (5, .int q1.1), (0, .ref (b)), (1, .ref (a4 0)), (2, .ref (a5 0)), (3, .ref (ao))]) hx hb dL_law_1561 hl (k := 6) rfl rfl (by decide) rfl (fun ls hl => ?_)
      refine lv_goto (tgt := 23) hx hb dL_law_1564 (by decide) ?_
      refine W.widen (k := cells + 5) (n := slots + 30) (by omega) (by omega) ?_
      exact hk (i + 4) q1.2.1 q1.2.2 q3.2 _ _ _ _ _ (by omega) (by omega) hP hD hS (lv_sub hl [3, 4, 5, 6, 0] rfl) h
    · rw [if_pos hc5] at h
      refine lv_aload_n hx hb dL_law_1546 rfl (lv_at hl 5 rfl) ?_
      refine lv_iconst (v := 0) hx hb dL_law_1547 rfl ?_
      refine va_lald (f := q1.2.2) hx hb hK3 hP 29 2 rfl rfl (i := 0) (by unfold vp_in; decide) dL_law_1548 ?_
      refine lv_iload hx hb dL_law_1549 (lv_at hl 0 rfl) ?_
      refine lv_i2l (v := Int32.toInt64 q2.1) hx hb dL_law_1551 rfl ?_
      refine W.lcmp hx hb dL_law_1552 ?_
      refine lv_if_eq (tgt := 1558) hx hb dL_law_1553 (by decide) (fun hc6 => ?_) (fun hc6 => ?_)
      · rw [if_pos hc6] at h
        refine lv_goto (tgt := 1561) hx hb dL_law_1558 (by decide) ?_
        refine lv_iinc (v := (i + 4)) (lv' := [(4, .int (i + 4)), (6, .int q2.1), (5, .int q1.1), (0, .ref (b)), (1, .ref (a4 0)), (2, .ref (a5 0)), (3, .ref (ao))]) hx hb dL_law_1561 hl (k := 6) rfl rfl (by decide) rfl (fun ls hl => ?_)
        refine lv_goto (tgt := 23) hx hb dL_law_1564 (by decide) ?_
        refine W.widen (k := cells + 5) (n := slots + 30) (by omega) (by omega) ?_
        exact hk (i + 4) q1.2.1 q1.2.2 q3.2 _ _ _ _ _ (by omega) (by omega) hP hD hS (lv_sub hl [3, 4, 5, 6, 0] rfl) h
      · rw [if_neg hc6] at h
        refine lv_iconst (v := 0) hx hb dL_law_1556 rfl ?_
        exact absurd (Option.some.inj h) (by decide)
  · rw [if_neg hc4] at h
    refine lv_iconst (v := 0) hx hb dL_law_1539 rfl ?_
    exact absurd (Option.some.inj h) (by decide)
