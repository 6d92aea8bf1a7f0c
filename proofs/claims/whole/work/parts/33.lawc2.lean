def g_law_8 (N : Nat) (xs : Nat → Int32) (L : Nat) (K : Int32 → S5 → (Nat → Int64) → St → Option Int32) (i : Int32) (u : S5) (o : Nat → Int64) (σ : St) : Option Int32 := if (i + 1) < 0 ∨ L ≤ ((i + 1)).toNatClampNeg then none else if (i + 2) < 0 ∨ L ≤ ((i + 2)).toNatClampNeg then none else (f_L_abstraction N u.1 u.2.1 u.2.2.1 u.2.2.2.1 u.2.2.2.2 o (xs ((i + 1)).toNatClampNeg) (xs ((i + 2)).toNatClampNeg)).bind (fun q1 => if (i + 1) < 0 ∨ L ≤ ((i + 1)).toNatClampNeg then none else if (i + 2) < 0 ∨ L ≤ ((i + 2)).toNatClampNeg then none else (f_X5_abstraction N σ (xs ((i + 1)).toNatClampNeg) (xs ((i + 2)).toNatClampNeg)).bind (fun q2 => (f_X5_thrown N q2.2 ).bind (fun q3 => if q3.1 = q1.1 then if q1.1 = 0 then if (lg_cmp (q1.2.2 (Int32.toNatClampNeg 0)) (Int32.toInt64 q2.1)) = 0 then K (i + 4) q1.2.1 q1.2.2 q3.2 else some (0 : Int32) else K (i + 4) q1.2.1 q1.2.2 q3.2 else some (0 : Int32))))
set_option maxHeartbeats 4000000 in
set_option maxRecDepth 100000 in
theorem k_law_8 {p : Program} {l : Launch} {e : Env} {s : State} {m : MethodId} {below : List Frame} {meth : Method} {c : Code} {D : va_G} {cI cZ cJ : ClassId} {sa : Nat → Nat} {a4 a2 a1 a3 a0 a5 : Nat → Nat} {ao b L : Nat} {xs : Nat → Int32} (C0 : lC p l s m meth c b L xs D cI cZ cJ sa) (N : Nat) (n : Nat) (K : Int32 → S5 → (Nat → Int64) → St → Option Int32) (hk : KPl p l e s m below meth c D cI cZ cJ a4 a2 a1 a3 a0 a5 ao b n K 23) : KPl p l e s m below meth c D cI cZ cJ a4 a2 a1 a3 a0 a5 ao b (n + 1) (g_law_8 N xs L K) 656 := by
  obtain ⟨hx, hb, hr, hml, hown, hts, hX9, hbl, hlocks, hK3, hN, hXP, hC, hlt⟩ := id C0
  have hK : va_K D vwCl (kT cI cZ) s := hK3.sub [0, 1] rfl
  have hA : ∀ q : Nat, s.heap.size ≤ q → (fun q : Nat => s.heap.size ≤ q) q := fun _ h => h
  have hbA : ¬ (fun q : Nat => s.heap.size ≤ q) b := Nat.not_le.mpr hbl
  intro i u o σ cells slots H locs ls hc9 hs9 hP hD hS hl h
  unfold g_law_8 at h
  refine lv_aload_n hx hb dL_law_656 rfl (lv_at hl 1 rfl) ?_
  refine lv_aload_n hx hb dL_law_657 rfl (lv_at hl 0 rfl) ?_
  refine lv_iload hx hb dL_law_658 (lv_at hl 4 rfl) ?_
  refine lv_iconst (v := 1) hx hb dL_law_660 rfl ?_
  refine lv_iadd hx hb dL_law_661 ?_
  by_cases hi : (i + 1) < 0 ∨ L ≤ ((i + 1)).toNatClampNeg
  · rw [if_pos hi] at h; exact no h
  rw [if_neg hi] at h
  refine va_sld hx hb hX9 hbl hbA hS (i := (i + 1)) hi dL_law_662 ?_
  refine lv_aload_n hx hb dL_law_663 rfl (lv_at hl 0 rfl) ?_
  refine lv_iload hx hb dL_law_664 (lv_at hl 4 rfl) ?_
  refine lv_iconst (v := 2) hx hb dL_law_666 rfl ?_
  refine lv_iadd hx hb dL_law_667 ?_
  by_cases hi : (i + 2) < 0 ∨ L ≤ ((i + 2)).toNatClampNeg
  · rw [if_pos hi] at h; exact no h
  rw [if_neg hi] at h
  refine va_sld hx hb hX9 hbl hbA hS (i := (i + 2)) hi dL_law_668 ?_
  refine lv_aload_n hx hb dL_law_669 rfl (lv_at hl 3 rfl) ?_
  obtain ⟨q1, hq1, h⟩ := ob h
  refine mh_i (ws' := wLL a4 a2 a1 a3 a0 ao a5 cI cZ cJ ((q1.2.1, q1.2.2), σ)) (wr := wX5 a5 cI cZ σ) [0, 1, 2, 3, 4, 5, 6, 7, 8, 9, 10, 11, 12, 13, 14, 15, 16, 17, 18, 19, 20, 21, 22, 23, 24, 25, 26, 27, 28, 29] [30, 31, 32, 33, 34, 35, 36, 37, 38, 39, 40, 41, 42, 43, 44, 45, 46, 47, 48, 49, 50, 51, 52] [23, 24, 25, 26, 27, 28, 29, 30, 31, 32, 33, 34, 35, 36, 37, 38, 39, 40, 41, 42, 43, 44, 45, 46, 47, 48, 49, 50, 51, 52, 0, 1, 2, 3, 4, 5, 6, 7, 8, 9, 10, 11, 12, 13, 14, 15, 16, 17, 18, 19, 20, 21, 22] (vx_runSW (As := [.ref (a4 0), .int (xs ((i + 1)).toNatClampNeg), .int (xs ((i + 2)).toNatClampNeg), .ref (ao)]) (rest := []) ⟨hx, hb, hml, hown, hts⟩ (c_L_abstraction l hlt D cI cZ cJ sa a4 a2 a1 a3 a0 ao N u.1 u.2.1 u.2.2.1 u.2.2.2.1 u.2.2.2.2 o (xs ((i + 1)).toNatClampNeg) (xs ((i + 2)).toNatClampNeg) q1.1 q1.2 hq1 H.size) (vx_cwSW 4 hts gL_law_L_abstraction rfl rfl rfl (by decide +kernel) ⟨Nat.le_of_ble_eq_true rfl, Nat.le_of_ble_eq_true rfl⟩) (pLS [0, 1, 2, 3, 4, 5, 6, 7, 8, 9, 10, 11, 12, 13, 14, 15, 16, 17, 18, 19, 20, 21, 22, 23, 24, 25, 26, 27, 28, 29] hP hD hS hA hK3 hN hXP hC rfl rfl) rfl rfl hl.1 rfl (lv_room (Nat.le_of_ble_eq_true rfl)) dL_law_670 ⟨by show cells + 4 ≤ 601024; omega, by show slots + 24 ≤ 7293034; omega⟩) hP hD hS hA rfl rfl rfl (by decide) rfl rfl (fun H locs hP hD hS => ?_)
  refine lv_istore (lv' := [(5, .int q1.1), (0, .ref (b)), (1, .ref (a4 0)), (2, .ref (a5 0)), (3, .ref (ao)), (4, .int i)]) hx hb dL_law_673 hl (by decide) rfl (fun ls hl => ?_)
  refine lv_aload_n hx hb dL_law_675 rfl (lv_at hl 3 rfl) ?_
  refine lv_aload_n hx hb dL_law_676 rfl (lv_at hl 1 rfl) ?_
  refine lv_iload hx hb dL_law_677 (lv_at hl 5 rfl) ?_
  refine lv_iconst (v := 1) hx hb dL_law_679 rfl ?_
  refine lv_iadd hx hb dL_law_680 ?_
  by_cases hi : (i + 1) < 0 ∨ L ≤ ((i + 1)).toNatClampNeg
  · rw [if_pos hi] at h; exact no h
  rw [if_neg hi] at h
  refine va_sld hx hb hX9 hbl hbA hS (i := (i + 1)) hi dL_law_681 ?_
  refine lv_aload_n hx hb dL_law_682 rfl (lv_at hl 1 rfl) ?_
  refine lv_iload hx hb dL_law_683 (lv_at hl 5 rfl) ?_
  refine lv_iconst (v := 2) hx hb dL_law_685 rfl ?_
  refine lv_iadd hx hb dL_law_686 ?_
  by_cases hi : (i + 2) < 0 ∨ L ≤ ((i + 2)).toNatClampNeg
  · rw [if_pos hi] at h; exact no h
  rw [if_neg hi] at h
  refine va_sld hx hb hX9 hbl hbA hS (i := (i + 2)) hi dL_law_687 ?_
  obtain ⟨q2, hq2, h⟩ := ob h
  refine mg_i (ws' := wLL a4 a2 a1 a3 a0 ao a5 cI cZ cJ ((q1.2.1, q1.2.2), q2.2)) (wr := wL4 a4 a2 a1 a3 a0 ao cI cZ cJ (q1.2.1, q1.2.2)) [30, 31, 32, 33, 34, 35, 36, 37, 38, 39, 40, 41, 42, 43, 44, 45, 46, 47, 48, 49, 50, 51, 52] [0, 1, 2, 3, 4, 5, 6, 7, 8, 9, 10, 11, 12, 13, 14, 15, 16, 17, 18, 19, 20, 21, 22, 23, 24, 25, 26, 27, 28, 29] [0, 1, 2, 3, 4, 5, 6, 7, 8, 9, 10, 11, 12, 13, 14, 15, 16, 17, 18, 19, 20, 21, 22, 23, 24, 25, 26, 27, 28, 29, 30, 31, 32, 33, 34, 35, 36, 37, 38, 39, 40, 41, 42, 43, 44, 45, 46, 47, 48, 49, 50, 51, 52] (va_runV (As := [.int (xs ((i + 1)).toNatClampNeg), .int (xs ((i + 2)).toNatClampNeg)]) (rest := []) ⟨hx, hb, hml, hown, hts⟩ (c_X5_abstraction l D cI cZ a5 N σ (xs ((i + 1)).toNatClampNeg) (xs ((i + 2)).toNatClampNeg) q2.1 q2.2 hq2 H.size) (cwV 2 hts gL_law_X5_abstraction rfl rfl rfl (by decide +kernel) ⟨Nat.le_of_ble_eq_true rfl, Nat.le_of_ble_eq_true rfl⟩) (pV [30, 31, 32, 33, 34, 35, 36, 37, 38, 39, 40, 41, 42, 43, 44, 45, 46, 47, 48, 49, 50, 51, 52] hP hD hK hN rfl rfl rfl rfl) rfl rfl hl.1 rfl (lv_room (Nat.le_of_ble_eq_true rfl)) dL_law_688 ⟨by show cells + 4 + 0 ≤ 601024; omega, by show slots + 24 + 0 ≤ 7293034; omega⟩) hP hD hS hA rfl rfl rfl (by decide) rfl rfl (fun H locs hP hD hS => ?_)
  refine lv_istore (lv' := [(6, .int q2.1), (5, .int q1.1), (0, .ref (b)), (1, .ref (a4 0)), (2, .ref (a5 0)), (3, .ref (ao)), (4, .int i)]) hx hb dL_law_691 hl (by decide) rfl (fun ls hl => ?_)
  refine lv_aload_n hx hb dL_law_693 rfl (lv_at hl 4 rfl) ?_
  obtain ⟨q3, hq3, h⟩ := ob h
  refine mg_i (ws' := wLL a4 a2 a1 a3 a0 ao a5 cI cZ cJ ((q1.2.1, q1.2.2), q3.2)) (wr := wL4 a4 a2 a1 a3 a0 ao cI cZ cJ (q1.2.1, q1.2.2)) [30, 31, 32, 33, 34, 35, 36, 37, 38, 39, 40, 41, 42, 43, 44, 45, 46, 47, 48, 49, 50, 51, 52] [0, 1, 2, 3, 4, 5, 6, 7, 8, 9, 10, 11, 12, 13, 14, 15, 16, 17, 18, 19, 20, 21, 22, 23, 24, 25, 26, 27, 28, 29] [0, 1, 2, 3, 4, 5, 6, 7, 8, 9, 10, 11, 12, 13, 14, 15, 16, 17, 18, 19, 20, 21, 22, 23, 24, 25, 26, 27, 28, 29, 30, 31, 32, 33, 34, 35, 36, 37, 38, 39, 40, 41, 42, 43, 44, 45, 46, 47, 48, 49, 50, 51, 52] (va_runV (As := []) (rest := []) ⟨hx, hb, hml, hown, hts⟩ (c_X5_thrown l D cI cZ a5 N q2.2  q3.1 q3.2 hq3 H.size) (cwV 0 hts gL_law_X5_thrown rfl rfl rfl (by decide +kernel) ⟨Nat.le_of_ble_eq_true rfl, Nat.le_of_ble_eq_true rfl⟩) (pV [30, 31, 32, 33, 34, 35, 36, 37, 38, 39, 40, 41, 42, 43, 44, 45, 46, 47, 48, 49, 50, 51, 52] hP hD hK hN rfl rfl rfl rfl) rfl rfl hl.1 rfl (lv_room (Nat.le_of_ble_eq_true rfl)) dL_law_694 ⟨by show cells + 4 + 0 ≤ 601024; omega, by show slots + 24 + 0 ≤ 7293034; omega⟩) hP hD hS hA rfl rfl rfl (by decide) rfl rfl (fun H locs hP hD hS => ?_)
  refine lv_iload hx hb dL_law_697 (lv_at hl 1 rfl) ?_
  refine lv_icmp_eq (tgt := 704) hx hb dL_law_699 (by decide) (fun hc4 => ?_) (fun hc4 => ?_)
  · rw [if_pos hc4] at h
    refine lv_iload hx hb dL_law_704 (lv_at hl 1 rfl) ?_
    refine lv_if_ne (tgt := 721) hx hb dL_law_706 (by decide) (fun hc5 => ?_) (fun hc5 => ?_)
    · rw [if_neg hc5] at h
      refine lv_goto (tgt := 1561) hx hb dL_law_721 (by decide) ?_
      refine lv_iinc (v := (i + 4)) (lv' := [(4, .int (i + 4)), (6, .int q2.1), (5, .int q1.1), (0, .ref (b)), (1, .ref (a4 0)), (2, .ref (a5 0)), (3, .ref (ao))]) hx hb dL_law_1561 hl (k := 6) rfl rfl (by decide) rfl (fun ls hl => ?_)
      refine lv_goto (tgt := 23) hx hb dL_law_1564 (by decide) ?_
      refine W.widen (k := cells + 5) (n := slots + 30) (by omega) (by omega) ?_
      exact hk (i + 4) q1.2.1 q1.2.2 q3.2 _ _ _ _ _ (by omega) (by omega) hP hD hS (lv_sub hl [3, 4, 5, 6, 0] rfl) h
    · rw [if_pos hc5] at h
      refine lv_aload_n hx hb dL_law_709 rfl (lv_at hl 5 rfl) ?_
      refine lv_iconst (v := 0) hx hb dL_law_710 rfl ?_
      refine va_lald (f := q1.2.2) hx hb hK3 hP 29 2 rfl rfl (i := 0) (by unfold vp_in; decide) dL_law_711 ?_
      refine lv_iload hx hb dL_law_712 (lv_at hl 0 rfl) ?_
      refine lv_i2l (v := Int32.toInt64 q2.1) hx hb dL_law_714 rfl ?_
      refine W.lcmp hx hb dL_law_715 ?_
      refine lv_if_eq (tgt := 721) hx hb dL_law_716 (by decide) (fun hc6 => ?_) (fun hc6 => ?_)
      · rw [if_pos hc6] at h
        refine lv_goto (tgt := 1561) hx hb dL_law_721 (by decide) ?_
        refine lv_iinc (v := (i + 4)) (lv' := [(4, .int (i + 4)), (6, .int q2.1), (5, .int q1.1), (0, .ref (b)), (1, .ref (a4 0)), (2, .ref (a5 0)), (3, .ref (ao))]) hx hb dL_law_1561 hl (k := 6) rfl rfl (by decide) rfl (fun ls hl => ?_)
        refine lv_goto (tgt := 23) hx hb dL_law_1564 (by decide) ?_
        refine W.widen (k := cells + 5) (n := slots + 30) (by omega) (by omega) ?_
        exact hk (i + 4) q1.2.1 q1.2.2 q3.2 _ _ _ _ _ (by omega) (by omega) hP hD hS (lv_sub hl [3, 4, 5, 6, 0] rfl) h
      · rw [if_neg hc6] at h
        refine lv_iconst (v := 0) hx hb dL_law_719 rfl ?_
        exact absurd (Option.some.inj h) (by decide)
  · rw [if_neg hc4] at h
    refine lv_iconst (v := 0) hx hb dL_law_702 rfl ?_
    exact absurd (Option.some.inj h) (by decide)
def g_law_9 (N : Nat) (xs : Nat → Int32) (L : Nat) (K : Int32 → S5 → (Nat → Int64) → St → Option Int32) (i : Int32) (u : S5) (o : Nat → Int64) (σ : St) : Option Int32 := if (i + 1) < 0 ∨ L ≤ ((i + 1)).toNatClampNeg then none else if (i + 2) < 0 ∨ L ≤ ((i + 2)).toNatClampNeg then none else (f_L_part N u.1 u.2.1 u.2.2.1 u.2.2.2.1 u.2.2.2.2 o (xs ((i + 1)).toNatClampNeg) (xs ((i + 2)).toNatClampNeg)).bind (fun q1 => if (i + 1) < 0 ∨ L ≤ ((i + 1)).toNatClampNeg then none else if (i + 2) < 0 ∨ L ≤ ((i + 2)).toNatClampNeg then none else (f_X5_part N σ (xs ((i + 1)).toNatClampNeg) (xs ((i + 2)).toNatClampNeg)).bind (fun q2 => (f_X5_thrown N q2.2 ).bind (fun q3 => if q3.1 = q1.1 then if q1.1 = 0 then if (lg_cmp (q1.2.2 (Int32.toNatClampNeg 0)) (Int32.toInt64 q2.1)) = 0 then K (i + 4) q1.2.1 q1.2.2 q3.2 else some (0 : Int32) else K (i + 4) q1.2.1 q1.2.2 q3.2 else some (0 : Int32))))
set_option maxHeartbeats 4000000 in
set_option maxRecDepth 100000 in
theorem k_law_9 {p : Program} {l : Launch} {e : Env} {s : State} {m : MethodId} {below : List Frame} {meth : Method} {c : Code} {D : va_G} {cI cZ cJ : ClassId} {sa : Nat → Nat} {a4 a2 a1 a3 a0 a5 : Nat → Nat} {ao b L : Nat} {xs : Nat → Int32} (C0 : lC p l s m meth c b L xs D cI cZ cJ sa) (N : Nat) (n : Nat) (K : Int32 → S5 → (Nat → Int64) → St → Option Int32) (hk : KPl p l e s m below meth c D cI cZ cJ a4 a2 a1 a3 a0 a5 ao b n K 23) : KPl p l e s m below meth c D cI cZ cJ a4 a2 a1 a3 a0 a5 ao b (n + 1) (g_law_9 N xs L K) 724 := by
  obtain ⟨hx, hb, hr, hml, hown, hts, hX9, hbl, hlocks, hK3, hN, hXP, hC, hlt⟩ := id C0
  have hK : va_K D vwCl (kT cI cZ) s := hK3.sub [0, 1] rfl
  have hA : ∀ q : Nat, s.heap.size ≤ q → (fun q : Nat => s.heap.size ≤ q) q := fun _ h => h
  have hbA : ¬ (fun q : Nat => s.heap.size ≤ q) b := Nat.not_le.mpr hbl
  intro i u o σ cells slots H locs ls hc9 hs9 hP hD hS hl h
  unfold g_law_9 at h
  refine lv_aload_n hx hb dL_law_724 rfl (lv_at hl 1 rfl) ?_
  refine lv_aload_n hx hb dL_law_725 rfl (lv_at hl 0 rfl) ?_
  refine lv_iload hx hb dL_law_726 (lv_at hl 4 rfl) ?_
  refine lv_iconst (v := 1) hx hb dL_law_728 rfl ?_
  refine lv_iadd hx hb dL_law_729 ?_
  by_cases hi : (i + 1) < 0 ∨ L ≤ ((i + 1)).toNatClampNeg
  · rw [if_pos hi] at h; exact no h
  rw [if_neg hi] at h
  refine va_sld hx hb hX9 hbl hbA hS (i := (i + 1)) hi dL_law_730 ?_
  refine lv_aload_n hx hb dL_law_731 rfl (lv_at hl 0 rfl) ?_
  refine lv_iload hx hb dL_law_732 (lv_at hl 4 rfl) ?_
  refine lv_iconst (v := 2) hx hb dL_law_734 rfl ?_
  refine lv_iadd hx hb dL_law_735 ?_
  by_cases hi : (i + 2) < 0 ∨ L ≤ ((i + 2)).toNatClampNeg
  · rw [if_pos hi] at h; exact no h
  rw [if_neg hi] at h
  refine va_sld hx hb hX9 hbl hbA hS (i := (i + 2)) hi dL_law_736 ?_
  refine lv_aload_n hx hb dL_law_737 rfl (lv_at hl 3 rfl) ?_
  obtain ⟨q1, hq1, h⟩ := ob h
  refine mh_i (ws' := wLL a4 a2 a1 a3 a0 ao a5 cI cZ cJ ((q1.2.1, q1.2.2), σ)) (wr := wX5 a5 cI cZ σ) [0, 1, 2, 3, 4, 5, 6, 7, 8, 9, 10, 11, 12, 13, 14, 15, 16, 17, 18, 19, 20, 21, 22, 23, 24, 25, 26, 27, 28, 29] [30, 31, 32, 33, 34, 35, 36, 37, 38, 39, 40, 41, 42, 43, 44, 45, 46, 47, 48, 49, 50, 51, 52] [23, 24, 25, 26, 27, 28, 29, 30, 31, 32, 33, 34, 35, 36, 37, 38, 39, 40, 41, 42, 43, 44, 45, 46, 47, 48, 49, 50, 51, 52, 0, 1, 2, 3, 4, 5, 6, 7, 8, 9, 10, 11, 12, 13, 14, 15, 16, 17, 18, 19, 20, 21, 22] (vx_runSW (As := [.ref (a4 0), .int (xs ((i + 1)).toNatClampNeg), .int (xs ((i + 2)).toNatClampNeg), .ref (ao)]) (rest := []) ⟨hx, hb, hml, hown, hts⟩ (c_L_part l hlt D cI cZ cJ sa a4 a2 a1 a3 a0 ao N u.1 u.2.1 u.2.2.1 u.2.2.2.1 u.2.2.2.2 o (xs ((i + 1)).toNatClampNeg) (xs ((i + 2)).toNatClampNeg) q1.1 q1.2 hq1 H.size) (vx_cwSW 4 hts gL_law_L_part rfl rfl rfl (by decide +kernel) ⟨Nat.le_of_ble_eq_true rfl, Nat.le_of_ble_eq_true rfl⟩) (pLS [0, 1, 2, 3, 4, 5, 6, 7, 8, 9, 10, 11, 12, 13, 14, 15, 16, 17, 18, 19, 20, 21, 22, 23, 24, 25, 26, 27, 28, 29] hP hD hS hA hK3 hN hXP hC rfl rfl) rfl rfl hl.1 rfl (lv_room (Nat.le_of_ble_eq_true rfl)) dL_law_738 ⟨by show cells + 2 ≤ 601024; omega, by show slots + 12 ≤ 7293034; omega⟩) hP hD hS hA rfl rfl rfl (by decide) rfl rfl (fun H locs hP hD hS => ?_)
  refine lv_istore (lv' := [(5, .int q1.1), (0, .ref (b)), (1, .ref (a4 0)), (2, .ref (a5 0)), (3, .ref (ao)), (4, .int i)]) hx hb dL_law_741 hl (by decide) rfl (fun ls hl => ?_)
  refine lv_aload_n hx hb dL_law_743 rfl (lv_at hl 3 rfl) ?_
  refine lv_aload_n hx hb dL_law_744 rfl (lv_at hl 1 rfl) ?_
  refine lv_iload hx hb dL_law_745 (lv_at hl 5 rfl) ?_
  refine lv_iconst (v := 1) hx hb dL_law_747 rfl ?_
  refine lv_iadd hx hb dL_law_748 ?_
  by_cases hi : (i + 1) < 0 ∨ L ≤ ((i + 1)).toNatClampNeg
  · rw [if_pos hi] at h; exact no h
  rw [if_neg hi] at h
  refine va_sld hx hb hX9 hbl hbA hS (i := (i + 1)) hi dL_law_749 ?_
  refine lv_aload_n hx hb dL_law_750 rfl (lv_at hl 1 rfl) ?_
  refine lv_iload hx hb dL_law_751 (lv_at hl 5 rfl) ?_
  refine lv_iconst (v := 2) hx hb dL_law_753 rfl ?_
  refine lv_iadd hx hb dL_law_754 ?_
  by_cases hi : (i + 2) < 0 ∨ L ≤ ((i + 2)).toNatClampNeg
  · rw [if_pos hi] at h; exact no h
  rw [if_neg hi] at h
  refine va_sld hx hb hX9 hbl hbA hS (i := (i + 2)) hi dL_law_755 ?_
  obtain ⟨q2, hq2, h⟩ := ob h
  refine mg_i (ws' := wLL a4 a2 a1 a3 a0 ao a5 cI cZ cJ ((q1.2.1, q1.2.2), q2.2)) (wr := wL4 a4 a2 a1 a3 a0 ao cI cZ cJ (q1.2.1, q1.2.2)) [30, 31, 32, 33, 34, 35, 36, 37, 38, 39, 40, 41, 42, 43, 44, 45, 46, 47, 48, 49, 50, 51, 52] [0, 1, 2, 3, 4, 5, 6, 7, 8, 9, 10, 11, 12, 13, 14, 15, 16, 17, 18, 19, 20, 21, 22, 23, 24, 25, 26, 27, 28, 29] [0, 1, 2, 3, 4, 5, 6, 7, 8, 9, 10, 11, 12, 13, 14, 15, 16, 17, 18, 19, 20, 21, 22, 23, 24, 25, 26, 27, 28, 29, 30, 31, 32, 33, 34, 35, 36, 37, 38, 39, 40, 41, 42, 43, 44, 45, 46, 47, 48, 49, 50, 51, 52] (va_runV (As := [.int (xs ((i + 1)).toNatClampNeg), .int (xs ((i + 2)).toNatClampNeg)]) (rest := []) ⟨hx, hb, hml, hown, hts⟩ (c_X5_part l D cI cZ a5 N σ (xs ((i + 1)).toNatClampNeg) (xs ((i + 2)).toNatClampNeg) q2.1 q2.2 hq2 H.size) (cwV 2 hts gL_law_X5_part rfl rfl rfl (by decide +kernel) ⟨Nat.le_of_ble_eq_true rfl, Nat.le_of_ble_eq_true rfl⟩) (pV [30, 31, 32, 33, 34, 35, 36, 37, 38, 39, 40, 41, 42, 43, 44, 45, 46, 47, 48, 49, 50, 51, 52] hP hD hK hN rfl rfl rfl rfl) rfl rfl hl.1 rfl (lv_room (Nat.le_of_ble_eq_true rfl)) dL_law_756 ⟨by show cells + 2 + 0 ≤ 601024; omega, by show slots + 12 + 0 ≤ 7293034; omega⟩) hP hD hS hA rfl rfl rfl (by decide) rfl rfl (fun H locs hP hD hS => ?_)
  refine lv_istore (lv' := [(6, .int q2.1), (5, .int q1.1), (0, .ref (b)), (1, .ref (a4 0)), (2, .ref (a5 0)), (3, .ref (ao)), (4, .int i)]) hx hb dL_law_759 hl (by decide) rfl (fun ls hl => ?_)
  refine lv_aload_n hx hb dL_law_761 rfl (lv_at hl 4 rfl) ?_
  obtain ⟨q3, hq3, h⟩ := ob h
  refine mg_i (ws' := wLL a4 a2 a1 a3 a0 ao a5 cI cZ cJ ((q1.2.1, q1.2.2), q3.2)) (wr := wL4 a4 a2 a1 a3 a0 ao cI cZ cJ (q1.2.1, q1.2.2)) [30, 31, 32, 33, 34, 35, 36, 37, 38, 39, 40, 41, 42, 43, 44, 45, 46, 47, 48, 49, 50, 51, 52] [0, 1, 2, 3, 4, 5, 6, 7, 8, 9, 10, 11, 12, 13, 14, 15, 16, 17, 18, 19, 20, 21, 22, 23, 24, 25, 26, 27, 28, 29] [0, 1, 2, 3, 4, 5, 6, 7, 8, 9, 10, 11, 12, 13, 14, 15, 16, 17, 18, 19, 20, 21, 22, 23, 24, 25, 26, 27, 28, 29, 30, 31, 32, 33, 34, 35, 36, 37, 38, 39, 40, 41, 42, 43, 44, 45, 46, 47, 48, 49, 50, 51, 52] (va_runV (As := []) (rest := []) ⟨hx, hb, hml, hown, hts⟩ (c_X5_thrown l D cI cZ a5 N q2.2  q3.1 q3.2 hq3 H.size) (cwV 0 hts gL_law_X5_thrown rfl rfl rfl (by decide +kernel) ⟨Nat.le_of_ble_eq_true rfl, Nat.le_of_ble_eq_true rfl⟩) (pV [30, 31, 32, 33, 34, 35, 36, 37, 38, 39, 40, 41, 42, 43, 44, 45, 46, 47, 48, 49, 50, 51, 52] hP hD hK hN rfl rfl rfl rfl) rfl rfl hl.1 rfl (lv_room (Nat.le_of_ble_eq_true rfl)) dL_law_762 ⟨by show cells + 2 + 0 ≤ 601024; omega, by show slots + 12 + 0 ≤ 7293034; omega⟩) hP hD hS hA rfl rfl rfl (by decide) rfl rfl (fun H locs hP hD hS => ?_)
  refine lv_iload hx hb dL_law_765 (lv_at hl 1 rfl) ?_
  refine lv_icmp_eq (tgt := 772) hx hb dL_law_767 (by decide) (fun hc4 => ?_) (fun hc4 => ?_)
  · rw [if_pos hc4] at h
    refine lv_iload hx hb dL_law_772 (lv_at hl 1 rfl) ?_
    refine lv_if_ne (tgt := 789) hx hb dL_law_774 (by decide) (fun hc5 => ?_) (fun hc5 => ?_)
    · rw [if_neg hc5] at h
      refine lv_goto (tgt := 1561) hx hb dL_law_789 (by decide) ?_
      refine lv_iinc (v := (i + 4)) (lv' := [(4, .int (i + 4)), (6, .int q2.1), (5, .int q1.1), (0, .ref (b)), (1, .ref (a4 0)), (2, .ref (a5 0)), (3, .ref (ao))]) hx hb dL_law_1561 hl (k := 6) rfl rfl (by decide) rfl (fun ls hl => ?_)
      refine lv_goto (tgt := 23) hx hb dL_law_1564 (by decide) ?_
      refine W.widen (k := cells + 5) (n := slots + 30) (by omega) (by omega) ?_
      exact hk (i + 4) q1.2.1 q1.2.2 q3.2 _ _ _ _ _ (by omega) (by omega) hP hD hS (lv_sub hl [3, 4, 5, 6, 0] rfl) h
    · rw [if_pos hc5] at h
      refine lv_aload_n hx hb dL_law_777 rfl (lv_at hl 5 rfl) ?_
      refine lv_iconst (v := 0) hx hb dL_law_778 rfl ?_
      refine va_lald (f := q1.2.2) hx hb hK3 hP 29 2 rfl rfl (i := 0) (by unfold vp_in; decide) dL_law_779 ?_
      refine lv_iload hx hb dL_law_780 (lv_at hl 0 rfl) ?_
      refine lv_i2l (v := Int32.toInt64 q2.1) hx hb dL_law_782 rfl ?_
      refine W.lcmp hx hb dL_law_783 ?_
      refine lv_if_eq (tgt := 789) hx hb dL_law_784 (by decide) (fun hc6 => ?_) (fun hc6 => ?_)
      · rw [if_pos hc6] at h
        refine lv_goto (tgt := 1561) hx hb dL_law_789 (by decide) ?_
        refine lv_iinc (v := (i + 4)) (lv' := [(4, .int (i + 4)), (6, .int q2.1), (5, .int q1.1), (0, .ref (b)), (1, .ref (a4 0)), (2, .ref (a5 0)), (3, .ref (ao))]) hx hb dL_law_1561 hl (k := 6) rfl rfl (by decide) rfl (fun ls hl => ?_)
        refine lv_goto (tgt := 23) hx hb dL_law_1564 (by decide) ?_
        refine W.widen (k := cells + 5) (n := slots + 30) (by omega) (by omega) ?_
        exact hk (i + 4) q1.2.1 q1.2.2 q3.2 _ _ _ _ _ (by omega) (by omega) hP hD hS (lv_sub hl [3, 4, 5, 6, 0] rfl) h
      · rw [if_neg hc6] at h
        refine lv_iconst (v := 0) hx hb dL_law_787 rfl ?_
        exact absurd (Option.some.inj h) (by decide)
  · rw [if_neg hc4] at h
    refine lv_iconst (v := 0) hx hb dL_law_770 rfl ?_
    exact absurd (Option.some.inj h) (by decide)
def g_law_10 (N : Nat) (xs : Nat → Int32) (L : Nat) (K : Int32 → S5 → (Nat → Int64) → St → Option Int32) (i : Int32) (u : S5) (o : Nat → Int64) (σ : St) : Option Int32 := if (i + 1) < 0 ∨ L ≤ ((i + 1)).toNatClampNeg then none else if (i + 2) < 0 ∨ L ≤ ((i + 2)).toNatClampNeg then none else (f_L_open N u.1 u.2.1 u.2.2.1 u.2.2.2.1 u.2.2.2.2 o (xs ((i + 1)).toNatClampNeg) (xs ((i + 2)).toNatClampNeg)).bind (fun q1 => if (i + 1) < 0 ∨ L ≤ ((i + 1)).toNatClampNeg then none else if (i + 2) < 0 ∨ L ≤ ((i + 2)).toNatClampNeg then none else (f_X5_open N σ (xs ((i + 1)).toNatClampNeg) (xs ((i + 2)).toNatClampNeg)).bind (fun q2 => (f_X5_thrown N q2.2 ).bind (fun q3 => if q3.1 = q1.1 then if q1.1 = 0 then if (lg_cmp (q1.2.2 (Int32.toNatClampNeg 0)) (Int32.toInt64 q2.1)) = 0 then K (i + 4) q1.2.1 q1.2.2 q3.2 else some (0 : Int32) else K (i + 4) q1.2.1 q1.2.2 q3.2 else some (0 : Int32))))
set_option maxHeartbeats 4000000 in
set_option maxRecDepth 100000 in
theorem k_law_10 {p : Program} {l : Launch} {e : Env} {s : State} {m : MethodId} {below : List Frame} {meth : Method} {c : Code} {D : va_G} {cI cZ cJ : ClassId} {sa : Nat → Nat} {a4 a2 a1 a3 a0 a5 : Nat → Nat} {ao b L : Nat} {xs : Nat → Int32} (C0 : lC p l s m meth c b L xs D cI cZ cJ sa) (N : Nat) (n : Nat) (K : Int32 → S5 → (Nat → Int64) → St → Option Int32) (hk : KPl p l e s m below meth c D cI cZ cJ a4 a2 a1 a3 a0 a5 ao b n K 23) : KPl p l e s m below meth c D cI cZ cJ a4 a2 a1 a3 a0 a5 ao b (n + 1) (g_law_10 N xs L K) 792 := by
  obtain ⟨hx, hb, hr, hml, hown, hts, hX9, hbl, hlocks, hK3, hN, hXP, hC, hlt⟩ := id C0
  have hK : va_K D vwCl (kT cI cZ) s := hK3.sub [0, 1] rfl
  have hA : ∀ q : Nat, s.heap.size ≤ q → (fun q : Nat => s.heap.size ≤ q) q := fun _ h => h
  have hbA : ¬ (fun q : Nat => s.heap.size ≤ q) b := Nat.not_le.mpr hbl
  intro i u o σ cells slots H locs ls hc9 hs9 hP hD hS hl h
  unfold g_law_10 at h
  refine lv_aload_n hx hb dL_law_792 rfl (lv_at hl 1 rfl) ?_
  refine lv_aload_n hx hb dL_law_793 rfl (lv_at hl 0 rfl) ?_
  refine lv_iload hx hb dL_law_794 (lv_at hl 4 rfl) ?_
  refine lv_iconst (v := 1) hx hb dL_law_796 rfl ?_
  refine lv_iadd hx hb dL_law_797 ?_
  by_cases hi : (i + 1) < 0 ∨ L ≤ ((i + 1)).toNatClampNeg
  · rw [if_pos hi] at h; exact no h
  rw [if_neg hi] at h
  refine va_sld hx hb hX9 hbl hbA hS (i := (i + 1)) hi dL_law_798 ?_
  refine lv_aload_n hx hb dL_law_799 rfl (lv_at hl 0 rfl) ?_
  refine lv_iload hx hb dL_law_800 (lv_at hl 4 rfl) ?_
  refine lv_iconst (v := 2) hx hb dL_law_802 rfl ?_
  refine lv_iadd hx hb dL_law_803 ?_
  by_cases hi : (i + 2) < 0 ∨ L ≤ ((i + 2)).toNatClampNeg
  · rw [if_pos hi] at h; exact no h
  rw [if_neg hi] at h
  refine va_sld hx hb hX9 hbl hbA hS (i := (i + 2)) hi dL_law_804 ?_
  refine lv_aload_n hx hb dL_law_805 rfl (lv_at hl 3 rfl) ?_
  obtain ⟨q1, hq1, h⟩ := ob h
  refine mh_i (ws' := wLL a4 a2 a1 a3 a0 ao a5 cI cZ cJ ((q1.2.1, q1.2.2), σ)) (wr := wX5 a5 cI cZ σ) [0, 1, 2, 3, 4, 5, 6, 7, 8, 9, 10, 11, 12, 13, 14, 15, 16, 17, 18, 19, 20, 21, 22, 23, 24, 25, 26, 27, 28, 29] [30, 31, 32, 33, 34, 35, 36, 37, 38, 39, 40, 41, 42, 43, 44, 45, 46, 47, 48, 49, 50, 51, 52] [23, 24, 25, 26, 27, 28, 29, 30, 31, 32, 33, 34, 35, 36, 37, 38, 39, 40, 41, 42, 43, 44, 45, 46, 47, 48, 49, 50, 51, 52, 0, 1, 2, 3, 4, 5, 6, 7, 8, 9, 10, 11, 12, 13, 14, 15, 16, 17, 18, 19, 20, 21, 22] (vx_runSW (As := [.ref (a4 0), .int (xs ((i + 1)).toNatClampNeg), .int (xs ((i + 2)).toNatClampNeg), .ref (ao)]) (rest := []) ⟨hx, hb, hml, hown, hts⟩ (c_L_open l hlt D cI cZ cJ sa a4 a2 a1 a3 a0 ao N u.1 u.2.1 u.2.2.1 u.2.2.2.1 u.2.2.2.2 o (xs ((i + 1)).toNatClampNeg) (xs ((i + 2)).toNatClampNeg) q1.1 q1.2 hq1 H.size) (vx_cwSW 4 hts gL_law_L_open rfl rfl rfl (by decide +kernel) ⟨Nat.le_of_ble_eq_true rfl, Nat.le_of_ble_eq_true rfl⟩) (pLS [0, 1, 2, 3, 4, 5, 6, 7, 8, 9, 10, 11, 12, 13, 14, 15, 16, 17, 18, 19, 20, 21, 22, 23, 24, 25, 26, 27, 28, 29] hP hD hS hA hK3 hN hXP hC rfl rfl) rfl rfl hl.1 rfl (lv_room (Nat.le_of_ble_eq_true rfl)) dL_law_806 ⟨by show cells + 3 ≤ 601024; omega, by show slots + 18 ≤ 7293034; omega⟩) hP hD hS hA rfl rfl rfl (by decide) rfl rfl (fun H locs hP hD hS => ?_)
  refine lv_istore (lv' := [(5, .int q1.1), (0, .ref (b)), (1, .ref (a4 0)), (2, .ref (a5 0)), (3, .ref (ao)), (4, .int i)]) hx hb dL_law_809 hl (by decide) rfl (fun ls hl => ?_)
  refine lv_aload_n hx hb dL_law_811 rfl (lv_at hl 3 rfl) ?_
  refine lv_aload_n hx hb dL_law_812 rfl (lv_at hl 1 rfl) ?_
  refine lv_iload hx hb dL_law_813 (lv_at hl 5 rfl) ?_
  refine lv_iconst (v := 1) hx hb dL_law_815 rfl ?_
  refine lv_iadd hx hb dL_law_816 ?_
  by_cases hi : (i + 1) < 0 ∨ L ≤ ((i + 1)).toNatClampNeg
  · rw [if_pos hi] at h; exact no h
  rw [if_neg hi] at h
  refine va_sld hx hb hX9 hbl hbA hS (i := (i + 1)) hi dL_law_817 ?_
  refine lv_aload_n hx hb dL_law_818 rfl (lv_at hl 1 rfl) ?_
  refine lv_iload hx hb dL_law_819 (lv_at hl 5 rfl) ?_
  refine lv_iconst (v := 2) hx hb dL_law_821 rfl ?_
  refine lv_iadd hx hb dL_law_822 ?_
  by_cases hi : (i + 2) < 0 ∨ L ≤ ((i + 2)).toNatClampNeg
  · rw [if_pos hi] at h; exact no h
  rw [if_neg hi] at h
  refine va_sld hx hb hX9 hbl hbA hS (i := (i + 2)) hi dL_law_823 ?_
  obtain ⟨q2, hq2, h⟩ := ob h
  refine mg_i (ws' := wLL a4 a2 a1 a3 a0 ao a5 cI cZ cJ ((q1.2.1, q1.2.2), q2.2)) (wr := wL4 a4 a2 a1 a3 a0 ao cI cZ cJ (q1.2.1, q1.2.2)) [30, 31, 32, 33, 34, 35, 36, 37, 38, 39, 40, 41, 42, 43, 44, 45, 46, 47, 48, 49, 50, 51, 52] [0, 1, 2, 3, 4, 5, 6, 7, 8, 9, 10, 11, 12, 13, 14, 15, 16, 17, 18, 19, 20, 21, 22, 23, 24, 25, 26, 27, 28, 29] [0, 1, 2, 3, 4, 5, 6, 7, 8, 9, 10, 11, 12, 13, 14, 15, 16, 17, 18, 19, 20, 21, 22, 23, 24, 25, 26, 27, 28, 29, 30, 31, 32, 33, 34, 35, 36, 37, 38, 39, 40, 41, 42, 43, 44, 45, 46, 47, 48, 49, 50, 51, 52] (va_runV (As := [.int (xs ((i + 1)).toNatClampNeg), .int (xs ((i + 2)).toNatClampNeg)]) (rest := []) ⟨hx, hb, hml, hown, hts⟩ (c_X5_open l D cI cZ a5 N σ (xs ((i + 1)).toNatClampNeg) (xs ((i + 2)).toNatClampNeg) q2.1 q2.2 hq2 H.size) (cwV 2 hts gL_law_X5_open rfl rfl rfl (by decide +kernel) ⟨Nat.le_of_ble_eq_true rfl, Nat.le_of_ble_eq_true rfl⟩) (pV [30, 31, 32, 33, 34, 35, 36, 37, 38, 39, 40, 41, 42, 43, 44, 45, 46, 47, 48, 49, 50, 51, 52] hP hD hK hN rfl rfl rfl rfl) rfl rfl hl.1 rfl (lv_room (Nat.le_of_ble_eq_true rfl)) dL_law_824 ⟨by show cells + 3 + 0 ≤ 601024; omega, by show slots + 18 + 0 ≤ 7293034; omega⟩) hP hD hS hA rfl rfl rfl (by decide) rfl rfl (fun H locs hP hD hS => ?_)
  refine lv_istore (lv' := [(6, .int q2.1), (5, .int q1.1), (0, .ref (b)), (1, .ref (a4 0)), (2, .ref (a5 0)), (3, .ref (ao)), (4, .int i)]) hx hb dL_law_827 hl (by decide) rfl (fun ls hl => ?_)
  refine lv_aload_n hx hb dL_law_829 rfl (lv_at hl 4 rfl) ?_
  obtain ⟨q3, hq3, h⟩ := ob h
  refine mg_i (ws' := wLL a4 a2 a1 a3 a0 ao a5 cI cZ cJ ((q1.2.1, q1.2.2), q3.2)) (wr := wL4 a4 a2 a1 a3 a0 ao cI cZ cJ (q1.2.1, q1.2.2)) [30, 31, 32, 33, 34, 35, 36, 37, 38, 39, 40, 41, 42, 43, 44, 45, 46, 47, 48, 49, 50, 51, 52] [0, 1, 2, 3, 4, 5, 6, 7, 8, 9, 10, 11, 12, 13, 14, 15, 16, 17, 18, 19, 20, 21, 22, 23, 24, 25, 26, 27, 28, 29] [0, 1, 2, 3, 4, 5, 6, 7, 8, 9, 10, 11, 12, 13, 14, 15, 16, 17, 18, 19, 20, 21, 22, 23, 24, 25, 26, 27, 28, 29, 30, 31, 32, 33, 34, 35, 36, 37, 38, 39, 40, 41, 42, 43, 44, 45, 46, 47, 48, 49, 50, 51, 52] (va_runV (As := []) (rest := []) ⟨hx, hb, hml, hown, hts⟩ (c_X5_thrown l D cI cZ a5 N q2.2  q3.1 q3.2 hq3 H.size) (cwV 0 hts gL_law_X5_thrown rfl rfl rfl (by decide +kernel) ⟨Nat.le_of_ble_eq_true rfl, Nat.le_of_ble_eq_true rfl⟩) (pV [30, 31, 32, 33, 34, 35, 36, 37, 38, 39, 40, 41, 42, 43, 44, 45, 46, 47, 48, 49, 50, 51, 52] hP hD hK hN rfl rfl rfl rfl) rfl rfl hl.1 rfl (lv_room (Nat.le_of_ble_eq_true rfl)) dL_law_830 ⟨by show cells + 3 + 0 ≤ 601024; omega, by show slots + 18 + 0 ≤ 7293034; omega⟩) hP hD hS hA rfl rfl rfl (by decide) rfl rfl (fun H locs hP hD hS => ?_)
  refine lv_iload hx hb dL_law_833 (lv_at hl 1 rfl) ?_
  refine lv_icmp_eq (tgt := 840) hx hb dL_law_835 (by decide) (fun hc4 => ?_) (fun hc4 => ?_)
  · rw [if_pos hc4] at h
    refine lv_iload hx hb dL_law_840 (lv_at hl 1 rfl) ?_
    refine lv_if_ne (tgt := 857) hx hb dL_law_842 (by decide) (fun hc5 => ?_) (fun hc5 => ?_)
    · rw [if_neg hc5] at h
      refine lv_goto (tgt := 1561) hx hb dL_law_857 (by decide) ?_
      refine lv_iinc (v := (i + 4)) (lv' := [(4, .int (i + 4)), (6, .int q2.1), (5, .int q1.1), (0, .ref (b)), (1, .ref (a4 0)), (2, .ref (a5 0)), (3, .ref (ao))]) hx hb dL_law_1561 hl (k := 6) rfl rfl (by decide) rfl (fun ls hl => ?_)
      refine lv_goto (tgt := 23) hx hb dL_law_1564 (by decide) ?_
      refine W.widen (k := cells + 5) (n := slots + 30) (by omega) (by omega) ?_
      exact hk (i + 4) q1.2.1 q1.2.2 q3.2 _ _ _ _ _ (by omega) (by omega) hP hD hS (lv_sub hl [3, 4, 5, 6, 0] rfl) h
    · rw [if_pos hc5] at h
      refine lv_aload_n hx hb dL_law_845 rfl (lv_at hl 5 rfl) ?_
      refine lv_iconst (v := 0) hx hb dL_law_846 rfl ?_
      refine va_lald (f := q1.2.2) hx hb hK3 hP 29 2 rfl rfl (i := 0) (by unfold vp_in; decide) dL_law_847 ?_
      refine lv_iload hx hb dL_law_848 (lv_at hl 0 rfl) ?_
      refine lv_i2l (v := Int32.toInt64 q2.1) hx hb dL_law_850 rfl ?_
      refine W.lcmp hx hb dL_law_851 ?_
      refine lv_if_eq (tgt := 857) hx hb dL_law_852 (by decide) (fun hc6 => ?_) (fun hc6 => ?_)
      · rw [if_pos hc6] at h
        refine lv_goto (tgt := 1561) hx hb dL_law_857 (by decide) ?_
        refine lv_iinc (v := (i + 4)) (lv' := [(4, .int (i + 4)), (6, .int q2.1), (5, .int q1.1), (0, .ref (b)), (1, .ref (a4 0)), (2, .ref (a5 0)), (3, .ref (ao))]) hx hb dL_law_1561 hl (k := 6) rfl rfl (by decide) rfl (fun ls hl => ?_)
        refine lv_goto (tgt := 23) hx hb dL_law_1564 (by decide) ?_
        refine W.widen (k := cells + 5) (n := slots + 30) (by omega) (by omega) ?_
        exact hk (i + 4) q1.2.1 q1.2.2 q3.2 _ _ _ _ _ (by omega) (by omega) hP hD hS (lv_sub hl [3, 4, 5, 6, 0] rfl) h
      · rw [if_neg hc6] at h
        refine lv_iconst (v := 0) hx hb dL_law_855 rfl ?_
        exact absurd (Option.some.inj h) (by decide)
  · rw [if_neg hc4] at h
    refine lv_iconst (v := 0) hx hb dL_law_838 rfl ?_
    exact absurd (Option.some.inj h) (by decide)
def g_law_11 (N : Nat) (xs : Nat → Int32) (L : Nat) (K : Int32 → S5 → (Nat → Int64) → St → Option Int32) (i : Int32) (u : S5) (o : Nat → Int64) (σ : St) : Option Int32 := if (i + 1) < 0 ∨ L ≤ ((i + 1)).toNatClampNeg then none else if (i + 2) < 0 ∨ L ≤ ((i + 2)).toNatClampNeg then none else if (i + 3) < 0 ∨ L ≤ ((i + 3)).toNatClampNeg then none else (f_L_put N u.1 u.2.1 u.2.2.1 u.2.2.2.1 u.2.2.2.2 o (xs ((i + 1)).toNatClampNeg) (xs ((i + 2)).toNatClampNeg) (xs ((i + 3)).toNatClampNeg)).bind (fun q1 => if (i + 1) < 0 ∨ L ≤ ((i + 1)).toNatClampNeg then none else if (i + 2) < 0 ∨ L ≤ ((i + 2)).toNatClampNeg then none else if (i + 3) < 0 ∨ L ≤ ((i + 3)).toNatClampNeg then none else (f_X5_put N σ (xs ((i + 1)).toNatClampNeg) (xs ((i + 2)).toNatClampNeg) (xs ((i + 3)).toNatClampNeg)).bind (fun q2 => (f_X5_thrown N q2.2 ).bind (fun q3 => if q3.1 = q1.1 then if q1.1 = 0 then if (lg_cmp (q1.2.2 (Int32.toNatClampNeg 0)) (Int32.toInt64 q2.1)) = 0 then K (i + 4) q1.2.1 q1.2.2 q3.2 else some (0 : Int32) else K (i + 4) q1.2.1 q1.2.2 q3.2 else some (0 : Int32))))
set_option maxHeartbeats 4000000 in
set_option maxRecDepth 100000 in
theorem k_law_11 {p : Program} {l : Launch} {e : Env} {s : State} {m : MethodId} {below : List Frame} {meth : Method} {c : Code} {D : va_G} {cI cZ cJ : ClassId} {sa : Nat → Nat} {a4 a2 a1 a3 a0 a5 : Nat → Nat} {ao b L : Nat} {xs : Nat → Int32} (C0 : lC p l s m meth c b L xs D cI cZ cJ sa) (N : Nat) (n : Nat) (K : Int32 → S5 → (Nat → Int64) → St → Option Int32) (hk : KPl p l e s m below meth c D cI cZ cJ a4 a2 a1 a3 a0 a5 ao b n K 23) : KPl p l e s m below meth c D cI cZ cJ a4 a2 a1 a3 a0 a5 ao b (n + 1) (g_law_11 N xs L K) 860 := by
  obtain ⟨hx, hb, hr, hml, hown, hts, hX9, hbl, hlocks, hK3, hN, hXP, hC, hlt⟩ := id C0
  have hK : va_K D vwCl (kT cI cZ) s := hK3.sub [0, 1] rfl
  have hA : ∀ q : Nat, s.heap.size ≤ q → (fun q : Nat => s.heap.size ≤ q) q := fun _ h => h
  have hbA : ¬ (fun q : Nat => s.heap.size ≤ q) b := Nat.not_le.mpr hbl
  intro i u o σ cells slots H locs ls hc9 hs9 hP hD hS hl h
  unfold g_law_11 at h
  refine lv_aload_n hx hb dL_law_860 rfl (lv_at hl 1 rfl) ?_
  refine lv_aload_n hx hb dL_law_861 rfl (lv_at hl 0 rfl) ?_
  refine lv_iload hx hb dL_law_862 (lv_at hl 4 rfl) ?_
  refine lv_iconst (v := 1) hx hb dL_law_864 rfl ?_
  refine lv_iadd hx hb dL_law_865 ?_
  by_cases hi : (i + 1) < 0 ∨ L ≤ ((i + 1)).toNatClampNeg
  · rw [if_pos hi] at h; exact no h
  rw [if_neg hi] at h
  refine va_sld hx hb hX9 hbl hbA hS (i := (i + 1)) hi dL_law_866 ?_
  refine lv_aload_n hx hb dL_law_867 rfl (lv_at hl 0 rfl) ?_
  refine lv_iload hx hb dL_law_868 (lv_at hl 4 rfl) ?_
  refine lv_iconst (v := 2) hx hb dL_law_870 rfl ?_
  refine lv_iadd hx hb dL_law_871 ?_
  by_cases hi : (i + 2) < 0 ∨ L ≤ ((i + 2)).toNatClampNeg
  · rw [if_pos hi] at h; exact no h
  rw [if_neg hi] at h
  refine va_sld hx hb hX9 hbl hbA hS (i := (i + 2)) hi dL_law_872 ?_
  refine lv_aload_n hx hb dL_law_873 rfl (lv_at hl 0 rfl) ?_
  refine lv_iload hx hb dL_law_874 (lv_at hl 4 rfl) ?_
  refine lv_iconst (v := 3) hx hb dL_law_876 rfl ?_
  refine lv_iadd hx hb dL_law_877 ?_
  by_cases hi : (i + 3) < 0 ∨ L ≤ ((i + 3)).toNatClampNeg
  · rw [if_pos hi] at h; exact no h
  rw [if_neg hi] at h
  refine va_sld hx hb hX9 hbl hbA hS (i := (i + 3)) hi dL_law_878 ?_
  refine lv_aload_n hx hb dL_law_879 rfl (lv_at hl 3 rfl) ?_
  obtain ⟨q1, hq1, h⟩ := ob h
  refine mh_i (ws' := wLL a4 a2 a1 a3 a0 ao a5 cI cZ cJ ((q1.2.1, q1.2.2), σ)) (wr := wX5 a5 cI cZ σ) [0, 1, 2, 3, 4, 5, 6, 7, 8, 9, 10, 11, 12, 13, 14, 15, 16, 17, 18, 19, 20, 21, 22, 23, 24, 25, 26, 27, 28, 29] [30, 31, 32, 33, 34, 35, 36, 37, 38, 39, 40, 41, 42, 43, 44, 45, 46, 47, 48, 49, 50, 51, 52] [23, 24, 25, 26, 27, 28, 29, 30, 31, 32, 33, 34, 35, 36, 37, 38, 39, 40, 41, 42, 43, 44, 45, 46, 47, 48, 49, 50, 51, 52, 0, 1, 2, 3, 4, 5, 6, 7, 8, 9, 10, 11, 12, 13, 14, 15, 16, 17, 18, 19, 20, 21, 22] (vx_runSW (As := [.ref (a4 0), .int (xs ((i + 1)).toNatClampNeg), .int (xs ((i + 2)).toNatClampNeg), .int (xs ((i + 3)).toNatClampNeg), .ref (ao)]) (rest := []) ⟨hx, hb, hml, hown, hts⟩ (c_L_put l hlt D cI cZ cJ sa a4 a2 a1 a3 a0 ao N u.1 u.2.1 u.2.2.1 u.2.2.2.1 u.2.2.2.2 o (xs ((i + 1)).toNatClampNeg) (xs ((i + 2)).toNatClampNeg) (xs ((i + 3)).toNatClampNeg) q1.1 q1.2 hq1 H.size) (vx_cwSW 5 hts gL_law_L_put rfl rfl rfl (by decide +kernel) ⟨Nat.le_of_ble_eq_true rfl, Nat.le_of_ble_eq_true rfl⟩) (pLS [0, 1, 2, 3, 4, 5, 6, 7, 8, 9, 10, 11, 12, 13, 14, 15, 16, 17, 18, 19, 20, 21, 22, 23, 24, 25, 26, 27, 28, 29] hP hD hS hA hK3 hN hXP hC rfl rfl) rfl rfl hl.1 rfl (lv_room (Nat.le_of_ble_eq_true rfl)) dL_law_880 ⟨by show cells + 5 ≤ 601024; omega, by show slots + 30 ≤ 7293034; omega⟩) hP hD hS hA rfl rfl rfl (by decide) rfl rfl (fun H locs hP hD hS => ?_)
  refine lv_istore (lv' := [(5, .int q1.1), (0, .ref (b)), (1, .ref (a4 0)), (2, .ref (a5 0)), (3, .ref (ao)), (4, .int i)]) hx hb dL_law_883 hl (by decide) rfl (fun ls hl => ?_)
  refine lv_aload_n hx hb dL_law_885 rfl (lv_at hl 3 rfl) ?_
  refine lv_aload_n hx hb dL_law_886 rfl (lv_at hl 1 rfl) ?_
  refine lv_iload hx hb dL_law_887 (lv_at hl 5 rfl) ?_
  refine lv_iconst (v := 1) hx hb dL_law_889 rfl ?_
  refine lv_iadd hx hb dL_law_890 ?_
  by_cases hi : (i + 1) < 0 ∨ L ≤ ((i + 1)).toNatClampNeg
  · rw [if_pos hi] at h; exact no h
  rw [if_neg hi] at h
  refine va_sld hx hb hX9 hbl hbA hS (i := (i + 1)) hi dL_law_891 ?_
  refine lv_aload_n hx hb dL_law_892 rfl (lv_at hl 1 rfl) ?_
  refine lv_iload hx hb dL_law_893 (lv_at hl 5 rfl) ?_
  refine lv_iconst (v := 2) hx hb dL_law_895 rfl ?_
  refine lv_iadd hx hb dL_law_896 ?_
  by_cases hi : (i + 2) < 0 ∨ L ≤ ((i + 2)).toNatClampNeg
  · rw [if_pos hi] at h; exact no h
  rw [if_neg hi] at h
  refine va_sld hx hb hX9 hbl hbA hS (i := (i + 2)) hi dL_law_897 ?_
  refine lv_aload_n hx hb dL_law_898 rfl (lv_at hl 1 rfl) ?_
  refine lv_iload hx hb dL_law_899 (lv_at hl 5 rfl) ?_
  refine lv_iconst (v := 3) hx hb dL_law_901 rfl ?_
  refine lv_iadd hx hb dL_law_902 ?_
  by_cases hi : (i + 3) < 0 ∨ L ≤ ((i + 3)).toNatClampNeg
  · rw [if_pos hi] at h; exact no h
  rw [if_neg hi] at h
  refine va_sld hx hb hX9 hbl hbA hS (i := (i + 3)) hi dL_law_903 ?_
  obtain ⟨q2, hq2, h⟩ := ob h
  refine mg_i (ws' := wLL a4 a2 a1 a3 a0 ao a5 cI cZ cJ ((q1.2.1, q1.2.2), q2.2)) (wr := wL4 a4 a2 a1 a3 a0 ao cI cZ cJ (q1.2.1, q1.2.2)) [30, 31, 32, 33, 34, 35, 36, 37, 38, 39, 40, 41, 42, 43, 44, 45, 46, 47, 48, 49, 50, 51, 52] [0, 1, 2, 3, 4, 5, 6, 7, 8, 9, 10, 11, 12, 13, 14, 15, 16, 17, 18, 19, 20, 21, 22, 23, 24, 25, 26, 27, 28, 29] [0, 1, 2, 3, 4, 5, 6, 7, 8, 9, 10, 11, 12, 13, 14, 15, 16, 17, 18, 19, 20, 21, 22, 23, 24, 25, 26, 27, 28, 29, 30, 31, 32, 33, 34, 35, 36, 37, 38, 39, 40, 41, 42, 43, 44, 45, 46, 47, 48, 49, 50, 51, 52] (va_runV (As := [.int (xs ((i + 1)).toNatClampNeg), .int (xs ((i + 2)).toNatClampNeg), .int (xs ((i + 3)).toNatClampNeg)]) (rest := []) ⟨hx, hb, hml, hown, hts⟩ (c_X5_put l D cI cZ a5 N σ (xs ((i + 1)).toNatClampNeg) (xs ((i + 2)).toNatClampNeg) (xs ((i + 3)).toNatClampNeg) q2.1 q2.2 hq2 H.size) (cwV 3 hts gL_law_X5_put rfl rfl rfl (by decide +kernel) ⟨Nat.le_of_ble_eq_true rfl, Nat.le_of_ble_eq_true rfl⟩) (pV [30, 31, 32, 33, 34, 35, 36, 37, 38, 39, 40, 41, 42, 43, 44, 45, 46, 47, 48, 49, 50, 51, 52] hP hD hK hN rfl rfl rfl rfl) rfl rfl hl.1 rfl (lv_room (Nat.le_of_ble_eq_true rfl)) dL_law_904 ⟨by show cells + 5 + 0 ≤ 601024; omega, by show slots + 30 + 0 ≤ 7293034; omega⟩) hP hD hS hA rfl rfl rfl (by decide) rfl rfl (fun H locs hP hD hS => ?_)
  refine lv_istore (lv' := [(6, .int q2.1), (5, .int q1.1), (0, .ref (b)), (1, .ref (a4 0)), (2, .ref (a5 0)), (3, .ref (ao)), (4, .int i)]) hx hb dL_law_907 hl (by decide) rfl (fun ls hl => ?_)
  refine lv_aload_n hx hb dL_law_909 rfl (lv_at hl 4 rfl) ?_
  obtain ⟨q3, hq3, h⟩ := ob h
  refine mg_i (ws' := wLL a4 a2 a1 a3 a0 ao a5 cI cZ cJ ((q1.2.1, q1.2.2), q3.2)) (wr := wL4 a4 a2 a1 a3 a0 ao cI cZ cJ (q1.2.1, q1.2.2)) [30, 31, 32, 33, 34, 35, 36, 37, 38, 39, 40, 41, 42, 43, 44, 45, 46, 47, 48, 49, 50, 51, 52] [0, 1, 2, 3, 4, 5, 6, 7, 8, 9, 10, 11, 12, 13, 14, 15, 16, 17, 18, 19, 20, 21, 22, 23, 24, 25, 26, 27, 28, 29] [0, 1, 2, 3, 4, 5, 6, 7, 8, 9, 10, 11, 12, 13, 14, 15, 16, 17, 18, 19, 20, 21, 22, 23, 24, 25, 26, 27, 28, 29, 30, 31, 32, 33, 34, 35, 36, 37, 38, 39, 40, 41, 42, 43, 44, 45, 46, 47, 48, 49, 50, 51, 52] (va_runV (As := []) (rest := []) ⟨hx, hb, hml, hown, hts⟩ (c_X5_thrown l D cI cZ a5 N q2.2  q3.1 q3.2 hq3 H.size) (cwV 0 hts gL_law_X5_thrown rfl rfl rfl (by decide +kernel) ⟨Nat.le_of_ble_eq_true rfl, Nat.le_of_ble_eq_true rfl⟩) (pV [30, 31, 32, 33, 34, 35, 36, 37, 38, 39, 40, 41, 42, 43, 44, 45, 46, 47, 48, 49, 50, 51, 52] hP hD hK hN rfl rfl rfl rfl) rfl rfl hl.1 rfl (lv_room (Nat.le_of_ble_eq_true rfl)) dL_law_910 ⟨by show cells + 5 + 0 ≤ 601024; omega, by show slots + 30 + 0 ≤ 7293034; omega⟩) hP hD hS hA rfl rfl rfl (by decide) rfl rfl (fun H locs hP hD hS => ?_)
  refine lv_iload hx hb dL_law_913 (lv_at hl 1 rfl) ?_
  refine lv_icmp_eq (tgt := 920) hx hb dL_law_915 (by decide) (fun hc4 => ?_) (fun hc4 => ?_)
  · rw [if_pos hc4] at h
    refine lv_iload hx hb dL_law_920 (lv_at hl 1 rfl) ?_
    refine lv_if_ne (tgt := 937) hx hb dL_law_922 (by decide) (fun hc5 => ?_) (fun hc5 => ?_)
    · rw [if_neg hc5] at h
      refine lv_goto (tgt := 1561) hx hb dL_law_937 (by decide) ?_
      refine lv_iinc (v := (i + 4)) (lv' := [(4, .int (i + 4)), (6, .int q2.1), (5, .int q1.1), (0, .ref (b)), (1, .ref (a4 0)), (2, .ref (a5 0)), (3, .ref (ao))]) hx hb dL_law_1561 hl (k := 6) rfl rfl (by decide) rfl (fun ls hl => ?_)
      refine lv_goto (tgt := 23) hx hb dL_law_1564 (by decide) ?_
      refine W.widen (k := cells + 5) (n := slots + 30) (by omega) (by omega) ?_
      exact hk (i + 4) q1.2.1 q1.2.2 q3.2 _ _ _ _ _ (by omega) (by omega) hP hD hS (lv_sub hl [3, 4, 5, 6, 0] rfl) h
    · rw [if_pos hc5] at h
      refine lv_aload_n hx hb dL_law_925 rfl (lv_at hl 5 rfl) ?_
      refine lv_iconst (v := 0) hx hb dL_law_926 rfl ?_
      refine va_lald (f := q1.2.2) hx hb hK3 hP 29 2 rfl rfl (i := 0) (by unfold vp_in; decide) dL_law_927 ?_
      refine lv_iload hx hb dL_law_928 (lv_at hl 0 rfl) ?_
      refine lv_i2l (v := Int32.toInt64 q2.1) hx hb dL_law_930 rfl ?_
      refine W.lcmp hx hb dL_law_931 ?_
      refine lv_if_eq (tgt := 937) hx hb dL_law_932 (by decide) (fun hc6 => ?_) (fun hc6 => ?_)
      · rw [if_pos hc6] at h
        refine lv_goto (tgt := 1561) hx hb dL_law_937 (by decide) ?_
        refine lv_iinc (v := (i + 4)) (lv' := [(4, .int (i + 4)), (6, .int q2.1), (5, .int q1.1), (0, .ref (b)), (1, .ref (a4 0)), (2, .ref (a5 0)), (3, .ref (ao))]) hx hb dL_law_1561 hl (k := 6) rfl rfl (by decide) rfl (fun ls hl => ?_)
        refine lv_goto (tgt := 23) hx hb dL_law_1564 (by decide) ?_
        refine W.widen (k := cells + 5) (n := slots + 30) (by omega) (by omega) ?_
        exact hk (i + 4) q1.2.1 q1.2.2 q3.2 _ _ _ _ _ (by omega) (by omega) hP hD hS (lv_sub hl [3, 4, 5, 6, 0] rfl) h
      · rw [if_neg hc6] at h
        refine lv_iconst (v := 0) hx hb dL_law_935 rfl ?_
        exact absurd (Option.some.inj h) (by decide)
  · rw [if_neg hc4] at h
    refine lv_iconst (v := 0) hx hb dL_law_918 rfl ?_
    exact absurd (Option.some.inj h) (by decide)
