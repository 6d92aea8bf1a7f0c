theorem in_X5_constant_X5 : ∀ w ∈ u_ws RX5 TX5 30, w ∈ wsX5_constant := by decide +kernel
def f_X5_constant (N : Nat) (σ : St) (x1 x2 : Int32) : Option (Int32 × St) := bnd (up2 σ 0 0 0) (fun σ1 => (f_X5_outside N x2 (σ1 13 0)).bind (fun q2 => if q2.1 = 0 then (f_X5_outside N x1 (σ1 3 0)).bind (fun q4 => if q4.1 = 0 then (f_X5_freeTypes N σ1).bind (fun q6 => if x1 < 0 ∨ 200 ≤ (x1).toNatClampNeg then none else if x2 < 0 ∨ 4200 ≤ (x2).toNatClampNeg then none else (f_X5_fits N q6 (q6 4 (x1).toNatClampNeg) (q6 15 (x2).toNatClampNeg)).bind (fun q7 => if q7.1 = 0 then (f_X5_fail N q7.2 2).bind (fun q11 => some (q11.1, q11.2)) else if (q7.2 18 0) < 0 ∨ 4201 ≤ ((q7.2 18 0)).toNatClampNeg then none else if x2 < 0 ∨ 4200 ≤ (x2).toNatClampNeg then none else (f_X5_write N q7.2 (q7.2 19 ((q7.2 18 0)).toNatClampNeg) ((4 * x1) + 2) (q7.2 15 (x2).toNatClampNeg)).bind (fun q9 => (f_X5_finish N q9.2 q9.1 3).bind (fun q10 => some (q10.1, q10.2))))) else (f_X5_fail N σ1 2).bind (fun q12 => some (q12.1, q12.2))) else (f_X5_fail N σ1 1).bind (fun q13 => some (q13.1, q13.2))))
set_option maxHeartbeats 4000000 in
set_option maxRecDepth 100000 in
theorem c_X5_constant (l : Launch) (D : va_G) (cI cZ : ClassId) (a5 : Nat → Nat) (N : Nat) (σ : St) (x1 x2 : Int32) : MI l yX5_constant wsX5_constant ({ frames := 4, cells := 0, slots := 0, locals := 93 } : Room) D cI cZ (wX5 a5 cI cZ) [.ref (a5 0), .int x1, .int x2] σ (f_X5_constant N σ x1 x2) := by
  refine MI.of (cc := cX5_constant) (maxL := 3) (ret := (some .int)) (own := RX5) (by decide) rfl rfl (Nat.le_of_ble_eq_true rfl) ?_
  intro r u1 h p e s m args below meth c A C0 H locs ls hP hD hS hl
  obtain ⟨hx, hb, hml, hr, hown, hts, hlocks, hA, hK, hN⟩ := id C0
  have hl : lv_has ls 3 [(0, .ref (a5 0)), (1, .int x1), (2, .int x2)] := hl
  unfold f_X5_constant at h
  refine lv_aload_n hx hb dX5_constant_0 rfl (lv_at hl 0 rfl) ?_
  refine lv_iconst (v := 0) hx hb dX5_constant_1 rfl ?_
  refine va_put (D := D) (ci := 5) (v := .int 0) (ty := .int) (C := RX5) (T := TX5) (N := 30) hx hb hts in_X5_constant_X5 tyX5 tyX5_ok nmX5 hown hK hP hD hS 0 rfl rfl 0 (by decide) (hts (.fieldLink RX5 85 "TermLoomModel" "code" "I") (by decide +kernel)) (fun _ h9 => h9) rfl (by decide +kernel) rfl rfl (Nat.le_of_ble_eq_true rfl) dX5_constant_2 (fun H locs hP hD hS => ?_)
  obtain ⟨σ1, eσ1, h⟩ := bn h
  have hP : va_P D vwCl (wX5 a5 cI cZ σ1) H := by rw [eσ1]; exact hP
  have hD : va_D A (wX5 a5 cI cZ σ1) := by rw [eσ1]; exact hD
  refine lv_iload_n hx hb dX5_constant_5 rfl (lv_at hl 2 rfl) ?_
  refine lv_aload_n hx hb dX5_constant_6 rfl (lv_at hl 0 rfl) ?_
  refine va_get (D := D) (ci := 5) (v := .int (σ1 13 0)) (C := RX5) (T := TX5) (N := 30) hx hb hts in_X5_constant_X5 hown hK hP 0 rfl rfl 13 (by decide) (hts (.fieldLink RX5 110 "TermLoomModel" "types" "I") (by decide +kernel)) (fun _ h9 => h9) rfl dX5_constant_7 ?_
  obtain ⟨q2, hq2, h⟩ := ob h
  refine mc_i (ws' := wX5 a5 cI cZ σ1) (wr := ((wX5o a5 cI cZ σ1) : va_W)) [] [0, 1, 2, 3, 4, 5, 6, 7, 8, 9, 10, 11, 12, 13, 14, 15, 16, 17, 18, 19, 20, 21, 22] [0, 1, 2, 3, 4, 5, 6, 7, 8, 9, 10, 11, 12, 13, 14, 15, 16, 17, 18, 19, 20, 21, 22] (va_runS (As := [.int x2, .int (σ1 13 0)]) (rest := []) ⟨hx, hb, hml, hown, hts⟩ (c_X5_outside l D cI cZ N x2 (σ1 13 0) q2.1 q2.2 hq2 H.size) (va_cwS 2 hts gX5_constant_X5_outside rfl rfl rfl (by decide +kernel) ⟨Nat.le_of_ble_eq_true rfl, Nat.le_of_ble_eq_true rfl⟩) (pS [] hP hD hK hN rfl rfl) rfl rfl hl.1 rfl (lv_room (Nat.le_of_ble_eq_true rfl)) dX5_constant_10 ⟨Nat.le_of_ble_eq_true rfl, Nat.le_of_ble_eq_true rfl⟩) hP hD hS hA rfl rfl rfl (by decide) rfl rfl (fun H locs hP hD hS => ?_)
  refine lv_if_eq (tgt := 22) hx hb dX5_constant_13 (by decide) (fun hc3 => ?_) (fun hc3 => ?_)
  · rw [if_pos hc3] at h
    refine lv_iload_n hx hb dX5_constant_22 rfl (lv_at hl 1 rfl) ?_
    refine lv_aload_n hx hb dX5_constant_23 rfl (lv_at hl 0 rfl) ?_
    refine va_get (D := D) (ci := 5) (v := .int (σ1 3 0)) (C := RX5) (T := TX5) (N := 30) hx hb hts in_X5_constant_X5 hown hK hP 0 rfl rfl 3 (by decide) (hts (.fieldLink RX5 124 "TermLoomModel" "constants" "I") (by decide +kernel)) (fun _ h9 => h9) rfl dX5_constant_24 ?_
    obtain ⟨q4, hq4, h⟩ := ob h
    refine mc_i (ws' := wX5 a5 cI cZ σ1) (wr := ((wX5o a5 cI cZ σ1) : va_W)) [] [0, 1, 2, 3, 4, 5, 6, 7, 8, 9, 10, 11, 12, 13, 14, 15, 16, 17, 18, 19, 20, 21, 22] [0, 1, 2, 3, 4, 5, 6, 7, 8, 9, 10, 11, 12, 13, 14, 15, 16, 17, 18, 19, 20, 21, 22] (va_runS (As := [.int x1, .int (σ1 3 0)]) (rest := []) ⟨hx, hb, hml, hown, hts⟩ (c_X5_outside l D cI cZ N x1 (σ1 3 0) q4.1 q4.2 hq4 H.size) (va_cwS 2 hts gX5_constant_X5_outside rfl rfl rfl (by decide +kernel) ⟨Nat.le_of_ble_eq_true rfl, Nat.le_of_ble_eq_true rfl⟩) (pS [] hP hD hK hN rfl rfl) rfl rfl hl.1 rfl (lv_room (Nat.le_of_ble_eq_true rfl)) dX5_constant_27 ⟨Nat.le_of_ble_eq_true rfl, Nat.le_of_ble_eq_true rfl⟩) hP hD hS hA rfl rfl rfl (by decide) rfl rfl (fun H locs hP hD hS => ?_)
    refine lv_if_eq (tgt := 39) hx hb dX5_constant_30 (by decide) (fun hc5 => ?_) (fun hc5 => ?_)
    · rw [if_pos hc5] at h
      refine lv_aload_n hx hb dX5_constant_39 rfl (lv_at hl 0 rfl) ?_
      obtain ⟨q6, hq6, h⟩ := ob h
      refine mc_v (ws' := wX5 a5 cI cZ q6) (wr := ([] : va_W)) [0, 1, 2, 3, 4, 5, 6, 7, 8, 9, 10, 11, 12, 13, 14, 15, 16, 17, 18, 19, 20, 21, 22] [] [0, 1, 2, 3, 4, 5, 6, 7, 8, 9, 10, 11, 12, 13, 14, 15, 16, 17, 18, 19, 20, 21, 22] (va_runV (As := []) (rest := []) ⟨hx, hb, hml, hown, hts⟩ (c_X5_freeTypes l D cI cZ a5 N σ1 q6 hq6 H.size) (cwV 0 hts gX5_constant_X5_freeTypes rfl rfl rfl (by decide +kernel) ⟨Nat.le_of_ble_eq_true rfl, Nat.le_of_ble_eq_true rfl⟩) (pV [0, 1, 2, 3, 4, 5, 6, 7, 8, 9, 10, 11, 12, 13, 14, 15, 16, 17, 18, 19, 20, 21, 22] hP hD hK hN rfl rfl rfl rfl) rfl rfl hl.1 rfl (lv_room (Nat.le_of_ble_eq_true rfl)) dX5_constant_40 ⟨Nat.le_of_ble_eq_true rfl, Nat.le_of_ble_eq_true rfl⟩) hP hD hS hA rfl rfl rfl (by decide) rfl rfl (fun H locs hP hD hS => ?_)
      refine lv_aload_n hx hb dX5_constant_43 rfl (lv_at hl 0 rfl) ?_
      refine lv_aload_n hx hb dX5_constant_44 rfl (lv_at hl 0 rfl) ?_
      refine va_get (D := D) (ci := 5) (v := .ref (a5 5)) (C := RX5) (T := TX5) (N := 30) hx hb hts in_X5_constant_X5 hown hK hP 0 rfl rfl 4 (by decide) (hts (.fieldLink RX5 17 "TermLoomModel" "declared" "[I") (by decide +kernel)) (fun _ h9 => h9) rfl dX5_constant_45 ?_
      refine lv_iload_n hx hb dX5_constant_48 rfl (lv_at hl 1 rfl) ?_
      by_cases hi : x1 < 0 ∨ 200 ≤ (x1).toNatClampNeg
      · rw [if_pos hi] at h; exact no h
      rw [if_neg hi] at h
      refine va_iald (f := (q6 4)) hx hb hK hP 2 0 rfl rfl (i := x1) hi dX5_constant_49 ?_
      refine lv_aload_n hx hb dX5_constant_50 rfl (lv_at hl 0 rfl) ?_
      refine va_get (D := D) (ci := 5) (v := .ref (a5 16)) (C := RX5) (T := TX5) (N := 30) hx hb hts in_X5_constant_X5 hown hK hP 0 rfl rfl 15 (by decide) (hts (.fieldLink RX5 41 "TermLoomModel" "typeAt" "[I") (by decide +kernel)) (fun _ h9 => h9) rfl dX5_constant_51 ?_
      refine lv_iload_n hx hb dX5_constant_54 rfl (lv_at hl 2 rfl) ?_
      by_cases hi : x2 < 0 ∨ 4200 ≤ (x2).toNatClampNeg
      · rw [if_pos hi] at h; exact no h
      rw [if_neg hi] at h
      refine va_iald (f := (q6 15)) hx hb hK hP 10 0 rfl rfl (i := x2) hi dX5_constant_55 ?_
      obtain ⟨q7, hq7, h⟩ := ob h
      refine mc_i (ws' := wX5 a5 cI cZ q7.2) (wr := ([] : va_W)) [0, 1, 2, 3, 4, 5, 6, 7, 8, 9, 10, 11, 12, 13, 14, 15, 16, 17, 18, 19, 20, 21, 22] [] [0, 1, 2, 3, 4, 5, 6, 7, 8, 9, 10, 11, 12, 13, 14, 15, 16, 17, 18, 19, 20, 21, 22] (va_runV (As := [.int (q6 4 (x1).toNatClampNeg), .int (q6 15 (x2).toNatClampNeg)]) (rest := []) ⟨hx, hb, hml, hown, hts⟩ (c_X5_fits l D cI cZ a5 N q6 (q6 4 (x1).toNatClampNeg) (q6 15 (x2).toNatClampNeg) q7.1 q7.2 hq7 H.size) (cwV 2 hts gX5_constant_X5_fits rfl rfl rfl (by decide +kernel) ⟨Nat.le_of_ble_eq_true rfl, Nat.le_of_ble_eq_true rfl⟩) (pV [0, 1, 2, 3, 4, 5, 6, 7, 8, 9, 10, 11, 12, 13, 14, 15, 16, 17, 18, 19, 20, 21, 22] hP hD hK hN rfl rfl rfl rfl) rfl rfl hl.1 rfl (lv_room (Nat.le_of_ble_eq_true rfl)) dX5_constant_56 ⟨Nat.le_of_ble_eq_true rfl, Nat.le_of_ble_eq_true rfl⟩) hP hD hS hA rfl rfl rfl (by decide) rfl rfl (fun H locs hP hD hS => ?_)
      refine lv_if_ne (tgt := 68) hx hb dX5_constant_59 (by decide) (fun hc8 => ?_) (fun hc8 => ?_)
      · rw [if_neg hc8] at h
        refine lv_aload_n hx hb dX5_constant_68 rfl (lv_at hl 0 rfl) ?_
        refine lv_aload_n hx hb dX5_constant_69 rfl (lv_at hl 0 rfl) ?_
        refine lv_aload_n hx hb dX5_constant_70 rfl (lv_at hl 0 rfl) ?_
        refine va_get (D := D) (ci := 5) (v := .ref (a5 20)) (C := RX5) (T := TX5) (N := 30) hx hb hts in_X5_constant_X5 hown hK hP 0 rfl rfl 19 (by decide) (hts (.fieldLink RX5 51 "TermLoomModel" "begin" "[I") (by decide +kernel)) (fun _ h9 => h9) rfl dX5_constant_71 ?_
        refine lv_aload_n hx hb dX5_constant_74 rfl (lv_at hl 0 rfl) ?_
        refine va_get (D := D) (ci := 5) (v := .int (q7.2 18 0)) (C := RX5) (T := TX5) (N := 30) hx hb hts in_X5_constant_X5 hown hK hP 0 rfl rfl 18 (by decide) (hts (.fieldLink RX5 130 "TermLoomModel" "terms" "I") (by decide +kernel)) (fun _ h9 => h9) rfl dX5_constant_75 ?_
        by_cases hi : (q7.2 18 0) < 0 ∨ 4201 ≤ ((q7.2 18 0)).toNatClampNeg
        · rw [if_pos hi] at h; exact no h
        rw [if_neg hi] at h
        refine va_iald (f := (q7.2 19)) hx hb hK hP 13 0 rfl rfl (i := (q7.2 18 0)) hi dX5_constant_78 ?_
        refine lv_iconst (v := 4) hx hb dX5_constant_79 rfl ?_
        refine lv_iload_n hx hb dX5_constant_80 rfl (lv_at hl 1 rfl) ?_
        refine lv_imul hx hb dX5_constant_81 ?_
        refine lv_iconst (v := 2) hx hb dX5_constant_82 rfl ?_
        refine lv_iadd hx hb dX5_constant_83 ?_
        refine lv_aload_n hx hb dX5_constant_84 rfl (lv_at hl 0 rfl) ?_
        refine va_get (D := D) (ci := 5) (v := .ref (a5 16)) (C := RX5) (T := TX5) (N := 30) hx hb hts in_X5_constant_X5 hown hK hP 0 rfl rfl 15 (by decide) (hts (.fieldLink RX5 41 "TermLoomModel" "typeAt" "[I") (by decide +kernel)) (fun _ h9 => h9) rfl dX5_constant_85 ?_
        refine lv_iload_n hx hb dX5_constant_88 rfl (lv_at hl 2 rfl) ?_
        by_cases hi : x2 < 0 ∨ 4200 ≤ (x2).toNatClampNeg
        · rw [if_pos hi] at h; exact no h
        rw [if_neg hi] at h
        refine va_iald (f := (q7.2 15)) hx hb hK hP 10 0 rfl rfl (i := x2) hi dX5_constant_89 ?_
        obtain ⟨q9, hq9, h⟩ := ob h
        refine mc_i (ws' := wX5 a5 cI cZ q9.2) (wr := ([] : va_W)) [0, 1, 2, 3, 4, 5, 6, 7, 8, 9, 10, 11, 12, 13, 14, 15, 16, 17, 18, 19, 20, 21, 22] [] [0, 1, 2, 3, 4, 5, 6, 7, 8, 9, 10, 11, 12, 13, 14, 15, 16, 17, 18, 19, 20, 21, 22] (va_runV (As := [.int (q7.2 19 ((q7.2 18 0)).toNatClampNeg), .int ((4 * x1) + 2), .int (q7.2 15 (x2).toNatClampNeg)]) (rest := [.ref (a5 0)]) ⟨hx, hb, hml, hown, hts⟩ (c_X5_write l D cI cZ a5 N q7.2 (q7.2 19 ((q7.2 18 0)).toNatClampNeg) ((4 * x1) + 2) (q7.2 15 (x2).toNatClampNeg) q9.1 q9.2 hq9 H.size) (cwV 3 hts gX5_constant_X5_write rfl rfl rfl (by decide +kernel) ⟨Nat.le_of_ble_eq_true rfl, Nat.le_of_ble_eq_true rfl⟩) (pV [0, 1, 2, 3, 4, 5, 6, 7, 8, 9, 10, 11, 12, 13, 14, 15, 16, 17, 18, 19, 20, 21, 22] hP hD hK hN rfl rfl rfl rfl) rfl rfl hl.1 rfl (lv_room (Nat.le_of_ble_eq_true rfl)) dX5_constant_90 ⟨Nat.le_of_ble_eq_true rfl, Nat.le_of_ble_eq_true rfl⟩) hP hD hS hA rfl rfl rfl (by decide) rfl rfl (fun H locs hP hD hS => ?_)
        refine lv_iconst (v := 3) hx hb dX5_constant_93 rfl ?_
        obtain ⟨q10, hq10, h⟩ := ob h
        refine mc_i (ws' := wX5 a5 cI cZ q10.2) (wr := ([] : va_W)) [0, 1, 2, 3, 4, 5, 6, 7, 8, 9, 10, 11, 12, 13, 14, 15, 16, 17, 18, 19, 20, 21, 22] [] [0, 1, 2, 3, 4, 5, 6, 7, 8, 9, 10, 11, 12, 13, 14, 15, 16, 17, 18, 19, 20, 21, 22] (va_runV (As := [.int q9.1, .int 3]) (rest := []) ⟨hx, hb, hml, hown, hts⟩ (c_X5_finish l D cI cZ a5 N q9.2 q9.1 3 q10.1 q10.2 hq10 H.size) (cwV 2 hts gX5_constant_X5_finish rfl rfl rfl (by decide +kernel) ⟨Nat.le_of_ble_eq_true rfl, Nat.le_of_ble_eq_true rfl⟩) (pV [0, 1, 2, 3, 4, 5, 6, 7, 8, 9, 10, 11, 12, 13, 14, 15, 16, 17, 18, 19, 20, 21, 22] hP hD hK hN rfl rfl rfl rfl) rfl rfl hl.1 rfl (lv_room (Nat.le_of_ble_eq_true rfl)) dX5_constant_94 ⟨Nat.le_of_ble_eq_true rfl, Nat.le_of_ble_eq_true rfl⟩) hP hD hS hA rfl rfl rfl (by decide) rfl rfl (fun H locs hP hD hS => ?_)
        obtain ⟨rfl, rfl⟩ := so h
        exact ret_i C0 hP hD hS dX5_constant_97
      · rw [if_pos hc8] at h
        refine lv_aload_n hx hb dX5_constant_62 rfl (lv_at hl 0 rfl) ?_
        refine lv_iconst (v := 2) hx hb dX5_constant_63 rfl ?_
        obtain ⟨q11, hq11, h⟩ := ob h
        refine mc_i (ws' := wX5 a5 cI cZ q11.2) (wr := ([] : va_W)) [0, 1, 2, 3, 4, 5, 6, 7, 8, 9, 10, 11, 12, 13, 14, 15, 16, 17, 18, 19, 20, 21, 22] [] [0, 1, 2, 3, 4, 5, 6, 7, 8, 9, 10, 11, 12, 13, 14, 15, 16, 17, 18, 19, 20, 21, 22] (va_runV (As := [.int 2]) (rest := []) ⟨hx, hb, hml, hown, hts⟩ (c_X5_fail l D cI cZ a5 N q7.2 2 q11.1 q11.2 hq11 H.size) (cwV 1 hts gX5_constant_X5_fail rfl rfl rfl (by decide +kernel) ⟨Nat.le_of_ble_eq_true rfl, Nat.le_of_ble_eq_true rfl⟩) (pV [0, 1, 2, 3, 4, 5, 6, 7, 8, 9, 10, 11, 12, 13, 14, 15, 16, 17, 18, 19, 20, 21, 22] hP hD hK hN rfl rfl rfl rfl) rfl rfl hl.1 rfl (lv_room (Nat.le_of_ble_eq_true rfl)) dX5_constant_64 ⟨Nat.le_of_ble_eq_true rfl, Nat.le_of_ble_eq_true rfl⟩) hP hD hS hA rfl rfl rfl (by decide) rfl rfl (fun H locs hP hD hS => ?_)
        obtain ⟨rfl, rfl⟩ := so h
        exact ret_i C0 hP hD hS dX5_constant_67
    · rw [if_neg hc5] at h
      refine lv_aload_n hx hb dX5_constant_33 rfl (lv_at hl 0 rfl) ?_
      refine lv_iconst (v := 2) hx hb dX5_constant_34 rfl ?_
      obtain ⟨q12, hq12, h⟩ := ob h
      refine mc_i (ws' := wX5 a5 cI cZ q12.2) (wr := ([] : va_W)) [0, 1, 2, 3, 4, 5, 6, 7, 8, 9, 10, 11, 12, 13, 14, 15, 16, 17, 18, 19, 20, 21, 22] [] [0, 1, 2, 3, 4, 5, 6, 7, 8, 9, 10, 11, 12, 13, 14, 15, 16, 17, 18, 19, 20, 21, 22] (va_runV (As := [.int 2]) (rest := []) ⟨hx, hb, hml, hown, hts⟩ (c_X5_fail l D cI cZ a5 N σ1 2 q12.1 q12.2 hq12 H.size) (cwV 1 hts gX5_constant_X5_fail rfl rfl rfl (by decide +kernel) ⟨Nat.le_of_ble_eq_true rfl, Nat.le_of_ble_eq_true rfl⟩) (pV [0, 1, 2, 3, 4, 5, 6, 7, 8, 9, 10, 11, 12, 13, 14, 15, 16, 17, 18, 19, 20, 21, 22] hP hD hK hN rfl rfl rfl rfl) rfl rfl hl.1 rfl (lv_room (Nat.le_of_ble_eq_true rfl)) dX5_constant_35 ⟨Nat.le_of_ble_eq_true rfl, Nat.le_of_ble_eq_true rfl⟩) hP hD hS hA rfl rfl rfl (by decide) rfl rfl (fun H locs hP hD hS => ?_)
      obtain ⟨rfl, rfl⟩ := so h
      exact ret_i C0 hP hD hS dX5_constant_38
  · rw [if_neg hc3] at h
    refine lv_aload_n hx hb dX5_constant_16 rfl (lv_at hl 0 rfl) ?_
    refine lv_iconst (v := 1) hx hb dX5_constant_17 rfl ?_
    obtain ⟨q13, hq13, h⟩ := ob h
    refine mc_i (ws' := wX5 a5 cI cZ q13.2) (wr := ([] : va_W)) [0, 1, 2, 3, 4, 5, 6, 7, 8, 9, 10, 11, 12, 13, 14, 15, 16, 17, 18, 19, 20, 21, 22] [] [0, 1, 2, 3, 4, 5, 6, 7, 8, 9, 10, 11, 12, 13, 14, 15, 16, 17, 18, 19, 20, 21, 22] (va_runV (As := [.int 1]) (rest := []) ⟨hx, hb, hml, hown, hts⟩ (c_X5_fail l D cI cZ a5 N σ1 1 q13.1 q13.2 hq13 H.size) (cwV 1 hts gX5_constant_X5_fail rfl rfl rfl (by decide +kernel) ⟨Nat.le_of_ble_eq_true rfl, Nat.le_of_ble_eq_true rfl⟩) (pV [0, 1, 2, 3, 4, 5, 6, 7, 8, 9, 10, 11, 12, 13, 14, 15, 16, 17, 18, 19, 20, 21, 22] hP hD hK hN rfl rfl rfl rfl) rfl rfl hl.1 rfl (lv_room (Nat.le_of_ble_eq_true rfl)) dX5_constant_18 ⟨Nat.le_of_ble_eq_true rfl, Nat.le_of_ble_eq_true rfl⟩) hP hD hS hA rfl rfl rfl (by decide) rfl rfl (fun H locs hP hD hS => ?_)
    obtain ⟨rfl, rfl⟩ := so h
    exact ret_i C0 hP hD hS dX5_constant_21

theorem in_X5_apply_X5 : ∀ w ∈ u_ws RX5 TX5 30, w ∈ wsX5_apply := by decide +kernel
def f_X5_apply_21 (N : Nat) (σ : St) : Option (Int32 × St) := (f_X5_fail N σ 1).bind (fun q1 => some (q1.1, q1.2))
def f_X5_apply_60 (N : Nat) (σ : St) : Option (Int32 × St) := (f_X5_fail N σ 2).bind (fun q1 => some (q1.1, q1.2))
def f_X5_apply (N : Nat) (σ : St) (x1 x2 : Int32) : Option (Int32 × St) := bnd (up2 σ 0 0 0) (fun σ1 => (f_X5_isTerm N σ1 x1).bind (fun q2 => if q2.1 = 0 then f_X5_apply_21 N q2.2 else (f_X5_isTerm N q2.2 x2).bind (fun q4 => if q4.1 = 0 then f_X5_apply_21 N q4.2 else (f_X5_topType N q4.2 x1).bind (fun q6 => if q6.1 < 0 ∨ 16000 ≤ (q6.1).toNatClampNeg then none else if (q6.2 6 (q6.1).toNatClampNeg) = 2 then if q6.1 < 0 ∨ 16000 ≤ (q6.1).toNatClampNeg then none else (f_X5_topType N q6.2 x2).bind (fun q8 => (f_X5_areSameTypes N (q6.2 7 (q6.1).toNatClampNeg) q8.1).bind (fun q9 => if q9.1 = 0 then f_X5_apply_60 N q8.2 else if (q8.2 18 0) < 0 ∨ 4201 ≤ ((q8.2 18 0)).toNatClampNeg then none else if q6.1 < 0 ∨ 16000 ≤ (q6.1).toNatClampNeg then none else (f_X5_write N q8.2 (q8.2 19 ((q8.2 18 0)).toNatClampNeg) (-1) (q8.2 8 (q6.1).toNatClampNeg)).bind (fun q11 => if x1 < 0 ∨ 4201 ≤ (x1).toNatClampNeg then none else if (x1 + 1) < 0 ∨ 4201 ≤ ((x1 + 1)).toNatClampNeg then none else (f_X5_copy N q11.2 q11.1 (q11.2 19 (x1).toNatClampNeg) (q11.2 19 ((x1 + 1)).toNatClampNeg)).bind (fun q12 => if x2 < 0 ∨ 4201 ≤ (x2).toNatClampNeg then none else if (x2 + 1) < 0 ∨ 4201 ≤ ((x2 + 1)).toNatClampNeg then none else (f_X5_copy N q12.2 q12.1 (q12.2 19 (x2).toNatClampNeg) (q12.2 19 ((x2 + 1)).toNatClampNeg)).bind (fun q13 => (f_X5_finish N q13.2 q13.1 3).bind (fun q14 => some (q14.1, q14.2))))))) else f_X5_apply_60 N q6.2))))
abbrev KP_X5_apply_21 (p : Program) (l : Launch) (e : Env) (s : State) (m : MethodId) (args : Array Value) (below : List Frame) (meth : Method) (c : Code) (D : va_G) (cI cZ : ClassId) (a5 : Nat → Nat) (A : Nat → Prop) (r : Int32) (u1 : St) (K : St → Option (Int32 × St)) : Prop := ∀ (σ : St) (H : Heap) (locs : List Loc) (ls : Array Slot), va_P D vwCl (wX5 a5 cI cZ σ) H → va_D A (wX5 a5 cI cZ σ) → va_S A s.heap H locs → lv_has ls 5 [(0, .ref (a5 0))] → K σ = some (r, u1) → W p l e ({ frames := 4, cells := 0, slots := 0, locals := 93 } : Room) s m args below meth c H locs 0 0 (QI below args s D cI cZ (wX5 a5 cI cZ) A r u1) (F0 m 21 ls [])
abbrev KP_X5_apply_60 (p : Program) (l : Launch) (e : Env) (s : State) (m : MethodId) (args : Array Value) (below : List Frame) (meth : Method) (c : Code) (D : va_G) (cI cZ : ClassId) (a5 : Nat → Nat) (A : Nat → Prop) (r : Int32) (u1 : St) (K : St → Option (Int32 × St)) : Prop := ∀ (σ : St) (H : Heap) (locs : List Loc) (ls : Array Slot), va_P D vwCl (wX5 a5 cI cZ σ) H → va_D A (wX5 a5 cI cZ σ) → va_S A s.heap H locs → lv_has ls 5 [(0, .ref (a5 0))] → K σ = some (r, u1) → W p l e ({ frames := 4, cells := 0, slots := 0, locals := 93 } : Room) s m args below meth c H locs 0 0 (QI below args s D cI cZ (wX5 a5 cI cZ) A r u1) (F0 m 60 ls [])
set_option maxHeartbeats 4000000 in
set_option maxRecDepth 100000 in
theorem k_X5_apply_21 {p : Program} {l : Launch} {e : Env} {s : State} {m : MethodId} {args : Array Value} {below : List Frame} {meth : Method} {c : Code} {D : va_G} {cI cZ : ClassId} {a5 : Nat → Nat} {A : Nat → Prop} {r : Int32} {u1 : St} (C0 : mB p s m args meth c D cI cZ A cX5_apply 5 (some .int) wsX5_apply RX5) (N : Nat) : KP_X5_apply_21 p l e s m args below meth c D cI cZ a5 A r u1 (f_X5_apply_21 N) := by
  obtain ⟨hx, hb, hml, hr, hown, hts, hlocks, hA, hK, hN⟩ := id C0
  intro σ H locs ls hP hD hS hl h
  unfold f_X5_apply_21 at h
  refine lv_aload_n hx hb dX5_apply_21 rfl (lv_at hl 0 rfl) ?_
  refine lv_iconst (v := 1) hx hb dX5_apply_22 rfl ?_
  obtain ⟨q1, hq1, h⟩ := ob h
  refine mc_i (ws' := wX5 a5 cI cZ q1.2) (wr := ([] : va_W)) [0, 1, 2, 3, 4, 5, 6, 7, 8, 9, 10, 11, 12, 13, 14, 15, 16, 17, 18, 19, 20, 21, 22] [] [0, 1, 2, 3, 4, 5, 6, 7, 8, 9, 10, 11, 12, 13, 14, 15, 16, 17, 18, 19, 20, 21, 22] (va_runV (As := [.int 1]) (rest := []) ⟨hx, hb, hml, hown, hts⟩ (c_X5_fail l D cI cZ a5 N σ 1 q1.1 q1.2 hq1 H.size) (cwV 1 hts gX5_apply_X5_fail rfl rfl rfl (by decide +kernel) ⟨Nat.le_of_ble_eq_true rfl, Nat.le_of_ble_eq_true rfl⟩) (pV [0, 1, 2, 3, 4, 5, 6, 7, 8, 9, 10, 11, 12, 13, 14, 15, 16, 17, 18, 19, 20, 21, 22] hP hD hK hN rfl rfl rfl rfl) rfl rfl hl.1 rfl (lv_room (Nat.le_of_ble_eq_true rfl)) dX5_apply_23 ⟨Nat.le_of_ble_eq_true rfl, Nat.le_of_ble_eq_true rfl⟩) hP hD hS hA rfl rfl rfl (by decide) rfl rfl (fun H locs hP hD hS => ?_)
  obtain ⟨rfl, rfl⟩ := so h
  exact ret_i C0 hP hD hS dX5_apply_26
set_option maxHeartbeats 4000000 in
set_option maxRecDepth 100000 in
theorem k_X5_apply_60 {p : Program} {l : Launch} {e : Env} {s : State} {m : MethodId} {args : Array Value} {below : List Frame} {meth : Method} {c : Code} {D : va_G} {cI cZ : ClassId} {a5 : Nat → Nat} {A : Nat → Prop} {r : Int32} {u1 : St} (C0 : mB p s m args meth c D cI cZ A cX5_apply 5 (some .int) wsX5_apply RX5) (N : Nat) : KP_X5_apply_60 p l e s m args below meth c D cI cZ a5 A r u1 (f_X5_apply_60 N) := by
  obtain ⟨hx, hb, hml, hr, hown, hts, hlocks, hA, hK, hN⟩ := id C0
  intro σ H locs ls hP hD hS hl h
  unfold f_X5_apply_60 at h
  refine lv_aload_n hx hb dX5_apply_60 rfl (lv_at hl 0 rfl) ?_
  refine lv_iconst (v := 2) hx hb dX5_apply_61 rfl ?_
  obtain ⟨q1, hq1, h⟩ := ob h
  refine mc_i (ws' := wX5 a5 cI cZ q1.2) (wr := ([] : va_W)) [0, 1, 2, 3, 4, 5, 6, 7, 8, 9, 10, 11, 12, 13, 14, 15, 16, 17, 18, 19, 20, 21, 22] [] [0, 1, 2, 3, 4, 5, 6, 7, 8, 9, 10, 11, 12, 13, 14, 15, 16, 17, 18, 19, 20, 21, 22] (va_runV (As := [.int 2]) (rest := []) ⟨hx, hb, hml, hown, hts⟩ (c_X5_fail l D cI cZ a5 N σ 2 q1.1 q1.2 hq1 H.size) (cwV 1 hts gX5_apply_X5_fail rfl rfl rfl (by decide +kernel) ⟨Nat.le_of_ble_eq_true rfl, Nat.le_of_ble_eq_true rfl⟩) (pV [0, 1, 2, 3, 4, 5, 6, 7, 8, 9, 10, 11, 12, 13, 14, 15, 16, 17, 18, 19, 20, 21, 22] hP hD hK hN rfl rfl rfl rfl) rfl rfl hl.1 rfl (lv_room (Nat.le_of_ble_eq_true rfl)) dX5_apply_62 ⟨Nat.le_of_ble_eq_true rfl, Nat.le_of_ble_eq_true rfl⟩) hP hD hS hA rfl rfl rfl (by decide) rfl rfl (fun H locs hP hD hS => ?_)
  obtain ⟨rfl, rfl⟩ := so h
  exact ret_i C0 hP hD hS dX5_apply_65
set_option maxHeartbeats 4000000 in
set_option maxRecDepth 100000 in
theorem c_X5_apply (l : Launch) (D : va_G) (cI cZ : ClassId) (a5 : Nat → Nat) (N : Nat) (σ : St) (x1 x2 : Int32) : MI l yX5_apply wsX5_apply ({ frames := 4, cells := 0, slots := 0, locals := 93 } : Room) D cI cZ (wX5 a5 cI cZ) [.ref (a5 0), .int x1, .int x2] σ (f_X5_apply N σ x1 x2) := by
  refine MI.of (cc := cX5_apply) (maxL := 5) (ret := (some .int)) (own := RX5) (by decide) rfl rfl (Nat.le_of_ble_eq_true rfl) ?_
  intro r u1 h p e s m args below meth c A C0 H locs ls hP hD hS hl
  obtain ⟨hx, hb, hml, hr, hown, hts, hlocks, hA, hK, hN⟩ := id C0
  have hl : lv_has ls 5 [(0, .ref (a5 0)), (1, .int x1), (2, .int x2)] := hl
  unfold f_X5_apply at h
  refine lv_aload_n hx hb dX5_apply_0 rfl (lv_at hl 0 rfl) ?_
  refine lv_iconst (v := 0) hx hb dX5_apply_1 rfl ?_
  refine va_put (D := D) (ci := 5) (v := .int 0) (ty := .int) (C := RX5) (T := TX5) (N := 30) hx hb hts in_X5_apply_X5 tyX5 tyX5_ok nmX5 hown hK hP hD hS 0 rfl rfl 0 (by decide) (hts (.fieldLink RX5 85 "TermLoomModel" "code" "I") (by decide +kernel)) (fun _ h9 => h9) rfl (by decide +kernel) rfl rfl (Nat.le_of_ble_eq_true rfl) dX5_apply_2 (fun H locs hP hD hS => ?_)
  obtain ⟨σ1, eσ1, h⟩ := bn h
  have hP : va_P D vwCl (wX5 a5 cI cZ σ1) H := by rw [eσ1]; exact hP
  have hD : va_D A (wX5 a5 cI cZ σ1) := by rw [eσ1]; exact hD
  refine lv_aload_n hx hb dX5_apply_5 rfl (lv_at hl 0 rfl) ?_
  refine lv_iload_n hx hb dX5_apply_6 rfl (lv_at hl 1 rfl) ?_
  obtain ⟨q2, hq2, h⟩ := ob h
  refine mc_i (ws' := wX5 a5 cI cZ q2.2) (wr := ([] : va_W)) [0, 1, 2, 3, 4, 5, 6, 7, 8, 9, 10, 11, 12, 13, 14, 15, 16, 17, 18, 19, 20, 21, 22] [] [0, 1, 2, 3, 4, 5, 6, 7, 8, 9, 10, 11, 12, 13, 14, 15, 16, 17, 18, 19, 20, 21, 22] (va_runV (As := [.int x1]) (rest := []) ⟨hx, hb, hml, hown, hts⟩ (c_X5_isTerm l D cI cZ a5 N σ1 x1 q2.1 q2.2 hq2 H.size) (cwV 1 hts gX5_apply_X5_isTerm rfl rfl rfl (by decide +kernel) ⟨Nat.le_of_ble_eq_true rfl, Nat.le_of_ble_eq_true rfl⟩) (pV [0, 1, 2, 3, 4, 5, 6, 7, 8, 9, 10, 11, 12, 13, 14, 15, 16, 17, 18, 19, 20, 21, 22] hP hD hK hN rfl rfl rfl rfl) rfl rfl hl.1 rfl (lv_room (Nat.le_of_ble_eq_true rfl)) dX5_apply_7 ⟨Nat.le_of_ble_eq_true rfl, Nat.le_of_ble_eq_true rfl⟩) hP hD hS hA rfl rfl rfl (by decide) rfl rfl (fun H locs hP hD hS => ?_)
  refine lv_if_eq (tgt := 21) hx hb dX5_apply_10 (by decide) (fun hc3 => ?_) (fun hc3 => ?_)
  · rw [if_pos hc3] at h
    exact k_X5_apply_21 C0 N q2.2 _ _ _ hP hD hS (lv_sub hl [0] rfl) h
  · rw [if_neg hc3] at h
    refine lv_aload_n hx hb dX5_apply_13 rfl (lv_at hl 0 rfl) ?_
    refine lv_iload_n hx hb dX5_apply_14 rfl (lv_at hl 2 rfl) ?_
    obtain ⟨q4, hq4, h⟩ := ob h
    refine mc_i (ws' := wX5 a5 cI cZ q4.2) (wr := ([] : va_W)) [0, 1, 2, 3, 4, 5, 6, 7, 8, 9, 10, 11, 12, 13, 14, 15, 16, 17, 18, 19, 20, 21, 22] [] [0, 1, 2, 3, 4, 5, 6, 7, 8, 9, 10, 11, 12, 13, 14, 15, 16, 17, 18, 19, 20, 21, 22] (va_runV (As := [.int x2]) (rest := []) ⟨hx, hb, hml, hown, hts⟩ (c_X5_isTerm l D cI cZ a5 N q2.2 x2 q4.1 q4.2 hq4 H.size) (cwV 1 hts gX5_apply_X5_isTerm rfl rfl rfl (by decide +kernel) ⟨Nat.le_of_ble_eq_true rfl, Nat.le_of_ble_eq_true rfl⟩) (pV [0, 1, 2, 3, 4, 5, 6, 7, 8, 9, 10, 11, 12, 13, 14, 15, 16, 17, 18, 19, 20, 21, 22] hP hD hK hN rfl rfl rfl rfl) rfl rfl hl.1 rfl (lv_room (Nat.le_of_ble_eq_true rfl)) dX5_apply_15 ⟨Nat.le_of_ble_eq_true rfl, Nat.le_of_ble_eq_true rfl⟩) hP hD hS hA rfl rfl rfl (by decide) rfl rfl (fun H locs hP hD hS => ?_)
    refine lv_if_ne (tgt := 27) hx hb dX5_apply_18 (by decide) (fun hc5 => ?_) (fun hc5 => ?_)
    · rw [if_neg hc5] at h
      refine lv_aload_n hx hb dX5_apply_27 rfl (lv_at hl 0 rfl) ?_
      refine lv_iload_n hx hb dX5_apply_28 rfl (lv_at hl 1 rfl) ?_
      obtain ⟨q6, hq6, h⟩ := ob h
      refine mc_i (ws' := wX5 a5 cI cZ q6.2) (wr := ([] : va_W)) [0, 1, 2, 3, 4, 5, 6, 7, 8, 9, 10, 11, 12, 13, 14, 15, 16, 17, 18, 19, 20, 21, 22] [] [0, 1, 2, 3, 4, 5, 6, 7, 8, 9, 10, 11, 12, 13, 14, 15, 16, 17, 18, 19, 20, 21, 22] (va_runV (As := [.int x1]) (rest := []) ⟨hx, hb, hml, hown, hts⟩ (c_X5_topType l D cI cZ a5 N q4.2 x1 q6.1 q6.2 hq6 H.size) (cwV 1 hts gX5_apply_X5_topType rfl rfl rfl (by decide +kernel) ⟨Nat.le_of_ble_eq_true rfl, Nat.le_of_ble_eq_true rfl⟩) (pV [0, 1, 2, 3, 4, 5, 6, 7, 8, 9, 10, 11, 12, 13, 14, 15, 16, 17, 18, 19, 20, 21, 22] hP hD hK hN rfl rfl rfl rfl) rfl rfl hl.1 rfl (lv_room (Nat.le_of_ble_eq_true rfl)) dX5_apply_29 ⟨Nat.le_of_ble_eq_true rfl, Nat.le_of_ble_eq_true rfl⟩) hP hD hS hA rfl rfl rfl (by decide) rfl rfl (fun H locs hP hD hS => ?_)
      refine lv_istore_n (lv' := [(3, .int q6.1), (0, .ref (a5 0)), (1, .int x1), (2, .int x2)]) hx hb dX5_apply_32 rfl hl (by decide) rfl (fun ls hl => ?_)
      refine lv_aload_n hx hb dX5_apply_33 rfl (lv_at hl 1 rfl) ?_
      refine va_get (D := D) (ci := 5) (v := .ref (a5 7)) (C := RX5) (T := TX5) (N := 30) hx hb hts in_X5_apply_X5 hown hK hP 0 rfl rfl 6 (by decide) (hts (.fieldLink RX5 20 "TermLoomModel" "head" "[I") (by decide +kernel)) (fun _ h9 => h9) rfl dX5_apply_34 ?_
      refine lv_iload_n hx hb dX5_apply_37 rfl (lv_at hl 0 rfl) ?_
      by_cases hi : q6.1 < 0 ∨ 16000 ≤ (q6.1).toNatClampNeg
      · rw [if_pos hi] at h; exact no h
      rw [if_neg hi] at h
      refine va_iald (f := (q6.2 6)) hx hb hK hP 3 0 rfl rfl (i := q6.1) hi dX5_apply_38 ?_
      refine lv_iconst (v := 2) hx hb dX5_apply_39 rfl ?_
      refine lv_icmp_ne (tgt := 60) hx hb dX5_apply_40 (by decide) (fun hc7 => ?_) (fun hc7 => ?_)
      · rw [if_neg hc7] at h
        exact k_X5_apply_60 C0 N q6.2 _ _ _ hP hD hS (lv_sub hl [1] rfl) h
      · rw [if_pos hc7] at h
        refine lv_aload_n hx hb dX5_apply_43 rfl (lv_at hl 1 rfl) ?_
        refine va_get (D := D) (ci := 5) (v := .ref (a5 8)) (C := RX5) (T := TX5) (N := 30) hx hb hts in_X5_apply_X5 hown hK hP 0 rfl rfl 7 (by decide) (hts (.fieldLink RX5 23 "TermLoomModel" "left" "[I") (by decide +kernel)) (fun _ h9 => h9) rfl dX5_apply_44 ?_
        refine lv_iload_n hx hb dX5_apply_47 rfl (lv_at hl 0 rfl) ?_
        by_cases hi : q6.1 < 0 ∨ 16000 ≤ (q6.1).toNatClampNeg
        · rw [if_pos hi] at h; exact no h
        rw [if_neg hi] at h
        refine va_iald (f := (q6.2 7)) hx hb hK hP 4 0 rfl rfl (i := q6.1) hi dX5_apply_48 ?_
        refine lv_aload_n hx hb dX5_apply_49 rfl (lv_at hl 1 rfl) ?_
        refine lv_iload_n hx hb dX5_apply_50 rfl (lv_at hl 3 rfl) ?_
        obtain ⟨q8, hq8, h⟩ := ob h
        refine mc_i (ws' := wX5 a5 cI cZ q8.2) (wr := ([] : va_W)) [0, 1, 2, 3, 4, 5, 6, 7, 8, 9, 10, 11, 12, 13, 14, 15, 16, 17, 18, 19, 20, 21, 22] [] [0, 1, 2, 3, 4, 5, 6, 7, 8, 9, 10, 11, 12, 13, 14, 15, 16, 17, 18, 19, 20, 21, 22] (va_runV (As := [.int x2]) (rest := [.int (q6.2 7 (q6.1).toNatClampNeg)]) ⟨hx, hb, hml, hown, hts⟩ (c_X5_topType l D cI cZ a5 N q6.2 x2 q8.1 q8.2 hq8 H.size) (cwV 1 hts gX5_apply_X5_topType rfl rfl rfl (by decide +kernel) ⟨Nat.le_of_ble_eq_true rfl, Nat.le_of_ble_eq_true rfl⟩) (pV [0, 1, 2, 3, 4, 5, 6, 7, 8, 9, 10, 11, 12, 13, 14, 15, 16, 17, 18, 19, 20, 21, 22] hP hD hK hN rfl rfl rfl rfl) rfl rfl hl.1 rfl (lv_room (Nat.le_of_ble_eq_true rfl)) dX5_apply_51 ⟨Nat.le_of_ble_eq_true rfl, Nat.le_of_ble_eq_true rfl⟩) hP hD hS hA rfl rfl rfl (by decide) rfl rfl (fun H locs hP hD hS => ?_)
        obtain ⟨q9, hq9, h⟩ := ob h
        refine mc_i (ws' := wX5 a5 cI cZ q8.2) (wr := ((wX5o a5 cI cZ q8.2) : va_W)) [] [0, 1, 2, 3, 4, 5, 6, 7, 8, 9, 10, 11, 12, 13, 14, 15, 16, 17, 18, 19, 20, 21, 22] [0, 1, 2, 3, 4, 5, 6, 7, 8, 9, 10, 11, 12, 13, 14, 15, 16, 17, 18, 19, 20, 21, 22] (va_runS (As := [.int (q6.2 7 (q6.1).toNatClampNeg), .int q8.1]) (rest := []) ⟨hx, hb, hml, hown, hts⟩ (c_X5_areSameTypes l D cI cZ N (q6.2 7 (q6.1).toNatClampNeg) q8.1 q9.1 q9.2 hq9 H.size) (va_cwS 2 hts gX5_apply_X5_areSameTypes rfl rfl rfl (by decide +kernel) ⟨Nat.le_of_ble_eq_true rfl, Nat.le_of_ble_eq_true rfl⟩) (pS [] hP hD hK hN rfl rfl) rfl rfl hl.1 rfl (lv_room (Nat.le_of_ble_eq_true rfl)) dX5_apply_54 ⟨Nat.le_of_ble_eq_true rfl, Nat.le_of_ble_eq_true rfl⟩) hP hD hS hA rfl rfl rfl (by decide) rfl rfl (fun H locs hP hD hS => ?_)
        refine lv_if_ne (tgt := 66) hx hb dX5_apply_57 (by decide) (fun hc10 => ?_) (fun hc10 => ?_)
        · rw [if_neg hc10] at h
          refine lv_aload_n hx hb dX5_apply_66 rfl (lv_at hl 1 rfl) ?_
          refine lv_aload_n hx hb dX5_apply_67 rfl (lv_at hl 1 rfl) ?_
          refine va_get (D := D) (ci := 5) (v := .ref (a5 20)) (C := RX5) (T := TX5) (N := 30) hx hb hts in_X5_apply_X5 hown hK hP 0 rfl rfl 19 (by decide) (hts (.fieldLink RX5 51 "TermLoomModel" "begin" "[I") (by decide +kernel)) (fun _ h9 => h9) rfl dX5_apply_68 ?_
          refine lv_aload_n hx hb dX5_apply_71 rfl (lv_at hl 1 rfl) ?_
          refine va_get (D := D) (ci := 5) (v := .int (q8.2 18 0)) (C := RX5) (T := TX5) (N := 30) hx hb hts in_X5_apply_X5 hown hK hP 0 rfl rfl 18 (by decide) (hts (.fieldLink RX5 130 "TermLoomModel" "terms" "I") (by decide +kernel)) (fun _ h9 => h9) rfl dX5_apply_72 ?_
          by_cases hi : (q8.2 18 0) < 0 ∨ 4201 ≤ ((q8.2 18 0)).toNatClampNeg
          · rw [if_pos hi] at h; exact no h
          rw [if_neg hi] at h
          refine va_iald (f := (q8.2 19)) hx hb hK hP 13 0 rfl rfl (i := (q8.2 18 0)) hi dX5_apply_75 ?_
          refine lv_iconst (v := (-1)) hx hb dX5_apply_76 rfl ?_
          refine lv_aload_n hx hb dX5_apply_77 rfl (lv_at hl 1 rfl) ?_
          refine va_get (D := D) (ci := 5) (v := .ref (a5 9)) (C := RX5) (T := TX5) (N := 30) hx hb hts in_X5_apply_X5 hown hK hP 0 rfl rfl 8 (by decide) (hts (.fieldLink RX5 26 "TermLoomModel" "right" "[I") (by decide +kernel)) (fun _ h9 => h9) rfl dX5_apply_78 ?_
          refine lv_iload_n hx hb dX5_apply_81 rfl (lv_at hl 0 rfl) ?_
          by_cases hi : q6.1 < 0 ∨ 16000 ≤ (q6.1).toNatClampNeg
          · rw [if_pos hi] at h; exact no h
          rw [if_neg hi] at h
          refine va_iald (f := (q8.2 8)) hx hb hK hP 5 0 rfl rfl (i := q6.1) hi dX5_apply_82 ?_
          obtain ⟨q11, hq11, h⟩ := ob h
          refine mc_i (ws' := wX5 a5 cI cZ q11.2) (wr := ([] : va_W)) [0, 1, 2, 3, 4, 5, 6, 7, 8, 9, 10, 11, 12, 13, 14, 15, 16, 17, 18, 19, 20, 21, 22] [] [0, 1, 2, 3, 4, 5, 6, 7, 8, 9, 10, 11, 12, 13, 14, 15, 16, 17, 18, 19, 20, 21, 22] (va_runV (As := [.int (q8.2 19 ((q8.2 18 0)).toNatClampNeg), .int (-1), .int (q8.2 8 (q6.1).toNatClampNeg)]) (rest := []) ⟨hx, hb, hml, hown, hts⟩ (c_X5_write l D cI cZ a5 N q8.2 (q8.2 19 ((q8.2 18 0)).toNatClampNeg) (-1) (q8.2 8 (q6.1).toNatClampNeg) q11.1 q11.2 hq11 H.size) (cwV 3 hts gX5_apply_X5_write rfl rfl rfl (by decide +kernel) ⟨Nat.le_of_ble_eq_true rfl, Nat.le_of_ble_eq_true rfl⟩) (pV [0, 1, 2, 3, 4, 5, 6, 7, 8, 9, 10, 11, 12, 13, 14, 15, 16, 17, 18, 19, 20, 21, 22] hP hD hK hN rfl rfl rfl rfl) rfl rfl hl.1 rfl (lv_room (Nat.le_of_ble_eq_true rfl)) dX5_apply_83 ⟨Nat.le_of_ble_eq_true rfl, Nat.le_of_ble_eq_true rfl⟩) hP hD hS hA rfl rfl rfl (by decide) rfl rfl (fun H locs hP hD hS => ?_)
          refine lv_istore (lv' := [(4, .int q11.1), (3, .int q6.1), (0, .ref (a5 0)), (1, .int x1), (2, .int x2)]) hx hb dX5_apply_86 hl (by decide) rfl (fun ls hl => ?_)
          refine lv_aload_n hx hb dX5_apply_88 rfl (lv_at hl 2 rfl) ?_
          refine lv_iload hx hb dX5_apply_89 (lv_at hl 0 rfl) ?_
          refine lv_aload_n hx hb dX5_apply_91 rfl (lv_at hl 2 rfl) ?_
          refine va_get (D := D) (ci := 5) (v := .ref (a5 20)) (C := RX5) (T := TX5) (N := 30) hx hb hts in_X5_apply_X5 hown hK hP 0 rfl rfl 19 (by decide) (hts (.fieldLink RX5 51 "TermLoomModel" "begin" "[I") (by decide +kernel)) (fun _ h9 => h9) rfl dX5_apply_92 ?_
          refine lv_iload_n hx hb dX5_apply_95 rfl (lv_at hl 3 rfl) ?_
          by_cases hi : x1 < 0 ∨ 4201 ≤ (x1).toNatClampNeg
          · rw [if_pos hi] at h; exact no h
          rw [if_neg hi] at h
          refine va_iald (f := (q11.2 19)) hx hb hK hP 13 0 rfl rfl (i := x1) hi dX5_apply_96 ?_
          refine lv_aload_n hx hb dX5_apply_97 rfl (lv_at hl 2 rfl) ?_
          refine va_get (D := D) (ci := 5) (v := .ref (a5 20)) (C := RX5) (T := TX5) (N := 30) hx hb hts in_X5_apply_X5 hown hK hP 0 rfl rfl 19 (by decide) (hts (.fieldLink RX5 51 "TermLoomModel" "begin" "[I") (by decide +kernel)) (fun _ h9 => h9) rfl dX5_apply_98 ?_
          refine lv_iload_n hx hb dX5_apply_101 rfl (lv_at hl 3 rfl) ?_
          refine lv_iconst (v := 1) hx hb dX5_apply_102 rfl ?_
          refine lv_iadd hx hb dX5_apply_103 ?_
          by_cases hi : (x1 + 1) < 0 ∨ 4201 ≤ ((x1 + 1)).toNatClampNeg
          · rw [if_pos hi] at h; exact no h
          rw [if_neg hi] at h
          refine va_iald (f := (q11.2 19)) hx hb hK hP 13 0 rfl rfl (i := (x1 + 1)) hi dX5_apply_104 ?_
          obtain ⟨q12, hq12, h⟩ := ob h
          refine mc_i (ws' := wX5 a5 cI cZ q12.2) (wr := ([] : va_W)) [0, 1, 2, 3, 4, 5, 6, 7, 8, 9, 10, 11, 12, 13, 14, 15, 16, 17, 18, 19, 20, 21, 22] [] [0, 1, 2, 3, 4, 5, 6, 7, 8, 9, 10, 11, 12, 13, 14, 15, 16, 17, 18, 19, 20, 21, 22] (va_runV (As := [.int q11.1, .int (q11.2 19 (x1).toNatClampNeg), .int (q11.2 19 ((x1 + 1)).toNatClampNeg)]) (rest := []) ⟨hx, hb, hml, hown, hts⟩ (c_X5_copy l D cI cZ a5 N q11.2 q11.1 (q11.2 19 (x1).toNatClampNeg) (q11.2 19 ((x1 + 1)).toNatClampNeg) q12.1 q12.2 hq12 H.size) (cwV 3 hts gX5_apply_X5_copy rfl rfl rfl (by decide +kernel) ⟨Nat.le_of_ble_eq_true rfl, Nat.le_of_ble_eq_true rfl⟩) (pV [0, 1, 2, 3, 4, 5, 6, 7, 8, 9, 10, 11, 12, 13, 14, 15, 16, 17, 18, 19, 20, 21, 22] hP hD hK hN rfl rfl rfl rfl) rfl rfl hl.1 rfl (lv_room (Nat.le_of_ble_eq_true rfl)) dX5_apply_105 ⟨Nat.le_of_ble_eq_true rfl, Nat.le_of_ble_eq_true rfl⟩) hP hD hS hA rfl rfl rfl (by decide) rfl rfl (fun H locs hP hD hS => ?_)
          refine lv_istore (lv' := [(4, .int q12.1), (3, .int q6.1), (0, .ref (a5 0)), (1, .int x1), (2, .int x2)]) hx hb dX5_apply_108 hl (by decide) rfl (fun ls hl => ?_)
          refine lv_aload_n hx hb dX5_apply_110 rfl (lv_at hl 2 rfl) ?_
          refine lv_aload_n hx hb dX5_apply_111 rfl (lv_at hl 2 rfl) ?_
          refine lv_iload hx hb dX5_apply_112 (lv_at hl 0 rfl) ?_
          refine lv_aload_n hx hb dX5_apply_114 rfl (lv_at hl 2 rfl) ?_
          refine va_get (D := D) (ci := 5) (v := .ref (a5 20)) (C := RX5) (T := TX5) (N := 30) hx hb hts in_X5_apply_X5 hown hK hP 0 rfl rfl 19 (by decide) (hts (.fieldLink RX5 51 "TermLoomModel" "begin" "[I") (by decide +kernel)) (fun _ h9 => h9) rfl dX5_apply_115 ?_
          refine lv_iload_n hx hb dX5_apply_118 rfl (lv_at hl 4 rfl) ?_
          by_cases hi : x2 < 0 ∨ 4201 ≤ (x2).toNatClampNeg
          · rw [if_pos hi] at h; exact no h
          rw [if_neg hi] at h
          refine va_iald (f := (q12.2 19)) hx hb hK hP 13 0 rfl rfl (i := x2) hi dX5_apply_119 ?_
          refine lv_aload_n hx hb dX5_apply_120 rfl (lv_at hl 2 rfl) ?_
          refine va_get (D := D) (ci := 5) (v := .ref (a5 20)) (C := RX5) (T := TX5) (N := 30) hx hb hts in_X5_apply_X5 hown hK hP 0 rfl rfl 19 (by decide) (hts (.fieldLink RX5 51 "TermLoomModel" "begin" "[I") (by decide +kernel)) (fun _ h9 => h9) rfl dX5_apply_121 ?_
          refine lv_iload_n hx hb dX5_apply_124 rfl (lv_at hl 4 rfl) ?_
          refine lv_iconst (v := 1) hx hb dX5_apply_125 rfl ?_
          refine lv_iadd hx hb dX5_apply_126 ?_
          by_cases hi : (x2 + 1) < 0 ∨ 4201 ≤ ((x2 + 1)).toNatClampNeg
          · rw [if_pos hi] at h; exact no h
          rw [if_neg hi] at h
          refine va_iald (f := (q12.2 19)) hx hb hK hP 13 0 rfl rfl (i := (x2 + 1)) hi dX5_apply_127 ?_
          obtain ⟨q13, hq13, h⟩ := ob h
          refine mc_i (ws' := wX5 a5 cI cZ q13.2) (wr := ([] : va_W)) [0, 1, 2, 3, 4, 5, 6, 7, 8, 9, 10, 11, 12, 13, 14, 15, 16, 17, 18, 19, 20, 21, 22] [] [0, 1, 2, 3, 4, 5, 6, 7, 8, 9, 10, 11, 12, 13, 14, 15, 16, 17, 18, 19, 20, 21, 22] (va_runV (As := [.int q12.1, .int (q12.2 19 (x2).toNatClampNeg), .int (q12.2 19 ((x2 + 1)).toNatClampNeg)]) (rest := [.ref (a5 0)]) ⟨hx, hb, hml, hown, hts⟩ (c_X5_copy l D cI cZ a5 N q12.2 q12.1 (q12.2 19 (x2).toNatClampNeg) (q12.2 19 ((x2 + 1)).toNatClampNeg) q13.1 q13.2 hq13 H.size) (cwV 3 hts gX5_apply_X5_copy rfl rfl rfl (by decide +kernel) ⟨Nat.le_of_ble_eq_true rfl, Nat.le_of_ble_eq_true rfl⟩) (pV [0, 1, 2, 3, 4, 5, 6, 7, 8, 9, 10, 11, 12, 13, 14, 15, 16, 17, 18, 19, 20, 21, 22] hP hD hK hN rfl rfl rfl rfl) rfl rfl hl.1 rfl (lv_room (Nat.le_of_ble_eq_true rfl)) dX5_apply_128 ⟨Nat.le_of_ble_eq_true rfl, Nat.le_of_ble_eq_true rfl⟩) hP hD hS hA rfl rfl rfl (by decide) rfl rfl (fun H locs hP hD hS => ?_)
          refine lv_iconst (v := 3) hx hb dX5_apply_131 rfl ?_
          obtain ⟨q14, hq14, h⟩ := ob h
          refine mc_i (ws' := wX5 a5 cI cZ q14.2) (wr := ([] : va_W)) [0, 1, 2, 3, 4, 5, 6, 7, 8, 9, 10, 11, 12, 13, 14, 15, 16, 17, 18, 19, 20, 21, 22] [] [0, 1, 2, 3, 4, 5, 6, 7, 8, 9, 10, 11, 12, 13, 14, 15, 16, 17, 18, 19, 20, 21, 22] (va_runV (As := [.int q13.1, .int 3]) (rest := []) ⟨hx, hb, hml, hown, hts⟩ (c_X5_finish l D cI cZ a5 N q13.2 q13.1 3 q14.1 q14.2 hq14 H.size) (cwV 2 hts gX5_apply_X5_finish rfl rfl rfl (by decide +kernel) ⟨Nat.le_of_ble_eq_true rfl, Nat.le_of_ble_eq_true rfl⟩) (pV [0, 1, 2, 3, 4, 5, 6, 7, 8, 9, 10, 11, 12, 13, 14, 15, 16, 17, 18, 19, 20, 21, 22] hP hD hK hN rfl rfl rfl rfl) rfl rfl hl.1 rfl (lv_room (Nat.le_of_ble_eq_true rfl)) dX5_apply_132 ⟨Nat.le_of_ble_eq_true rfl, Nat.le_of_ble_eq_true rfl⟩) hP hD hS hA rfl rfl rfl (by decide) rfl rfl (fun H locs hP hD hS => ?_)
          obtain ⟨rfl, rfl⟩ := so h
          exact ret_i C0 hP hD hS dX5_apply_135
        · rw [if_pos hc10] at h
          exact k_X5_apply_60 C0 N q8.2 _ _ _ hP hD hS (lv_sub hl [1] rfl) h
    · rw [if_pos hc5] at h
      exact k_X5_apply_21 C0 N q4.2 _ _ _ hP hD hS (lv_sub hl [0] rfl) h

theorem in_X5_isVariable_X5 : ∀ w ∈ u_ws RX5 TX5 30, w ∈ wsX5_isVariable := by decide +kernel
def f_X5_isVariable_28 (N : Nat) (σ : St) (s0 : Int32) : Option (Int32 × St) := if s0 = 0 ∨ s0 = 1 then some (s0, σ) else none
def f_X5_isVariable_27 (N : Nat) (σ : St) : Option (Int32 × St) := f_X5_isVariable_28 N σ 0
def f_X5_isVariable (N : Nat) (σ : St) (x1 x2 x3 : Int32) : Option (Int32 × St) := if x1 < 0 ∨ 34100 ≤ (x1).toNatClampNeg then none else if (σ 20 (x1).toNatClampNeg) = x2 then if x1 < 0 ∨ 34100 ≤ (x1).toNatClampNeg then none else (f_X5_areSameTypes N (σ 21 (x1).toNatClampNeg) x3).bind (fun q2 => if q2.1 = 0 then f_X5_isVariable_27 N σ else f_X5_isVariable_28 N σ 1) else f_X5_isVariable_27 N σ
abbrev KP_X5_isVariable_28 (p : Program) (l : Launch) (e : Env) (s : State) (m : MethodId) (args : Array Value) (below : List Frame) (meth : Method) (c : Code) (D : va_G) (cI cZ : ClassId) (a5 : Nat → Nat) (A : Nat → Prop) (r : Int32) (u1 : St) (K : St → Int32 → Option (Int32 × St)) : Prop := ∀ (σ : St) (s0 : Int32) (H : Heap) (locs : List Loc) (ls : Array Slot), va_P D vwCl (wX5 a5 cI cZ σ) H → va_D A (wX5 a5 cI cZ σ) → va_S A s.heap H locs → lv_has ls 4 [] → K σ s0 = some (r, u1) → W p l e ({ frames := 1, cells := 0, slots := 0, locals := 21 } : Room) s m args below meth c H locs 0 0 (QI below args s D cI cZ (wX5 a5 cI cZ) A r u1) (F0 m 28 ls [.int s0])
abbrev KP_X5_isVariable_27 (p : Program) (l : Launch) (e : Env) (s : State) (m : MethodId) (args : Array Value) (below : List Frame) (meth : Method) (c : Code) (D : va_G) (cI cZ : ClassId) (a5 : Nat → Nat) (A : Nat → Prop) (r : Int32) (u1 : St) (K : St → Option (Int32 × St)) : Prop := ∀ (σ : St) (H : Heap) (locs : List Loc) (ls : Array Slot), va_P D vwCl (wX5 a5 cI cZ σ) H → va_D A (wX5 a5 cI cZ σ) → va_S A s.heap H locs → lv_has ls 4 [] → K σ = some (r, u1) → W p l e ({ frames := 1, cells := 0, slots := 0, locals := 21 } : Room) s m args below meth c H locs 0 0 (QI below args s D cI cZ (wX5 a5 cI cZ) A r u1) (F0 m 27 ls [])
set_option maxHeartbeats 4000000 in
set_option maxRecDepth 100000 in
theorem k_X5_isVariable_28 {p : Program} {l : Launch} {e : Env} {s : State} {m : MethodId} {args : Array Value} {below : List Frame} {meth : Method} {c : Code} {D : va_G} {cI cZ : ClassId} {a5 : Nat → Nat} {A : Nat → Prop} {r : Int32} {u1 : St} (C0 : mB p s m args meth c D cI cZ A cX5_isVariable 4 (some .boolean) wsX5_isVariable RX5) (N : Nat) : KP_X5_isVariable_28 p l e s m args below meth c D cI cZ a5 A r u1 (f_X5_isVariable_28 N) := by
  obtain ⟨hx, hb, hml, hr, hown, hts, hlocks, hA, hK, hN⟩ := id C0
  intro σ s0 H locs ls hP hD hS hl h
  unfold f_X5_isVariable_28 at h
  by_cases hz : s0 = 0 ∨ s0 = 1
  · rw [if_pos hz] at h
    obtain ⟨rfl, rfl⟩ := so h
    exact ret_z C0 hz hP hD hS dX5_isVariable_28
  · rw [if_neg hz] at h; exact no h
set_option maxHeartbeats 4000000 in
set_option maxRecDepth 100000 in
theorem k_X5_isVariable_27 {p : Program} {l : Launch} {e : Env} {s : State} {m : MethodId} {args : Array Value} {below : List Frame} {meth : Method} {c : Code} {D : va_G} {cI cZ : ClassId} {a5 : Nat → Nat} {A : Nat → Prop} {r : Int32} {u1 : St} (C0 : mB p s m args meth c D cI cZ A cX5_isVariable 4 (some .boolean) wsX5_isVariable RX5) (N : Nat) : KP_X5_isVariable_27 p l e s m args below meth c D cI cZ a5 A r u1 (f_X5_isVariable_27 N) := by
  obtain ⟨hx, hb, hml, hr, hown, hts, hlocks, hA, hK, hN⟩ := id C0
  intro σ H locs ls hP hD hS hl h
  unfold f_X5_isVariable_27 at h
  refine lv_iconst (v := 0) hx hb dX5_isVariable_27 rfl ?_
  exact k_X5_isVariable_28 C0 N σ 0 _ _ _ hP hD hS (lv_sub hl [] rfl) h
set_option maxHeartbeats 4000000 in
set_option maxRecDepth 100000 in
theorem c_X5_isVariable (l : Launch) (D : va_G) (cI cZ : ClassId) (a5 : Nat → Nat) (N : Nat) (σ : St) (x1 x2 x3 : Int32) : MI l yX5_isVariable wsX5_isVariable ({ frames := 1, cells := 0, slots := 0, locals := 21 } : Room) D cI cZ (wX5 a5 cI cZ) [.ref (a5 0), .int x1, .int x2, .int x3] σ (f_X5_isVariable N σ x1 x2 x3) := by
  refine MI.of (cc := cX5_isVariable) (maxL := 4) (ret := (some .boolean)) (own := RX5) (by decide) rfl rfl (Nat.le_of_ble_eq_true rfl) ?_
  intro r u1 h p e s m args below meth c A C0 H locs ls hP hD hS hl
  obtain ⟨hx, hb, hml, hr, hown, hts, hlocks, hA, hK, hN⟩ := id C0
  have hl : lv_has ls 4 [(0, .ref (a5 0)), (1, .int x1), (2, .int x2), (3, .int x3)] := hl
  unfold f_X5_isVariable at h
  refine lv_aload_n hx hb dX5_isVariable_0 rfl (lv_at hl 0 rfl) ?_
  refine va_get (D := D) (ci := 5) (v := .ref (a5 21)) (C := RX5) (T := TX5) (N := 30) hx hb hts in_X5_isVariable_X5 hown hK hP 0 rfl rfl 20 (by decide) (hts (.fieldLink RX5 55 "TermLoomModel" "symbol" "[I") (by decide +kernel)) (fun _ h9 => h9) rfl dX5_isVariable_1 ?_
  refine lv_iload_n hx hb dX5_isVariable_4 rfl (lv_at hl 1 rfl) ?_
  by_cases hi : x1 < 0 ∨ 34100 ≤ (x1).toNatClampNeg
  · rw [if_pos hi] at h; exact no h
  rw [if_neg hi] at h
  refine va_iald (f := (σ 20)) hx hb hK hP 14 0 rfl rfl (i := x1) hi dX5_isVariable_5 ?_
  refine lv_iload_n hx hb dX5_isVariable_6 rfl (lv_at hl 2 rfl) ?_
  refine lv_icmp_ne (tgt := 27) hx hb dX5_isVariable_7 (by decide) (fun hc1 => ?_) (fun hc1 => ?_)
  · rw [if_neg hc1] at h
    exact k_X5_isVariable_27 C0 N σ _ _ _ hP hD hS (lv_sub hl [] rfl) h
  · rw [if_pos hc1] at h
    refine lv_aload_n hx hb dX5_isVariable_10 rfl (lv_at hl 0 rfl) ?_
    refine va_get (D := D) (ci := 5) (v := .ref (a5 22)) (C := RX5) (T := TX5) (N := 30) hx hb hts in_X5_isVariable_X5 hown hK hP 0 rfl rfl 21 (by decide) (hts (.fieldLink RX5 58 "TermLoomModel" "type" "[I") (by decide +kernel)) (fun _ h9 => h9) rfl dX5_isVariable_11 ?_
    refine lv_iload_n hx hb dX5_isVariable_14 rfl (lv_at hl 1 rfl) ?_
    by_cases hi : x1 < 0 ∨ 34100 ≤ (x1).toNatClampNeg
    · rw [if_pos hi] at h; exact no h
    rw [if_neg hi] at h
    refine va_iald (f := (σ 21)) hx hb hK hP 15 0 rfl rfl (i := x1) hi dX5_isVariable_15 ?_
    refine lv_iload_n hx hb dX5_isVariable_16 rfl (lv_at hl 3 rfl) ?_
    obtain ⟨q2, hq2, h⟩ := ob h
    refine mc_i (ws' := wX5 a5 cI cZ σ) (wr := ((wX5o a5 cI cZ σ) : va_W)) [] [0, 1, 2, 3, 4, 5, 6, 7, 8, 9, 10, 11, 12, 13, 14, 15, 16, 17, 18, 19, 20, 21, 22] [0, 1, 2, 3, 4, 5, 6, 7, 8, 9, 10, 11, 12, 13, 14, 15, 16, 17, 18, 19, 20, 21, 22] (va_runS (As := [.int (σ 21 (x1).toNatClampNeg), .int x3]) (rest := []) ⟨hx, hb, hml, hown, hts⟩ (c_X5_areSameTypes l D cI cZ N (σ 21 (x1).toNatClampNeg) x3 q2.1 q2.2 hq2 H.size) (va_cwS 2 hts gX5_isVariable_X5_areSameTypes rfl rfl rfl (by decide +kernel) ⟨Nat.le_of_ble_eq_true rfl, Nat.le_of_ble_eq_true rfl⟩) (pS [] hP hD hK hN rfl rfl) rfl rfl hl.1 rfl (lv_room (Nat.le_of_ble_eq_true rfl)) dX5_isVariable_17 ⟨Nat.le_of_ble_eq_true rfl, Nat.le_of_ble_eq_true rfl⟩) hP hD hS hA rfl rfl rfl (by decide) rfl rfl (fun H locs hP hD hS => ?_)
    refine lv_if_eq (tgt := 27) hx hb dX5_isVariable_20 (by decide) (fun hc3 => ?_) (fun hc3 => ?_)
    · rw [if_pos hc3] at h
      exact k_X5_isVariable_27 C0 N σ _ _ _ hP hD hS (lv_sub hl [] rfl) h
    · rw [if_neg hc3] at h
      refine lv_iconst (v := 1) hx hb dX5_isVariable_23 rfl ?_
      refine lv_goto (tgt := 28) hx hb dX5_isVariable_24 (by decide) ?_
      exact k_X5_isVariable_28 C0 N σ 1 _ _ _ hP hD hS (lv_sub hl [] rfl) h

theorem in_X5_abstraction_X5 : ∀ w ∈ u_ws RX5 TX5 30, w ∈ wsX5_abstraction := by decide +kernel
def f_X5_abstraction_21 (N : Nat) (σ : St) : Option (Int32 × St) := (f_X5_fail N σ 1).bind (fun q1 => some (q1.1, q1.2))
def f_X5_abstraction_287 (N : Nat) (σ : St) (x8 : Int32) : Option (Int32 × St) := some (x8, σ)
def f_X5_abstraction_272 (N : Nat) (σ : St) (x4 s0 : Int32) : Option (Int32 × St) := if (σ 0 0) ≤ 0 then f_X5_abstraction_287 N σ s0 else (f_X5_cut N σ x4).bind (fun q2 => f_X5_abstraction_287 N q2 s0)
def f_X5_abstraction_267 (N : Nat) (σ : St) (x4 : Int32) : Option (Int32 × St) := (f_X5_fail N σ 3).bind (fun q1 => f_X5_abstraction_272 N q1.2 x4 q1.1)
def f_X5_abstraction_232 (N : Nat) (k106 : St → Int32 → Int32 → Int32 → Int32 → Int32 → Int32 → Int32 → Int32 → Option (Int32 × St)) (σ : St) (x1 x2 x3 x4 x5 x6 x7 x8 : Int32) : Option (Int32 × St) := k106 σ x1 x2 x3 x4 x5 x6 x7 (x8 + 1)
def f_X5_abstraction_199 (N : Nat) (k106 : St → Int32 → Int32 → Int32 → Int32 → Int32 → Int32 → Int32 → Int32 → Option (Int32 × St)) (σ : St) (x1 x2 x3 x4 x5 x7 x8 s0 : Int32) : Option (Int32 × St) := if x8 < 0 ∨ 34100 ≤ (x8).toNatClampNeg then none else if (σ 20 (x8).toNatClampNeg) = (-2) then (f_X5_endOf N σ x8).bind (fun q2 => if x7 < 0 ∨ 130 ≤ (x7).toNatClampNeg then none else bnd (up2 q2.2 24 (x7).toNatClampNeg q2.1) (fun σ3 => f_X5_abstraction_232 N k106 σ3 x1 x2 x3 x4 x5 s0 (x7 + 1) x8)) else f_X5_abstraction_232 N k106 σ x1 x2 x3 x4 x5 s0 x7 x8
def f_X5_abstraction_144 (N : Nat) (k106 : St → Int32 → Int32 → Int32 → Int32 → Int32 → Int32 → Int32 → Int32 → Option (Int32 × St)) (σ : St) (x1 x2 x3 x4 x5 x6 x7 x8 : Int32) : Option (Int32 × St) := (f_X5_topType N σ x1).bind (fun q1 => (f_X5_isVariable N q1.2 x8 x3 q1.1).bind (fun q2 => if q2.1 = 0 then if x8 < 0 ∨ 34100 ≤ (x8).toNatClampNeg then none else if x8 < 0 ∨ 34100 ≤ (x8).toNatClampNeg then none else (f_X5_write N q2.2 x6 (q2.2 20 (x8).toNatClampNeg) (q2.2 21 (x8).toNatClampNeg)).bind (fun q4 => f_X5_abstraction_199 N k106 q4.2 x1 x2 x3 x4 x5 x7 x8 q4.1) else if x8 < 0 ∨ 34100 ≤ (x8).toNatClampNeg then none else (f_X5_write N q2.2 x6 (4 * x7) (q2.2 21 (x8).toNatClampNeg)).bind (fun q5 => f_X5_abstraction_199 N k106 q5.2 x1 x2 x3 x4 x5 x7 x8 q5.1)))
def f_X5_abstraction_119 (N : Nat) (k106 : St → Int32 → Int32 → Int32 → Int32 → Int32 → Int32 → Int32 → Int32 → Option (Int32 × St)) : Nat → St → Int32 → Int32 → Int32 → Int32 → Int32 → Int32 → Int32 → Int32 → Option (Int32 × St)
  | 0, _, _, _, _, _, _, _, _, _ => none
  | n + 1, σ, x1, x2, x3, x4, x5, x6, x7, x8 => if x7 ≤ 0 then f_X5_abstraction_144 N k106 σ x1 x2 x3 x4 x5 x6 x7 x8 else if (x7 - 1) < 0 ∨ 130 ≤ ((x7 - 1)).toNatClampNeg then none else if x8 < (σ 24 ((x7 - 1)).toNatClampNeg) then f_X5_abstraction_144 N k106 σ x1 x2 x3 x4 x5 x6 x7 x8 else f_X5_abstraction_119 N k106 n σ x1 x2 x3 x4 x5 x6 (x7 + (-1)) x8
def f_X5_abstraction_106 (N : Nat) : Nat → St → Int32 → Int32 → Int32 → Int32 → Int32 → Int32 → Int32 → Int32 → Option (Int32 × St)
  | 0, _, _, _, _, _, _, _, _, _ => none
  | n + 1, σ, x1, x2, x3, x4, x5, x6, x7, x8 => if (x2 + 1) < 0 ∨ 4201 ≤ ((x2 + 1)).toNatClampNeg then none else if (σ 19 ((x2 + 1)).toNatClampNeg) ≤ x8 then (f_X5_isSmall N σ x5).bind (fun q2 => if q2.1 = 0 then f_X5_abstraction_267 N q2.2 x4 else if 8000 < (q2.2 5 0) then f_X5_abstraction_267 N q2.2 x4 else (f_X5_finish N q2.2 x6 3).bind (fun q5 => f_X5_abstraction_272 N q5.2 x4 q5.1)) else f_X5_abstraction_119 N (f_X5_abstraction_106 N n) N σ x1 x2 x3 x4 x5 x6 x7 x8
def f_X5_abstraction (N : Nat) (σ : St) (x1 x2 : Int32) : Option (Int32 × St) := bnd (up2 σ 0 0 0) (fun σ1 => (f_X5_isTerm N σ1 x1).bind (fun q2 => if q2.1 = 0 then f_X5_abstraction_21 N q2.2 else (f_X5_isTerm N q2.2 x2).bind (fun q4 => if q4.1 = 0 then f_X5_abstraction_21 N q4.2 else (f_X5_isFree N q4.2 x1).bind (fun q6 => if q6.1 = 0 then (f_X5_fail N q6.2 2).bind (fun q12 => some (q12.1, q12.2)) else if x1 < 0 ∨ 4201 ≤ (x1).toNatClampNeg then none else if (q6.2 19 (x1).toNatClampNeg) < 0 ∨ 34100 ≤ ((q6.2 19 (x1).toNatClampNeg)).toNatClampNeg then none else (f_X5_topType N q6.2 x1).bind (fun q8 => (f_X5_topType N q8.2 x2).bind (fun q9 => (f_X5_node N q9.2 2 q8.1 q9.1).bind (fun q10 => if (q10.2 18 0) < 0 ∨ 4201 ≤ ((q10.2 18 0)).toNatClampNeg then none else (f_X5_write N q10.2 (q10.2 19 ((q10.2 18 0)).toNatClampNeg) (-2) q10.1).bind (fun q11 => if x2 < 0 ∨ 4201 ≤ (x2).toNatClampNeg then none else f_X5_abstraction_106 N N q11.2 x1 x2 (q6.2 20 ((q6.2 19 (x1).toNatClampNeg)).toNatClampNeg) (q6.2 5 0) q10.1 q11.1 0 (q11.2 19 (x2).toNatClampNeg)))))))))
abbrev KP_X5_abstraction_21 (p : Program) (l : Launch) (e : Env) (s : State) (m : MethodId) (args : Array Value) (below : List Frame) (meth : Method) (c : Code) (D : va_G) (cI cZ : ClassId) (a5 : Nat → Nat) (A : Nat → Prop) (r : Int32) (u1 : St) (K : St → Option (Int32 × St)) : Prop := ∀ (σ : St) (H : Heap) (locs : List Loc) (ls : Array Slot), va_P D vwCl (wX5 a5 cI cZ σ) H → va_D A (wX5 a5 cI cZ σ) → va_S A s.heap H locs → lv_has ls 9 [(0, .ref (a5 0))] → K σ = some (r, u1) → W p l e ({ frames := 4, cells := 0, slots := 0, locals := 93 } : Room) s m args below meth c H locs 0 0 (QI below args s D cI cZ (wX5 a5 cI cZ) A r u1) (F0 m 21 ls [])
abbrev KP_X5_abstraction_287 (p : Program) (l : Launch) (e : Env) (s : State) (m : MethodId) (args : Array Value) (below : List Frame) (meth : Method) (c : Code) (D : va_G) (cI cZ : ClassId) (a5 : Nat → Nat) (A : Nat → Prop) (r : Int32) (u1 : St) (K : St → Int32 → Option (Int32 × St)) : Prop := ∀ (σ : St) (x8 : Int32) (H : Heap) (locs : List Loc) (ls : Array Slot), va_P D vwCl (wX5 a5 cI cZ σ) H → va_D A (wX5 a5 cI cZ σ) → va_S A s.heap H locs → lv_has ls 9 [(8, .int x8)] → K σ x8 = some (r, u1) → W p l e ({ frames := 4, cells := 0, slots := 0, locals := 93 } : Room) s m args below meth c H locs 0 0 (QI below args s D cI cZ (wX5 a5 cI cZ) A r u1) (F0 m 287 ls [])
abbrev KP_X5_abstraction_272 (p : Program) (l : Launch) (e : Env) (s : State) (m : MethodId) (args : Array Value) (below : List Frame) (meth : Method) (c : Code) (D : va_G) (cI cZ : ClassId) (a5 : Nat → Nat) (A : Nat → Prop) (r : Int32) (u1 : St) (K : St → Int32 → Int32 → Option (Int32 × St)) : Prop := ∀ (σ : St) (x4 s0 : Int32) (H : Heap) (locs : List Loc) (ls : Array Slot), va_P D vwCl (wX5 a5 cI cZ σ) H → va_D A (wX5 a5 cI cZ σ) → va_S A s.heap H locs → lv_has ls 9 [(0, .ref (a5 0)), (4, .int x4)] → K σ x4 s0 = some (r, u1) → W p l e ({ frames := 4, cells := 0, slots := 0, locals := 93 } : Room) s m args below meth c H locs 0 0 (QI below args s D cI cZ (wX5 a5 cI cZ) A r u1) (F0 m 272 ls [.int s0])
abbrev KP_X5_abstraction_267 (p : Program) (l : Launch) (e : Env) (s : State) (m : MethodId) (args : Array Value) (below : List Frame) (meth : Method) (c : Code) (D : va_G) (cI cZ : ClassId) (a5 : Nat → Nat) (A : Nat → Prop) (r : Int32) (u1 : St) (K : St → Int32 → Option (Int32 × St)) : Prop := ∀ (σ : St) (x4 : Int32) (H : Heap) (locs : List Loc) (ls : Array Slot), va_P D vwCl (wX5 a5 cI cZ σ) H → va_D A (wX5 a5 cI cZ σ) → va_S A s.heap H locs → lv_has ls 9 [(0, .ref (a5 0)), (4, .int x4)] → K σ x4 = some (r, u1) → W p l e ({ frames := 4, cells := 0, slots := 0, locals := 93 } : Room) s m args below meth c H locs 0 0 (QI below args s D cI cZ (wX5 a5 cI cZ) A r u1) (F0 m 267 ls [])
abbrev KP_X5_abstraction_232 (p : Program) (l : Launch) (e : Env) (s : State) (m : MethodId) (args : Array Value) (below : List Frame) (meth : Method) (c : Code) (D : va_G) (cI cZ : ClassId) (a5 : Nat → Nat) (A : Nat → Prop) (r : Int32) (u1 : St) (K : St → Int32 → Int32 → Int32 → Int32 → Int32 → Int32 → Int32 → Int32 → Option (Int32 × St)) : Prop := ∀ (σ : St) (x1 x2 x3 x4 x5 x6 x7 x8 : Int32) (H : Heap) (locs : List Loc) (ls : Array Slot), va_P D vwCl (wX5 a5 cI cZ σ) H → va_D A (wX5 a5 cI cZ σ) → va_S A s.heap H locs → lv_has ls 9 [(0, .ref (a5 0)), (1, .int x1), (2, .int x2), (3, .int x3), (4, .int x4), (5, .int x5), (6, .int x6), (7, .int x7), (8, .int x8)] → K σ x1 x2 x3 x4 x5 x6 x7 x8 = some (r, u1) → W p l e ({ frames := 4, cells := 0, slots := 0, locals := 93 } : Room) s m args below meth c H locs 0 0 (QI below args s D cI cZ (wX5 a5 cI cZ) A r u1) (F0 m 232 ls [])
abbrev KP_X5_abstraction_199 (p : Program) (l : Launch) (e : Env) (s : State) (m : MethodId) (args : Array Value) (below : List Frame) (meth : Method) (c : Code) (D : va_G) (cI cZ : ClassId) (a5 : Nat → Nat) (A : Nat → Prop) (r : Int32) (u1 : St) (K : St → Int32 → Int32 → Int32 → Int32 → Int32 → Int32 → Int32 → Int32 → Option (Int32 × St)) : Prop := ∀ (σ : St) (x1 x2 x3 x4 x5 x7 x8 s0 : Int32) (H : Heap) (locs : List Loc) (ls : Array Slot), va_P D vwCl (wX5 a5 cI cZ σ) H → va_D A (wX5 a5 cI cZ σ) → va_S A s.heap H locs → lv_has ls 9 [(0, .ref (a5 0)), (1, .int x1), (2, .int x2), (3, .int x3), (4, .int x4), (5, .int x5), (7, .int x7), (8, .int x8)] → K σ x1 x2 x3 x4 x5 x7 x8 s0 = some (r, u1) → W p l e ({ frames := 4, cells := 0, slots := 0, locals := 93 } : Room) s m args below meth c H locs 0 0 (QI below args s D cI cZ (wX5 a5 cI cZ) A r u1) (F0 m 199 ls [.int s0])
abbrev KP_X5_abstraction_144 (p : Program) (l : Launch) (e : Env) (s : State) (m : MethodId) (args : Array Value) (below : List Frame) (meth : Method) (c : Code) (D : va_G) (cI cZ : ClassId) (a5 : Nat → Nat) (A : Nat → Prop) (r : Int32) (u1 : St) (K : St → Int32 → Int32 → Int32 → Int32 → Int32 → Int32 → Int32 → Int32 → Option (Int32 × St)) : Prop := ∀ (σ : St) (x1 x2 x3 x4 x5 x6 x7 x8 : Int32) (H : Heap) (locs : List Loc) (ls : Array Slot), va_P D vwCl (wX5 a5 cI cZ σ) H → va_D A (wX5 a5 cI cZ σ) → va_S A s.heap H locs → lv_has ls 9 [(0, .ref (a5 0)), (1, .int x1), (2, .int x2), (3, .int x3), (4, .int x4), (5, .int x5), (6, .int x6), (7, .int x7), (8, .int x8)] → K σ x1 x2 x3 x4 x5 x6 x7 x8 = some (r, u1) → W p l e ({ frames := 4, cells := 0, slots := 0, locals := 93 } : Room) s m args below meth c H locs 0 0 (QI below args s D cI cZ (wX5 a5 cI cZ) A r u1) (F0 m 144 ls [])
abbrev KP_X5_abstraction_119 (p : Program) (l : Launch) (e : Env) (s : State) (m : MethodId) (args : Array Value) (below : List Frame) (meth : Method) (c : Code) (D : va_G) (cI cZ : ClassId) (a5 : Nat → Nat) (A : Nat → Prop) (r : Int32) (u1 : St) (K : St → Int32 → Int32 → Int32 → Int32 → Int32 → Int32 → Int32 → Int32 → Option (Int32 × St)) : Prop := ∀ (σ : St) (x1 x2 x3 x4 x5 x6 x7 x8 : Int32) (H : Heap) (locs : List Loc) (ls : Array Slot), va_P D vwCl (wX5 a5 cI cZ σ) H → va_D A (wX5 a5 cI cZ σ) → va_S A s.heap H locs → lv_has ls 9 [(0, .ref (a5 0)), (1, .int x1), (2, .int x2), (3, .int x3), (4, .int x4), (5, .int x5), (6, .int x6), (7, .int x7), (8, .int x8)] → K σ x1 x2 x3 x4 x5 x6 x7 x8 = some (r, u1) → W p l e ({ frames := 4, cells := 0, slots := 0, locals := 93 } : Room) s m args below meth c H locs 0 0 (QI below args s D cI cZ (wX5 a5 cI cZ) A r u1) (F0 m 119 ls [])
abbrev KP_X5_abstraction_106 (p : Program) (l : Launch) (e : Env) (s : State) (m : MethodId) (args : Array Value) (below : List Frame) (meth : Method) (c : Code) (D : va_G) (cI cZ : ClassId) (a5 : Nat → Nat) (A : Nat → Prop) (r : Int32) (u1 : St) (K : St → Int32 → Int32 → Int32 → Int32 → Int32 → Int32 → Int32 → Int32 → Option (Int32 × St)) : Prop := ∀ (σ : St) (x1 x2 x3 x4 x5 x6 x7 x8 : Int32) (H : Heap) (locs : List Loc) (ls : Array Slot), va_P D vwCl (wX5 a5 cI cZ σ) H → va_D A (wX5 a5 cI cZ σ) → va_S A s.heap H locs → lv_has ls 9 [(0, .ref (a5 0)), (1, .int x1), (2, .int x2), (3, .int x3), (4, .int x4), (5, .int x5), (6, .int x6), (7, .int x7), (8, .int x8)] → K σ x1 x2 x3 x4 x5 x6 x7 x8 = some (r, u1) → W p l e ({ frames := 4, cells := 0, slots := 0, locals := 93 } : Room) s m args below meth c H locs 0 0 (QI below args s D cI cZ (wX5 a5 cI cZ) A r u1) (F0 m 106 ls [])
set_option maxHeartbeats 4000000 in
set_option maxRecDepth 100000 in
theorem k_X5_abstraction_21 {p : Program} {l : Launch} {e : Env} {s : State} {m : MethodId} {args : Array Value} {below : List Frame} {meth : Method} {c : Code} {D : va_G} {cI cZ : ClassId} {a5 : Nat → Nat} {A : Nat → Prop} {r : Int32} {u1 : St} (C0 : mB p s m args meth c D cI cZ A cX5_abstraction 9 (some .int) wsX5_abstraction RX5) (N : Nat) : KP_X5_abstraction_21 p l e s m args below meth c D cI cZ a5 A r u1 (f_X5_abstraction_21 N) := by
  obtain ⟨hx, hb, hml, hr, hown, hts, hlocks, hA, hK, hN⟩ := id C0
  intro σ H locs ls hP hD hS hl h
  unfold f_X5_abstraction_21 at h
  refine lv_aload_n hx hb dX5_abstraction_21 rfl (lv_at hl 0 rfl) ?_
  refine lv_iconst (v := 1) hx hb dX5_abstraction_22 rfl ?_
  obtain ⟨q1, hq1, h⟩ := ob h
  refine mc_i (ws' := wX5 a5 cI cZ q1.2) (wr := ([] : va_W)) [0, 1, 2, 3, 4, 5, 6, 7, 8, 9, 10, 11, 12, 13, 14, 15, 16, 17, 18, 19, 20, 21, 22] [] [0, 1, 2, 3, 4, 5, 6, 7, 8, 9, 10, 11, 12, 13, 14, 15, 16, 17, 18, 19, 20, 21, 22] (va_runV (As := [.int 1]) (rest := []) ⟨hx, hb, hml, hown, hts⟩ (c_X5_fail l D cI cZ a5 N σ 1 q1.1 q1.2 hq1 H.size) (cwV 1 hts gX5_abstraction_X5_fail rfl rfl rfl (by decide +kernel) ⟨Nat.le_of_ble_eq_true rfl, Nat.le_of_ble_eq_true rfl⟩) (pV [0, 1, 2, 3, 4, 5, 6, 7, 8, 9, 10, 11, 12, 13, 14, 15, 16, 17, 18, 19, 20, 21, 22] hP hD hK hN rfl rfl rfl rfl) rfl rfl hl.1 rfl (lv_room (Nat.le_of_ble_eq_true rfl)) dX5_abstraction_23 ⟨Nat.le_of_ble_eq_true rfl, Nat.le_of_ble_eq_true rfl⟩) hP hD hS hA rfl rfl rfl (by decide) rfl rfl (fun H locs hP hD hS => ?_)
  obtain ⟨rfl, rfl⟩ := so h
  exact ret_i C0 hP hD hS dX5_abstraction_26
set_option maxHeartbeats 4000000 in
set_option maxRecDepth 100000 in
theorem k_X5_abstraction_287 {p : Program} {l : Launch} {e : Env} {s : State} {m : MethodId} {args : Array Value} {below : List Frame} {meth : Method} {c : Code} {D : va_G} {cI cZ : ClassId} {a5 : Nat → Nat} {A : Nat → Prop} {r : Int32} {u1 : St} (C0 : mB p s m args meth c D cI cZ A cX5_abstraction 9 (some .int) wsX5_abstraction RX5) (N : Nat) : KP_X5_abstraction_287 p l e s m args below meth c D cI cZ a5 A r u1 (f_X5_abstraction_287 N) := by
  obtain ⟨hx, hb, hml, hr, hown, hts, hlocks, hA, hK, hN⟩ := id C0
  intro σ x8 H locs ls hP hD hS hl h
  unfold f_X5_abstraction_287 at h
  refine lv_iload hx hb dX5_abstraction_287 (lv_at hl 0 rfl) ?_
  obtain ⟨rfl, rfl⟩ := so h
  exact ret_i C0 hP hD hS dX5_abstraction_289
set_option maxHeartbeats 4000000 in
set_option maxRecDepth 100000 in
theorem k_X5_abstraction_272 {p : Program} {l : Launch} {e : Env} {s : State} {m : MethodId} {args : Array Value} {below : List Frame} {meth : Method} {c : Code} {D : va_G} {cI cZ : ClassId} {a5 : Nat → Nat} {A : Nat → Prop} {r : Int32} {u1 : St} (C0 : mB p s m args meth c D cI cZ A cX5_abstraction 9 (some .int) wsX5_abstraction RX5) (N : Nat) : KP_X5_abstraction_272 p l e s m args below meth c D cI cZ a5 A r u1 (f_X5_abstraction_272 N) := by
  obtain ⟨hx, hb, hml, hr, hown, hts, hlocks, hA, hK, hN⟩ := id C0
  intro σ x4 s0 H locs ls hP hD hS hl h
  unfold f_X5_abstraction_272 at h
  refine lv_istore (lv' := [(8, .int s0), (0, .ref (a5 0)), (4, .int x4)]) hx hb dX5_abstraction_272 hl (by decide) rfl (fun ls hl => ?_)
  refine lv_aload_n hx hb dX5_abstraction_274 rfl (lv_at hl 1 rfl) ?_
  refine va_get (D := D) (ci := 5) (v := .int (σ 0 0)) (C := RX5) (T := TX5) (N := 30) hx hb hts in_X5_abstraction_X5 hown hK hP 0 rfl rfl 0 (by decide) (hts (.fieldLink RX5 85 "TermLoomModel" "code" "I") (by decide +kernel)) (fun _ h9 => h9) rfl dX5_abstraction_275 ?_
  refine lv_if_le (tgt := 287) hx hb dX5_abstraction_278 (by decide) (fun hc1 => ?_) (fun hc1 => ?_)
  · rw [if_pos hc1] at h
    exact k_X5_abstraction_287 C0 N σ s0 _ _ _ hP hD hS (lv_sub hl [0] rfl) h
  · rw [if_neg hc1] at h
    refine lv_aload_n hx hb dX5_abstraction_281 rfl (lv_at hl 1 rfl) ?_
    refine lv_iload hx hb dX5_abstraction_282 (lv_at hl 2 rfl) ?_
    obtain ⟨q2, hq2, h⟩ := ob h
    refine mc_v (ws' := wX5 a5 cI cZ q2) (wr := ([] : va_W)) [0, 1, 2, 3, 4, 5, 6, 7, 8, 9, 10, 11, 12, 13, 14, 15, 16, 17, 18, 19, 20, 21, 22] [] [0, 1, 2, 3, 4, 5, 6, 7, 8, 9, 10, 11, 12, 13, 14, 15, 16, 17, 18, 19, 20, 21, 22] (va_runV (As := [.int x4]) (rest := []) ⟨hx, hb, hml, hown, hts⟩ (c_X5_cut l D cI cZ a5 N σ x4 q2 hq2 H.size) (cwV 1 hts gX5_abstraction_X5_cut rfl rfl rfl (by decide +kernel) ⟨Nat.le_of_ble_eq_true rfl, Nat.le_of_ble_eq_true rfl⟩) (pV [0, 1, 2, 3, 4, 5, 6, 7, 8, 9, 10, 11, 12, 13, 14, 15, 16, 17, 18, 19, 20, 21, 22] hP hD hK hN rfl rfl rfl rfl) rfl rfl hl.1 rfl (lv_room (Nat.le_of_ble_eq_true rfl)) dX5_abstraction_284 ⟨Nat.le_of_ble_eq_true rfl, Nat.le_of_ble_eq_true rfl⟩) hP hD hS hA rfl rfl rfl (by decide) rfl rfl (fun H locs hP hD hS => ?_)
    exact k_X5_abstraction_287 C0 N q2 s0 _ _ _ hP hD hS (lv_sub hl [0] rfl) h
set_option maxHeartbeats 4000000 in
set_option maxRecDepth 100000 in
theorem k_X5_abstraction_267 {p : Program} {l : Launch} {e : Env} {s : State} {m : MethodId} {args : Array Value} {below : List Frame} {meth : Method} {c : Code} {D : va_G} {cI cZ : ClassId} {a5 : Nat → Nat} {A : Nat → Prop} {r : Int32} {u1 : St} (C0 : mB p s m args meth c D cI cZ A cX5_abstraction 9 (some .int) wsX5_abstraction RX5) (N : Nat) : KP_X5_abstraction_267 p l e s m args below meth c D cI cZ a5 A r u1 (f_X5_abstraction_267 N) := by
  obtain ⟨hx, hb, hml, hr, hown, hts, hlocks, hA, hK, hN⟩ := id C0
  intro σ x4 H locs ls hP hD hS hl h
  unfold f_X5_abstraction_267 at h
  refine lv_aload_n hx hb dX5_abstraction_267 rfl (lv_at hl 0 rfl) ?_
  refine lv_iconst (v := 3) hx hb dX5_abstraction_268 rfl ?_
  obtain ⟨q1, hq1, h⟩ := ob h
  refine mc_i (ws' := wX5 a5 cI cZ q1.2) (wr := ([] : va_W)) [0, 1, 2, 3, 4, 5, 6, 7, 8, 9, 10, 11, 12, 13, 14, 15, 16, 17, 18, 19, 20, 21, 22] [] [0, 1, 2, 3, 4, 5, 6, 7, 8, 9, 10, 11, 12, 13, 14, 15, 16, 17, 18, 19, 20, 21, 22] (va_runV (As := [.int 3]) (rest := []) ⟨hx, hb, hml, hown, hts⟩ (c_X5_fail l D cI cZ a5 N σ 3 q1.1 q1.2 hq1 H.size) (cwV 1 hts gX5_abstraction_X5_fail rfl rfl rfl (by decide +kernel) ⟨Nat.le_of_ble_eq_true rfl, Nat.le_of_ble_eq_true rfl⟩) (pV [0, 1, 2, 3, 4, 5, 6, 7, 8, 9, 10, 11, 12, 13, 14, 15, 16, 17, 18, 19, 20, 21, 22] hP hD hK hN rfl rfl rfl rfl) rfl rfl hl.1 rfl (lv_room (Nat.le_of_ble_eq_true rfl)) dX5_abstraction_269 ⟨Nat.le_of_ble_eq_true rfl, Nat.le_of_ble_eq_true rfl⟩) hP hD hS hA rfl rfl rfl (by decide) rfl rfl (fun H locs hP hD hS => ?_)
  exact k_X5_abstraction_272 C0 N q1.2 x4 q1.1 _ _ _ hP hD hS (lv_sub hl [0, 1] rfl) h
set_option maxHeartbeats 4000000 in
set_option maxRecDepth 100000 in
theorem k_X5_abstraction_232 {p : Program} {l : Launch} {e : Env} {s : State} {m : MethodId} {args : Array Value} {below : List Frame} {meth : Method} {c : Code} {D : va_G} {cI cZ : ClassId} {a5 : Nat → Nat} {A : Nat → Prop} {r : Int32} {u1 : St} (C0 : mB p s m args meth c D cI cZ A cX5_abstraction 9 (some .int) wsX5_abstraction RX5) (N : Nat) (k106 : St → Int32 → Int32 → Int32 → Int32 → Int32 → Int32 → Int32 → Int32 → Option (Int32 × St)) (hk106 : KP_X5_abstraction_106 p l e s m args below meth c D cI cZ a5 A r u1 k106) : KP_X5_abstraction_232 p l e s m args below meth c D cI cZ a5 A r u1 (f_X5_abstraction_232 N k106) := by
  obtain ⟨hx, hb, hml, hr, hown, hts, hlocks, hA, hK, hN⟩ := id C0
  intro σ x1 x2 x3 x4 x5 x6 x7 x8 H locs ls hP hD hS hl h
  unfold f_X5_abstraction_232 at h
  refine lv_iinc (v := (x8 + 1)) (lv' := [(8, .int (x8 + 1)), (0, .ref (a5 0)), (1, .int x1), (2, .int x2), (3, .int x3), (4, .int x4), (5, .int x5), (6, .int x6), (7, .int x7)]) hx hb dX5_abstraction_232 hl (k := 8) rfl rfl (by decide) rfl (fun ls hl => ?_)
  refine lv_goto (tgt := 106) hx hb dX5_abstraction_235 (by decide) ?_
  exact hk106 σ x1 x2 x3 x4 x5 x6 x7 (x8 + 1) _ _ _ hP hD hS (lv_sub hl [1, 2, 3, 4, 5, 6, 7, 8, 0] rfl) h
set_option maxHeartbeats 4000000 in
set_option maxRecDepth 100000 in
theorem k_X5_abstraction_199 {p : Program} {l : Launch} {e : Env} {s : State} {m : MethodId} {args : Array Value} {below : List Frame} {meth : Method} {c : Code} {D : va_G} {cI cZ : ClassId} {a5 : Nat → Nat} {A : Nat → Prop} {r : Int32} {u1 : St} (C0 : mB p s m args meth c D cI cZ A cX5_abstraction 9 (some .int) wsX5_abstraction RX5) (N : Nat) (k106 : St → Int32 → Int32 → Int32 → Int32 → Int32 → Int32 → Int32 → Int32 → Option (Int32 × St)) (hk106 : KP_X5_abstraction_106 p l e s m args below meth c D cI cZ a5 A r u1 k106) : KP_X5_abstraction_199 p l e s m args below meth c D cI cZ a5 A r u1 (f_X5_abstraction_199 N k106) := by
  obtain ⟨hx, hb, hml, hr, hown, hts, hlocks, hA, hK, hN⟩ := id C0
  intro σ x1 x2 x3 x4 x5 x7 x8 s0 H locs ls hP hD hS hl h
  unfold f_X5_abstraction_199 at h
  refine lv_istore (lv' := [(6, .int s0), (0, .ref (a5 0)), (1, .int x1), (2, .int x2), (3, .int x3), (4, .int x4), (5, .int x5), (7, .int x7), (8, .int x8)]) hx hb dX5_abstraction_199 hl (by decide) rfl (fun ls hl => ?_)
  refine lv_aload_n hx hb dX5_abstraction_201 rfl (lv_at hl 1 rfl) ?_
  refine va_get (D := D) (ci := 5) (v := .ref (a5 21)) (C := RX5) (T := TX5) (N := 30) hx hb hts in_X5_abstraction_X5 hown hK hP 0 rfl rfl 20 (by decide) (hts (.fieldLink RX5 55 "TermLoomModel" "symbol" "[I") (by decide +kernel)) (fun _ h9 => h9) rfl dX5_abstraction_202 ?_
  refine lv_iload hx hb dX5_abstraction_205 (lv_at hl 8 rfl) ?_
  by_cases hi : x8 < 0 ∨ 34100 ≤ (x8).toNatClampNeg
  · rw [if_pos hi] at h; exact no h
  rw [if_neg hi] at h
  refine va_iald (f := (σ 20)) hx hb hK hP 14 0 rfl rfl (i := x8) hi dX5_abstraction_207 ?_
  refine lv_bipush (v := (-2)) hx hb dX5_abstraction_208 rfl ?_
  refine lv_icmp_eq (tgt := 216) hx hb dX5_abstraction_210 (by decide) (fun hc1 => ?_) (fun hc1 => ?_)
  · rw [if_pos hc1] at h
    refine lv_aload_n hx hb dX5_abstraction_216 rfl (lv_at hl 1 rfl) ?_
    refine va_get (D := D) (ci := 5) (v := .ref (a5 25)) (C := RX5) (T := TX5) (N := 30) hx hb hts in_X5_abstraction_X5 hown hK hP 0 rfl rfl 24 (by decide) (hts (.fieldLink RX5 67 "TermLoomModel" "ends" "[I") (by decide +kernel)) (fun _ h9 => h9) rfl dX5_abstraction_217 ?_
    refine lv_iload hx hb dX5_abstraction_220 (lv_at hl 7 rfl) ?_
    refine lv_aload_n hx hb dX5_abstraction_222 rfl (lv_at hl 1 rfl) ?_
    refine lv_iload hx hb dX5_abstraction_223 (lv_at hl 8 rfl) ?_
    obtain ⟨q2, hq2, h⟩ := ob h
    refine mc_i (ws' := wX5 a5 cI cZ q2.2) (wr := ([] : va_W)) [0, 1, 2, 3, 4, 5, 6, 7, 8, 9, 10, 11, 12, 13, 14, 15, 16, 17, 18, 19, 20, 21, 22] [] [0, 1, 2, 3, 4, 5, 6, 7, 8, 9, 10, 11, 12, 13, 14, 15, 16, 17, 18, 19, 20, 21, 22] (va_runV (As := [.int x8]) (rest := [.int x7, .ref (a5 25)]) ⟨hx, hb, hml, hown, hts⟩ (c_X5_endOf l D cI cZ a5 N σ x8 q2.1 q2.2 hq2 H.size) (cwV 1 hts gX5_abstraction_X5_endOf rfl rfl rfl (by decide +kernel) ⟨Nat.le_of_ble_eq_true rfl, Nat.le_of_ble_eq_true rfl⟩) (pV [0, 1, 2, 3, 4, 5, 6, 7, 8, 9, 10, 11, 12, 13, 14, 15, 16, 17, 18, 19, 20, 21, 22] hP hD hK hN rfl rfl rfl rfl) rfl rfl hl.1 rfl (lv_room (Nat.le_of_ble_eq_true rfl)) dX5_abstraction_225 ⟨Nat.le_of_ble_eq_true rfl, Nat.le_of_ble_eq_true rfl⟩) hP hD hS hA rfl rfl rfl (by decide) rfl rfl (fun H locs hP hD hS => ?_)
    by_cases hi : x7 < 0 ∨ 130 ≤ (x7).toNatClampNeg
    · rw [if_pos hi] at h; exact no h
    rw [if_neg hi] at h
    refine va_iast (f := (q2.2 24)) hx hb hK hP hD hS 18 0 rfl rfl (i := x7) (x := q2.1) hi dX5_abstraction_228 (fun H locs hP hD hS => ?_)
    obtain ⟨σ3, eσ3, h⟩ := bn h
    have hP : va_P D vwCl (wX5 a5 cI cZ σ3) H := by rw [eσ3]; exact hP
    have hD : va_D A (wX5 a5 cI cZ σ3) := by rw [eσ3]; exact hD
    refine lv_iinc (v := (x7 + 1)) (lv' := [(7, .int (x7 + 1)), (6, .int s0), (0, .ref (a5 0)), (1, .int x1), (2, .int x2), (3, .int x3), (4, .int x4), (5, .int x5), (8, .int x8)]) hx hb dX5_abstraction_229 hl (k := 7) rfl rfl (by decide) rfl (fun ls hl => ?_)
    exact k_X5_abstraction_232 C0 N k106 hk106 σ3 x1 x2 x3 x4 x5 s0 (x7 + 1) x8 _ _ _ hP hD hS (lv_sub hl [2, 3, 4, 5, 6, 7, 1, 0, 8] rfl) h
  · rw [if_neg hc1] at h
    refine lv_goto (tgt := 232) hx hb dX5_abstraction_213 (by decide) ?_
    exact k_X5_abstraction_232 C0 N k106 hk106 σ x1 x2 x3 x4 x5 s0 x7 x8 _ _ _ hP hD hS (lv_sub hl [1, 2, 3, 4, 5, 6, 0, 7, 8] rfl) h
set_option maxHeartbeats 4000000 in
set_option maxRecDepth 100000 in
theorem k_X5_abstraction_144 {p : Program} {l : Launch} {e : Env} {s : State} {m : MethodId} {args : Array Value} {below : List Frame} {meth : Method} {c : Code} {D : va_G} {cI cZ : ClassId} {a5 : Nat → Nat} {A : Nat → Prop} {r : Int32} {u1 : St} (C0 : mB p s m args meth c D cI cZ A cX5_abstraction 9 (some .int) wsX5_abstraction RX5) (N : Nat) (k106 : St → Int32 → Int32 → Int32 → Int32 → Int32 → Int32 → Int32 → Int32 → Option (Int32 × St)) (hk106 : KP_X5_abstraction_106 p l e s m args below meth c D cI cZ a5 A r u1 k106) : KP_X5_abstraction_144 p l e s m args below meth c D cI cZ a5 A r u1 (f_X5_abstraction_144 N k106) := by
  obtain ⟨hx, hb, hml, hr, hown, hts, hlocks, hA, hK, hN⟩ := id C0
  intro σ x1 x2 x3 x4 x5 x6 x7 x8 H locs ls hP hD hS hl h
  unfold f_X5_abstraction_144 at h
  refine lv_aload_n hx hb dX5_abstraction_144 rfl (lv_at hl 0 rfl) ?_
  refine lv_iload hx hb dX5_abstraction_145 (lv_at hl 8 rfl) ?_
  refine lv_iload_n hx hb dX5_abstraction_147 rfl (lv_at hl 3 rfl) ?_
  refine lv_aload_n hx hb dX5_abstraction_148 rfl (lv_at hl 0 rfl) ?_
  refine lv_iload_n hx hb dX5_abstraction_149 rfl (lv_at hl 1 rfl) ?_
  obtain ⟨q1, hq1, h⟩ := ob h
  refine mc_i (ws' := wX5 a5 cI cZ q1.2) (wr := ([] : va_W)) [0, 1, 2, 3, 4, 5, 6, 7, 8, 9, 10, 11, 12, 13, 14, 15, 16, 17, 18, 19, 20, 21, 22] [] [0, 1, 2, 3, 4, 5, 6, 7, 8, 9, 10, 11, 12, 13, 14, 15, 16, 17, 18, 19, 20, 21, 22] (va_runV (As := [.int x1]) (rest := [.int x3, .int x8, .ref (a5 0)]) ⟨hx, hb, hml, hown, hts⟩ (c_X5_topType l D cI cZ a5 N σ x1 q1.1 q1.2 hq1 H.size) (cwV 1 hts gX5_abstraction_X5_topType rfl rfl rfl (by decide +kernel) ⟨Nat.le_of_ble_eq_true rfl, Nat.le_of_ble_eq_true rfl⟩) (pV [0, 1, 2, 3, 4, 5, 6, 7, 8, 9, 10, 11, 12, 13, 14, 15, 16, 17, 18, 19, 20, 21, 22] hP hD hK hN rfl rfl rfl rfl) rfl rfl hl.1 rfl (lv_room (Nat.le_of_ble_eq_true rfl)) dX5_abstraction_150 ⟨Nat.le_of_ble_eq_true rfl, Nat.le_of_ble_eq_true rfl⟩) hP hD hS hA rfl rfl rfl (by decide) rfl rfl (fun H locs hP hD hS => ?_)
  obtain ⟨q2, hq2, h⟩ := ob h
  refine mc_i (ws' := wX5 a5 cI cZ q2.2) (wr := ([] : va_W)) [0, 1, 2, 3, 4, 5, 6, 7, 8, 9, 10, 11, 12, 13, 14, 15, 16, 17, 18, 19, 20, 21, 22] [] [0, 1, 2, 3, 4, 5, 6, 7, 8, 9, 10, 11, 12, 13, 14, 15, 16, 17, 18, 19, 20, 21, 22] (va_runV (As := [.int x8, .int x3, .int q1.1]) (rest := []) ⟨hx, hb, hml, hown, hts⟩ (c_X5_isVariable l D cI cZ a5 N q1.2 x8 x3 q1.1 q2.1 q2.2 hq2 H.size) (cwV 3 hts gX5_abstraction_X5_isVariable rfl rfl rfl (by decide +kernel) ⟨Nat.le_of_ble_eq_true rfl, Nat.le_of_ble_eq_true rfl⟩) (pV [0, 1, 2, 3, 4, 5, 6, 7, 8, 9, 10, 11, 12, 13, 14, 15, 16, 17, 18, 19, 20, 21, 22] hP hD hK hN rfl rfl rfl rfl) rfl rfl hl.1 rfl (lv_room (Nat.le_of_ble_eq_true rfl)) dX5_abstraction_153 ⟨Nat.le_of_ble_eq_true rfl, Nat.le_of_ble_eq_true rfl⟩) hP hD hS hA rfl rfl rfl (by decide) rfl rfl (fun H locs hP hD hS => ?_)
  refine lv_if_eq (tgt := 179) hx hb dX5_abstraction_156 (by decide) (fun hc3 => ?_) (fun hc3 => ?_)
  · rw [if_pos hc3] at h
    refine lv_aload_n hx hb dX5_abstraction_179 rfl (lv_at hl 0 rfl) ?_
    refine lv_iload hx hb dX5_abstraction_180 (lv_at hl 6 rfl) ?_
    refine lv_aload_n hx hb dX5_abstraction_182 rfl (lv_at hl 0 rfl) ?_
    refine va_get (D := D) (ci := 5) (v := .ref (a5 21)) (C := RX5) (T := TX5) (N := 30) hx hb hts in_X5_abstraction_X5 hown hK hP 0 rfl rfl 20 (by decide) (hts (.fieldLink RX5 55 "TermLoomModel" "symbol" "[I") (by decide +kernel)) (fun _ h9 => h9) rfl dX5_abstraction_183 ?_
    refine lv_iload hx hb dX5_abstraction_186 (lv_at hl 8 rfl) ?_
    by_cases hi : x8 < 0 ∨ 34100 ≤ (x8).toNatClampNeg
    · rw [if_pos hi] at h; exact no h
    rw [if_neg hi] at h
    refine va_iald (f := (q2.2 20)) hx hb hK hP 14 0 rfl rfl (i := x8) hi dX5_abstraction_188 ?_
    refine lv_aload_n hx hb dX5_abstraction_189 rfl (lv_at hl 0 rfl) ?_
    refine va_get (D := D) (ci := 5) (v := .ref (a5 22)) (C := RX5) (T := TX5) (N := 30) hx hb hts in_X5_abstraction_X5 hown hK hP 0 rfl rfl 21 (by decide) (hts (.fieldLink RX5 58 "TermLoomModel" "type" "[I") (by decide +kernel)) (fun _ h9 => h9) rfl dX5_abstraction_190 ?_
    refine lv_iload hx hb dX5_abstraction_193 (lv_at hl 8 rfl) ?_
    by_cases hi : x8 < 0 ∨ 34100 ≤ (x8).toNatClampNeg
    · rw [if_pos hi] at h; exact no h
    rw [if_neg hi] at h
    refine va_iald (f := (q2.2 21)) hx hb hK hP 15 0 rfl rfl (i := x8) hi dX5_abstraction_195 ?_
    obtain ⟨q4, hq4, h⟩ := ob h
    refine mc_i (ws' := wX5 a5 cI cZ q4.2) (wr := ([] : va_W)) [0, 1, 2, 3, 4, 5, 6, 7, 8, 9, 10, 11, 12, 13, 14, 15, 16, 17, 18, 19, 20, 21, 22] [] [0, 1, 2, 3, 4, 5, 6, 7, 8, 9, 10, 11, 12, 13, 14, 15, 16, 17, 18, 19, 20, 21, 22] (va_runV (As := [.int x6, .int (q2.2 20 (x8).toNatClampNeg), .int (q2.2 21 (x8).toNatClampNeg)]) (rest := []) ⟨hx, hb, hml, hown, hts⟩ (c_X5_write l D cI cZ a5 N q2.2 x6 (q2.2 20 (x8).toNatClampNeg) (q2.2 21 (x8).toNatClampNeg) q4.1 q4.2 hq4 H.size) (cwV 3 hts gX5_abstraction_X5_write rfl rfl rfl (by decide +kernel) ⟨Nat.le_of_ble_eq_true rfl, Nat.le_of_ble_eq_true rfl⟩) (pV [0, 1, 2, 3, 4, 5, 6, 7, 8, 9, 10, 11, 12, 13, 14, 15, 16, 17, 18, 19, 20, 21, 22] hP hD hK hN rfl rfl rfl rfl) rfl rfl hl.1 rfl (lv_room (Nat.le_of_ble_eq_true rfl)) dX5_abstraction_196 ⟨Nat.le_of_ble_eq_true rfl, Nat.le_of_ble_eq_true rfl⟩) hP hD hS hA rfl rfl rfl (by decide) rfl rfl (fun H locs hP hD hS => ?_)
    exact k_X5_abstraction_199 C0 N k106 hk106 q4.2 x1 x2 x3 x4 x5 x7 x8 q4.1 _ _ _ hP hD hS (lv_sub hl [0, 1, 2, 3, 4, 5, 7, 8] rfl) h
  · rw [if_neg hc3] at h
    refine lv_aload_n hx hb dX5_abstraction_159 rfl (lv_at hl 0 rfl) ?_
    refine lv_iload hx hb dX5_abstraction_160 (lv_at hl 6 rfl) ?_
    refine lv_iconst (v := 4) hx hb dX5_abstraction_162 rfl ?_
    refine lv_iload hx hb dX5_abstraction_163 (lv_at hl 7 rfl) ?_
    refine lv_imul hx hb dX5_abstraction_165 ?_
    refine lv_aload_n hx hb dX5_abstraction_166 rfl (lv_at hl 0 rfl) ?_
    refine va_get (D := D) (ci := 5) (v := .ref (a5 22)) (C := RX5) (T := TX5) (N := 30) hx hb hts in_X5_abstraction_X5 hown hK hP 0 rfl rfl 21 (by decide) (hts (.fieldLink RX5 58 "TermLoomModel" "type" "[I") (by decide +kernel)) (fun _ h9 => h9) rfl dX5_abstraction_167 ?_
    refine lv_iload hx hb dX5_abstraction_170 (lv_at hl 8 rfl) ?_
    by_cases hi : x8 < 0 ∨ 34100 ≤ (x8).toNatClampNeg
    · rw [if_pos hi] at h; exact no h
    rw [if_neg hi] at h
    refine va_iald (f := (q2.2 21)) hx hb hK hP 15 0 rfl rfl (i := x8) hi dX5_abstraction_172 ?_
    obtain ⟨q5, hq5, h⟩ := ob h
    refine mc_i (ws' := wX5 a5 cI cZ q5.2) (wr := ([] : va_W)) [0, 1, 2, 3, 4, 5, 6, 7, 8, 9, 10, 11, 12, 13, 14, 15, 16, 17, 18, 19, 20, 21, 22] [] [0, 1, 2, 3, 4, 5, 6, 7, 8, 9, 10, 11, 12, 13, 14, 15, 16, 17, 18, 19, 20, 21, 22] (va_runV (As := [.int x6, .int (4 * x7), .int (q2.2 21 (x8).toNatClampNeg)]) (rest := []) ⟨hx, hb, hml, hown, hts⟩ (c_X5_write l D cI cZ a5 N q2.2 x6 (4 * x7) (q2.2 21 (x8).toNatClampNeg) q5.1 q5.2 hq5 H.size) (cwV 3 hts gX5_abstraction_X5_write rfl rfl rfl (by decide +kernel) ⟨Nat.le_of_ble_eq_true rfl, Nat.le_of_ble_eq_true rfl⟩) (pV [0, 1, 2, 3, 4, 5, 6, 7, 8, 9, 10, 11, 12, 13, 14, 15, 16, 17, 18, 19, 20, 21, 22] hP hD hK hN rfl rfl rfl rfl) rfl rfl hl.1 rfl (lv_room (Nat.le_of_ble_eq_true rfl)) dX5_abstraction_173 ⟨Nat.le_of_ble_eq_true rfl, Nat.le_of_ble_eq_true rfl⟩) hP hD hS hA rfl rfl rfl (by decide) rfl rfl (fun H locs hP hD hS => ?_)
    refine lv_goto (tgt := 199) hx hb dX5_abstraction_176 (by decide) ?_
    exact k_X5_abstraction_199 C0 N k106 hk106 q5.2 x1 x2 x3 x4 x5 x7 x8 q5.1 _ _ _ hP hD hS (lv_sub hl [0, 1, 2, 3, 4, 5, 7, 8] rfl) h
set_option maxHeartbeats 4000000 in
set_option maxRecDepth 100000 in
theorem k_X5_abstraction_119 {p : Program} {l : Launch} {e : Env} {s : State} {m : MethodId} {args : Array Value} {below : List Frame} {meth : Method} {c : Code} {D : va_G} {cI cZ : ClassId} {a5 : Nat → Nat} {A : Nat → Prop} {r : Int32} {u1 : St} (C0 : mB p s m args meth c D cI cZ A cX5_abstraction 9 (some .int) wsX5_abstraction RX5) (N : Nat) (k106 : St → Int32 → Int32 → Int32 → Int32 → Int32 → Int32 → Int32 → Int32 → Option (Int32 × St)) (hk106 : KP_X5_abstraction_106 p l e s m args below meth c D cI cZ a5 A r u1 k106) : ∀ n : Nat, KP_X5_abstraction_119 p l e s m args below meth c D cI cZ a5 A r u1 (f_X5_abstraction_119 N k106 n) := by
  obtain ⟨hx, hb, hml, hr, hown, hts, hlocks, hA, hK, hN⟩ := id C0
  intro n
  induction n with
  | zero =>
    intro σ x1 x2 x3 x4 x5 x6 x7 x8 H locs ls hP hD hS hl h
    exact no (show (none : Option (Int32 × St)) = _ from h)
  | succ n ih =>
    intro σ x1 x2 x3 x4 x5 x6 x7 x8 H locs ls hP hD hS hl h
    rw [f_X5_abstraction_119] at h
    refine lv_iload hx hb dX5_abstraction_119 (lv_at hl 7 rfl) ?_
    refine lv_if_le (tgt := 144) hx hb dX5_abstraction_121 (by decide) (fun hc1 => ?_) (fun hc1 => ?_)
    · rw [if_pos hc1] at h
      exact k_X5_abstraction_144 C0 N k106 hk106 σ x1 x2 x3 x4 x5 x6 x7 x8 _ _ _ hP hD hS (lv_sub hl [0, 1, 2, 3, 4, 5, 6, 7, 8] rfl) h
    · rw [if_neg hc1] at h
      refine lv_aload_n hx hb dX5_abstraction_124 rfl (lv_at hl 0 rfl) ?_
      refine va_get (D := D) (ci := 5) (v := .ref (a5 25)) (C := RX5) (T := TX5) (N := 30) hx hb hts in_X5_abstraction_X5 hown hK hP 0 rfl rfl 24 (by decide) (hts (.fieldLink RX5 67 "TermLoomModel" "ends" "[I") (by decide +kernel)) (fun _ h9 => h9) rfl dX5_abstraction_125 ?_
      refine lv_iload hx hb dX5_abstraction_128 (lv_at hl 7 rfl) ?_
      refine lv_iconst (v := 1) hx hb dX5_abstraction_130 rfl ?_
      refine lv_isub hx hb dX5_abstraction_131 ?_
      by_cases hi : (x7 - 1) < 0 ∨ 130 ≤ ((x7 - 1)).toNatClampNeg
      · rw [if_pos hi] at h; exact no h
      rw [if_neg hi] at h
      refine va_iald (f := (σ 24)) hx hb hK hP 18 0 rfl rfl (i := (x7 - 1)) hi dX5_abstraction_132 ?_
      refine lv_iload hx hb dX5_abstraction_133 (lv_at hl 8 rfl) ?_
      refine lv_icmp_gt (tgt := 144) hx hb dX5_abstraction_135 (by decide) (fun hc2 => ?_) (fun hc2 => ?_)
      · rw [if_pos hc2] at h
        exact k_X5_abstraction_144 C0 N k106 hk106 σ x1 x2 x3 x4 x5 x6 x7 x8 _ _ _ hP hD hS (lv_sub hl [0, 1, 2, 3, 4, 5, 6, 7, 8] rfl) h
      · rw [if_neg hc2] at h
        refine lv_iinc (v := (x7 + (-1))) (lv' := [(7, .int (x7 + (-1))), (0, .ref (a5 0)), (1, .int x1), (2, .int x2), (3, .int x3), (4, .int x4), (5, .int x5), (6, .int x6), (8, .int x8)]) hx hb dX5_abstraction_138 hl (k := 7) rfl rfl (by decide) rfl (fun ls hl => ?_)
        refine lv_goto (tgt := 119) hx hb dX5_abstraction_141 (by decide) ?_
        exact ih σ x1 x2 x3 x4 x5 x6 (x7 + (-1)) x8 _ _ _ hP hD hS (lv_sub hl [1, 2, 3, 4, 5, 6, 7, 0, 8] rfl) h
set_option maxHeartbeats 4000000 in
set_option maxRecDepth 100000 in
theorem k_X5_abstraction_106 {p : Program} {l : Launch} {e : Env} {s : State} {m : MethodId} {args : Array Value} {below : List Frame} {meth : Method} {c : Code} {D : va_G} {cI cZ : ClassId} {a5 : Nat → Nat} {A : Nat → Prop} {r : Int32} {u1 : St} (C0 : mB p s m args meth c D cI cZ A cX5_abstraction 9 (some .int) wsX5_abstraction RX5) (N : Nat) : ∀ n : Nat, KP_X5_abstraction_106 p l e s m args below meth c D cI cZ a5 A r u1 (f_X5_abstraction_106 N n) := by
  obtain ⟨hx, hb, hml, hr, hown, hts, hlocks, hA, hK, hN⟩ := id C0
  intro n
  induction n with
  | zero =>
    intro σ x1 x2 x3 x4 x5 x6 x7 x8 H locs ls hP hD hS hl h
    exact no (show (none : Option (Int32 × St)) = _ from h)
  | succ n ih =>
    intro σ x1 x2 x3 x4 x5 x6 x7 x8 H locs ls hP hD hS hl h
    rw [f_X5_abstraction_106] at h
    refine lv_iload hx hb dX5_abstraction_106 (lv_at hl 8 rfl) ?_
    refine lv_aload_n hx hb dX5_abstraction_108 rfl (lv_at hl 0 rfl) ?_
    refine va_get (D := D) (ci := 5) (v := .ref (a5 20)) (C := RX5) (T := TX5) (N := 30) hx hb hts in_X5_abstraction_X5 hown hK hP 0 rfl rfl 19 (by decide) (hts (.fieldLink RX5 51 "TermLoomModel" "begin" "[I") (by decide +kernel)) (fun _ h9 => h9) rfl dX5_abstraction_109 ?_
    refine lv_iload_n hx hb dX5_abstraction_112 rfl (lv_at hl 2 rfl) ?_
    refine lv_iconst (v := 1) hx hb dX5_abstraction_113 rfl ?_
    refine lv_iadd hx hb dX5_abstraction_114 ?_
    by_cases hi : (x2 + 1) < 0 ∨ 4201 ≤ ((x2 + 1)).toNatClampNeg
    · rw [if_pos hi] at h; exact no h
    rw [if_neg hi] at h
    refine va_iald (f := (σ 19)) hx hb hK hP 13 0 rfl rfl (i := (x2 + 1)) hi dX5_abstraction_115 ?_
    refine lv_icmp_ge (tgt := 238) hx hb dX5_abstraction_116 (by decide) (fun hc1 => ?_) (fun hc1 => ?_)
    · rw [if_pos hc1] at h
      refine lv_aload_n hx hb dX5_abstraction_238 rfl (lv_at hl 0 rfl) ?_
      refine lv_iload hx hb dX5_abstraction_239 (lv_at hl 5 rfl) ?_
      obtain ⟨q2, hq2, h⟩ := ob h
      refine mc_i (ws' := wX5 a5 cI cZ q2.2) (wr := ([] : va_W)) [0, 1, 2, 3, 4, 5, 6, 7, 8, 9, 10, 11, 12, 13, 14, 15, 16, 17, 18, 19, 20, 21, 22] [] [0, 1, 2, 3, 4, 5, 6, 7, 8, 9, 10, 11, 12, 13, 14, 15, 16, 17, 18, 19, 20, 21, 22] (va_runV (As := [.int x5]) (rest := []) ⟨hx, hb, hml, hown, hts⟩ (c_X5_isSmall l D cI cZ a5 N σ x5 q2.1 q2.2 hq2 H.size) (cwV 1 hts gX5_abstraction_X5_isSmall rfl rfl rfl (by decide +kernel) ⟨Nat.le_of_ble_eq_true rfl, Nat.le_of_ble_eq_true rfl⟩) (pV [0, 1, 2, 3, 4, 5, 6, 7, 8, 9, 10, 11, 12, 13, 14, 15, 16, 17, 18, 19, 20, 21, 22] hP hD hK hN rfl rfl rfl rfl) rfl rfl hl.1 rfl (lv_room (Nat.le_of_ble_eq_true rfl)) dX5_abstraction_241 ⟨Nat.le_of_ble_eq_true rfl, Nat.le_of_ble_eq_true rfl⟩) hP hD hS hA rfl rfl rfl (by decide) rfl rfl (fun H locs hP hD hS => ?_)
      refine lv_if_eq (tgt := 267) hx hb dX5_abstraction_244 (by decide) (fun hc3 => ?_) (fun hc3 => ?_)
      · rw [if_pos hc3] at h
        exact k_X5_abstraction_267 C0 N q2.2 x4 _ _ _ hP hD hS (lv_sub hl [0, 4] rfl) h
      · rw [if_neg hc3] at h
        refine lv_aload_n hx hb dX5_abstraction_247 rfl (lv_at hl 0 rfl) ?_
        refine va_get (D := D) (ci := 5) (v := .int (q2.2 5 0)) (C := RX5) (T := TX5) (N := 30) hx hb hts in_X5_abstraction_X5 hown hK hP 0 rfl rfl 5 (by decide) (hts (.fieldLink RX5 96 "TermLoomModel" "nodes" "I") (by decide +kernel)) (fun _ h9 => h9) rfl dX5_abstraction_248 ?_
        refine lv_sipush (v := 8000) hx hb dX5_abstraction_251 rfl ?_
        refine lv_icmp_gt (tgt := 267) hx hb dX5_abstraction_254 (by decide) (fun hc4 => ?_) (fun hc4 => ?_)
        · rw [if_pos hc4] at h
          exact k_X5_abstraction_267 C0 N q2.2 x4 _ _ _ hP hD hS (lv_sub hl [0, 4] rfl) h
        · rw [if_neg hc4] at h
          refine lv_aload_n hx hb dX5_abstraction_257 rfl (lv_at hl 0 rfl) ?_
          refine lv_iload hx hb dX5_abstraction_258 (lv_at hl 6 rfl) ?_
          refine lv_iconst (v := 3) hx hb dX5_abstraction_260 rfl ?_
          obtain ⟨q5, hq5, h⟩ := ob h
          refine mc_i (ws' := wX5 a5 cI cZ q5.2) (wr := ([] : va_W)) [0, 1, 2, 3, 4, 5, 6, 7, 8, 9, 10, 11, 12, 13, 14, 15, 16, 17, 18, 19, 20, 21, 22] [] [0, 1, 2, 3, 4, 5, 6, 7, 8, 9, 10, 11, 12, 13, 14, 15, 16, 17, 18, 19, 20, 21, 22] (va_runV (As := [.int x6, .int 3]) (rest := []) ⟨hx, hb, hml, hown, hts⟩ (c_X5_finish l D cI cZ a5 N q2.2 x6 3 q5.1 q5.2 hq5 H.size) (cwV 2 hts gX5_abstraction_X5_finish rfl rfl rfl (by decide +kernel) ⟨Nat.le_of_ble_eq_true rfl, Nat.le_of_ble_eq_true rfl⟩) (pV [0, 1, 2, 3, 4, 5, 6, 7, 8, 9, 10, 11, 12, 13, 14, 15, 16, 17, 18, 19, 20, 21, 22] hP hD hK hN rfl rfl rfl rfl) rfl rfl hl.1 rfl (lv_room (Nat.le_of_ble_eq_true rfl)) dX5_abstraction_261 ⟨Nat.le_of_ble_eq_true rfl, Nat.le_of_ble_eq_true rfl⟩) hP hD hS hA rfl rfl rfl (by decide) rfl rfl (fun H locs hP hD hS => ?_)
          refine lv_goto (tgt := 272) hx hb dX5_abstraction_264 (by decide) ?_
          exact k_X5_abstraction_272 C0 N q5.2 x4 q5.1 _ _ _ hP hD hS (lv_sub hl [0, 4] rfl) h
    · rw [if_neg hc1] at h
      exact k_X5_abstraction_119 C0 N (f_X5_abstraction_106 N n) ih N σ x1 x2 x3 x4 x5 x6 x7 x8 _ _ _ hP hD hS (lv_sub hl [0, 1, 2, 3, 4, 5, 6, 7, 8] rfl) h
set_option maxHeartbeats 4000000 in
set_option maxRecDepth 100000 in
theorem c_X5_abstraction (l : Launch) (D : va_G) (cI cZ : ClassId) (a5 : Nat → Nat) (N : Nat) (σ : St) (x1 x2 : Int32) : MI l yX5_abstraction wsX5_abstraction ({ frames := 4, cells := 0, slots := 0, locals := 93 } : Room) D cI cZ (wX5 a5 cI cZ) [.ref (a5 0), .int x1, .int x2] σ (f_X5_abstraction N σ x1 x2) := by
  refine MI.of (cc := cX5_abstraction) (maxL := 9) (ret := (some .int)) (own := RX5) (by decide) rfl rfl (Nat.le_of_ble_eq_true rfl) ?_
  intro r u1 h p e s m args below meth c A C0 H locs ls hP hD hS hl
  obtain ⟨hx, hb, hml, hr, hown, hts, hlocks, hA, hK, hN⟩ := id C0
  have hl : lv_has ls 9 [(0, .ref (a5 0)), (1, .int x1), (2, .int x2)] := hl
  unfold f_X5_abstraction at h
  refine lv_aload_n hx hb dX5_abstraction_0 rfl (lv_at hl 0 rfl) ?_
  refine lv_iconst (v := 0) hx hb dX5_abstraction_1 rfl ?_
  refine va_put (D := D) (ci := 5) (v := .int 0) (ty := .int) (C := RX5) (T := TX5) (N := 30) hx hb hts in_X5_abstraction_X5 tyX5 tyX5_ok nmX5 hown hK hP hD hS 0 rfl rfl 0 (by decide) (hts (.fieldLink RX5 85 "TermLoomModel" "code" "I") (by decide +kernel)) (fun _ h9 => h9) rfl (by decide +kernel) rfl rfl (Nat.le_of_ble_eq_true rfl) dX5_abstraction_2 (fun H locs hP hD hS => ?_)
  obtain ⟨σ1, eσ1, h⟩ := bn h
  have hP : va_P D vwCl (wX5 a5 cI cZ σ1) H := by rw [eσ1]; exact hP
  have hD : va_D A (wX5 a5 cI cZ σ1) := by rw [eσ1]; exact hD
  refine lv_aload_n hx hb dX5_abstraction_5 rfl (lv_at hl 0 rfl) ?_
  refine lv_iload_n hx hb dX5_abstraction_6 rfl (lv_at hl 1 rfl) ?_
  obtain ⟨q2, hq2, h⟩ := ob h
  refine mc_i (ws' := wX5 a5 cI cZ q2.2) (wr := ([] : va_W)) [0, 1, 2, 3, 4, 5, 6, 7, 8, 9, 10, 11, 12, 13, 14, 15, 16, 17, 18, 19, 20, 21, 22] [] [0, 1, 2, 3, 4, 5, 6, 7, 8, 9, 10, 11, 12, 13, 14, 15, 16, 17, 18, 19, 20, 21, 22] (va_runV (As := [.int x1]) (rest := []) ⟨hx, hb, hml, hown, hts⟩ (c_X5_isTerm l D cI cZ a5 N σ1 x1 q2.1 q2.2 hq2 H.size) (cwV 1 hts gX5_abstraction_X5_isTerm rfl rfl rfl (by decide +kernel) ⟨Nat.le_of_ble_eq_true rfl, Nat.le_of_ble_eq_true rfl⟩) (pV [0, 1, 2, 3, 4, 5, 6, 7, 8, 9, 10, 11, 12, 13, 14, 15, 16, 17, 18, 19, 20, 21, 22] hP hD hK hN rfl rfl rfl rfl) rfl rfl hl.1 rfl (lv_room (Nat.le_of_ble_eq_true rfl)) dX5_abstraction_7 ⟨Nat.le_of_ble_eq_true rfl, Nat.le_of_ble_eq_true rfl⟩) hP hD hS hA rfl rfl rfl (by decide) rfl rfl (fun H locs hP hD hS => ?_)
  refine lv_if_eq (tgt := 21) hx hb dX5_abstraction_10 (by decide) (fun hc3 => ?_) (fun hc3 => ?_)
  · rw [if_pos hc3] at h
    exact k_X5_abstraction_21 C0 N q2.2 _ _ _ hP hD hS (lv_sub hl [0] rfl) h
  · rw [if_neg hc3] at h
    refine lv_aload_n hx hb dX5_abstraction_13 rfl (lv_at hl 0 rfl) ?_
    refine lv_iload_n hx hb dX5_abstraction_14 rfl (lv_at hl 2 rfl) ?_
    obtain ⟨q4, hq4, h⟩ := ob h
    refine mc_i (ws' := wX5 a5 cI cZ q4.2) (wr := ([] : va_W)) [0, 1, 2, 3, 4, 5, 6, 7, 8, 9, 10, 11, 12, 13, 14, 15, 16, 17, 18, 19, 20, 21, 22] [] [0, 1, 2, 3, 4, 5, 6, 7, 8, 9, 10, 11, 12, 13, 14, 15, 16, 17, 18, 19, 20, 21, 22] (va_runV (As := [.int x2]) (rest := []) ⟨hx, hb, hml, hown, hts⟩ (c_X5_isTerm l D cI cZ a5 N q2.2 x2 q4.1 q4.2 hq4 H.size) (cwV 1 hts gX5_abstraction_X5_isTerm rfl rfl rfl (by decide +kernel) ⟨Nat.le_of_ble_eq_true rfl, Nat.le_of_ble_eq_true rfl⟩) (pV [0, 1, 2, 3, 4, 5, 6, 7, 8, 9, 10, 11, 12, 13, 14, 15, 16, 17, 18, 19, 20, 21, 22] hP hD hK hN rfl rfl rfl rfl) rfl rfl hl.1 rfl (lv_room (Nat.le_of_ble_eq_true rfl)) dX5_abstraction_15 ⟨Nat.le_of_ble_eq_true rfl, Nat.le_of_ble_eq_true rfl⟩) hP hD hS hA rfl rfl rfl (by decide) rfl rfl (fun H locs hP hD hS => ?_)
    refine lv_if_ne (tgt := 27) hx hb dX5_abstraction_18 (by decide) (fun hc5 => ?_) (fun hc5 => ?_)
    · rw [if_neg hc5] at h
      refine lv_aload_n hx hb dX5_abstraction_27 rfl (lv_at hl 0 rfl) ?_
      refine lv_iload_n hx hb dX5_abstraction_28 rfl (lv_at hl 1 rfl) ?_
      obtain ⟨q6, hq6, h⟩ := ob h
      refine mc_i (ws' := wX5 a5 cI cZ q6.2) (wr := ([] : va_W)) [0, 1, 2, 3, 4, 5, 6, 7, 8, 9, 10, 11, 12, 13, 14, 15, 16, 17, 18, 19, 20, 21, 22] [] [0, 1, 2, 3, 4, 5, 6, 7, 8, 9, 10, 11, 12, 13, 14, 15, 16, 17, 18, 19, 20, 21, 22] (va_runV (As := [.int x1]) (rest := []) ⟨hx, hb, hml, hown, hts⟩ (c_X5_isFree l D cI cZ a5 N q4.2 x1 q6.1 q6.2 hq6 H.size) (cwV 1 hts gX5_abstraction_X5_isFree rfl rfl rfl (by decide +kernel) ⟨Nat.le_of_ble_eq_true rfl, Nat.le_of_ble_eq_true rfl⟩) (pV [0, 1, 2, 3, 4, 5, 6, 7, 8, 9, 10, 11, 12, 13, 14, 15, 16, 17, 18, 19, 20, 21, 22] hP hD hK hN rfl rfl rfl rfl) rfl rfl hl.1 rfl (lv_room (Nat.le_of_ble_eq_true rfl)) dX5_abstraction_29 ⟨Nat.le_of_ble_eq_true rfl, Nat.le_of_ble_eq_true rfl⟩) hP hD hS hA rfl rfl rfl (by decide) rfl rfl (fun H locs hP hD hS => ?_)
      refine lv_if_ne (tgt := 41) hx hb dX5_abstraction_32 (by decide) (fun hc7 => ?_) (fun hc7 => ?_)
      · rw [if_neg hc7] at h
        refine lv_aload_n hx hb dX5_abstraction_41 rfl (lv_at hl 0 rfl) ?_
        refine va_get (D := D) (ci := 5) (v := .ref (a5 21)) (C := RX5) (T := TX5) (N := 30) hx hb hts in_X5_abstraction_X5 hown hK hP 0 rfl rfl 20 (by decide) (hts (.fieldLink RX5 55 "TermLoomModel" "symbol" "[I") (by decide +kernel)) (fun _ h9 => h9) rfl dX5_abstraction_42 ?_
        refine lv_aload_n hx hb dX5_abstraction_45 rfl (lv_at hl 0 rfl) ?_
        refine va_get (D := D) (ci := 5) (v := .ref (a5 20)) (C := RX5) (T := TX5) (N := 30) hx hb hts in_X5_abstraction_X5 hown hK hP 0 rfl rfl 19 (by decide) (hts (.fieldLink RX5 51 "TermLoomModel" "begin" "[I") (by decide +kernel)) (fun _ h9 => h9) rfl dX5_abstraction_46 ?_
        refine lv_iload_n hx hb dX5_abstraction_49 rfl (lv_at hl 1 rfl) ?_
        by_cases hi : x1 < 0 ∨ 4201 ≤ (x1).toNatClampNeg
        · rw [if_pos hi] at h; exact no h
        rw [if_neg hi] at h
        refine va_iald (f := (q6.2 19)) hx hb hK hP 13 0 rfl rfl (i := x1) hi dX5_abstraction_50 ?_
        by_cases hi : (q6.2 19 (x1).toNatClampNeg) < 0 ∨ 34100 ≤ ((q6.2 19 (x1).toNatClampNeg)).toNatClampNeg
        · rw [if_pos hi] at h; exact no h
        rw [if_neg hi] at h
        refine va_iald (f := (q6.2 20)) hx hb hK hP 14 0 rfl rfl (i := (q6.2 19 (x1).toNatClampNeg)) hi dX5_abstraction_51 ?_
        refine lv_istore_n (lv' := [(3, .int (q6.2 20 ((q6.2 19 (x1).toNatClampNeg)).toNatClampNeg)), (0, .ref (a5 0)), (1, .int x1), (2, .int x2)]) hx hb dX5_abstraction_52 rfl hl (by decide) rfl (fun ls hl => ?_)
        refine lv_aload_n hx hb dX5_abstraction_53 rfl (lv_at hl 1 rfl) ?_
        refine va_get (D := D) (ci := 5) (v := .int (q6.2 5 0)) (C := RX5) (T := TX5) (N := 30) hx hb hts in_X5_abstraction_X5 hown hK hP 0 rfl rfl 5 (by decide) (hts (.fieldLink RX5 96 "TermLoomModel" "nodes" "I") (by decide +kernel)) (fun _ h9 => h9) rfl dX5_abstraction_54 ?_
        refine lv_istore (lv' := [(4, .int (q6.2 5 0)), (3, .int (q6.2 20 ((q6.2 19 (x1).toNatClampNeg)).toNatClampNeg)), (0, .ref (a5 0)), (1, .int x1), (2, .int x2)]) hx hb dX5_abstraction_57 hl (by decide) rfl (fun ls hl => ?_)
        refine lv_aload_n hx hb dX5_abstraction_59 rfl (lv_at hl 2 rfl) ?_
        refine lv_iconst (v := 2) hx hb dX5_abstraction_60 rfl ?_
        refine lv_aload_n hx hb dX5_abstraction_61 rfl (lv_at hl 2 rfl) ?_
        refine lv_iload_n hx hb dX5_abstraction_62 rfl (lv_at hl 3 rfl) ?_
        obtain ⟨q8, hq8, h⟩ := ob h
        refine mc_i (ws' := wX5 a5 cI cZ q8.2) (wr := ([] : va_W)) [0, 1, 2, 3, 4, 5, 6, 7, 8, 9, 10, 11, 12, 13, 14, 15, 16, 17, 18, 19, 20, 21, 22] [] [0, 1, 2, 3, 4, 5, 6, 7, 8, 9, 10, 11, 12, 13, 14, 15, 16, 17, 18, 19, 20, 21, 22] (va_runV (As := [.int x1]) (rest := [.int 2, .ref (a5 0)]) ⟨hx, hb, hml, hown, hts⟩ (c_X5_topType l D cI cZ a5 N q6.2 x1 q8.1 q8.2 hq8 H.size) (cwV 1 hts gX5_abstraction_X5_topType rfl rfl rfl (by decide +kernel) ⟨Nat.le_of_ble_eq_true rfl, Nat.le_of_ble_eq_true rfl⟩) (pV [0, 1, 2, 3, 4, 5, 6, 7, 8, 9, 10, 11, 12, 13, 14, 15, 16, 17, 18, 19, 20, 21, 22] hP hD hK hN rfl rfl rfl rfl) rfl rfl hl.1 rfl (lv_room (Nat.le_of_ble_eq_true rfl)) dX5_abstraction_63 ⟨Nat.le_of_ble_eq_true rfl, Nat.le_of_ble_eq_true rfl⟩) hP hD hS hA rfl rfl rfl (by decide) rfl rfl (fun H locs hP hD hS => ?_)
        refine lv_aload_n hx hb dX5_abstraction_66 rfl (lv_at hl 2 rfl) ?_
        refine lv_iload_n hx hb dX5_abstraction_67 rfl (lv_at hl 4 rfl) ?_
        obtain ⟨q9, hq9, h⟩ := ob h
        refine mc_i (ws' := wX5 a5 cI cZ q9.2) (wr := ([] : va_W)) [0, 1, 2, 3, 4, 5, 6, 7, 8, 9, 10, 11, 12, 13, 14, 15, 16, 17, 18, 19, 20, 21, 22] [] [0, 1, 2, 3, 4, 5, 6, 7, 8, 9, 10, 11, 12, 13, 14, 15, 16, 17, 18, 19, 20, 21, 22] (va_runV (As := [.int x2]) (rest := [.int q8.1, .int 2, .ref (a5 0)]) ⟨hx, hb, hml, hown, hts⟩ (c_X5_topType l D cI cZ a5 N q8.2 x2 q9.1 q9.2 hq9 H.size) (cwV 1 hts gX5_abstraction_X5_topType rfl rfl rfl (by decide +kernel) ⟨Nat.le_of_ble_eq_true rfl, Nat.le_of_ble_eq_true rfl⟩) (pV [0, 1, 2, 3, 4, 5, 6, 7, 8, 9, 10, 11, 12, 13, 14, 15, 16, 17, 18, 19, 20, 21, 22] hP hD hK hN rfl rfl rfl rfl) rfl rfl hl.1 rfl (lv_room (Nat.le_of_ble_eq_true rfl)) dX5_abstraction_68 ⟨Nat.le_of_ble_eq_true rfl, Nat.le_of_ble_eq_true rfl⟩) hP hD hS hA rfl rfl rfl (by decide) rfl rfl (fun H locs hP hD hS => ?_)
        obtain ⟨q10, hq10, h⟩ := ob h
        refine mc_i (ws' := wX5 a5 cI cZ q10.2) (wr := ([] : va_W)) [0, 1, 2, 3, 4, 5, 6, 7, 8, 9, 10, 11, 12, 13, 14, 15, 16, 17, 18, 19, 20, 21, 22] [] [0, 1, 2, 3, 4, 5, 6, 7, 8, 9, 10, 11, 12, 13, 14, 15, 16, 17, 18, 19, 20, 21, 22] (va_runV (As := [.int 2, .int q8.1, .int q9.1]) (rest := []) ⟨hx, hb, hml, hown, hts⟩ (c_X5_node l D cI cZ a5 N q9.2 2 q8.1 q9.1 q10.1 q10.2 hq10 H.size) (cwV 3 hts gX5_abstraction_X5_node rfl rfl rfl (by decide +kernel) ⟨Nat.le_of_ble_eq_true rfl, Nat.le_of_ble_eq_true rfl⟩) (pV [0, 1, 2, 3, 4, 5, 6, 7, 8, 9, 10, 11, 12, 13, 14, 15, 16, 17, 18, 19, 20, 21, 22] hP hD hK hN rfl rfl rfl rfl) rfl rfl hl.1 rfl (lv_room (Nat.le_of_ble_eq_true rfl)) dX5_abstraction_71 ⟨Nat.le_of_ble_eq_true rfl, Nat.le_of_ble_eq_true rfl⟩) hP hD hS hA rfl rfl rfl (by decide) rfl rfl (fun H locs hP hD hS => ?_)
        refine lv_istore (lv' := [(5, .int q10.1), (4, .int (q6.2 5 0)), (3, .int (q6.2 20 ((q6.2 19 (x1).toNatClampNeg)).toNatClampNeg)), (0, .ref (a5 0)), (1, .int x1), (2, .int x2)]) hx hb dX5_abstraction_74 hl (by decide) rfl (fun ls hl => ?_)
        refine lv_aload_n hx hb dX5_abstraction_76 rfl (lv_at hl 3 rfl) ?_
        refine lv_aload_n hx hb dX5_abstraction_77 rfl (lv_at hl 3 rfl) ?_
        refine va_get (D := D) (ci := 5) (v := .ref (a5 20)) (C := RX5) (T := TX5) (N := 30) hx hb hts in_X5_abstraction_X5 hown hK hP 0 rfl rfl 19 (by decide) (hts (.fieldLink RX5 51 "TermLoomModel" "begin" "[I") (by decide +kernel)) (fun _ h9 => h9) rfl dX5_abstraction_78 ?_
        refine lv_aload_n hx hb dX5_abstraction_81 rfl (lv_at hl 3 rfl) ?_
        refine va_get (D := D) (ci := 5) (v := .int (q10.2 18 0)) (C := RX5) (T := TX5) (N := 30) hx hb hts in_X5_abstraction_X5 hown hK hP 0 rfl rfl 18 (by decide) (hts (.fieldLink RX5 130 "TermLoomModel" "terms" "I") (by decide +kernel)) (fun _ h9 => h9) rfl dX5_abstraction_82 ?_
        by_cases hi : (q10.2 18 0) < 0 ∨ 4201 ≤ ((q10.2 18 0)).toNatClampNeg
        · rw [if_pos hi] at h; exact no h
        rw [if_neg hi] at h
        refine va_iald (f := (q10.2 19)) hx hb hK hP 13 0 rfl rfl (i := (q10.2 18 0)) hi dX5_abstraction_85 ?_
        refine lv_bipush (v := (-2)) hx hb dX5_abstraction_86 rfl ?_
        refine lv_iload hx hb dX5_abstraction_88 (lv_at hl 0 rfl) ?_
        obtain ⟨q11, hq11, h⟩ := ob h
        refine mc_i (ws' := wX5 a5 cI cZ q11.2) (wr := ([] : va_W)) [0, 1, 2, 3, 4, 5, 6, 7, 8, 9, 10, 11, 12, 13, 14, 15, 16, 17, 18, 19, 20, 21, 22] [] [0, 1, 2, 3, 4, 5, 6, 7, 8, 9, 10, 11, 12, 13, 14, 15, 16, 17, 18, 19, 20, 21, 22] (va_runV (As := [.int (q10.2 19 ((q10.2 18 0)).toNatClampNeg), .int (-2), .int q10.1]) (rest := []) ⟨hx, hb, hml, hown, hts⟩ (c_X5_write l D cI cZ a5 N q10.2 (q10.2 19 ((q10.2 18 0)).toNatClampNeg) (-2) q10.1 q11.1 q11.2 hq11 H.size) (cwV 3 hts gX5_abstraction_X5_write rfl rfl rfl (by decide +kernel) ⟨Nat.le_of_ble_eq_true rfl, Nat.le_of_ble_eq_true rfl⟩) (pV [0, 1, 2, 3, 4, 5, 6, 7, 8, 9, 10, 11, 12, 13, 14, 15, 16, 17, 18, 19, 20, 21, 22] hP hD hK hN rfl rfl rfl rfl) rfl rfl hl.1 rfl (lv_room (Nat.le_of_ble_eq_true rfl)) dX5_abstraction_90 ⟨Nat.le_of_ble_eq_true rfl, Nat.le_of_ble_eq_true rfl⟩) hP hD hS hA rfl rfl rfl (by decide) rfl rfl (fun H locs hP hD hS => ?_)
        refine lv_istore (lv' := [(6, .int q11.1), (5, .int q10.1), (4, .int (q6.2 5 0)), (3, .int (q6.2 20 ((q6.2 19 (x1).toNatClampNeg)).toNatClampNeg)), (0, .ref (a5 0)), (1, .int x1), (2, .int x2)]) hx hb dX5_abstraction_93 hl (by decide) rfl (fun ls hl => ?_)
        refine lv_iconst (v := 0) hx hb dX5_abstraction_95 rfl ?_
        refine lv_istore (lv' := [(7, .int 0), (6, .int q11.1), (5, .int q10.1), (4, .int (q6.2 5 0)), (3, .int (q6.2 20 ((q6.2 19 (x1).toNatClampNeg)).toNatClampNeg)), (0, .ref (a5 0)), (1, .int x1), (2, .int x2)]) hx hb dX5_abstraction_96 hl (by decide) rfl (fun ls hl => ?_)
        refine lv_aload_n hx hb dX5_abstraction_98 rfl (lv_at hl 5 rfl) ?_
        refine va_get (D := D) (ci := 5) (v := .ref (a5 20)) (C := RX5) (T := TX5) (N := 30) hx hb hts in_X5_abstraction_X5 hown hK hP 0 rfl rfl 19 (by decide) (hts (.fieldLink RX5 51 "TermLoomModel" "begin" "[I") (by decide +kernel)) (fun _ h9 => h9) rfl dX5_abstraction_99 ?_
        refine lv_iload_n hx hb dX5_abstraction_102 rfl (lv_at hl 7 rfl) ?_
        by_cases hi : x2 < 0 ∨ 4201 ≤ (x2).toNatClampNeg
        · rw [if_pos hi] at h; exact no h
        rw [if_neg hi] at h
        refine va_iald (f := (q11.2 19)) hx hb hK hP 13 0 rfl rfl (i := x2) hi dX5_abstraction_103 ?_
        refine lv_istore (lv' := [(8, .int (q11.2 19 (x2).toNatClampNeg)), (7, .int 0), (6, .int q11.1), (5, .int q10.1), (4, .int (q6.2 5 0)), (3, .int (q6.2 20 ((q6.2 19 (x1).toNatClampNeg)).toNatClampNeg)), (0, .ref (a5 0)), (1, .int x1), (2, .int x2)]) hx hb dX5_abstraction_104 hl (by decide) rfl (fun ls hl => ?_)
        exact k_X5_abstraction_106 C0 N N q11.2 x1 x2 (q6.2 20 ((q6.2 19 (x1).toNatClampNeg)).toNatClampNeg) (q6.2 5 0) q10.1 q11.1 0 (q11.2 19 (x2).toNatClampNeg) _ _ _ hP hD hS (lv_sub hl [6, 7, 8, 5, 4, 3, 2, 1, 0] rfl) h
      · rw [if_pos hc7] at h
        refine lv_aload_n hx hb dX5_abstraction_35 rfl (lv_at hl 0 rfl) ?_
        refine lv_iconst (v := 2) hx hb dX5_abstraction_36 rfl ?_
        obtain ⟨q12, hq12, h⟩ := ob h
        refine mc_i (ws' := wX5 a5 cI cZ q12.2) (wr := ([] : va_W)) [0, 1, 2, 3, 4, 5, 6, 7, 8, 9, 10, 11, 12, 13, 14, 15, 16, 17, 18, 19, 20, 21, 22] [] [0, 1, 2, 3, 4, 5, 6, 7, 8, 9, 10, 11, 12, 13, 14, 15, 16, 17, 18, 19, 20, 21, 22] (va_runV (As := [.int 2]) (rest := []) ⟨hx, hb, hml, hown, hts⟩ (c_X5_fail l D cI cZ a5 N q6.2 2 q12.1 q12.2 hq12 H.size) (cwV 1 hts gX5_abstraction_X5_fail rfl rfl rfl (by decide +kernel) ⟨Nat.le_of_ble_eq_true rfl, Nat.le_of_ble_eq_true rfl⟩) (pV [0, 1, 2, 3, 4, 5, 6, 7, 8, 9, 10, 11, 12, 13, 14, 15, 16, 17, 18, 19, 20, 21, 22] hP hD hK hN rfl rfl rfl rfl) rfl rfl hl.1 rfl (lv_room (Nat.le_of_ble_eq_true rfl)) dX5_abstraction_37 ⟨Nat.le_of_ble_eq_true rfl, Nat.le_of_ble_eq_true rfl⟩) hP hD hS hA rfl rfl rfl (by decide) rfl rfl (fun H locs hP hD hS => ?_)
        obtain ⟨rfl, rfl⟩ := so h
        exact ret_i C0 hP hD hS dX5_abstraction_40
    · rw [if_pos hc5] at h
      exact k_X5_abstraction_21 C0 N q4.2 _ _ _ hP hD hS (lv_sub hl [0] rfl) h
