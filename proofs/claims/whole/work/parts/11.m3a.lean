theorem in_X3_begin_X3 : ∀ w ∈ u_ws RX3 TX3 6, w ∈ wsX3_begin := by decide +kernel
def f_X3_begin (N : Nat) (k : St) : Option (St) := bnd (up2 k 2 0 0) (fun k1 => bnd (up2 k1 3 0 1) (fun k2 => bnd (up2 k2 4 0 0) (fun k3 => bnd (up2 k3 5 0 0) (fun k4 => some k4))))
set_option maxHeartbeats 4000000 in
set_option maxRecDepth 100000 in
theorem c_X3_begin (l : Launch) (D : va_G) (cI cZ : ClassId) (a3 : Nat → Nat) (N : Nat) (k : St) : MV l yX3_begin wsX3_begin ({ frames := 0, cells := 0, slots := 0, locals := 0 } : Room) D cI cZ (wX3 a3 cI cZ) [.ref (a3 0)] k (f_X3_begin N k) := by
  refine MV.of (cc := cX3_begin) (maxL := 1) (ret := none) (own := RX3) (by decide) rfl rfl (Nat.le_of_ble_eq_true rfl) ?_
  intro u1 h p e s m args below meth c A C0 H locs ls hP hD hS hl
  obtain ⟨hx, hb, hml, hr, hown, hts, hlocks, hA, hK, hN⟩ := id C0
  have hl : lv_has ls 1 [(0, .ref (a3 0))] := hl
  unfold f_X3_begin at h
  refine lv_aload_n hx hb dX3_begin_0 rfl (lv_at hl 0 rfl) ?_
  refine lv_iconst (v := 0) hx hb dX3_begin_1 rfl ?_
  refine va_put (D := D) (ci := 3) (v := .int 0) (ty := .int) (C := RX3) (T := TX3) (N := 6) hx hb hts in_X3_begin_X3 tyX3 tyX3_ok nmX3 hown hK hP hD hS 0 rfl rfl 2 (by decide) (hts (.fieldLink RX3 18 "TermLoom$Walk" "waiting" "I") (by decide +kernel)) (fun _ h9 => h9) rfl (by decide +kernel) rfl rfl (Nat.le_of_ble_eq_true rfl) dX3_begin_2 (fun H locs hP hD hS => ?_)
  obtain ⟨k1, ek1, h⟩ := bn h
  have hP : va_P D vwCl (wX3 a3 cI cZ k1) H := by rw [ek1]; exact hP
  have hD : va_D A (wX3 a3 cI cZ k1) := by rw [ek1]; exact hD
  refine lv_aload_n hx hb dX3_begin_5 rfl (lv_at hl 0 rfl) ?_
  refine lv_iconst (v := 1) hx hb dX3_begin_6 rfl ?_
  refine va_put (D := D) (ci := 3) (v := .int 1) (ty := .int) (C := RX3) (T := TX3) (N := 6) hx hb hts in_X3_begin_X3 tyX3 tyX3_ok nmX3 hown hK hP hD hS 0 rfl rfl 3 (by decide) (hts (.fieldLink RX3 22 "TermLoom$Walk" "depth" "I") (by decide +kernel)) (fun _ h9 => h9) rfl (by decide +kernel) rfl rfl (Nat.le_of_ble_eq_true rfl) dX3_begin_7 (fun H locs hP hD hS => ?_)
  obtain ⟨k2, ek2, h⟩ := bn h
  have hP : va_P D vwCl (wX3 a3 cI cZ k2) H := by rw [ek2]; exact hP
  have hD : va_D A (wX3 a3 cI cZ k2) := by rw [ek2]; exact hD
  refine lv_aload_n hx hb dX3_begin_10 rfl (lv_at hl 0 rfl) ?_
  refine lv_iconst (v := 0) hx hb dX3_begin_11 rfl ?_
  refine va_put (D := D) (ci := 3) (v := .int 0) (ty := .int) (C := RX3) (T := TX3) (N := 6) hx hb hts in_X3_begin_X3 tyX3 tyX3_ok nmX3 hown hK hP hD hS 0 rfl rfl 4 (by decide) (hts (.fieldLink RX3 25 "TermLoom$Walk" "around" "I") (by decide +kernel)) (fun _ h9 => h9) rfl (by decide +kernel) rfl rfl (Nat.le_of_ble_eq_true rfl) dX3_begin_12 (fun H locs hP hD hS => ?_)
  obtain ⟨k3, ek3, h⟩ := bn h
  have hP : va_P D vwCl (wX3 a3 cI cZ k3) H := by rw [ek3]; exact hP
  have hD : va_D A (wX3 a3 cI cZ k3) := by rw [ek3]; exact hD
  refine lv_aload_n hx hb dX3_begin_15 rfl (lv_at hl 0 rfl) ?_
  refine lv_iconst (v := 0) hx hb dX3_begin_16 rfl ?_
  refine va_put (D := D) (ci := 3) (v := .int 0) (ty := .boolean) (C := RX3) (T := TX3) (N := 6) hx hb hts in_X3_begin_X3 tyX3 tyX3_ok nmX3 hown hK hP hD hS 0 rfl rfl 5 (by decide) (hts (.fieldLink RX3 28 "TermLoom$Walk" "over" "Z") (by decide +kernel)) (fun _ h9 => h9) rfl (by decide +kernel) rfl rfl (Nat.le_of_ble_eq_true rfl) dX3_begin_17 (fun H locs hP hD hS => ?_)
  obtain ⟨k4, ek4, h⟩ := bn h
  have hP : va_P D vwCl (wX3 a3 cI cZ k4) H := by rw [ek4]; exact hP
  have hD : va_D A (wX3 a3 cI cZ k4) := by rw [ek4]; exact hD
  obtain rfl := so1 h
  exact ret_v C0 hP hD hS dX3_begin_20

theorem in_X3_depth_X3 : ∀ w ∈ u_ws RX3 TX3 6, w ∈ wsX3_depth := by decide +kernel
def f_X3_depth (N : Nat) (k : St) : Option (Int32 × St) := some ((k 3 0), k)
set_option maxHeartbeats 4000000 in
set_option maxRecDepth 100000 in
theorem c_X3_depth (l : Launch) (D : va_G) (cI cZ : ClassId) (a3 : Nat → Nat) (N : Nat) (k : St) : MI l yX3_depth wsX3_depth ({ frames := 0, cells := 0, slots := 0, locals := 0 } : Room) D cI cZ (wX3 a3 cI cZ) [.ref (a3 0)] k (f_X3_depth N k) := by
  refine MI.of (cc := cX3_depth) (maxL := 1) (ret := (some .int)) (own := RX3) (by decide) rfl rfl (Nat.le_of_ble_eq_true rfl) ?_
  intro r u1 h p e s m args below meth c A C0 H locs ls hP hD hS hl
  obtain ⟨hx, hb, hml, hr, hown, hts, hlocks, hA, hK, hN⟩ := id C0
  have hl : lv_has ls 1 [(0, .ref (a3 0))] := hl
  unfold f_X3_depth at h
  refine lv_aload_n hx hb dX3_depth_0 rfl (lv_at hl 0 rfl) ?_
  refine va_get (D := D) (ci := 3) (v := .int (k 3 0)) (C := RX3) (T := TX3) (N := 6) hx hb hts in_X3_depth_X3 hown hK hP 0 rfl rfl 3 (by decide) (hts (.fieldLink RX3 22 "TermLoom$Walk" "depth" "I") (by decide +kernel)) (fun _ h9 => h9) rfl dX3_depth_1 ?_
  obtain ⟨rfl, rfl⟩ := so h
  exact ret_i C0 hP hD hS dX3_depth_4

theorem in_X3_around_X3 : ∀ w ∈ u_ws RX3 TX3 6, w ∈ wsX3_around := by decide +kernel
def f_X3_around (N : Nat) (k : St) : Option (Int32 × St) := some ((k 4 0), k)
set_option maxHeartbeats 4000000 in
set_option maxRecDepth 100000 in
theorem c_X3_around (l : Launch) (D : va_G) (cI cZ : ClassId) (a3 : Nat → Nat) (N : Nat) (k : St) : MI l yX3_around wsX3_around ({ frames := 0, cells := 0, slots := 0, locals := 0 } : Room) D cI cZ (wX3 a3 cI cZ) [.ref (a3 0)] k (f_X3_around N k) := by
  refine MI.of (cc := cX3_around) (maxL := 1) (ret := (some .int)) (own := RX3) (by decide) rfl rfl (Nat.le_of_ble_eq_true rfl) ?_
  intro r u1 h p e s m args below meth c A C0 H locs ls hP hD hS hl
  obtain ⟨hx, hb, hml, hr, hown, hts, hlocks, hA, hK, hN⟩ := id C0
  have hl : lv_has ls 1 [(0, .ref (a3 0))] := hl
  unfold f_X3_around at h
  refine lv_aload_n hx hb dX3_around_0 rfl (lv_at hl 0 rfl) ?_
  refine va_get (D := D) (ci := 3) (v := .int (k 4 0)) (C := RX3) (T := TX3) (N := 6) hx hb hts in_X3_around_X3 hown hK hP 0 rfl rfl 4 (by decide) (hts (.fieldLink RX3 25 "TermLoom$Walk" "around" "I") (by decide +kernel)) (fun _ h9 => h9) rfl dX3_around_1 ?_
  obtain ⟨rfl, rfl⟩ := so h
  exact ret_i C0 hP hD hS dX3_around_4

theorem in_X3_over_X3 : ∀ w ∈ u_ws RX3 TX3 6, w ∈ wsX3_over := by decide +kernel
def f_X3_over (N : Nat) (k : St) : Option (Int32 × St) := if (k 5 0) = 0 ∨ (k 5 0) = 1 then some ((k 5 0), k) else none
set_option maxHeartbeats 4000000 in
set_option maxRecDepth 100000 in
theorem c_X3_over (l : Launch) (D : va_G) (cI cZ : ClassId) (a3 : Nat → Nat) (N : Nat) (k : St) : MI l yX3_over wsX3_over ({ frames := 0, cells := 0, slots := 0, locals := 0 } : Room) D cI cZ (wX3 a3 cI cZ) [.ref (a3 0)] k (f_X3_over N k) := by
  refine MI.of (cc := cX3_over) (maxL := 1) (ret := (some .boolean)) (own := RX3) (by decide) rfl rfl (Nat.le_of_ble_eq_true rfl) ?_
  intro r u1 h p e s m args below meth c A C0 H locs ls hP hD hS hl
  obtain ⟨hx, hb, hml, hr, hown, hts, hlocks, hA, hK, hN⟩ := id C0
  have hl : lv_has ls 1 [(0, .ref (a3 0))] := hl
  unfold f_X3_over at h
  refine lv_aload_n hx hb dX3_over_0 rfl (lv_at hl 0 rfl) ?_
  refine va_get (D := D) (ci := 3) (v := .int (k 5 0)) (C := RX3) (T := TX3) (N := 6) hx hb hts in_X3_over_X3 hown hK hP 0 rfl rfl 5 (by decide) (hts (.fieldLink RX3 28 "TermLoom$Walk" "over" "Z") (by decide +kernel)) (fun _ h9 => h9) rfl dX3_over_1 ?_
  by_cases hz : (k 5 0) = 0 ∨ (k 5 0) = 1
  · rw [if_pos hz] at h
    obtain ⟨rfl, rfl⟩ := so h
    exact ret_z C0 hz hP hD hS dX3_over_4
  · rw [if_neg hz] at h; exact no h

theorem in_X3_takeUp_X3 : ∀ w ∈ u_ws RX3 TX3 6, w ∈ wsX3_takeUp := by decide +kernel
def f_X3_takeUp (N : Nat) (k : St) : Option (St) := if 0 < (k 2 0) then bnd (up2 k 2 0 ((k 2 0) - 1)) (fun k2 => (f_X4_read N 121 (k2 0) (k2 2 0)).bind (fun q3 => bnd (up2 k2 3 0 q3.1) (fun k4 => (f_X4_read N 121 (k4 1) (k4 2 0)).bind (fun q5 => bnd (up2 k4 4 0 q5.1) (fun k6 => some k6))))) else bnd (up2 k 5 0 1) (fun k7 => some k7)
set_option maxHeartbeats 4000000 in
set_option maxRecDepth 100000 in
theorem c_X3_takeUp (l : Launch) (D : va_G) (cI cZ : ClassId) (a3 : Nat → Nat) (N : Nat) (k : St) : MV l yX3_takeUp wsX3_takeUp ({ frames := 1, cells := 0, slots := 0, locals := 21 } : Room) D cI cZ (wX3 a3 cI cZ) [.ref (a3 0)] k (f_X3_takeUp N k) := by
  refine MV.of (cc := cX3_takeUp) (maxL := 1) (ret := none) (own := RX3) (by decide) rfl rfl (Nat.le_of_ble_eq_true rfl) ?_
  intro u1 h p e s m args below meth c A C0 H locs ls hP hD hS hl
  obtain ⟨hx, hb, hml, hr, hown, hts, hlocks, hA, hK, hN⟩ := id C0
  have hl : lv_has ls 1 [(0, .ref (a3 0))] := hl
  unfold f_X3_takeUp at h
  refine lv_aload_n hx hb dX3_takeUp_0 rfl (lv_at hl 0 rfl) ?_
  refine va_get (D := D) (ci := 3) (v := .int (k 2 0)) (C := RX3) (T := TX3) (N := 6) hx hb hts in_X3_takeUp_X3 hown hK hP 0 rfl rfl 2 (by decide) (hts (.fieldLink RX3 18 "TermLoom$Walk" "waiting" "I") (by decide +kernel)) (fun _ h9 => h9) rfl dX3_takeUp_1 ?_
  refine lv_if_gt (tgt := 13) hx hb dX3_takeUp_4 (by decide) (fun hc1 => ?_) (fun hc1 => ?_)
  · rw [if_pos hc1] at h
    refine lv_aload_n hx hb dX3_takeUp_13 rfl (lv_at hl 0 rfl) ?_
    refine lv_dup hx hb dX3_takeUp_14 rfl ?_
    refine va_get (D := D) (ci := 3) (v := .int (k 2 0)) (C := RX3) (T := TX3) (N := 6) hx hb hts in_X3_takeUp_X3 hown hK hP 0 rfl rfl 2 (by decide) (hts (.fieldLink RX3 18 "TermLoom$Walk" "waiting" "I") (by decide +kernel)) (fun _ h9 => h9) rfl dX3_takeUp_15 ?_
    refine lv_iconst (v := 1) hx hb dX3_takeUp_18 rfl ?_
    refine lv_isub hx hb dX3_takeUp_19 ?_
    refine va_put (D := D) (ci := 3) (v := .int ((k 2 0) - 1)) (ty := .int) (C := RX3) (T := TX3) (N := 6) hx hb hts in_X3_takeUp_X3 tyX3 tyX3_ok nmX3 hown hK hP hD hS 0 rfl rfl 2 (by decide) (hts (.fieldLink RX3 18 "TermLoom$Walk" "waiting" "I") (by decide +kernel)) (fun _ h9 => h9) rfl (by decide +kernel) rfl rfl (Nat.le_of_ble_eq_true rfl) dX3_takeUp_20 (fun H locs hP hD hS => ?_)
    obtain ⟨k2, ek2, h⟩ := bn h
    have hP : va_P D vwCl (wX3 a3 cI cZ k2) H := by rw [ek2]; exact hP
    have hD : va_D A (wX3 a3 cI cZ k2) := by rw [ek2]; exact hD
    refine lv_aload_n hx hb dX3_takeUp_23 rfl (lv_at hl 0 rfl) ?_
    refine lv_aload_n hx hb dX3_takeUp_24 rfl (lv_at hl 0 rfl) ?_
    refine va_get (D := D) (ci := 3) (v := .ref (a3 1)) (C := RX3) (T := TX3) (N := 6) hx hb hts in_X3_takeUp_X3 hown hK hP 0 rfl rfl 0 (by decide) (hts (.fieldLink RX3 9 "TermLoom$Walk" "depths" "[I") (by decide +kernel)) (fun _ h9 => h9) rfl dX3_takeUp_25 ?_
    refine lv_aload_n hx hb dX3_takeUp_28 rfl (lv_at hl 0 rfl) ?_
    refine va_get (D := D) (ci := 3) (v := .int (k2 2 0)) (C := RX3) (T := TX3) (N := 6) hx hb hts in_X3_takeUp_X3 hown hK hP 0 rfl rfl 2 (by decide) (hts (.fieldLink RX3 18 "TermLoom$Walk" "waiting" "I") (by decide +kernel)) (fun _ h9 => h9) rfl dX3_takeUp_29 ?_
    obtain ⟨q3, hq3, h⟩ := ob h
    refine mc_i (ws' := wX3 a3 cI cZ k2) (wr := ((wX3 a3 cI cZ k2).eraseIdx 1)) [1] [0, 2] [0, 2, 1] (va_runSN (As := [.ref (a3 1), .int (k2 2 0)]) (rest := [.ref (a3 0)]) ⟨hx, hb, hml, hown, hts⟩ (c_X4_read l D cI cZ (a3 1) 121 (k2 0) N (k2 2 0) q3.1 q3.2 hq3 H.size) ⟨va_cnB 2 hts gX3_takeUp_X4_read_n38 rfl rfl rfl (nw_X3_38 hN) (hts (.initialized RX4) (by decide +kernel)) (by decide +kernel) ⟨Nat.le_of_ble_eq_true rfl, Nat.le_of_ble_eq_true rfl⟩, hts (.static yX4_read) (by decide +kernel), trivial⟩ (pS [1] hP hD hK hN rfl rfl) rfl rfl hl.1 rfl (lv_room (Nat.le_of_ble_eq_true rfl)) dX3_takeUp_32 ⟨Nat.le_of_ble_eq_true rfl, Nat.le_of_ble_eq_true rfl⟩) hP hD hS hA rfl rfl rfl (by decide) rfl rfl (fun H locs hP hD hS => ?_)
    refine va_put (D := D) (ci := 3) (v := .int q3.1) (ty := .int) (C := RX3) (T := TX3) (N := 6) hx hb hts in_X3_takeUp_X3 tyX3 tyX3_ok nmX3 hown hK hP hD hS 0 rfl rfl 3 (by decide) (hts (.fieldLink RX3 22 "TermLoom$Walk" "depth" "I") (by decide +kernel)) (fun _ h9 => h9) rfl (by decide +kernel) rfl rfl (Nat.le_of_ble_eq_true rfl) dX3_takeUp_35 (fun H locs hP hD hS => ?_)
    obtain ⟨k4, ek4, h⟩ := bn h
    have hP : va_P D vwCl (wX3 a3 cI cZ k4) H := by rw [ek4]; exact hP
    have hD : va_D A (wX3 a3 cI cZ k4) := by rw [ek4]; exact hD
    refine lv_aload_n hx hb dX3_takeUp_38 rfl (lv_at hl 0 rfl) ?_
    refine lv_aload_n hx hb dX3_takeUp_39 rfl (lv_at hl 0 rfl) ?_
    refine va_get (D := D) (ci := 3) (v := .ref (a3 2)) (C := RX3) (T := TX3) (N := 6) hx hb hts in_X3_takeUp_X3 hown hK hP 0 rfl rfl 1 (by decide) (hts (.fieldLink RX3 15 "TermLoom$Walk" "binders" "[I") (by decide +kernel)) (fun _ h9 => h9) rfl dX3_takeUp_40 ?_
    refine lv_aload_n hx hb dX3_takeUp_43 rfl (lv_at hl 0 rfl) ?_
    refine va_get (D := D) (ci := 3) (v := .int (k4 2 0)) (C := RX3) (T := TX3) (N := 6) hx hb hts in_X3_takeUp_X3 hown hK hP 0 rfl rfl 2 (by decide) (hts (.fieldLink RX3 18 "TermLoom$Walk" "waiting" "I") (by decide +kernel)) (fun _ h9 => h9) rfl dX3_takeUp_44 ?_
    obtain ⟨q5, hq5, h⟩ := ob h
    refine mc_i (ws' := wX3 a3 cI cZ k4) (wr := ((wX3 a3 cI cZ k4).eraseIdx 2)) [2] [0, 1] [0, 1, 2] (va_runSN (As := [.ref (a3 2), .int (k4 2 0)]) (rest := [.ref (a3 0)]) ⟨hx, hb, hml, hown, hts⟩ (c_X4_read l D cI cZ (a3 2) 121 (k4 1) N (k4 2 0) q5.1 q5.2 hq5 H.size) ⟨va_cnB 2 hts gX3_takeUp_X4_read_n38 rfl rfl rfl (nw_X3_38 hN) (hts (.initialized RX4) (by decide +kernel)) (by decide +kernel) ⟨Nat.le_of_ble_eq_true rfl, Nat.le_of_ble_eq_true rfl⟩, hts (.static yX4_read) (by decide +kernel), trivial⟩ (pS [2] hP hD hK hN rfl rfl) rfl rfl hl.1 rfl (lv_room (Nat.le_of_ble_eq_true rfl)) dX3_takeUp_47 ⟨Nat.le_of_ble_eq_true rfl, Nat.le_of_ble_eq_true rfl⟩) hP hD hS hA rfl rfl rfl (by decide) rfl rfl (fun H locs hP hD hS => ?_)
    refine va_put (D := D) (ci := 3) (v := .int q5.1) (ty := .int) (C := RX3) (T := TX3) (N := 6) hx hb hts in_X3_takeUp_X3 tyX3 tyX3_ok nmX3 hown hK hP hD hS 0 rfl rfl 4 (by decide) (hts (.fieldLink RX3 25 "TermLoom$Walk" "around" "I") (by decide +kernel)) (fun _ h9 => h9) rfl (by decide +kernel) rfl rfl (Nat.le_of_ble_eq_true rfl) dX3_takeUp_50 (fun H locs hP hD hS => ?_)
    obtain ⟨k6, ek6, h⟩ := bn h
    have hP : va_P D vwCl (wX3 a3 cI cZ k6) H := by rw [ek6]; exact hP
    have hD : va_D A (wX3 a3 cI cZ k6) := by rw [ek6]; exact hD
    obtain rfl := so1 h
    exact ret_v C0 hP hD hS dX3_takeUp_53
  · rw [if_neg hc1] at h
    refine lv_aload_n hx hb dX3_takeUp_7 rfl (lv_at hl 0 rfl) ?_
    refine lv_iconst (v := 1) hx hb dX3_takeUp_8 rfl ?_
    refine va_put (D := D) (ci := 3) (v := .int 1) (ty := .boolean) (C := RX3) (T := TX3) (N := 6) hx hb hts in_X3_takeUp_X3 tyX3 tyX3_ok nmX3 hown hK hP hD hS 0 rfl rfl 5 (by decide) (hts (.fieldLink RX3 28 "TermLoom$Walk" "over" "Z") (by decide +kernel)) (fun _ h9 => h9) rfl (by decide +kernel) rfl rfl (Nat.le_of_ble_eq_true rfl) dX3_takeUp_9 (fun H locs hP hD hS => ?_)
    obtain ⟨k7, ek7, h⟩ := bn h
    have hP : va_P D vwCl (wX3 a3 cI cZ k7) H := by rw [ek7]; exact hP
    have hD : va_D A (wX3 a3 cI cZ k7) := by rw [ek7]; exact hD
    obtain rfl := so1 h
    exact ret_v C0 hP hD hS dX3_takeUp_12

theorem in_X3_putOff_X3 : ∀ w ∈ u_ws RX3 TX3 6, w ∈ wsX3_putOff := by decide +kernel
def f_X3_putOff_55 (N : Nat) (k : St) : Option (St) := some k
def f_X3_putOff (N : Nat) (k : St) : Option (St) := if (k 2 0) < 0 then f_X3_putOff_55 N k else if 121 ≤ (k 2 0) then f_X3_putOff_55 N k else if (k 2 0) < 0 ∨ 121 ≤ ((k 2 0)).toNatClampNeg then none else bnd (up2 k 0 ((k 2 0)).toNatClampNeg (k 3 0)) (fun k3 => if (k3 2 0) < 0 ∨ 121 ≤ ((k3 2 0)).toNatClampNeg then none else bnd (up2 k3 1 ((k3 2 0)).toNatClampNeg (k3 4 0)) (fun k4 => bnd (up2 k4 2 0 ((k4 2 0) + 1)) (fun k5 => f_X3_putOff_55 N k5)))
abbrev KP_X3_putOff_55 (p : Program) (l : Launch) (e : Env) (s : State) (m : MethodId) (args : Array Value) (below : List Frame) (meth : Method) (c : Code) (D : va_G) (cI cZ : ClassId) (a3 : Nat → Nat) (A : Nat → Prop) (u1 : St) (K : St → Option (St)) : Prop := ∀ (k : St) (H : Heap) (locs : List Loc) (ls : Array Slot), va_P D vwCl (wX3 a3 cI cZ k) H → va_D A (wX3 a3 cI cZ k) → va_S A s.heap H locs → lv_has ls 1 [] → K k = some u1 → W p l e ({ frames := 0, cells := 0, slots := 0, locals := 0 } : Room) s m args below meth c H locs 0 0 (QV below args s D cI cZ (wX3 a3 cI cZ) A u1) (F0 m 55 ls [])
set_option maxHeartbeats 4000000 in
set_option maxRecDepth 100000 in
theorem k_X3_putOff_55 {p : Program} {l : Launch} {e : Env} {s : State} {m : MethodId} {args : Array Value} {below : List Frame} {meth : Method} {c : Code} {D : va_G} {cI cZ : ClassId} {a3 : Nat → Nat} {A : Nat → Prop} {u1 : St} (C0 : mB p s m args meth c D cI cZ A cX3_putOff 1 none wsX3_putOff RX3) (N : Nat) : KP_X3_putOff_55 p l e s m args below meth c D cI cZ a3 A u1 (f_X3_putOff_55 N) := by
  obtain ⟨hx, hb, hml, hr, hown, hts, hlocks, hA, hK, hN⟩ := id C0
  intro k H locs ls hP hD hS hl h
  unfold f_X3_putOff_55 at h
  obtain rfl := so1 h
  exact ret_v C0 hP hD hS dX3_putOff_55
set_option maxHeartbeats 4000000 in
set_option maxRecDepth 100000 in
theorem c_X3_putOff (l : Launch) (D : va_G) (cI cZ : ClassId) (a3 : Nat → Nat) (N : Nat) (k : St) : MV l yX3_putOff wsX3_putOff ({ frames := 0, cells := 0, slots := 0, locals := 0 } : Room) D cI cZ (wX3 a3 cI cZ) [.ref (a3 0)] k (f_X3_putOff N k) := by
  refine MV.of (cc := cX3_putOff) (maxL := 1) (ret := none) (own := RX3) (by decide) rfl rfl (Nat.le_of_ble_eq_true rfl) ?_
  intro u1 h p e s m args below meth c A C0 H locs ls hP hD hS hl
  obtain ⟨hx, hb, hml, hr, hown, hts, hlocks, hA, hK, hN⟩ := id C0
  have hl : lv_has ls 1 [(0, .ref (a3 0))] := hl
  unfold f_X3_putOff at h
  refine lv_aload_n hx hb dX3_putOff_0 rfl (lv_at hl 0 rfl) ?_
  refine va_get (D := D) (ci := 3) (v := .int (k 2 0)) (C := RX3) (T := TX3) (N := 6) hx hb hts in_X3_putOff_X3 hown hK hP 0 rfl rfl 2 (by decide) (hts (.fieldLink RX3 18 "TermLoom$Walk" "waiting" "I") (by decide +kernel)) (fun _ h9 => h9) rfl dX3_putOff_1 ?_
  refine lv_if_lt (tgt := 55) hx hb dX3_putOff_4 (by decide) (fun hc1 => ?_) (fun hc1 => ?_)
  · rw [if_pos hc1] at h
    exact k_X3_putOff_55 C0 N k _ _ _ hP hD hS (lv_sub hl [] rfl) h
  · rw [if_neg hc1] at h
    refine lv_aload_n hx hb dX3_putOff_7 rfl (lv_at hl 0 rfl) ?_
    refine va_get (D := D) (ci := 3) (v := .int (k 2 0)) (C := RX3) (T := TX3) (N := 6) hx hb hts in_X3_putOff_X3 hown hK hP 0 rfl rfl 2 (by decide) (hts (.fieldLink RX3 18 "TermLoom$Walk" "waiting" "I") (by decide +kernel)) (fun _ h9 => h9) rfl dX3_putOff_8 ?_
    refine lv_aload_n hx hb dX3_putOff_11 rfl (lv_at hl 0 rfl) ?_
    refine va_get (D := D) (ci := 3) (v := .ref (a3 1)) (C := RX3) (T := TX3) (N := 6) hx hb hts in_X3_putOff_X3 hown hK hP 0 rfl rfl 0 (by decide) (hts (.fieldLink RX3 9 "TermLoom$Walk" "depths" "[I") (by decide +kernel)) (fun _ h9 => h9) rfl dX3_putOff_12 ?_
    refine va_alen (v := 121) hx hb hK hP 1 0 rfl rfl rfl dX3_putOff_15 ?_
    refine lv_icmp_ge (tgt := 55) hx hb dX3_putOff_16 (by decide) (fun hc2 => ?_) (fun hc2 => ?_)
    · rw [if_pos hc2] at h
      exact k_X3_putOff_55 C0 N k _ _ _ hP hD hS (lv_sub hl [] rfl) h
    · rw [if_neg hc2] at h
      refine lv_aload_n hx hb dX3_putOff_19 rfl (lv_at hl 0 rfl) ?_
      refine va_get (D := D) (ci := 3) (v := .ref (a3 1)) (C := RX3) (T := TX3) (N := 6) hx hb hts in_X3_putOff_X3 hown hK hP 0 rfl rfl 0 (by decide) (hts (.fieldLink RX3 9 "TermLoom$Walk" "depths" "[I") (by decide +kernel)) (fun _ h9 => h9) rfl dX3_putOff_20 ?_
      refine lv_aload_n hx hb dX3_putOff_23 rfl (lv_at hl 0 rfl) ?_
      refine va_get (D := D) (ci := 3) (v := .int (k 2 0)) (C := RX3) (T := TX3) (N := 6) hx hb hts in_X3_putOff_X3 hown hK hP 0 rfl rfl 2 (by decide) (hts (.fieldLink RX3 18 "TermLoom$Walk" "waiting" "I") (by decide +kernel)) (fun _ h9 => h9) rfl dX3_putOff_24 ?_
      refine lv_aload_n hx hb dX3_putOff_27 rfl (lv_at hl 0 rfl) ?_
      refine va_get (D := D) (ci := 3) (v := .int (k 3 0)) (C := RX3) (T := TX3) (N := 6) hx hb hts in_X3_putOff_X3 hown hK hP 0 rfl rfl 3 (by decide) (hts (.fieldLink RX3 22 "TermLoom$Walk" "depth" "I") (by decide +kernel)) (fun _ h9 => h9) rfl dX3_putOff_28 ?_
      by_cases hi : (k 2 0) < 0 ∨ 121 ≤ ((k 2 0)).toNatClampNeg
      · rw [if_pos hi] at h; exact no h
      rw [if_neg hi] at h
      refine va_iast (f := (k 0)) hx hb hK hP hD hS 1 0 rfl rfl (i := (k 2 0)) (x := (k 3 0)) hi dX3_putOff_31 (fun H locs hP hD hS => ?_)
      obtain ⟨k3, ek3, h⟩ := bn h
      have hP : va_P D vwCl (wX3 a3 cI cZ k3) H := by rw [ek3]; exact hP
      have hD : va_D A (wX3 a3 cI cZ k3) := by rw [ek3]; exact hD
      refine lv_aload_n hx hb dX3_putOff_32 rfl (lv_at hl 0 rfl) ?_
      refine va_get (D := D) (ci := 3) (v := .ref (a3 2)) (C := RX3) (T := TX3) (N := 6) hx hb hts in_X3_putOff_X3 hown hK hP 0 rfl rfl 1 (by decide) (hts (.fieldLink RX3 15 "TermLoom$Walk" "binders" "[I") (by decide +kernel)) (fun _ h9 => h9) rfl dX3_putOff_33 ?_
      refine lv_aload_n hx hb dX3_putOff_36 rfl (lv_at hl 0 rfl) ?_
      refine va_get (D := D) (ci := 3) (v := .int (k3 2 0)) (C := RX3) (T := TX3) (N := 6) hx hb hts in_X3_putOff_X3 hown hK hP 0 rfl rfl 2 (by decide) (hts (.fieldLink RX3 18 "TermLoom$Walk" "waiting" "I") (by decide +kernel)) (fun _ h9 => h9) rfl dX3_putOff_37 ?_
      refine lv_aload_n hx hb dX3_putOff_40 rfl (lv_at hl 0 rfl) ?_
      refine va_get (D := D) (ci := 3) (v := .int (k3 4 0)) (C := RX3) (T := TX3) (N := 6) hx hb hts in_X3_putOff_X3 hown hK hP 0 rfl rfl 4 (by decide) (hts (.fieldLink RX3 25 "TermLoom$Walk" "around" "I") (by decide +kernel)) (fun _ h9 => h9) rfl dX3_putOff_41 ?_
      by_cases hi : (k3 2 0) < 0 ∨ 121 ≤ ((k3 2 0)).toNatClampNeg
      · rw [if_pos hi] at h; exact no h
      rw [if_neg hi] at h
      refine va_iast (f := (k3 1)) hx hb hK hP hD hS 2 0 rfl rfl (i := (k3 2 0)) (x := (k3 4 0)) hi dX3_putOff_44 (fun H locs hP hD hS => ?_)
      obtain ⟨k4, ek4, h⟩ := bn h
      have hP : va_P D vwCl (wX3 a3 cI cZ k4) H := by rw [ek4]; exact hP
      have hD : va_D A (wX3 a3 cI cZ k4) := by rw [ek4]; exact hD
      refine lv_aload_n hx hb dX3_putOff_45 rfl (lv_at hl 0 rfl) ?_
      refine lv_dup hx hb dX3_putOff_46 rfl ?_
      refine va_get (D := D) (ci := 3) (v := .int (k4 2 0)) (C := RX3) (T := TX3) (N := 6) hx hb hts in_X3_putOff_X3 hown hK hP 0 rfl rfl 2 (by decide) (hts (.fieldLink RX3 18 "TermLoom$Walk" "waiting" "I") (by decide +kernel)) (fun _ h9 => h9) rfl dX3_putOff_47 ?_
      refine lv_iconst (v := 1) hx hb dX3_putOff_50 rfl ?_
      refine lv_iadd hx hb dX3_putOff_51 ?_
      refine va_put (D := D) (ci := 3) (v := .int ((k4 2 0) + 1)) (ty := .int) (C := RX3) (T := TX3) (N := 6) hx hb hts in_X3_putOff_X3 tyX3 tyX3_ok nmX3 hown hK hP hD hS 0 rfl rfl 2 (by decide) (hts (.fieldLink RX3 18 "TermLoom$Walk" "waiting" "I") (by decide +kernel)) (fun _ h9 => h9) rfl (by decide +kernel) rfl rfl (Nat.le_of_ble_eq_true rfl) dX3_putOff_52 (fun H locs hP hD hS => ?_)
      obtain ⟨k5, ek5, h⟩ := bn h
      have hP : va_P D vwCl (wX3 a3 cI cZ k5) H := by rw [ek5]; exact hP
      have hD : va_D A (wX3 a3 cI cZ k5) := by rw [ek5]; exact hD
      exact k_X3_putOff_55 C0 N k5 _ _ _ hP hD hS (lv_sub hl [] rfl) h

theorem in_X3_pass_X3 : ∀ w ∈ u_ws RX3 TX3 6, w ∈ wsX3_pass := by decide +kernel
def f_X3_pass_55 (N : Nat) (k : St) : Option (St) := some k
def f_X3_pass (N : Nat) (k : St) (x1 : Int32) : Option (St) := if x1 = (-1) then bnd (up2 k 3 0 ((k 3 0) + 1)) (fun k6 => (f_X3_putOff N k6).bind (fun q7 => f_X3_pass_55 N q7)) else if x1 = (-2) then bnd (up2 k 3 0 ((k 3 0) + 1)) (fun k4 => bnd (up2 k4 4 0 ((k4 4 0) + 1)) (fun k5 => f_X3_pass_55 N k5)) else (f_X3_takeUp N k).bind (fun q3 => f_X3_pass_55 N q3)
abbrev KP_X3_pass_55 (p : Program) (l : Launch) (e : Env) (s : State) (m : MethodId) (args : Array Value) (below : List Frame) (meth : Method) (c : Code) (D : va_G) (cI cZ : ClassId) (a3 : Nat → Nat) (A : Nat → Prop) (u1 : St) (K : St → Option (St)) : Prop := ∀ (k : St) (H : Heap) (locs : List Loc) (ls : Array Slot), va_P D vwCl (wX3 a3 cI cZ k) H → va_D A (wX3 a3 cI cZ k) → va_S A s.heap H locs → lv_has ls 2 [] → K k = some u1 → W p l e ({ frames := 2, cells := 0, slots := 0, locals := 41 } : Room) s m args below meth c H locs 0 0 (QV below args s D cI cZ (wX3 a3 cI cZ) A u1) (F0 m 55 ls [])
set_option maxHeartbeats 4000000 in
set_option maxRecDepth 100000 in
theorem k_X3_pass_55 {p : Program} {l : Launch} {e : Env} {s : State} {m : MethodId} {args : Array Value} {below : List Frame} {meth : Method} {c : Code} {D : va_G} {cI cZ : ClassId} {a3 : Nat → Nat} {A : Nat → Prop} {u1 : St} (C0 : mB p s m args meth c D cI cZ A cX3_pass 2 none wsX3_pass RX3) (N : Nat) : KP_X3_pass_55 p l e s m args below meth c D cI cZ a3 A u1 (f_X3_pass_55 N) := by
  obtain ⟨hx, hb, hml, hr, hown, hts, hlocks, hA, hK, hN⟩ := id C0
  intro k H locs ls hP hD hS hl h
  unfold f_X3_pass_55 at h
  obtain rfl := so1 h
  exact ret_v C0 hP hD hS dX3_pass_55
set_option maxHeartbeats 4000000 in
set_option maxRecDepth 100000 in
theorem c_X3_pass (l : Launch) (D : va_G) (cI cZ : ClassId) (a3 : Nat → Nat) (N : Nat) (k : St) (x1 : Int32) : MV l yX3_pass wsX3_pass ({ frames := 2, cells := 0, slots := 0, locals := 41 } : Room) D cI cZ (wX3 a3 cI cZ) [.ref (a3 0), .int x1] k (f_X3_pass N k x1) := by
  refine MV.of (cc := cX3_pass) (maxL := 2) (ret := none) (own := RX3) (by decide) rfl rfl (Nat.le_of_ble_eq_true rfl) ?_
  intro u1 h p e s m args below meth c A C0 H locs ls hP hD hS hl
  obtain ⟨hx, hb, hml, hr, hown, hts, hlocks, hA, hK, hN⟩ := id C0
  have hl : lv_has ls 2 [(0, .ref (a3 0)), (1, .int x1)] := hl
  unfold f_X3_pass at h
  refine lv_iload_n hx hb dX3_pass_0 rfl (lv_at hl 1 rfl) ?_
  refine lv_iconst (v := (-1)) hx hb dX3_pass_1 rfl ?_
  refine lv_icmp_ne (tgt := 22) hx hb dX3_pass_2 (by decide) (fun hc1 => ?_) (fun hc1 => ?_)
  · rw [if_neg hc1] at h
    refine lv_iload_n hx hb dX3_pass_22 rfl (lv_at hl 1 rfl) ?_
    refine lv_bipush (v := (-2)) hx hb dX3_pass_23 rfl ?_
    refine lv_icmp_ne (tgt := 51) hx hb dX3_pass_25 (by decide) (fun hc2 => ?_) (fun hc2 => ?_)
    · rw [if_neg hc2] at h
      refine lv_aload_n hx hb dX3_pass_51 rfl (lv_at hl 0 rfl) ?_
      obtain ⟨q3, hq3, h⟩ := ob h
      refine mc_v (ws' := wX3 a3 cI cZ q3) (wr := ([] : va_W)) [0, 1, 2] [] [0, 1, 2] (va_runV (As := []) (rest := []) ⟨hx, hb, hml, hown, hts⟩ (c_X3_takeUp l D cI cZ a3 N k q3 hq3 H.size) (cwV 0 hts gX3_pass_X3_takeUp rfl rfl rfl (by decide +kernel) ⟨Nat.le_of_ble_eq_true rfl, Nat.le_of_ble_eq_true rfl⟩) (pV [0, 1, 2] hP hD hK hN rfl rfl rfl rfl) rfl rfl hl.1 rfl (lv_room (Nat.le_of_ble_eq_true rfl)) dX3_pass_52 ⟨Nat.le_of_ble_eq_true rfl, Nat.le_of_ble_eq_true rfl⟩) hP hD hS hA rfl rfl rfl (by decide) rfl rfl (fun H locs hP hD hS => ?_)
      exact k_X3_pass_55 C0 N q3 _ _ _ hP hD hS (lv_sub hl [] rfl) h
    · rw [if_pos hc2] at h
      refine lv_aload_n hx hb dX3_pass_28 rfl (lv_at hl 0 rfl) ?_
      refine lv_dup hx hb dX3_pass_29 rfl ?_
      refine va_get (D := D) (ci := 3) (v := .int (k 3 0)) (C := RX3) (T := TX3) (N := 6) hx hb hts in_X3_pass_X3 hown hK hP 0 rfl rfl 3 (by decide) (hts (.fieldLink RX3 22 "TermLoom$Walk" "depth" "I") (by decide +kernel)) (fun _ h9 => h9) rfl dX3_pass_30 ?_
      refine lv_iconst (v := 1) hx hb dX3_pass_33 rfl ?_
      refine lv_iadd hx hb dX3_pass_34 ?_
      refine va_put (D := D) (ci := 3) (v := .int ((k 3 0) + 1)) (ty := .int) (C := RX3) (T := TX3) (N := 6) hx hb hts in_X3_pass_X3 tyX3 tyX3_ok nmX3 hown hK hP hD hS 0 rfl rfl 3 (by decide) (hts (.fieldLink RX3 22 "TermLoom$Walk" "depth" "I") (by decide +kernel)) (fun _ h9 => h9) rfl (by decide +kernel) rfl rfl (Nat.le_of_ble_eq_true rfl) dX3_pass_35 (fun H locs hP hD hS => ?_)
      obtain ⟨k4, ek4, h⟩ := bn h
      have hP : va_P D vwCl (wX3 a3 cI cZ k4) H := by rw [ek4]; exact hP
      have hD : va_D A (wX3 a3 cI cZ k4) := by rw [ek4]; exact hD
      refine lv_aload_n hx hb dX3_pass_38 rfl (lv_at hl 0 rfl) ?_
      refine lv_dup hx hb dX3_pass_39 rfl ?_
      refine va_get (D := D) (ci := 3) (v := .int (k4 4 0)) (C := RX3) (T := TX3) (N := 6) hx hb hts in_X3_pass_X3 hown hK hP 0 rfl rfl 4 (by decide) (hts (.fieldLink RX3 25 "TermLoom$Walk" "around" "I") (by decide +kernel)) (fun _ h9 => h9) rfl dX3_pass_40 ?_
      refine lv_iconst (v := 1) hx hb dX3_pass_43 rfl ?_
      refine lv_iadd hx hb dX3_pass_44 ?_
      refine va_put (D := D) (ci := 3) (v := .int ((k4 4 0) + 1)) (ty := .int) (C := RX3) (T := TX3) (N := 6) hx hb hts in_X3_pass_X3 tyX3 tyX3_ok nmX3 hown hK hP hD hS 0 rfl rfl 4 (by decide) (hts (.fieldLink RX3 25 "TermLoom$Walk" "around" "I") (by decide +kernel)) (fun _ h9 => h9) rfl (by decide +kernel) rfl rfl (Nat.le_of_ble_eq_true rfl) dX3_pass_45 (fun H locs hP hD hS => ?_)
      obtain ⟨k5, ek5, h⟩ := bn h
      have hP : va_P D vwCl (wX3 a3 cI cZ k5) H := by rw [ek5]; exact hP
      have hD : va_D A (wX3 a3 cI cZ k5) := by rw [ek5]; exact hD
      refine lv_goto (tgt := 55) hx hb dX3_pass_48 (by decide) ?_
      exact k_X3_pass_55 C0 N k5 _ _ _ hP hD hS (lv_sub hl [] rfl) h
  · rw [if_pos hc1] at h
    refine lv_aload_n hx hb dX3_pass_5 rfl (lv_at hl 0 rfl) ?_
    refine lv_dup hx hb dX3_pass_6 rfl ?_
    refine va_get (D := D) (ci := 3) (v := .int (k 3 0)) (C := RX3) (T := TX3) (N := 6) hx hb hts in_X3_pass_X3 hown hK hP 0 rfl rfl 3 (by decide) (hts (.fieldLink RX3 22 "TermLoom$Walk" "depth" "I") (by decide +kernel)) (fun _ h9 => h9) rfl dX3_pass_7 ?_
    refine lv_iconst (v := 1) hx hb dX3_pass_10 rfl ?_
    refine lv_iadd hx hb dX3_pass_11 ?_
    refine va_put (D := D) (ci := 3) (v := .int ((k 3 0) + 1)) (ty := .int) (C := RX3) (T := TX3) (N := 6) hx hb hts in_X3_pass_X3 tyX3 tyX3_ok nmX3 hown hK hP hD hS 0 rfl rfl 3 (by decide) (hts (.fieldLink RX3 22 "TermLoom$Walk" "depth" "I") (by decide +kernel)) (fun _ h9 => h9) rfl (by decide +kernel) rfl rfl (Nat.le_of_ble_eq_true rfl) dX3_pass_12 (fun H locs hP hD hS => ?_)
    obtain ⟨k6, ek6, h⟩ := bn h
    have hP : va_P D vwCl (wX3 a3 cI cZ k6) H := by rw [ek6]; exact hP
    have hD : va_D A (wX3 a3 cI cZ k6) := by rw [ek6]; exact hD
    refine lv_aload_n hx hb dX3_pass_15 rfl (lv_at hl 0 rfl) ?_
    obtain ⟨q7, hq7, h⟩ := ob h
    refine mc_v (ws' := wX3 a3 cI cZ q7) (wr := ([] : va_W)) [0, 1, 2] [] [0, 1, 2] (va_runV (As := []) (rest := []) ⟨hx, hb, hml, hown, hts⟩ (c_X3_putOff l D cI cZ a3 N k6 q7 hq7 H.size) (cwV 0 hts gX3_pass_X3_putOff rfl rfl rfl (by decide +kernel) ⟨Nat.le_of_ble_eq_true rfl, Nat.le_of_ble_eq_true rfl⟩) (pV [0, 1, 2] hP hD hK hN rfl rfl rfl rfl) rfl rfl hl.1 rfl (lv_room (Nat.le_of_ble_eq_true rfl)) dX3_pass_16 ⟨Nat.le_of_ble_eq_true rfl, Nat.le_of_ble_eq_true rfl⟩) hP hD hS hA rfl rfl rfl (by decide) rfl rfl (fun H locs hP hD hS => ?_)
    refine lv_goto (tgt := 55) hx hb dX3_pass_19 (by decide) ?_
    exact k_X3_pass_55 C0 N q7 _ _ _ hP hD hS (lv_sub hl [] rfl) h
