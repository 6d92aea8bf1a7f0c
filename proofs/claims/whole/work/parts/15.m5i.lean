theorem in_X5_matched_X5 : ∀ w ∈ u_ws RX5 TX5 30, w ∈ wsX5_matched := by decide +kernel
def f_X5_matched_17 (N : Nat) (σ : St) (x1 s1 : Int32) : Option (Int32 × St) := bnd (up2 σ 0 0 s1) (fun σ1 => if (σ1 0 0) ≤ 0 then if (σ1 18 0) < 0 ∨ 4201 ≤ ((σ1 18 0)).toNatClampNeg then none else if x1 < 0 ∨ 4000 ≤ (x1).toNatClampNeg then none else if x1 < 0 ∨ 4000 ≤ (x1).toNatClampNeg then none else if x1 < 0 ∨ 4000 ≤ (x1).toNatClampNeg then none else (f_X5_copy N σ1 (σ1 19 ((σ1 18 0)).toNatClampNeg) (σ1 28 (x1).toNatClampNeg) ((σ1 28 (x1).toNatClampNeg) + (σ1 29 (x1).toNatClampNeg))).bind (fun q3 => (f_X5_finish N q3.2 q3.1 2).bind (fun q4 => some (q4.1, q4.2))) else some (0, σ1))
def f_X5_matched (N : Nat) (σ : St) (x1 : Int32) : Option (Int32 × St) := (f_X5_outside N x1 (σ 26 0)).bind (fun q1 => if q1.1 = 0 then f_X5_matched_17 N σ x1 0 else f_X5_matched_17 N σ x1 1)
abbrev KP_X5_matched_17 (p : Program) (l : Launch) (e : Env) (s : State) (m : MethodId) (args : Array Value) (below : List Frame) (meth : Method) (c : Code) (D : va_G) (cI cZ : ClassId) (a5 : Nat → Nat) (A : Nat → Prop) (r : Int32) (u1 : St) (K : St → Int32 → Int32 → Option (Int32 × St)) : Prop := ∀ (σ : St) (x1 s1 : Int32) (H : Heap) (locs : List Loc) (ls : Array Slot), va_P D vwCl (wX5 a5 cI cZ σ) H → va_D A (wX5 a5 cI cZ σ) → va_S A s.heap H locs → lv_has ls 2 [(0, .ref (a5 0)), (1, .int x1)] → K σ x1 s1 = some (r, u1) → W p l e ({ frames := 4, cells := 0, slots := 0, locals := 93 } : Room) s m args below meth c H locs 0 0 (QI below args s D cI cZ (wX5 a5 cI cZ) A r u1) (F0 m 17 ls [.int s1, .ref (a5 0)])
set_option maxHeartbeats 4000000 in
set_option maxRecDepth 100000 in
theorem k_X5_matched_17 {p : Program} {l : Launch} {e : Env} {s : State} {m : MethodId} {args : Array Value} {below : List Frame} {meth : Method} {c : Code} {D : va_G} {cI cZ : ClassId} {a5 : Nat → Nat} {A : Nat → Prop} {r : Int32} {u1 : St} (C0 : mB p s m args meth c D cI cZ A cX5_matched 2 (some .int) wsX5_matched RX5) (N : Nat) : KP_X5_matched_17 p l e s m args below meth c D cI cZ a5 A r u1 (f_X5_matched_17 N) := by
  obtain ⟨hx, hb, hml, hr, hown, hts, hlocks, hA, hK, hN⟩ := id C0
  intro σ x1 s1 H locs ls hP hD hS hl h
  unfold f_X5_matched_17 at h
  refine va_put (D := D) (ci := 5) (v := .int s1) (ty := .int) (C := RX5) (T := TX5) (N := 30) hx hb hts in_X5_matched_X5 tyX5 tyX5_ok nmX5 hown hK hP hD hS 0 rfl rfl 0 (by decide) (hts (.fieldLink RX5 85 "TermLoomModel" "code" "I") (by decide +kernel)) (fun _ h9 => h9) rfl (by decide +kernel) rfl rfl (Nat.le_of_ble_eq_true rfl) dX5_matched_17 (fun H locs hP hD hS => ?_)
  obtain ⟨σ1, eσ1, h⟩ := bn h
  have hP : va_P D vwCl (wX5 a5 cI cZ σ1) H := by rw [eσ1]; exact hP
  have hD : va_D A (wX5 a5 cI cZ σ1) := by rw [eσ1]; exact hD
  refine lv_aload_n hx hb dX5_matched_20 rfl (lv_at hl 0 rfl) ?_
  refine va_get (D := D) (ci := 5) (v := .int (σ1 0 0)) (C := RX5) (T := TX5) (N := 30) hx hb hts in_X5_matched_X5 hown hK hP 0 rfl rfl 0 (by decide) (hts (.fieldLink RX5 85 "TermLoomModel" "code" "I") (by decide +kernel)) (fun _ h9 => h9) rfl dX5_matched_21 ?_
  refine lv_if_le (tgt := 29) hx hb dX5_matched_24 (by decide) (fun hc2 => ?_) (fun hc2 => ?_)
  · rw [if_pos hc2] at h
    refine lv_aload_n hx hb dX5_matched_29 rfl (lv_at hl 0 rfl) ?_
    refine lv_aload_n hx hb dX5_matched_30 rfl (lv_at hl 0 rfl) ?_
    refine lv_aload_n hx hb dX5_matched_31 rfl (lv_at hl 0 rfl) ?_
    refine va_get (D := D) (ci := 5) (v := .ref (a5 20)) (C := RX5) (T := TX5) (N := 30) hx hb hts in_X5_matched_X5 hown hK hP 0 rfl rfl 19 (by decide) (hts (.fieldLink RX5 51 "TermLoomModel" "begin" "[I") (by decide +kernel)) (fun _ h9 => h9) rfl dX5_matched_32 ?_
    refine lv_aload_n hx hb dX5_matched_35 rfl (lv_at hl 0 rfl) ?_
    refine va_get (D := D) (ci := 5) (v := .int (σ1 18 0)) (C := RX5) (T := TX5) (N := 30) hx hb hts in_X5_matched_X5 hown hK hP 0 rfl rfl 18 (by decide) (hts (.fieldLink RX5 130 "TermLoomModel" "terms" "I") (by decide +kernel)) (fun _ h9 => h9) rfl dX5_matched_36 ?_
    by_cases hi : (σ1 18 0) < 0 ∨ 4201 ≤ ((σ1 18 0)).toNatClampNeg
    · rw [if_pos hi] at h; exact no h
    rw [if_neg hi] at h
    refine va_iald (f := (σ1 19)) hx hb hK hP 13 0 rfl rfl (i := (σ1 18 0)) hi dX5_matched_39 ?_
    refine lv_aload_n hx hb dX5_matched_40 rfl (lv_at hl 0 rfl) ?_
    refine va_get (D := D) (ci := 5) (v := .ref (a5 29)) (C := RX5) (T := TX5) (N := 30) hx hb hts in_X5_matched_X5 hown hK hP 0 rfl rfl 28 (by decide) (hts (.fieldLink RX5 79 "TermLoomModel" "partAt" "[I") (by decide +kernel)) (fun _ h9 => h9) rfl dX5_matched_41 ?_
    refine lv_iload_n hx hb dX5_matched_44 rfl (lv_at hl 1 rfl) ?_
    by_cases hi : x1 < 0 ∨ 4000 ≤ (x1).toNatClampNeg
    · rw [if_pos hi] at h; exact no h
    rw [if_neg hi] at h
    refine va_iald (f := (σ1 28)) hx hb hK hP 21 0 rfl rfl (i := x1) hi dX5_matched_45 ?_
    refine lv_aload_n hx hb dX5_matched_46 rfl (lv_at hl 0 rfl) ?_
    refine va_get (D := D) (ci := 5) (v := .ref (a5 29)) (C := RX5) (T := TX5) (N := 30) hx hb hts in_X5_matched_X5 hown hK hP 0 rfl rfl 28 (by decide) (hts (.fieldLink RX5 79 "TermLoomModel" "partAt" "[I") (by decide +kernel)) (fun _ h9 => h9) rfl dX5_matched_47 ?_
    refine lv_iload_n hx hb dX5_matched_50 rfl (lv_at hl 1 rfl) ?_
    by_cases hi : x1 < 0 ∨ 4000 ≤ (x1).toNatClampNeg
    · rw [if_pos hi] at h; exact no h
    rw [if_neg hi] at h
    refine va_iald (f := (σ1 28)) hx hb hK hP 21 0 rfl rfl (i := x1) hi dX5_matched_51 ?_
    refine lv_aload_n hx hb dX5_matched_52 rfl (lv_at hl 0 rfl) ?_
    refine va_get (D := D) (ci := 5) (v := .ref (a5 30)) (C := RX5) (T := TX5) (N := 30) hx hb hts in_X5_matched_X5 hown hK hP 0 rfl rfl 29 (by decide) (hts (.fieldLink RX5 82 "TermLoomModel" "partLength" "[I") (by decide +kernel)) (fun _ h9 => h9) rfl dX5_matched_53 ?_
    refine lv_iload_n hx hb dX5_matched_56 rfl (lv_at hl 1 rfl) ?_
    by_cases hi : x1 < 0 ∨ 4000 ≤ (x1).toNatClampNeg
    · rw [if_pos hi] at h; exact no h
    rw [if_neg hi] at h
    refine va_iald (f := (σ1 29)) hx hb hK hP 22 0 rfl rfl (i := x1) hi dX5_matched_57 ?_
    refine lv_iadd hx hb dX5_matched_58 ?_
    obtain ⟨q3, hq3, h⟩ := ob h
    refine mc_i (ws' := wX5 a5 cI cZ q3.2) (wr := ([] : va_W)) [0, 1, 2, 3, 4, 5, 6, 7, 8, 9, 10, 11, 12, 13, 14, 15, 16, 17, 18, 19, 20, 21, 22] [] [0, 1, 2, 3, 4, 5, 6, 7, 8, 9, 10, 11, 12, 13, 14, 15, 16, 17, 18, 19, 20, 21, 22] (va_runV (As := [.int (σ1 19 ((σ1 18 0)).toNatClampNeg), .int (σ1 28 (x1).toNatClampNeg), .int ((σ1 28 (x1).toNatClampNeg) + (σ1 29 (x1).toNatClampNeg))]) (rest := [.ref (a5 0)]) ⟨hx, hb, hml, hown, hts⟩ (c_X5_copy l D cI cZ a5 N σ1 (σ1 19 ((σ1 18 0)).toNatClampNeg) (σ1 28 (x1).toNatClampNeg) ((σ1 28 (x1).toNatClampNeg) + (σ1 29 (x1).toNatClampNeg)) q3.1 q3.2 hq3 H.size) (cwV 3 hts gX5_matched_X5_copy rfl rfl rfl (by decide +kernel) ⟨Nat.le_of_ble_eq_true rfl, Nat.le_of_ble_eq_true rfl⟩) (pV [0, 1, 2, 3, 4, 5, 6, 7, 8, 9, 10, 11, 12, 13, 14, 15, 16, 17, 18, 19, 20, 21, 22] hP hD hK hN rfl rfl rfl rfl) rfl rfl hl.1 rfl (lv_room (Nat.le_of_ble_eq_true rfl)) dX5_matched_59 ⟨Nat.le_of_ble_eq_true rfl, Nat.le_of_ble_eq_true rfl⟩) hP hD hS hA rfl rfl rfl (by decide) rfl rfl (fun H locs hP hD hS => ?_)
    refine lv_iconst (v := 2) hx hb dX5_matched_62 rfl ?_
    obtain ⟨q4, hq4, h⟩ := ob h
    refine mc_i (ws' := wX5 a5 cI cZ q4.2) (wr := ([] : va_W)) [0, 1, 2, 3, 4, 5, 6, 7, 8, 9, 10, 11, 12, 13, 14, 15, 16, 17, 18, 19, 20, 21, 22] [] [0, 1, 2, 3, 4, 5, 6, 7, 8, 9, 10, 11, 12, 13, 14, 15, 16, 17, 18, 19, 20, 21, 22] (va_runV (As := [.int q3.1, .int 2]) (rest := []) ⟨hx, hb, hml, hown, hts⟩ (c_X5_finish l D cI cZ a5 N q3.2 q3.1 2 q4.1 q4.2 hq4 H.size) (cwV 2 hts gX5_matched_X5_finish rfl rfl rfl (by decide +kernel) ⟨Nat.le_of_ble_eq_true rfl, Nat.le_of_ble_eq_true rfl⟩) (pV [0, 1, 2, 3, 4, 5, 6, 7, 8, 9, 10, 11, 12, 13, 14, 15, 16, 17, 18, 19, 20, 21, 22] hP hD hK hN rfl rfl rfl rfl) rfl rfl hl.1 rfl (lv_room (Nat.le_of_ble_eq_true rfl)) dX5_matched_63 ⟨Nat.le_of_ble_eq_true rfl, Nat.le_of_ble_eq_true rfl⟩) hP hD hS hA rfl rfl rfl (by decide) rfl rfl (fun H locs hP hD hS => ?_)
    obtain ⟨rfl, rfl⟩ := so h
    exact ret_i C0 hP hD hS dX5_matched_66
  · rw [if_neg hc2] at h
    refine lv_iconst (v := 0) hx hb dX5_matched_27 rfl ?_
    obtain ⟨rfl, rfl⟩ := so h
    exact ret_i C0 hP hD hS dX5_matched_28
set_option maxHeartbeats 4000000 in
set_option maxRecDepth 100000 in
theorem c_X5_matched (l : Launch) (D : va_G) (cI cZ : ClassId) (a5 : Nat → Nat) (N : Nat) (σ : St) (x1 : Int32) : MI l yX5_matched wsX5_matched ({ frames := 4, cells := 0, slots := 0, locals := 93 } : Room) D cI cZ (wX5 a5 cI cZ) [.ref (a5 0), .int x1] σ (f_X5_matched N σ x1) := by
  refine MI.of (cc := cX5_matched) (maxL := 2) (ret := (some .int)) (own := RX5) (by decide) rfl rfl (Nat.le_of_ble_eq_true rfl) ?_
  intro r u1 h p e s m args below meth c A C0 H locs ls hP hD hS hl
  obtain ⟨hx, hb, hml, hr, hown, hts, hlocks, hA, hK, hN⟩ := id C0
  have hl : lv_has ls 2 [(0, .ref (a5 0)), (1, .int x1)] := hl
  unfold f_X5_matched at h
  refine lv_aload_n hx hb dX5_matched_0 rfl (lv_at hl 0 rfl) ?_
  refine lv_iload_n hx hb dX5_matched_1 rfl (lv_at hl 1 rfl) ?_
  refine lv_aload_n hx hb dX5_matched_2 rfl (lv_at hl 0 rfl) ?_
  refine va_get (D := D) (ci := 5) (v := .int (σ 26 0)) (C := RX5) (T := TX5) (N := 30) hx hb hts in_X5_matched_X5 hown hK hP 0 rfl rfl 26 (by decide) (hts (.fieldLink RX5 73 "TermLoomModel" "found" "I") (by decide +kernel)) (fun _ h9 => h9) rfl dX5_matched_3 ?_
  obtain ⟨q1, hq1, h⟩ := ob h
  refine mc_i (ws' := wX5 a5 cI cZ σ) (wr := ((wX5o a5 cI cZ σ) : va_W)) [] [0, 1, 2, 3, 4, 5, 6, 7, 8, 9, 10, 11, 12, 13, 14, 15, 16, 17, 18, 19, 20, 21, 22] [0, 1, 2, 3, 4, 5, 6, 7, 8, 9, 10, 11, 12, 13, 14, 15, 16, 17, 18, 19, 20, 21, 22] (va_runS (As := [.int x1, .int (σ 26 0)]) (rest := [.ref (a5 0)]) ⟨hx, hb, hml, hown, hts⟩ (c_X5_outside l D cI cZ N x1 (σ 26 0) q1.1 q1.2 hq1 H.size) (va_cwS 2 hts gX5_matched_X5_outside rfl rfl rfl (by decide +kernel) ⟨Nat.le_of_ble_eq_true rfl, Nat.le_of_ble_eq_true rfl⟩) (pS [] hP hD hK hN rfl rfl) rfl rfl hl.1 rfl (lv_room (Nat.le_of_ble_eq_true rfl)) dX5_matched_6 ⟨Nat.le_of_ble_eq_true rfl, Nat.le_of_ble_eq_true rfl⟩) hP hD hS hA rfl rfl rfl (by decide) rfl rfl (fun H locs hP hD hS => ?_)
  refine lv_if_eq (tgt := 16) hx hb dX5_matched_9 (by decide) (fun hc2 => ?_) (fun hc2 => ?_)
  · rw [if_pos hc2] at h
    refine lv_iconst (v := 0) hx hb dX5_matched_16 rfl ?_
    exact k_X5_matched_17 C0 N σ x1 0 _ _ _ hP hD hS (lv_sub hl [0, 1] rfl) h
  · rw [if_neg hc2] at h
    refine lv_iconst (v := 1) hx hb dX5_matched_12 rfl ?_
    refine lv_goto (tgt := 17) hx hb dX5_matched_13 (by decide) ?_
    exact k_X5_matched_17 C0 N σ x1 1 _ _ _ hP hD hS (lv_sub hl [0, 1] rfl) h
