theorem in_X5_part_X5 : ∀ w ∈ u_ws RX5 TX5 30, w ∈ wsX5_part := by decide +kernel
def f_X5_part_42 (N : Nat) (σ : St) : Option (Int32 × St) := (f_X5_fail N σ 2).bind (fun q1 => some (q1.1, q1.2))
def f_X5_part_113 (N : Nat) (σ : St) (s1 : Int32) : Option (Int32 × St) := (f_X5_finish N σ s1 3).bind (fun q1 => some (q1.1, q1.2))
def f_X5_part (N : Nat) (σ : St) (x1 x2 : Int32) : Option (Int32 × St) := bnd (up2 σ 0 0 0) (fun σ1 => (f_X5_isTerm N σ1 x1).bind (fun q2 => if q2.1 = 0 then (f_X5_fail N q2.2 1).bind (fun q11 => some (q11.1, q11.2)) else if x1 < 0 ∨ 4201 ≤ (x1).toNatClampNeg then none else if (q2.2 19 (x1).toNatClampNeg) < 0 ∨ 34100 ≤ ((q2.2 19 (x1).toNatClampNeg)).toNatClampNeg then none else if (q2.2 20 ((q2.2 19 (x1).toNatClampNeg)).toNatClampNeg) = (-1) then (f_X5_outside N x2 2).bind (fun q5 => if q5.1 = 0 then if x1 < 0 ∨ 4201 ≤ (x1).toNatClampNeg then none else (f_X5_endOf N q2.2 ((q2.2 19 (x1).toNatClampNeg) + 1)).bind (fun q7 => if x2 = 0 then if (q7.2 18 0) < 0 ∨ 4201 ≤ ((q7.2 18 0)).toNatClampNeg then none else if x1 < 0 ∨ 4201 ≤ (x1).toNatClampNeg then none else (f_X5_copy N q7.2 (q7.2 19 ((q7.2 18 0)).toNatClampNeg) ((q7.2 19 (x1).toNatClampNeg) + 1) q7.1).bind (fun q10 => f_X5_part_113 N q10.2 q10.1) else if (q7.2 18 0) < 0 ∨ 4201 ≤ ((q7.2 18 0)).toNatClampNeg then none else if (x1 + 1) < 0 ∨ 4201 ≤ ((x1 + 1)).toNatClampNeg then none else (f_X5_copy N q7.2 (q7.2 19 ((q7.2 18 0)).toNatClampNeg) q7.1 (q7.2 19 ((x1 + 1)).toNatClampNeg)).bind (fun q9 => f_X5_part_113 N q9.2 q9.1)) else f_X5_part_42 N q2.2) else f_X5_part_42 N q2.2))
abbrev KP_X5_part_42 (p : Program) (l : Launch) (e : Env) (s : State) (m : MethodId) (args : Array Value) (below : List Frame) (meth : Method) (c : Code) (D : va_G) (cI cZ : ClassId) (a5 : Nat → Nat) (A : Nat → Prop) (r : Int32) (u1 : St) (K : St → Option (Int32 × St)) : Prop := ∀ (σ : St) (H : Heap) (locs : List Loc) (ls : Array Slot), va_P D vwCl (wX5 a5 cI cZ σ) H → va_D A (wX5 a5 cI cZ σ) → va_S A s.heap H locs → lv_has ls 4 [(0, .ref (a5 0))] → K σ = some (r, u1) → W p l e ({ frames := 4, cells := 0, slots := 0, locals := 93 } : Room) s m args below meth c H locs 0 0 (QI below args s D cI cZ (wX5 a5 cI cZ) A r u1) (F0 m 42 ls [])
abbrev KP_X5_part_113 (p : Program) (l : Launch) (e : Env) (s : State) (m : MethodId) (args : Array Value) (below : List Frame) (meth : Method) (c : Code) (D : va_G) (cI cZ : ClassId) (a5 : Nat → Nat) (A : Nat → Prop) (r : Int32) (u1 : St) (K : St → Int32 → Option (Int32 × St)) : Prop := ∀ (σ : St) (s1 : Int32) (H : Heap) (locs : List Loc) (ls : Array Slot), va_P D vwCl (wX5 a5 cI cZ σ) H → va_D A (wX5 a5 cI cZ σ) → va_S A s.heap H locs → lv_has ls 4 [] → K σ s1 = some (r, u1) → W p l e ({ frames := 4, cells := 0, slots := 0, locals := 93 } : Room) s m args below meth c H locs 0 0 (QI below args s D cI cZ (wX5 a5 cI cZ) A r u1) (F0 m 113 ls [.int s1, .ref (a5 0)])
set_option maxHeartbeats 4000000 in
set_option maxRecDepth 100000 in
theorem k_X5_part_42 {p : Program} {l : Launch} {e : Env} {s : State} {m : MethodId} {args : Array Value} {below : List Frame} {meth : Method} {c : Code} {D : va_G} {cI cZ : ClassId} {a5 : Nat → Nat} {A : Nat → Prop} {r : Int32} {u1 : St} (C0 : mB p s m args meth c D cI cZ A cX5_part 4 (some .int) wsX5_part RX5) (N : Nat) : KP_X5_part_42 p l e s m args below meth c D cI cZ a5 A r u1 (f_X5_part_42 N) := by
  obtain ⟨hx, hb, hml, hr, hown, hts, hlocks, hA, hK, hN⟩ := id C0
  intro σ H locs ls hP hD hS hl h
  unfold f_X5_part_42 at h
  refine lv_aload_n hx hb dX5_part_42 rfl (lv_at hl 0 rfl) ?_
  refine lv_iconst (v := 2) hx hb dX5_part_43 rfl ?_
  obtain ⟨q1, hq1, h⟩ := ob h
  refine mc_i (ws' := wX5 a5 cI cZ q1.2) (wr := ([] : va_W)) [0, 1, 2, 3, 4, 5, 6, 7, 8, 9, 10, 11, 12, 13, 14, 15, 16, 17, 18, 19, 20, 21, 22] [] [0, 1, 2, 3, 4, 5, 6, 7, 8, 9, 10, 11, 12, 13, 14, 15, 16, 17, 18, 19, 20, 21, 22] (va_runV (As := [.int 2]) (rest := []) ⟨hx, hb, hml, hown, hts⟩ (c_X5_fail l D cI cZ a5 N σ 2 q1.1 q1.2 hq1 H.size) (cwV 1 hts gX5_part_X5_fail rfl rfl rfl (by decide +kernel) ⟨Nat.le_of_ble_eq_true rfl, Nat.le_of_ble_eq_true rfl⟩) (pV [0, 1, 2, 3, 4, 5, 6, 7, 8, 9, 10, 11, 12, 13, 14, 15, 16, 17, 18, 19, 20, 21, 22] hP hD hK hN rfl rfl rfl rfl) rfl rfl hl.1 rfl (lv_room (Nat.le_of_ble_eq_true rfl)) dX5_part_44 ⟨Nat.le_of_ble_eq_true rfl, Nat.le_of_ble_eq_true rfl⟩) hP hD hS hA rfl rfl rfl (by decide) rfl rfl (fun H locs hP hD hS => ?_)
  obtain ⟨rfl, rfl⟩ := so h
  exact ret_i C0 hP hD hS dX5_part_47
set_option maxHeartbeats 4000000 in
set_option maxRecDepth 100000 in
theorem k_X5_part_113 {p : Program} {l : Launch} {e : Env} {s : State} {m : MethodId} {args : Array Value} {below : List Frame} {meth : Method} {c : Code} {D : va_G} {cI cZ : ClassId} {a5 : Nat → Nat} {A : Nat → Prop} {r : Int32} {u1 : St} (C0 : mB p s m args meth c D cI cZ A cX5_part 4 (some .int) wsX5_part RX5) (N : Nat) : KP_X5_part_113 p l e s m args below meth c D cI cZ a5 A r u1 (f_X5_part_113 N) := by
  obtain ⟨hx, hb, hml, hr, hown, hts, hlocks, hA, hK, hN⟩ := id C0
  intro σ s1 H locs ls hP hD hS hl h
  unfold f_X5_part_113 at h
  refine lv_iconst (v := 3) hx hb dX5_part_113 rfl ?_
  obtain ⟨q1, hq1, h⟩ := ob h
  refine mc_i (ws' := wX5 a5 cI cZ q1.2) (wr := ([] : va_W)) [0, 1, 2, 3, 4, 5, 6, 7, 8, 9, 10, 11, 12, 13, 14, 15, 16, 17, 18, 19, 20, 21, 22] [] [0, 1, 2, 3, 4, 5, 6, 7, 8, 9, 10, 11, 12, 13, 14, 15, 16, 17, 18, 19, 20, 21, 22] (va_runV (As := [.int s1, .int 3]) (rest := []) ⟨hx, hb, hml, hown, hts⟩ (c_X5_finish l D cI cZ a5 N σ s1 3 q1.1 q1.2 hq1 H.size) (cwV 2 hts gX5_part_X5_finish rfl rfl rfl (by decide +kernel) ⟨Nat.le_of_ble_eq_true rfl, Nat.le_of_ble_eq_true rfl⟩) (pV [0, 1, 2, 3, 4, 5, 6, 7, 8, 9, 10, 11, 12, 13, 14, 15, 16, 17, 18, 19, 20, 21, 22] hP hD hK hN rfl rfl rfl rfl) rfl rfl hl.1 rfl (lv_room (Nat.le_of_ble_eq_true rfl)) dX5_part_114 ⟨Nat.le_of_ble_eq_true rfl, Nat.le_of_ble_eq_true rfl⟩) hP hD hS hA rfl rfl rfl (by decide) rfl rfl (fun H locs hP hD hS => ?_)
  obtain ⟨rfl, rfl⟩ := so h
  exact ret_i C0 hP hD hS dX5_part_117
set_option maxHeartbeats 4000000 in
set_option maxRecDepth 100000 in
theorem c_X5_part (l : Launch) (D : va_G) (cI cZ : ClassId) (a5 : Nat → Nat) (N : Nat) (σ : St) (x1 x2 : Int32) : MI l yX5_part wsX5_part ({ frames := 4, cells := 0, slots := 0, locals := 93 } : Room) D cI cZ (wX5 a5 cI cZ) [.ref (a5 0), .int x1, .int x2] σ (f_X5_part N σ x1 x2) := by
  refine MI.of (cc := cX5_part) (maxL := 4) (ret := (some .int)) (own := RX5) (by decide) rfl rfl (Nat.le_of_ble_eq_true rfl) ?_
  intro r u1 h p e s m args below meth c A C0 H locs ls hP hD hS hl
  obtain ⟨hx, hb, hml, hr, hown, hts, hlocks, hA, hK, hN⟩ := id C0
  have hl : lv_has ls 4 [(0, .ref (a5 0)), (1, .int x1), (2, .int x2)] := hl
  unfold f_X5_part at h
  refine lv_aload_n hx hb dX5_part_0 rfl (lv_at hl 0 rfl) ?_
  refine lv_iconst (v := 0) hx hb dX5_part_1 rfl ?_
  refine va_put (D := D) (ci := 5) (v := .int 0) (ty := .int) (C := RX5) (T := TX5) (N := 30) hx hb hts in_X5_part_X5 tyX5 tyX5_ok nmX5 hown hK hP hD hS 0 rfl rfl 0 (by decide) (hts (.fieldLink RX5 85 "TermLoomModel" "code" "I") (by decide +kernel)) (fun _ h9 => h9) rfl (by decide +kernel) rfl rfl (Nat.le_of_ble_eq_true rfl) dX5_part_2 (fun H locs hP hD hS => ?_)
  obtain ⟨σ1, eσ1, h⟩ := bn h
  have hP : va_P D vwCl (wX5 a5 cI cZ σ1) H := by rw [eσ1]; exact hP
  have hD : va_D A (wX5 a5 cI cZ σ1) := by rw [eσ1]; exact hD
  refine lv_aload_n hx hb dX5_part_5 rfl (lv_at hl 0 rfl) ?_
  refine lv_iload_n hx hb dX5_part_6 rfl (lv_at hl 1 rfl) ?_
  obtain ⟨q2, hq2, h⟩ := ob h
  refine mc_i (ws' := wX5 a5 cI cZ q2.2) (wr := ([] : va_W)) [0, 1, 2, 3, 4, 5, 6, 7, 8, 9, 10, 11, 12, 13, 14, 15, 16, 17, 18, 19, 20, 21, 22] [] [0, 1, 2, 3, 4, 5, 6, 7, 8, 9, 10, 11, 12, 13, 14, 15, 16, 17, 18, 19, 20, 21, 22] (va_runV (As := [.int x1]) (rest := []) ⟨hx, hb, hml, hown, hts⟩ (c_X5_isTerm l D cI cZ a5 N σ1 x1 q2.1 q2.2 hq2 H.size) (cwV 1 hts gX5_part_X5_isTerm rfl rfl rfl (by decide +kernel) ⟨Nat.le_of_ble_eq_true rfl, Nat.le_of_ble_eq_true rfl⟩) (pV [0, 1, 2, 3, 4, 5, 6, 7, 8, 9, 10, 11, 12, 13, 14, 15, 16, 17, 18, 19, 20, 21, 22] hP hD hK hN rfl rfl rfl rfl) rfl rfl hl.1 rfl (lv_room (Nat.le_of_ble_eq_true rfl)) dX5_part_7 ⟨Nat.le_of_ble_eq_true rfl, Nat.le_of_ble_eq_true rfl⟩) hP hD hS hA rfl rfl rfl (by decide) rfl rfl (fun H locs hP hD hS => ?_)
  refine lv_if_ne (tgt := 19) hx hb dX5_part_10 (by decide) (fun hc3 => ?_) (fun hc3 => ?_)
  · rw [if_neg hc3] at h
    refine lv_aload_n hx hb dX5_part_19 rfl (lv_at hl 0 rfl) ?_
    refine va_get (D := D) (ci := 5) (v := .ref (a5 21)) (C := RX5) (T := TX5) (N := 30) hx hb hts in_X5_part_X5 hown hK hP 0 rfl rfl 20 (by decide) (hts (.fieldLink RX5 55 "TermLoomModel" "symbol" "[I") (by decide +kernel)) (fun _ h9 => h9) rfl dX5_part_20 ?_
    refine lv_aload_n hx hb dX5_part_23 rfl (lv_at hl 0 rfl) ?_
    refine va_get (D := D) (ci := 5) (v := .ref (a5 20)) (C := RX5) (T := TX5) (N := 30) hx hb hts in_X5_part_X5 hown hK hP 0 rfl rfl 19 (by decide) (hts (.fieldLink RX5 51 "TermLoomModel" "begin" "[I") (by decide +kernel)) (fun _ h9 => h9) rfl dX5_part_24 ?_
    refine lv_iload_n hx hb dX5_part_27 rfl (lv_at hl 1 rfl) ?_
    by_cases hi : x1 < 0 ∨ 4201 ≤ (x1).toNatClampNeg
    · rw [if_pos hi] at h; exact no h
    rw [if_neg hi] at h
    refine va_iald (f := (q2.2 19)) hx hb hK hP 13 0 rfl rfl (i := x1) hi dX5_part_28 ?_
    by_cases hi : (q2.2 19 (x1).toNatClampNeg) < 0 ∨ 34100 ≤ ((q2.2 19 (x1).toNatClampNeg)).toNatClampNeg
    · rw [if_pos hi] at h; exact no h
    rw [if_neg hi] at h
    refine va_iald (f := (q2.2 20)) hx hb hK hP 14 0 rfl rfl (i := (q2.2 19 (x1).toNatClampNeg)) hi dX5_part_29 ?_
    refine lv_iconst (v := (-1)) hx hb dX5_part_30 rfl ?_
    refine lv_icmp_ne (tgt := 42) hx hb dX5_part_31 (by decide) (fun hc4 => ?_) (fun hc4 => ?_)
    · rw [if_neg hc4] at h
      exact k_X5_part_42 C0 N q2.2 _ _ _ hP hD hS (lv_sub hl [0] rfl) h
    · rw [if_pos hc4] at h
      refine lv_iload_n hx hb dX5_part_34 rfl (lv_at hl 2 rfl) ?_
      refine lv_iconst (v := 2) hx hb dX5_part_35 rfl ?_
      obtain ⟨q5, hq5, h⟩ := ob h
      refine mc_i (ws' := wX5 a5 cI cZ q2.2) (wr := ((wX5o a5 cI cZ q2.2) : va_W)) [] [0, 1, 2, 3, 4, 5, 6, 7, 8, 9, 10, 11, 12, 13, 14, 15, 16, 17, 18, 19, 20, 21, 22] [0, 1, 2, 3, 4, 5, 6, 7, 8, 9, 10, 11, 12, 13, 14, 15, 16, 17, 18, 19, 20, 21, 22] (va_runS (As := [.int x2, .int 2]) (rest := []) ⟨hx, hb, hml, hown, hts⟩ (c_X5_outside l D cI cZ N x2 2 q5.1 q5.2 hq5 H.size) (va_cwS 2 hts gX5_part_X5_outside rfl rfl rfl (by decide +kernel) ⟨Nat.le_of_ble_eq_true rfl, Nat.le_of_ble_eq_true rfl⟩) (pS [] hP hD hK hN rfl rfl) rfl rfl hl.1 rfl (lv_room (Nat.le_of_ble_eq_true rfl)) dX5_part_36 ⟨Nat.le_of_ble_eq_true rfl, Nat.le_of_ble_eq_true rfl⟩) hP hD hS hA rfl rfl rfl (by decide) rfl rfl (fun H locs hP hD hS => ?_)
      refine lv_if_eq (tgt := 48) hx hb dX5_part_39 (by decide) (fun hc6 => ?_) (fun hc6 => ?_)
      · rw [if_pos hc6] at h
        refine lv_aload_n hx hb dX5_part_48 rfl (lv_at hl 0 rfl) ?_
        refine lv_aload_n hx hb dX5_part_49 rfl (lv_at hl 0 rfl) ?_
        refine va_get (D := D) (ci := 5) (v := .ref (a5 20)) (C := RX5) (T := TX5) (N := 30) hx hb hts in_X5_part_X5 hown hK hP 0 rfl rfl 19 (by decide) (hts (.fieldLink RX5 51 "TermLoomModel" "begin" "[I") (by decide +kernel)) (fun _ h9 => h9) rfl dX5_part_50 ?_
        refine lv_iload_n hx hb dX5_part_53 rfl (lv_at hl 1 rfl) ?_
        by_cases hi : x1 < 0 ∨ 4201 ≤ (x1).toNatClampNeg
        · rw [if_pos hi] at h; exact no h
        rw [if_neg hi] at h
        refine va_iald (f := (q2.2 19)) hx hb hK hP 13 0 rfl rfl (i := x1) hi dX5_part_54 ?_
        refine lv_iconst (v := 1) hx hb dX5_part_55 rfl ?_
        refine lv_iadd hx hb dX5_part_56 ?_
        obtain ⟨q7, hq7, h⟩ := ob h
        refine mc_i (ws' := wX5 a5 cI cZ q7.2) (wr := ([] : va_W)) [0, 1, 2, 3, 4, 5, 6, 7, 8, 9, 10, 11, 12, 13, 14, 15, 16, 17, 18, 19, 20, 21, 22] [] [0, 1, 2, 3, 4, 5, 6, 7, 8, 9, 10, 11, 12, 13, 14, 15, 16, 17, 18, 19, 20, 21, 22] (va_runV (As := [.int ((q2.2 19 (x1).toNatClampNeg) + 1)]) (rest := []) ⟨hx, hb, hml, hown, hts⟩ (c_X5_endOf l D cI cZ a5 N q2.2 ((q2.2 19 (x1).toNatClampNeg) + 1) q7.1 q7.2 hq7 H.size) (cwV 1 hts gX5_part_X5_endOf rfl rfl rfl (by decide +kernel) ⟨Nat.le_of_ble_eq_true rfl, Nat.le_of_ble_eq_true rfl⟩) (pV [0, 1, 2, 3, 4, 5, 6, 7, 8, 9, 10, 11, 12, 13, 14, 15, 16, 17, 18, 19, 20, 21, 22] hP hD hK hN rfl rfl rfl rfl) rfl rfl hl.1 rfl (lv_room (Nat.le_of_ble_eq_true rfl)) dX5_part_57 ⟨Nat.le_of_ble_eq_true rfl, Nat.le_of_ble_eq_true rfl⟩) hP hD hS hA rfl rfl rfl (by decide) rfl rfl (fun H locs hP hD hS => ?_)
        refine lv_istore_n (lv' := [(3, .int q7.1), (0, .ref (a5 0)), (1, .int x1), (2, .int x2)]) hx hb dX5_part_60 rfl hl (by decide) rfl (fun ls hl => ?_)
        refine lv_aload_n hx hb dX5_part_61 rfl (lv_at hl 1 rfl) ?_
        refine lv_iload_n hx hb dX5_part_62 rfl (lv_at hl 3 rfl) ?_
        refine lv_if_ne (tgt := 91) hx hb dX5_part_63 (by decide) (fun hc8 => ?_) (fun hc8 => ?_)
        · rw [if_neg hc8] at h
          refine lv_aload_n hx hb dX5_part_91 rfl (lv_at hl 1 rfl) ?_
          refine lv_aload_n hx hb dX5_part_92 rfl (lv_at hl 1 rfl) ?_
          refine va_get (D := D) (ci := 5) (v := .ref (a5 20)) (C := RX5) (T := TX5) (N := 30) hx hb hts in_X5_part_X5 hown hK hP 0 rfl rfl 19 (by decide) (hts (.fieldLink RX5 51 "TermLoomModel" "begin" "[I") (by decide +kernel)) (fun _ h9 => h9) rfl dX5_part_93 ?_
          refine lv_aload_n hx hb dX5_part_96 rfl (lv_at hl 1 rfl) ?_
          refine va_get (D := D) (ci := 5) (v := .int (q7.2 18 0)) (C := RX5) (T := TX5) (N := 30) hx hb hts in_X5_part_X5 hown hK hP 0 rfl rfl 18 (by decide) (hts (.fieldLink RX5 130 "TermLoomModel" "terms" "I") (by decide +kernel)) (fun _ h9 => h9) rfl dX5_part_97 ?_
          by_cases hi : (q7.2 18 0) < 0 ∨ 4201 ≤ ((q7.2 18 0)).toNatClampNeg
          · rw [if_pos hi] at h; exact no h
          rw [if_neg hi] at h
          refine va_iald (f := (q7.2 19)) hx hb hK hP 13 0 rfl rfl (i := (q7.2 18 0)) hi dX5_part_100 ?_
          refine lv_iload_n hx hb dX5_part_101 rfl (lv_at hl 0 rfl) ?_
          refine lv_aload_n hx hb dX5_part_102 rfl (lv_at hl 1 rfl) ?_
          refine va_get (D := D) (ci := 5) (v := .ref (a5 20)) (C := RX5) (T := TX5) (N := 30) hx hb hts in_X5_part_X5 hown hK hP 0 rfl rfl 19 (by decide) (hts (.fieldLink RX5 51 "TermLoomModel" "begin" "[I") (by decide +kernel)) (fun _ h9 => h9) rfl dX5_part_103 ?_
          refine lv_iload_n hx hb dX5_part_106 rfl (lv_at hl 2 rfl) ?_
          refine lv_iconst (v := 1) hx hb dX5_part_107 rfl ?_
          refine lv_iadd hx hb dX5_part_108 ?_
          by_cases hi : (x1 + 1) < 0 ∨ 4201 ≤ ((x1 + 1)).toNatClampNeg
          · rw [if_pos hi] at h; exact no h
          rw [if_neg hi] at h
          refine va_iald (f := (q7.2 19)) hx hb hK hP 13 0 rfl rfl (i := (x1 + 1)) hi dX5_part_109 ?_
          obtain ⟨q9, hq9, h⟩ := ob h
          refine mc_i (ws' := wX5 a5 cI cZ q9.2) (wr := ([] : va_W)) [0, 1, 2, 3, 4, 5, 6, 7, 8, 9, 10, 11, 12, 13, 14, 15, 16, 17, 18, 19, 20, 21, 22] [] [0, 1, 2, 3, 4, 5, 6, 7, 8, 9, 10, 11, 12, 13, 14, 15, 16, 17, 18, 19, 20, 21, 22] (va_runV (As := [.int (q7.2 19 ((q7.2 18 0)).toNatClampNeg), .int q7.1, .int (q7.2 19 ((x1 + 1)).toNatClampNeg)]) (rest := [.ref (a5 0)]) ⟨hx, hb, hml, hown, hts⟩ (c_X5_copy l D cI cZ a5 N q7.2 (q7.2 19 ((q7.2 18 0)).toNatClampNeg) q7.1 (q7.2 19 ((x1 + 1)).toNatClampNeg) q9.1 q9.2 hq9 H.size) (cwV 3 hts gX5_part_X5_copy rfl rfl rfl (by decide +kernel) ⟨Nat.le_of_ble_eq_true rfl, Nat.le_of_ble_eq_true rfl⟩) (pV [0, 1, 2, 3, 4, 5, 6, 7, 8, 9, 10, 11, 12, 13, 14, 15, 16, 17, 18, 19, 20, 21, 22] hP hD hK hN rfl rfl rfl rfl) rfl rfl hl.1 rfl (lv_room (Nat.le_of_ble_eq_true rfl)) dX5_part_110 ⟨Nat.le_of_ble_eq_true rfl, Nat.le_of_ble_eq_true rfl⟩) hP hD hS hA rfl rfl rfl (by decide) rfl rfl (fun H locs hP hD hS => ?_)
          exact k_X5_part_113 C0 N q9.2 q9.1 _ _ _ hP hD hS (lv_sub hl [] rfl) h
        · rw [if_pos hc8] at h
          refine lv_aload_n hx hb dX5_part_66 rfl (lv_at hl 1 rfl) ?_
          refine lv_aload_n hx hb dX5_part_67 rfl (lv_at hl 1 rfl) ?_
          refine va_get (D := D) (ci := 5) (v := .ref (a5 20)) (C := RX5) (T := TX5) (N := 30) hx hb hts in_X5_part_X5 hown hK hP 0 rfl rfl 19 (by decide) (hts (.fieldLink RX5 51 "TermLoomModel" "begin" "[I") (by decide +kernel)) (fun _ h9 => h9) rfl dX5_part_68 ?_
          refine lv_aload_n hx hb dX5_part_71 rfl (lv_at hl 1 rfl) ?_
          refine va_get (D := D) (ci := 5) (v := .int (q7.2 18 0)) (C := RX5) (T := TX5) (N := 30) hx hb hts in_X5_part_X5 hown hK hP 0 rfl rfl 18 (by decide) (hts (.fieldLink RX5 130 "TermLoomModel" "terms" "I") (by decide +kernel)) (fun _ h9 => h9) rfl dX5_part_72 ?_
          by_cases hi : (q7.2 18 0) < 0 ∨ 4201 ≤ ((q7.2 18 0)).toNatClampNeg
          · rw [if_pos hi] at h; exact no h
          rw [if_neg hi] at h
          refine va_iald (f := (q7.2 19)) hx hb hK hP 13 0 rfl rfl (i := (q7.2 18 0)) hi dX5_part_75 ?_
          refine lv_aload_n hx hb dX5_part_76 rfl (lv_at hl 1 rfl) ?_
          refine va_get (D := D) (ci := 5) (v := .ref (a5 20)) (C := RX5) (T := TX5) (N := 30) hx hb hts in_X5_part_X5 hown hK hP 0 rfl rfl 19 (by decide) (hts (.fieldLink RX5 51 "TermLoomModel" "begin" "[I") (by decide +kernel)) (fun _ h9 => h9) rfl dX5_part_77 ?_
          refine lv_iload_n hx hb dX5_part_80 rfl (lv_at hl 2 rfl) ?_
          by_cases hi : x1 < 0 ∨ 4201 ≤ (x1).toNatClampNeg
          · rw [if_pos hi] at h; exact no h
          rw [if_neg hi] at h
          refine va_iald (f := (q7.2 19)) hx hb hK hP 13 0 rfl rfl (i := x1) hi dX5_part_81 ?_
          refine lv_iconst (v := 1) hx hb dX5_part_82 rfl ?_
          refine lv_iadd hx hb dX5_part_83 ?_
          refine lv_iload_n hx hb dX5_part_84 rfl (lv_at hl 0 rfl) ?_
          obtain ⟨q10, hq10, h⟩ := ob h
          refine mc_i (ws' := wX5 a5 cI cZ q10.2) (wr := ([] : va_W)) [0, 1, 2, 3, 4, 5, 6, 7, 8, 9, 10, 11, 12, 13, 14, 15, 16, 17, 18, 19, 20, 21, 22] [] [0, 1, 2, 3, 4, 5, 6, 7, 8, 9, 10, 11, 12, 13, 14, 15, 16, 17, 18, 19, 20, 21, 22] (va_runV (As := [.int (q7.2 19 ((q7.2 18 0)).toNatClampNeg), .int ((q7.2 19 (x1).toNatClampNeg) + 1), .int q7.1]) (rest := [.ref (a5 0)]) ⟨hx, hb, hml, hown, hts⟩ (c_X5_copy l D cI cZ a5 N q7.2 (q7.2 19 ((q7.2 18 0)).toNatClampNeg) ((q7.2 19 (x1).toNatClampNeg) + 1) q7.1 q10.1 q10.2 hq10 H.size) (cwV 3 hts gX5_part_X5_copy rfl rfl rfl (by decide +kernel) ⟨Nat.le_of_ble_eq_true rfl, Nat.le_of_ble_eq_true rfl⟩) (pV [0, 1, 2, 3, 4, 5, 6, 7, 8, 9, 10, 11, 12, 13, 14, 15, 16, 17, 18, 19, 20, 21, 22] hP hD hK hN rfl rfl rfl rfl) rfl rfl hl.1 rfl (lv_room (Nat.le_of_ble_eq_true rfl)) dX5_part_85 ⟨Nat.le_of_ble_eq_true rfl, Nat.le_of_ble_eq_true rfl⟩) hP hD hS hA rfl rfl rfl (by decide) rfl rfl (fun H locs hP hD hS => ?_)
          refine lv_goto (tgt := 113) hx hb dX5_part_88 (by decide) ?_
          exact k_X5_part_113 C0 N q10.2 q10.1 _ _ _ hP hD hS (lv_sub hl [] rfl) h
      · rw [if_neg hc6] at h
        exact k_X5_part_42 C0 N q2.2 _ _ _ hP hD hS (lv_sub hl [0] rfl) h
  · rw [if_pos hc3] at h
    refine lv_aload_n hx hb dX5_part_13 rfl (lv_at hl 0 rfl) ?_
    refine lv_iconst (v := 1) hx hb dX5_part_14 rfl ?_
    obtain ⟨q11, hq11, h⟩ := ob h
    refine mc_i (ws' := wX5 a5 cI cZ q11.2) (wr := ([] : va_W)) [0, 1, 2, 3, 4, 5, 6, 7, 8, 9, 10, 11, 12, 13, 14, 15, 16, 17, 18, 19, 20, 21, 22] [] [0, 1, 2, 3, 4, 5, 6, 7, 8, 9, 10, 11, 12, 13, 14, 15, 16, 17, 18, 19, 20, 21, 22] (va_runV (As := [.int 1]) (rest := []) ⟨hx, hb, hml, hown, hts⟩ (c_X5_fail l D cI cZ a5 N q2.2 1 q11.1 q11.2 hq11 H.size) (cwV 1 hts gX5_part_X5_fail rfl rfl rfl (by decide +kernel) ⟨Nat.le_of_ble_eq_true rfl, Nat.le_of_ble_eq_true rfl⟩) (pV [0, 1, 2, 3, 4, 5, 6, 7, 8, 9, 10, 11, 12, 13, 14, 15, 16, 17, 18, 19, 20, 21, 22] hP hD hK hN rfl rfl rfl rfl) rfl rfl hl.1 rfl (lv_room (Nat.le_of_ble_eq_true rfl)) dX5_part_15 ⟨Nat.le_of_ble_eq_true rfl, Nat.le_of_ble_eq_true rfl⟩) hP hD hS hA rfl rfl rfl (by decide) rfl rfl (fun H locs hP hD hS => ?_)
    obtain ⟨rfl, rfl⟩ := so h
    exact ret_i C0 hP hD hS dX5_part_18

theorem in_X5_open_X5 : ∀ w ∈ u_ws RX5 TX5 30, w ∈ wsX5_open := by decide +kernel
def f_X5_open_21 (N : Nat) (σ : St) : Option (Int32 × St) := (f_X5_fail N σ 1).bind (fun q1 => some (q1.1, q1.2))
def f_X5_open_64 (N : Nat) (σ : St) : Option (Int32 × St) := (f_X5_fail N σ 2).bind (fun q1 => some (q1.1, q1.2))
def f_X5_open_218 (N : Nat) (k93 : St → Int32 → Int32 → Int32 → Int32 → Int32 → Option (Int32 × St)) (σ : St) (x1 x2 x3 x4 x5 : Int32) : Option (Int32 × St) := k93 σ x1 x2 x3 x4 (x5 + 1)
def f_X5_open_186 (N : Nat) (k93 : St → Int32 → Int32 → Int32 → Int32 → Int32 → Option (Int32 × St)) (σ : St) (x1 x2 x4 x5 s0 : Int32) : Option (Int32 × St) := if x5 < 0 ∨ 34100 ≤ (x5).toNatClampNeg then none else if (σ 20 (x5).toNatClampNeg) = (-2) then (f_X5_endOf N σ x5).bind (fun q2 => if x4 < 0 ∨ 130 ≤ (x4).toNatClampNeg then none else bnd (up2 q2.2 24 (x4).toNatClampNeg q2.1) (fun σ3 => f_X5_open_218 N k93 σ3 x1 x2 s0 (x4 + 1) x5)) else f_X5_open_218 N k93 σ x1 x2 s0 x4 x5
def f_X5_open_131 (N : Nat) (k93 : St → Int32 → Int32 → Int32 → Int32 → Int32 → Option (Int32 × St)) (σ : St) (x1 x2 x3 x4 x5 : Int32) : Option (Int32 × St) := if x5 < 0 ∨ 34100 ≤ (x5).toNatClampNeg then none else if (σ 20 (x5).toNatClampNeg) = (4 * x4) then if x2 < 0 ∨ 4201 ≤ (x2).toNatClampNeg then none else if (x2 + 1) < 0 ∨ 4201 ≤ ((x2 + 1)).toNatClampNeg then none else (f_X5_copy N σ x3 (σ 19 (x2).toNatClampNeg) (σ 19 ((x2 + 1)).toNatClampNeg)).bind (fun q3 => f_X5_open_186 N k93 q3.2 x1 x2 x4 x5 q3.1) else if x5 < 0 ∨ 34100 ≤ (x5).toNatClampNeg then none else if x5 < 0 ∨ 34100 ≤ (x5).toNatClampNeg then none else (f_X5_write N σ x3 (σ 20 (x5).toNatClampNeg) (σ 21 (x5).toNatClampNeg)).bind (fun q2 => f_X5_open_186 N k93 q2.2 x1 x2 x4 x5 q2.1)
def f_X5_open_106 (N : Nat) (k93 : St → Int32 → Int32 → Int32 → Int32 → Int32 → Option (Int32 × St)) : Nat → St → Int32 → Int32 → Int32 → Int32 → Int32 → Option (Int32 × St)
  | 0, _, _, _, _, _, _ => none
  | n + 1, σ, x1, x2, x3, x4, x5 => if x4 ≤ 0 then f_X5_open_131 N k93 σ x1 x2 x3 x4 x5 else if (x4 - 1) < 0 ∨ 130 ≤ ((x4 - 1)).toNatClampNeg then none else if x5 < (σ 24 ((x4 - 1)).toNatClampNeg) then f_X5_open_131 N k93 σ x1 x2 x3 x4 x5 else f_X5_open_106 N k93 n σ x1 x2 x3 (x4 + (-1)) x5
def f_X5_open_93 (N : Nat) : Nat → St → Int32 → Int32 → Int32 → Int32 → Int32 → Option (Int32 × St)
  | 0, _, _, _, _, _, _ => none
  | n + 1, σ, x1, x2, x3, x4, x5 => if (x1 + 1) < 0 ∨ 4201 ≤ ((x1 + 1)).toNatClampNeg then none else if (σ 19 ((x1 + 1)).toNatClampNeg) ≤ x5 then (f_X5_finish N σ x3 3).bind (fun q2 => some (q2.1, q2.2)) else f_X5_open_106 N (f_X5_open_93 N n) N σ x1 x2 x3 x4 x5
def f_X5_open (N : Nat) (σ : St) (x1 x2 : Int32) : Option (Int32 × St) := bnd (up2 σ 0 0 0) (fun σ1 => (f_X5_isTerm N σ1 x1).bind (fun q2 => if q2.1 = 0 then f_X5_open_21 N q2.2 else (f_X5_isTerm N q2.2 x2).bind (fun q4 => if q4.1 = 0 then f_X5_open_21 N q4.2 else if x1 < 0 ∨ 4201 ≤ (x1).toNatClampNeg then none else if (q4.2 19 (x1).toNatClampNeg) < 0 ∨ 34100 ≤ ((q4.2 19 (x1).toNatClampNeg)).toNatClampNeg then none else if (q4.2 20 ((q4.2 19 (x1).toNatClampNeg)).toNatClampNeg) = (-2) then (f_X5_topType N q4.2 x1).bind (fun q7 => if q7.1 < 0 ∨ 16000 ≤ (q7.1).toNatClampNeg then none else (f_X5_topType N q7.2 x2).bind (fun q8 => (f_X5_areSameTypes N (q7.2 7 (q7.1).toNatClampNeg) q8.1).bind (fun q9 => if q9.1 = 0 then f_X5_open_64 N q8.2 else if (q8.2 18 0) < 0 ∨ 4201 ≤ ((q8.2 18 0)).toNatClampNeg then none else if x1 < 0 ∨ 4201 ≤ (x1).toNatClampNeg then none else f_X5_open_93 N N q8.2 x1 x2 (q8.2 19 ((q8.2 18 0)).toNatClampNeg) 0 ((q8.2 19 (x1).toNatClampNeg) + 1)))) else f_X5_open_64 N q4.2)))
abbrev KP_X5_open_21 (p : Program) (l : Launch) (e : Env) (s : State) (m : MethodId) (args : Array Value) (below : List Frame) (meth : Method) (c : Code) (D : va_G) (cI cZ : ClassId) (a5 : Nat → Nat) (A : Nat → Prop) (r : Int32) (u1 : St) (K : St → Option (Int32 × St)) : Prop := ∀ (σ : St) (H : Heap) (locs : List Loc) (ls : Array Slot), va_P D vwCl (wX5 a5 cI cZ σ) H → va_D A (wX5 a5 cI cZ σ) → va_S A s.heap H locs → lv_has ls 6 [(0, .ref (a5 0))] → K σ = some (r, u1) → W p l e ({ frames := 4, cells := 0, slots := 0, locals := 93 } : Room) s m args below meth c H locs 0 0 (QI below args s D cI cZ (wX5 a5 cI cZ) A r u1) (F0 m 21 ls [])
abbrev KP_X5_open_64 (p : Program) (l : Launch) (e : Env) (s : State) (m : MethodId) (args : Array Value) (below : List Frame) (meth : Method) (c : Code) (D : va_G) (cI cZ : ClassId) (a5 : Nat → Nat) (A : Nat → Prop) (r : Int32) (u1 : St) (K : St → Option (Int32 × St)) : Prop := ∀ (σ : St) (H : Heap) (locs : List Loc) (ls : Array Slot), va_P D vwCl (wX5 a5 cI cZ σ) H → va_D A (wX5 a5 cI cZ σ) → va_S A s.heap H locs → lv_has ls 6 [(0, .ref (a5 0))] → K σ = some (r, u1) → W p l e ({ frames := 4, cells := 0, slots := 0, locals := 93 } : Room) s m args below meth c H locs 0 0 (QI below args s D cI cZ (wX5 a5 cI cZ) A r u1) (F0 m 64 ls [])
abbrev KP_X5_open_218 (p : Program) (l : Launch) (e : Env) (s : State) (m : MethodId) (args : Array Value) (below : List Frame) (meth : Method) (c : Code) (D : va_G) (cI cZ : ClassId) (a5 : Nat → Nat) (A : Nat → Prop) (r : Int32) (u1 : St) (K : St → Int32 → Int32 → Int32 → Int32 → Int32 → Option (Int32 × St)) : Prop := ∀ (σ : St) (x1 x2 x3 x4 x5 : Int32) (H : Heap) (locs : List Loc) (ls : Array Slot), va_P D vwCl (wX5 a5 cI cZ σ) H → va_D A (wX5 a5 cI cZ σ) → va_S A s.heap H locs → lv_has ls 6 [(0, .ref (a5 0)), (1, .int x1), (2, .int x2), (3, .int x3), (4, .int x4), (5, .int x5)] → K σ x1 x2 x3 x4 x5 = some (r, u1) → W p l e ({ frames := 4, cells := 0, slots := 0, locals := 93 } : Room) s m args below meth c H locs 0 0 (QI below args s D cI cZ (wX5 a5 cI cZ) A r u1) (F0 m 218 ls [])
abbrev KP_X5_open_186 (p : Program) (l : Launch) (e : Env) (s : State) (m : MethodId) (args : Array Value) (below : List Frame) (meth : Method) (c : Code) (D : va_G) (cI cZ : ClassId) (a5 : Nat → Nat) (A : Nat → Prop) (r : Int32) (u1 : St) (K : St → Int32 → Int32 → Int32 → Int32 → Int32 → Option (Int32 × St)) : Prop := ∀ (σ : St) (x1 x2 x4 x5 s0 : Int32) (H : Heap) (locs : List Loc) (ls : Array Slot), va_P D vwCl (wX5 a5 cI cZ σ) H → va_D A (wX5 a5 cI cZ σ) → va_S A s.heap H locs → lv_has ls 6 [(0, .ref (a5 0)), (1, .int x1), (2, .int x2), (4, .int x4), (5, .int x5)] → K σ x1 x2 x4 x5 s0 = some (r, u1) → W p l e ({ frames := 4, cells := 0, slots := 0, locals := 93 } : Room) s m args below meth c H locs 0 0 (QI below args s D cI cZ (wX5 a5 cI cZ) A r u1) (F0 m 186 ls [.int s0])
abbrev KP_X5_open_131 (p : Program) (l : Launch) (e : Env) (s : State) (m : MethodId) (args : Array Value) (below : List Frame) (meth : Method) (c : Code) (D : va_G) (cI cZ : ClassId) (a5 : Nat → Nat) (A : Nat → Prop) (r : Int32) (u1 : St) (K : St → Int32 → Int32 → Int32 → Int32 → Int32 → Option (Int32 × St)) : Prop := ∀ (σ : St) (x1 x2 x3 x4 x5 : Int32) (H : Heap) (locs : List Loc) (ls : Array Slot), va_P D vwCl (wX5 a5 cI cZ σ) H → va_D A (wX5 a5 cI cZ σ) → va_S A s.heap H locs → lv_has ls 6 [(0, .ref (a5 0)), (1, .int x1), (2, .int x2), (3, .int x3), (4, .int x4), (5, .int x5)] → K σ x1 x2 x3 x4 x5 = some (r, u1) → W p l e ({ frames := 4, cells := 0, slots := 0, locals := 93 } : Room) s m args below meth c H locs 0 0 (QI below args s D cI cZ (wX5 a5 cI cZ) A r u1) (F0 m 131 ls [])
abbrev KP_X5_open_106 (p : Program) (l : Launch) (e : Env) (s : State) (m : MethodId) (args : Array Value) (below : List Frame) (meth : Method) (c : Code) (D : va_G) (cI cZ : ClassId) (a5 : Nat → Nat) (A : Nat → Prop) (r : Int32) (u1 : St) (K : St → Int32 → Int32 → Int32 → Int32 → Int32 → Option (Int32 × St)) : Prop := ∀ (σ : St) (x1 x2 x3 x4 x5 : Int32) (H : Heap) (locs : List Loc) (ls : Array Slot), va_P D vwCl (wX5 a5 cI cZ σ) H → va_D A (wX5 a5 cI cZ σ) → va_S A s.heap H locs → lv_has ls 6 [(0, .ref (a5 0)), (1, .int x1), (2, .int x2), (3, .int x3), (4, .int x4), (5, .int x5)] → K σ x1 x2 x3 x4 x5 = some (r, u1) → W p l e ({ frames := 4, cells := 0, slots := 0, locals := 93 } : Room) s m args below meth c H locs 0 0 (QI below args s D cI cZ (wX5 a5 cI cZ) A r u1) (F0 m 106 ls [])
abbrev KP_X5_open_93 (p : Program) (l : Launch) (e : Env) (s : State) (m : MethodId) (args : Array Value) (below : List Frame) (meth : Method) (c : Code) (D : va_G) (cI cZ : ClassId) (a5 : Nat → Nat) (A : Nat → Prop) (r : Int32) (u1 : St) (K : St → Int32 → Int32 → Int32 → Int32 → Int32 → Option (Int32 × St)) : Prop := ∀ (σ : St) (x1 x2 x3 x4 x5 : Int32) (H : Heap) (locs : List Loc) (ls : Array Slot), va_P D vwCl (wX5 a5 cI cZ σ) H → va_D A (wX5 a5 cI cZ σ) → va_S A s.heap H locs → lv_has ls 6 [(0, .ref (a5 0)), (1, .int x1), (2, .int x2), (3, .int x3), (4, .int x4), (5, .int x5)] → K σ x1 x2 x3 x4 x5 = some (r, u1) → W p l e ({ frames := 4, cells := 0, slots := 0, locals := 93 } : Room) s m args below meth c H locs 0 0 (QI below args s D cI cZ (wX5 a5 cI cZ) A r u1) (F0 m 93 ls [])
set_option maxHeartbeats 4000000 in
set_option maxRecDepth 100000 in
theorem k_X5_open_21 {p : Program} {l : Launch} {e : Env} {s : State} {m : MethodId} {args : Array Value} {below : List Frame} {meth : Method} {c : Code} {D : va_G} {cI cZ : ClassId} {a5 : Nat → Nat} {A : Nat → Prop} {r : Int32} {u1 : St} (C0 : mB p s m args meth c D cI cZ A cX5_open 6 (some .int) wsX5_open RX5) (N : Nat) : KP_X5_open_21 p l e s m args below meth c D cI cZ a5 A r u1 (f_X5_open_21 N) := by
  obtain ⟨hx, hb, hml, hr, hown, hts, hlocks, hA, hK, hN⟩ := id C0
  intro σ H locs ls hP hD hS hl h
  unfold f_X5_open_21 at h
  refine lv_aload_n hx hb dX5_open_21 rfl (lv_at hl 0 rfl) ?_
  refine lv_iconst (v := 1) hx hb dX5_open_22 rfl ?_
  obtain ⟨q1, hq1, h⟩ := ob h
  refine mc_i (ws' := wX5 a5 cI cZ q1.2) (wr := ([] : va_W)) [0, 1, 2, 3, 4, 5, 6, 7, 8, 9, 10, 11, 12, 13, 14, 15, 16, 17, 18, 19, 20, 21, 22] [] [0, 1, 2, 3, 4, 5, 6, 7, 8, 9, 10, 11, 12, 13, 14, 15, 16, 17, 18, 19, 20, 21, 22] (va_runV (As := [.int 1]) (rest := []) ⟨hx, hb, hml, hown, hts⟩ (c_X5_fail l D cI cZ a5 N σ 1 q1.1 q1.2 hq1 H.size) (cwV 1 hts gX5_open_X5_fail rfl rfl rfl (by decide +kernel) ⟨Nat.le_of_ble_eq_true rfl, Nat.le_of_ble_eq_true rfl⟩) (pV [0, 1, 2, 3, 4, 5, 6, 7, 8, 9, 10, 11, 12, 13, 14, 15, 16, 17, 18, 19, 20, 21, 22] hP hD hK hN rfl rfl rfl rfl) rfl rfl hl.1 rfl (lv_room (Nat.le_of_ble_eq_true rfl)) dX5_open_23 ⟨Nat.le_of_ble_eq_true rfl, Nat.le_of_ble_eq_true rfl⟩) hP hD hS hA rfl rfl rfl (by decide) rfl rfl (fun H locs hP hD hS => ?_)
  obtain ⟨rfl, rfl⟩ := so h
  exact ret_i C0 hP hD hS dX5_open_26
set_option maxHeartbeats 4000000 in
set_option maxRecDepth 100000 in
theorem k_X5_open_64 {p : Program} {l : Launch} {e : Env} {s : State} {m : MethodId} {args : Array Value} {below : List Frame} {meth : Method} {c : Code} {D : va_G} {cI cZ : ClassId} {a5 : Nat → Nat} {A : Nat → Prop} {r : Int32} {u1 : St} (C0 : mB p s m args meth c D cI cZ A cX5_open 6 (some .int) wsX5_open RX5) (N : Nat) : KP_X5_open_64 p l e s m args below meth c D cI cZ a5 A r u1 (f_X5_open_64 N) := by
  obtain ⟨hx, hb, hml, hr, hown, hts, hlocks, hA, hK, hN⟩ := id C0
  intro σ H locs ls hP hD hS hl h
  unfold f_X5_open_64 at h
  refine lv_aload_n hx hb dX5_open_64 rfl (lv_at hl 0 rfl) ?_
  refine lv_iconst (v := 2) hx hb dX5_open_65 rfl ?_
  obtain ⟨q1, hq1, h⟩ := ob h
  refine mc_i (ws' := wX5 a5 cI cZ q1.2) (wr := ([] : va_W)) [0, 1, 2, 3, 4, 5, 6, 7, 8, 9, 10, 11, 12, 13, 14, 15, 16, 17, 18, 19, 20, 21, 22] [] [0, 1, 2, 3, 4, 5, 6, 7, 8, 9, 10, 11, 12, 13, 14, 15, 16, 17, 18, 19, 20, 21, 22] (va_runV (As := [.int 2]) (rest := []) ⟨hx, hb, hml, hown, hts⟩ (c_X5_fail l D cI cZ a5 N σ 2 q1.1 q1.2 hq1 H.size) (cwV 1 hts gX5_open_X5_fail rfl rfl rfl (by decide +kernel) ⟨Nat.le_of_ble_eq_true rfl, Nat.le_of_ble_eq_true rfl⟩) (pV [0, 1, 2, 3, 4, 5, 6, 7, 8, 9, 10, 11, 12, 13, 14, 15, 16, 17, 18, 19, 20, 21, 22] hP hD hK hN rfl rfl rfl rfl) rfl rfl hl.1 rfl (lv_room (Nat.le_of_ble_eq_true rfl)) dX5_open_66 ⟨Nat.le_of_ble_eq_true rfl, Nat.le_of_ble_eq_true rfl⟩) hP hD hS hA rfl rfl rfl (by decide) rfl rfl (fun H locs hP hD hS => ?_)
  obtain ⟨rfl, rfl⟩ := so h
  exact ret_i C0 hP hD hS dX5_open_69
set_option maxHeartbeats 4000000 in
set_option maxRecDepth 100000 in
theorem k_X5_open_218 {p : Program} {l : Launch} {e : Env} {s : State} {m : MethodId} {args : Array Value} {below : List Frame} {meth : Method} {c : Code} {D : va_G} {cI cZ : ClassId} {a5 : Nat → Nat} {A : Nat → Prop} {r : Int32} {u1 : St} (C0 : mB p s m args meth c D cI cZ A cX5_open 6 (some .int) wsX5_open RX5) (N : Nat) (k93 : St → Int32 → Int32 → Int32 → Int32 → Int32 → Option (Int32 × St)) (hk93 : KP_X5_open_93 p l e s m args below meth c D cI cZ a5 A r u1 k93) : KP_X5_open_218 p l e s m args below meth c D cI cZ a5 A r u1 (f_X5_open_218 N k93) := by
  obtain ⟨hx, hb, hml, hr, hown, hts, hlocks, hA, hK, hN⟩ := id C0
  intro σ x1 x2 x3 x4 x5 H locs ls hP hD hS hl h
  unfold f_X5_open_218 at h
  refine lv_iinc (v := (x5 + 1)) (lv' := [(5, .int (x5 + 1)), (0, .ref (a5 0)), (1, .int x1), (2, .int x2), (3, .int x3), (4, .int x4)]) hx hb dX5_open_218 hl (k := 5) rfl rfl (by decide) rfl (fun ls hl => ?_)
  refine lv_goto (tgt := 93) hx hb dX5_open_221 (by decide) ?_
  exact hk93 σ x1 x2 x3 x4 (x5 + 1) _ _ _ hP hD hS (lv_sub hl [1, 2, 3, 4, 5, 0] rfl) h
set_option maxHeartbeats 4000000 in
set_option maxRecDepth 100000 in
theorem k_X5_open_186 {p : Program} {l : Launch} {e : Env} {s : State} {m : MethodId} {args : Array Value} {below : List Frame} {meth : Method} {c : Code} {D : va_G} {cI cZ : ClassId} {a5 : Nat → Nat} {A : Nat → Prop} {r : Int32} {u1 : St} (C0 : mB p s m args meth c D cI cZ A cX5_open 6 (some .int) wsX5_open RX5) (N : Nat) (k93 : St → Int32 → Int32 → Int32 → Int32 → Int32 → Option (Int32 × St)) (hk93 : KP_X5_open_93 p l e s m args below meth c D cI cZ a5 A r u1 k93) : KP_X5_open_186 p l e s m args below meth c D cI cZ a5 A r u1 (f_X5_open_186 N k93) := by
  obtain ⟨hx, hb, hml, hr, hown, hts, hlocks, hA, hK, hN⟩ := id C0
  intro σ x1 x2 x4 x5 s0 H locs ls hP hD hS hl h
  unfold f_X5_open_186 at h
  refine lv_istore_n (lv' := [(3, .int s0), (0, .ref (a5 0)), (1, .int x1), (2, .int x2), (4, .int x4), (5, .int x5)]) hx hb dX5_open_186 rfl hl (by decide) rfl (fun ls hl => ?_)
  refine lv_aload_n hx hb dX5_open_187 rfl (lv_at hl 1 rfl) ?_
  refine va_get (D := D) (ci := 5) (v := .ref (a5 21)) (C := RX5) (T := TX5) (N := 30) hx hb hts in_X5_open_X5 hown hK hP 0 rfl rfl 20 (by decide) (hts (.fieldLink RX5 55 "TermLoomModel" "symbol" "[I") (by decide +kernel)) (fun _ h9 => h9) rfl dX5_open_188 ?_
  refine lv_iload hx hb dX5_open_191 (lv_at hl 5 rfl) ?_
  by_cases hi : x5 < 0 ∨ 34100 ≤ (x5).toNatClampNeg
  · rw [if_pos hi] at h; exact no h
  rw [if_neg hi] at h
  refine va_iald (f := (σ 20)) hx hb hK hP 14 0 rfl rfl (i := x5) hi dX5_open_193 ?_
  refine lv_bipush (v := (-2)) hx hb dX5_open_194 rfl ?_
  refine lv_icmp_eq (tgt := 202) hx hb dX5_open_196 (by decide) (fun hc1 => ?_) (fun hc1 => ?_)
  · rw [if_pos hc1] at h
    refine lv_aload_n hx hb dX5_open_202 rfl (lv_at hl 1 rfl) ?_
    refine va_get (D := D) (ci := 5) (v := .ref (a5 25)) (C := RX5) (T := TX5) (N := 30) hx hb hts in_X5_open_X5 hown hK hP 0 rfl rfl 24 (by decide) (hts (.fieldLink RX5 67 "TermLoomModel" "ends" "[I") (by decide +kernel)) (fun _ h9 => h9) rfl dX5_open_203 ?_
    refine lv_iload hx hb dX5_open_206 (lv_at hl 4 rfl) ?_
    refine lv_aload_n hx hb dX5_open_208 rfl (lv_at hl 1 rfl) ?_
    refine lv_iload hx hb dX5_open_209 (lv_at hl 5 rfl) ?_
    obtain ⟨q2, hq2, h⟩ := ob h
    refine mc_i (ws' := wX5 a5 cI cZ q2.2) (wr := ([] : va_W)) [0, 1, 2, 3, 4, 5, 6, 7, 8, 9, 10, 11, 12, 13, 14, 15, 16, 17, 18, 19, 20, 21, 22] [] [0, 1, 2, 3, 4, 5, 6, 7, 8, 9, 10, 11, 12, 13, 14, 15, 16, 17, 18, 19, 20, 21, 22] (va_runV (As := [.int x5]) (rest := [.int x4, .ref (a5 25)]) ⟨hx, hb, hml, hown, hts⟩ (c_X5_endOf l D cI cZ a5 N σ x5 q2.1 q2.2 hq2 H.size) (cwV 1 hts gX5_open_X5_endOf rfl rfl rfl (by decide +kernel) ⟨Nat.le_of_ble_eq_true rfl, Nat.le_of_ble_eq_true rfl⟩) (pV [0, 1, 2, 3, 4, 5, 6, 7, 8, 9, 10, 11, 12, 13, 14, 15, 16, 17, 18, 19, 20, 21, 22] hP hD hK hN rfl rfl rfl rfl) rfl rfl hl.1 rfl (lv_room (Nat.le_of_ble_eq_true rfl)) dX5_open_211 ⟨Nat.le_of_ble_eq_true rfl, Nat.le_of_ble_eq_true rfl⟩) hP hD hS hA rfl rfl rfl (by decide) rfl rfl (fun H locs hP hD hS => ?_)
    by_cases hi : x4 < 0 ∨ 130 ≤ (x4).toNatClampNeg
    · rw [if_pos hi] at h; exact no h
    rw [if_neg hi] at h
    refine va_iast (f := (q2.2 24)) hx hb hK hP hD hS 18 0 rfl rfl (i := x4) (x := q2.1) hi dX5_open_214 (fun H locs hP hD hS => ?_)
    obtain ⟨σ3, eσ3, h⟩ := bn h
    have hP : va_P D vwCl (wX5 a5 cI cZ σ3) H := by rw [eσ3]; exact hP
    have hD : va_D A (wX5 a5 cI cZ σ3) := by rw [eσ3]; exact hD
    refine lv_iinc (v := (x4 + 1)) (lv' := [(4, .int (x4 + 1)), (3, .int s0), (0, .ref (a5 0)), (1, .int x1), (2, .int x2), (5, .int x5)]) hx hb dX5_open_215 hl (k := 4) rfl rfl (by decide) rfl (fun ls hl => ?_)
    exact k_X5_open_218 C0 N k93 hk93 σ3 x1 x2 s0 (x4 + 1) x5 _ _ _ hP hD hS (lv_sub hl [2, 3, 4, 1, 0, 5] rfl) h
  · rw [if_neg hc1] at h
    refine lv_goto (tgt := 218) hx hb dX5_open_199 (by decide) ?_
    exact k_X5_open_218 C0 N k93 hk93 σ x1 x2 s0 x4 x5 _ _ _ hP hD hS (lv_sub hl [1, 2, 3, 0, 4, 5] rfl) h
set_option maxHeartbeats 4000000 in
set_option maxRecDepth 100000 in
theorem k_X5_open_131 {p : Program} {l : Launch} {e : Env} {s : State} {m : MethodId} {args : Array Value} {below : List Frame} {meth : Method} {c : Code} {D : va_G} {cI cZ : ClassId} {a5 : Nat → Nat} {A : Nat → Prop} {r : Int32} {u1 : St} (C0 : mB p s m args meth c D cI cZ A cX5_open 6 (some .int) wsX5_open RX5) (N : Nat) (k93 : St → Int32 → Int32 → Int32 → Int32 → Int32 → Option (Int32 × St)) (hk93 : KP_X5_open_93 p l e s m args below meth c D cI cZ a5 A r u1 k93) : KP_X5_open_131 p l e s m args below meth c D cI cZ a5 A r u1 (f_X5_open_131 N k93) := by
  obtain ⟨hx, hb, hml, hr, hown, hts, hlocks, hA, hK, hN⟩ := id C0
  intro σ x1 x2 x3 x4 x5 H locs ls hP hD hS hl h
  unfold f_X5_open_131 at h
  refine lv_aload_n hx hb dX5_open_131 rfl (lv_at hl 0 rfl) ?_
  refine va_get (D := D) (ci := 5) (v := .ref (a5 21)) (C := RX5) (T := TX5) (N := 30) hx hb hts in_X5_open_X5 hown hK hP 0 rfl rfl 20 (by decide) (hts (.fieldLink RX5 55 "TermLoomModel" "symbol" "[I") (by decide +kernel)) (fun _ h9 => h9) rfl dX5_open_132 ?_
  refine lv_iload hx hb dX5_open_135 (lv_at hl 5 rfl) ?_
  by_cases hi : x5 < 0 ∨ 34100 ≤ (x5).toNatClampNeg
  · rw [if_pos hi] at h; exact no h
  rw [if_neg hi] at h
  refine va_iald (f := (σ 20)) hx hb hK hP 14 0 rfl rfl (i := x5) hi dX5_open_137 ?_
  refine lv_iconst (v := 4) hx hb dX5_open_138 rfl ?_
  refine lv_iload hx hb dX5_open_139 (lv_at hl 4 rfl) ?_
  refine lv_imul hx hb dX5_open_141 ?_
  refine lv_icmp_ne (tgt := 167) hx hb dX5_open_142 (by decide) (fun hc1 => ?_) (fun hc1 => ?_)
  · rw [if_neg hc1] at h
    refine lv_aload_n hx hb dX5_open_167 rfl (lv_at hl 0 rfl) ?_
    refine lv_iload_n hx hb dX5_open_168 rfl (lv_at hl 3 rfl) ?_
    refine lv_aload_n hx hb dX5_open_169 rfl (lv_at hl 0 rfl) ?_
    refine va_get (D := D) (ci := 5) (v := .ref (a5 21)) (C := RX5) (T := TX5) (N := 30) hx hb hts in_X5_open_X5 hown hK hP 0 rfl rfl 20 (by decide) (hts (.fieldLink RX5 55 "TermLoomModel" "symbol" "[I") (by decide +kernel)) (fun _ h9 => h9) rfl dX5_open_170 ?_
    refine lv_iload hx hb dX5_open_173 (lv_at hl 5 rfl) ?_
    by_cases hi : x5 < 0 ∨ 34100 ≤ (x5).toNatClampNeg
    · rw [if_pos hi] at h; exact no h
    rw [if_neg hi] at h
    refine va_iald (f := (σ 20)) hx hb hK hP 14 0 rfl rfl (i := x5) hi dX5_open_175 ?_
    refine lv_aload_n hx hb dX5_open_176 rfl (lv_at hl 0 rfl) ?_
    refine va_get (D := D) (ci := 5) (v := .ref (a5 22)) (C := RX5) (T := TX5) (N := 30) hx hb hts in_X5_open_X5 hown hK hP 0 rfl rfl 21 (by decide) (hts (.fieldLink RX5 58 "TermLoomModel" "type" "[I") (by decide +kernel)) (fun _ h9 => h9) rfl dX5_open_177 ?_
    refine lv_iload hx hb dX5_open_180 (lv_at hl 5 rfl) ?_
    by_cases hi : x5 < 0 ∨ 34100 ≤ (x5).toNatClampNeg
    · rw [if_pos hi] at h; exact no h
    rw [if_neg hi] at h
    refine va_iald (f := (σ 21)) hx hb hK hP 15 0 rfl rfl (i := x5) hi dX5_open_182 ?_
    obtain ⟨q2, hq2, h⟩ := ob h
    refine mc_i (ws' := wX5 a5 cI cZ q2.2) (wr := ([] : va_W)) [0, 1, 2, 3, 4, 5, 6, 7, 8, 9, 10, 11, 12, 13, 14, 15, 16, 17, 18, 19, 20, 21, 22] [] [0, 1, 2, 3, 4, 5, 6, 7, 8, 9, 10, 11, 12, 13, 14, 15, 16, 17, 18, 19, 20, 21, 22] (va_runV (As := [.int x3, .int (σ 20 (x5).toNatClampNeg), .int (σ 21 (x5).toNatClampNeg)]) (rest := []) ⟨hx, hb, hml, hown, hts⟩ (c_X5_write l D cI cZ a5 N σ x3 (σ 20 (x5).toNatClampNeg) (σ 21 (x5).toNatClampNeg) q2.1 q2.2 hq2 H.size) (cwV 3 hts gX5_open_X5_write rfl rfl rfl (by decide +kernel) ⟨Nat.le_of_ble_eq_true rfl, Nat.le_of_ble_eq_true rfl⟩) (pV [0, 1, 2, 3, 4, 5, 6, 7, 8, 9, 10, 11, 12, 13, 14, 15, 16, 17, 18, 19, 20, 21, 22] hP hD hK hN rfl rfl rfl rfl) rfl rfl hl.1 rfl (lv_room (Nat.le_of_ble_eq_true rfl)) dX5_open_183 ⟨Nat.le_of_ble_eq_true rfl, Nat.le_of_ble_eq_true rfl⟩) hP hD hS hA rfl rfl rfl (by decide) rfl rfl (fun H locs hP hD hS => ?_)
    exact k_X5_open_186 C0 N k93 hk93 q2.2 x1 x2 x4 x5 q2.1 _ _ _ hP hD hS (lv_sub hl [0, 1, 2, 4, 5] rfl) h
  · rw [if_pos hc1] at h
    refine lv_aload_n hx hb dX5_open_145 rfl (lv_at hl 0 rfl) ?_
    refine lv_iload_n hx hb dX5_open_146 rfl (lv_at hl 3 rfl) ?_
    refine lv_aload_n hx hb dX5_open_147 rfl (lv_at hl 0 rfl) ?_
    refine va_get (D := D) (ci := 5) (v := .ref (a5 20)) (C := RX5) (T := TX5) (N := 30) hx hb hts in_X5_open_X5 hown hK hP 0 rfl rfl 19 (by decide) (hts (.fieldLink RX5 51 "TermLoomModel" "begin" "[I") (by decide +kernel)) (fun _ h9 => h9) rfl dX5_open_148 ?_
    refine lv_iload_n hx hb dX5_open_151 rfl (lv_at hl 2 rfl) ?_
    by_cases hi : x2 < 0 ∨ 4201 ≤ (x2).toNatClampNeg
    · rw [if_pos hi] at h; exact no h
    rw [if_neg hi] at h
    refine va_iald (f := (σ 19)) hx hb hK hP 13 0 rfl rfl (i := x2) hi dX5_open_152 ?_
    refine lv_aload_n hx hb dX5_open_153 rfl (lv_at hl 0 rfl) ?_
    refine va_get (D := D) (ci := 5) (v := .ref (a5 20)) (C := RX5) (T := TX5) (N := 30) hx hb hts in_X5_open_X5 hown hK hP 0 rfl rfl 19 (by decide) (hts (.fieldLink RX5 51 "TermLoomModel" "begin" "[I") (by decide +kernel)) (fun _ h9 => h9) rfl dX5_open_154 ?_
    refine lv_iload_n hx hb dX5_open_157 rfl (lv_at hl 2 rfl) ?_
    refine lv_iconst (v := 1) hx hb dX5_open_158 rfl ?_
    refine lv_iadd hx hb dX5_open_159 ?_
    by_cases hi : (x2 + 1) < 0 ∨ 4201 ≤ ((x2 + 1)).toNatClampNeg
    · rw [if_pos hi] at h; exact no h
    rw [if_neg hi] at h
    refine va_iald (f := (σ 19)) hx hb hK hP 13 0 rfl rfl (i := (x2 + 1)) hi dX5_open_160 ?_
    obtain ⟨q3, hq3, h⟩ := ob h
    refine mc_i (ws' := wX5 a5 cI cZ q3.2) (wr := ([] : va_W)) [0, 1, 2, 3, 4, 5, 6, 7, 8, 9, 10, 11, 12, 13, 14, 15, 16, 17, 18, 19, 20, 21, 22] [] [0, 1, 2, 3, 4, 5, 6, 7, 8, 9, 10, 11, 12, 13, 14, 15, 16, 17, 18, 19, 20, 21, 22] (va_runV (As := [.int x3, .int (σ 19 (x2).toNatClampNeg), .int (σ 19 ((x2 + 1)).toNatClampNeg)]) (rest := []) ⟨hx, hb, hml, hown, hts⟩ (c_X5_copy l D cI cZ a5 N σ x3 (σ 19 (x2).toNatClampNeg) (σ 19 ((x2 + 1)).toNatClampNeg) q3.1 q3.2 hq3 H.size) (cwV 3 hts gX5_open_X5_copy rfl rfl rfl (by decide +kernel) ⟨Nat.le_of_ble_eq_true rfl, Nat.le_of_ble_eq_true rfl⟩) (pV [0, 1, 2, 3, 4, 5, 6, 7, 8, 9, 10, 11, 12, 13, 14, 15, 16, 17, 18, 19, 20, 21, 22] hP hD hK hN rfl rfl rfl rfl) rfl rfl hl.1 rfl (lv_room (Nat.le_of_ble_eq_true rfl)) dX5_open_161 ⟨Nat.le_of_ble_eq_true rfl, Nat.le_of_ble_eq_true rfl⟩) hP hD hS hA rfl rfl rfl (by decide) rfl rfl (fun H locs hP hD hS => ?_)
    refine lv_goto (tgt := 186) hx hb dX5_open_164 (by decide) ?_
    exact k_X5_open_186 C0 N k93 hk93 q3.2 x1 x2 x4 x5 q3.1 _ _ _ hP hD hS (lv_sub hl [0, 1, 2, 4, 5] rfl) h
set_option maxHeartbeats 4000000 in
set_option maxRecDepth 100000 in
theorem k_X5_open_106 {p : Program} {l : Launch} {e : Env} {s : State} {m : MethodId} {args : Array Value} {below : List Frame} {meth : Method} {c : Code} {D : va_G} {cI cZ : ClassId} {a5 : Nat → Nat} {A : Nat → Prop} {r : Int32} {u1 : St} (C0 : mB p s m args meth c D cI cZ A cX5_open 6 (some .int) wsX5_open RX5) (N : Nat) (k93 : St → Int32 → Int32 → Int32 → Int32 → Int32 → Option (Int32 × St)) (hk93 : KP_X5_open_93 p l e s m args below meth c D cI cZ a5 A r u1 k93) : ∀ n : Nat, KP_X5_open_106 p l e s m args below meth c D cI cZ a5 A r u1 (f_X5_open_106 N k93 n) := by
  obtain ⟨hx, hb, hml, hr, hown, hts, hlocks, hA, hK, hN⟩ := id C0
  intro n
  induction n with
  | zero =>
    intro σ x1 x2 x3 x4 x5 H locs ls hP hD hS hl h
    exact no (show (none : Option (Int32 × St)) = _ from h)
  | succ n ih =>
    intro σ x1 x2 x3 x4 x5 H locs ls hP hD hS hl h
    rw [f_X5_open_106] at h
    refine lv_iload hx hb dX5_open_106 (lv_at hl 4 rfl) ?_
    refine lv_if_le (tgt := 131) hx hb dX5_open_108 (by decide) (fun hc1 => ?_) (fun hc1 => ?_)
    · rw [if_pos hc1] at h
      exact k_X5_open_131 C0 N k93 hk93 σ x1 x2 x3 x4 x5 _ _ _ hP hD hS (lv_sub hl [0, 1, 2, 3, 4, 5] rfl) h
    · rw [if_neg hc1] at h
      refine lv_aload_n hx hb dX5_open_111 rfl (lv_at hl 0 rfl) ?_
      refine va_get (D := D) (ci := 5) (v := .ref (a5 25)) (C := RX5) (T := TX5) (N := 30) hx hb hts in_X5_open_X5 hown hK hP 0 rfl rfl 24 (by decide) (hts (.fieldLink RX5 67 "TermLoomModel" "ends" "[I") (by decide +kernel)) (fun _ h9 => h9) rfl dX5_open_112 ?_
      refine lv_iload hx hb dX5_open_115 (lv_at hl 4 rfl) ?_
      refine lv_iconst (v := 1) hx hb dX5_open_117 rfl ?_
      refine lv_isub hx hb dX5_open_118 ?_
      by_cases hi : (x4 - 1) < 0 ∨ 130 ≤ ((x4 - 1)).toNatClampNeg
      · rw [if_pos hi] at h; exact no h
      rw [if_neg hi] at h
      refine va_iald (f := (σ 24)) hx hb hK hP 18 0 rfl rfl (i := (x4 - 1)) hi dX5_open_119 ?_
      refine lv_iload hx hb dX5_open_120 (lv_at hl 5 rfl) ?_
      refine lv_icmp_gt (tgt := 131) hx hb dX5_open_122 (by decide) (fun hc2 => ?_) (fun hc2 => ?_)
      · rw [if_pos hc2] at h
        exact k_X5_open_131 C0 N k93 hk93 σ x1 x2 x3 x4 x5 _ _ _ hP hD hS (lv_sub hl [0, 1, 2, 3, 4, 5] rfl) h
      · rw [if_neg hc2] at h
        refine lv_iinc (v := (x4 + (-1))) (lv' := [(4, .int (x4 + (-1))), (0, .ref (a5 0)), (1, .int x1), (2, .int x2), (3, .int x3), (5, .int x5)]) hx hb dX5_open_125 hl (k := 4) rfl rfl (by decide) rfl (fun ls hl => ?_)
        refine lv_goto (tgt := 106) hx hb dX5_open_128 (by decide) ?_
        exact ih σ x1 x2 x3 (x4 + (-1)) x5 _ _ _ hP hD hS (lv_sub hl [1, 2, 3, 4, 0, 5] rfl) h
set_option maxHeartbeats 4000000 in
set_option maxRecDepth 100000 in
theorem k_X5_open_93 {p : Program} {l : Launch} {e : Env} {s : State} {m : MethodId} {args : Array Value} {below : List Frame} {meth : Method} {c : Code} {D : va_G} {cI cZ : ClassId} {a5 : Nat → Nat} {A : Nat → Prop} {r : Int32} {u1 : St} (C0 : mB p s m args meth c D cI cZ A cX5_open 6 (some .int) wsX5_open RX5) (N : Nat) : ∀ n : Nat, KP_X5_open_93 p l e s m args below meth c D cI cZ a5 A r u1 (f_X5_open_93 N n) := by
  obtain ⟨hx, hb, hml, hr, hown, hts, hlocks, hA, hK, hN⟩ := id C0
  intro n
  induction n with
  | zero =>
    intro σ x1 x2 x3 x4 x5 H locs ls hP hD hS hl h
    exact no (show (none : Option (Int32 × St)) = _ from h)
  | succ n ih =>
    intro σ x1 x2 x3 x4 x5 H locs ls hP hD hS hl h
    rw [f_X5_open_93] at h
    refine lv_iload hx hb dX5_open_93 (lv_at hl 5 rfl) ?_
    refine lv_aload_n hx hb dX5_open_95 rfl (lv_at hl 0 rfl) ?_
    refine va_get (D := D) (ci := 5) (v := .ref (a5 20)) (C := RX5) (T := TX5) (N := 30) hx hb hts in_X5_open_X5 hown hK hP 0 rfl rfl 19 (by decide) (hts (.fieldLink RX5 51 "TermLoomModel" "begin" "[I") (by decide +kernel)) (fun _ h9 => h9) rfl dX5_open_96 ?_
    refine lv_iload_n hx hb dX5_open_99 rfl (lv_at hl 1 rfl) ?_
    refine lv_iconst (v := 1) hx hb dX5_open_100 rfl ?_
    refine lv_iadd hx hb dX5_open_101 ?_
    by_cases hi : (x1 + 1) < 0 ∨ 4201 ≤ ((x1 + 1)).toNatClampNeg
    · rw [if_pos hi] at h; exact no h
    rw [if_neg hi] at h
    refine va_iald (f := (σ 19)) hx hb hK hP 13 0 rfl rfl (i := (x1 + 1)) hi dX5_open_102 ?_
    refine lv_icmp_ge (tgt := 224) hx hb dX5_open_103 (by decide) (fun hc1 => ?_) (fun hc1 => ?_)
    · rw [if_pos hc1] at h
      refine lv_aload_n hx hb dX5_open_224 rfl (lv_at hl 0 rfl) ?_
      refine lv_iload_n hx hb dX5_open_225 rfl (lv_at hl 3 rfl) ?_
      refine lv_iconst (v := 3) hx hb dX5_open_226 rfl ?_
      obtain ⟨q2, hq2, h⟩ := ob h
      refine mc_i (ws' := wX5 a5 cI cZ q2.2) (wr := ([] : va_W)) [0, 1, 2, 3, 4, 5, 6, 7, 8, 9, 10, 11, 12, 13, 14, 15, 16, 17, 18, 19, 20, 21, 22] [] [0, 1, 2, 3, 4, 5, 6, 7, 8, 9, 10, 11, 12, 13, 14, 15, 16, 17, 18, 19, 20, 21, 22] (va_runV (As := [.int x3, .int 3]) (rest := []) ⟨hx, hb, hml, hown, hts⟩ (c_X5_finish l D cI cZ a5 N σ x3 3 q2.1 q2.2 hq2 H.size) (cwV 2 hts gX5_open_X5_finish rfl rfl rfl (by decide +kernel) ⟨Nat.le_of_ble_eq_true rfl, Nat.le_of_ble_eq_true rfl⟩) (pV [0, 1, 2, 3, 4, 5, 6, 7, 8, 9, 10, 11, 12, 13, 14, 15, 16, 17, 18, 19, 20, 21, 22] hP hD hK hN rfl rfl rfl rfl) rfl rfl hl.1 rfl (lv_room (Nat.le_of_ble_eq_true rfl)) dX5_open_227 ⟨Nat.le_of_ble_eq_true rfl, Nat.le_of_ble_eq_true rfl⟩) hP hD hS hA rfl rfl rfl (by decide) rfl rfl (fun H locs hP hD hS => ?_)
      obtain ⟨rfl, rfl⟩ := so h
      exact ret_i C0 hP hD hS dX5_open_230
    · rw [if_neg hc1] at h
      exact k_X5_open_106 C0 N (f_X5_open_93 N n) ih N σ x1 x2 x3 x4 x5 _ _ _ hP hD hS (lv_sub hl [0, 1, 2, 3, 4, 5] rfl) h
set_option maxHeartbeats 4000000 in
set_option maxRecDepth 100000 in
theorem c_X5_open (l : Launch) (D : va_G) (cI cZ : ClassId) (a5 : Nat → Nat) (N : Nat) (σ : St) (x1 x2 : Int32) : MI l yX5_open wsX5_open ({ frames := 4, cells := 0, slots := 0, locals := 93 } : Room) D cI cZ (wX5 a5 cI cZ) [.ref (a5 0), .int x1, .int x2] σ (f_X5_open N σ x1 x2) := by
  refine MI.of (cc := cX5_open) (maxL := 6) (ret := (some .int)) (own := RX5) (by decide) rfl rfl (Nat.le_of_ble_eq_true rfl) ?_
  intro r u1 h p e s m args below meth c A C0 H locs ls hP hD hS hl
  obtain ⟨hx, hb, hml, hr, hown, hts, hlocks, hA, hK, hN⟩ := id C0
  have hl : lv_has ls 6 [(0, .ref (a5 0)), (1, .int x1), (2, .int x2)] := hl
  unfold f_X5_open at h
  refine lv_aload_n hx hb dX5_open_0 rfl (lv_at hl 0 rfl) ?_
  refine lv_iconst (v := 0) hx hb dX5_open_1 rfl ?_
  refine va_put (D := D) (ci := 5) (v := .int 0) (ty := .int) (C := RX5) (T := TX5) (N := 30) hx hb hts in_X5_open_X5 tyX5 tyX5_ok nmX5 hown hK hP hD hS 0 rfl rfl 0 (by decide) (hts (.fieldLink RX5 85 "TermLoomModel" "code" "I") (by decide +kernel)) (fun _ h9 => h9) rfl (by decide +kernel) rfl rfl (Nat.le_of_ble_eq_true rfl) dX5_open_2 (fun H locs hP hD hS => ?_)
  obtain ⟨σ1, eσ1, h⟩ := bn h
  have hP : va_P D vwCl (wX5 a5 cI cZ σ1) H := by rw [eσ1]; exact hP
  have hD : va_D A (wX5 a5 cI cZ σ1) := by rw [eσ1]; exact hD
  refine lv_aload_n hx hb dX5_open_5 rfl (lv_at hl 0 rfl) ?_
  refine lv_iload_n hx hb dX5_open_6 rfl (lv_at hl 1 rfl) ?_
  obtain ⟨q2, hq2, h⟩ := ob h
  refine mc_i (ws' := wX5 a5 cI cZ q2.2) (wr := ([] : va_W)) [0, 1, 2, 3, 4, 5, 6, 7, 8, 9, 10, 11, 12, 13, 14, 15, 16, 17, 18, 19, 20, 21, 22] [] [0, 1, 2, 3, 4, 5, 6, 7, 8, 9, 10, 11, 12, 13, 14, 15, 16, 17, 18, 19, 20, 21, 22] (va_runV (As := [.int x1]) (rest := []) ⟨hx, hb, hml, hown, hts⟩ (c_X5_isTerm l D cI cZ a5 N σ1 x1 q2.1 q2.2 hq2 H.size) (cwV 1 hts gX5_open_X5_isTerm rfl rfl rfl (by decide +kernel) ⟨Nat.le_of_ble_eq_true rfl, Nat.le_of_ble_eq_true rfl⟩) (pV [0, 1, 2, 3, 4, 5, 6, 7, 8, 9, 10, 11, 12, 13, 14, 15, 16, 17, 18, 19, 20, 21, 22] hP hD hK hN rfl rfl rfl rfl) rfl rfl hl.1 rfl (lv_room (Nat.le_of_ble_eq_true rfl)) dX5_open_7 ⟨Nat.le_of_ble_eq_true rfl, Nat.le_of_ble_eq_true rfl⟩) hP hD hS hA rfl rfl rfl (by decide) rfl rfl (fun H locs hP hD hS => ?_)
  refine lv_if_eq (tgt := 21) hx hb dX5_open_10 (by decide) (fun hc3 => ?_) (fun hc3 => ?_)
  · rw [if_pos hc3] at h
    exact k_X5_open_21 C0 N q2.2 _ _ _ hP hD hS (lv_sub hl [0] rfl) h
  · rw [if_neg hc3] at h
    refine lv_aload_n hx hb dX5_open_13 rfl (lv_at hl 0 rfl) ?_
    refine lv_iload_n hx hb dX5_open_14 rfl (lv_at hl 2 rfl) ?_
    obtain ⟨q4, hq4, h⟩ := ob h
    refine mc_i (ws' := wX5 a5 cI cZ q4.2) (wr := ([] : va_W)) [0, 1, 2, 3, 4, 5, 6, 7, 8, 9, 10, 11, 12, 13, 14, 15, 16, 17, 18, 19, 20, 21, 22] [] [0, 1, 2, 3, 4, 5, 6, 7, 8, 9, 10, 11, 12, 13, 14, 15, 16, 17, 18, 19, 20, 21, 22] (va_runV (As := [.int x2]) (rest := []) ⟨hx, hb, hml, hown, hts⟩ (c_X5_isTerm l D cI cZ a5 N q2.2 x2 q4.1 q4.2 hq4 H.size) (cwV 1 hts gX5_open_X5_isTerm rfl rfl rfl (by decide +kernel) ⟨Nat.le_of_ble_eq_true rfl, Nat.le_of_ble_eq_true rfl⟩) (pV [0, 1, 2, 3, 4, 5, 6, 7, 8, 9, 10, 11, 12, 13, 14, 15, 16, 17, 18, 19, 20, 21, 22] hP hD hK hN rfl rfl rfl rfl) rfl rfl hl.1 rfl (lv_room (Nat.le_of_ble_eq_true rfl)) dX5_open_15 ⟨Nat.le_of_ble_eq_true rfl, Nat.le_of_ble_eq_true rfl⟩) hP hD hS hA rfl rfl rfl (by decide) rfl rfl (fun H locs hP hD hS => ?_)
    refine lv_if_ne (tgt := 27) hx hb dX5_open_18 (by decide) (fun hc5 => ?_) (fun hc5 => ?_)
    · rw [if_neg hc5] at h
      refine lv_aload_n hx hb dX5_open_27 rfl (lv_at hl 0 rfl) ?_
      refine va_get (D := D) (ci := 5) (v := .ref (a5 21)) (C := RX5) (T := TX5) (N := 30) hx hb hts in_X5_open_X5 hown hK hP 0 rfl rfl 20 (by decide) (hts (.fieldLink RX5 55 "TermLoomModel" "symbol" "[I") (by decide +kernel)) (fun _ h9 => h9) rfl dX5_open_28 ?_
      refine lv_aload_n hx hb dX5_open_31 rfl (lv_at hl 0 rfl) ?_
      refine va_get (D := D) (ci := 5) (v := .ref (a5 20)) (C := RX5) (T := TX5) (N := 30) hx hb hts in_X5_open_X5 hown hK hP 0 rfl rfl 19 (by decide) (hts (.fieldLink RX5 51 "TermLoomModel" "begin" "[I") (by decide +kernel)) (fun _ h9 => h9) rfl dX5_open_32 ?_
      refine lv_iload_n hx hb dX5_open_35 rfl (lv_at hl 1 rfl) ?_
      by_cases hi : x1 < 0 ∨ 4201 ≤ (x1).toNatClampNeg
      · rw [if_pos hi] at h; exact no h
      rw [if_neg hi] at h
      refine va_iald (f := (q4.2 19)) hx hb hK hP 13 0 rfl rfl (i := x1) hi dX5_open_36 ?_
      by_cases hi : (q4.2 19 (x1).toNatClampNeg) < 0 ∨ 34100 ≤ ((q4.2 19 (x1).toNatClampNeg)).toNatClampNeg
      · rw [if_pos hi] at h; exact no h
      rw [if_neg hi] at h
      refine va_iald (f := (q4.2 20)) hx hb hK hP 14 0 rfl rfl (i := (q4.2 19 (x1).toNatClampNeg)) hi dX5_open_37 ?_
      refine lv_bipush (v := (-2)) hx hb dX5_open_38 rfl ?_
      refine lv_icmp_ne (tgt := 64) hx hb dX5_open_40 (by decide) (fun hc6 => ?_) (fun hc6 => ?_)
      · rw [if_neg hc6] at h
        exact k_X5_open_64 C0 N q4.2 _ _ _ hP hD hS (lv_sub hl [0] rfl) h
      · rw [if_pos hc6] at h
        refine lv_aload_n hx hb dX5_open_43 rfl (lv_at hl 0 rfl) ?_
        refine va_get (D := D) (ci := 5) (v := .ref (a5 8)) (C := RX5) (T := TX5) (N := 30) hx hb hts in_X5_open_X5 hown hK hP 0 rfl rfl 7 (by decide) (hts (.fieldLink RX5 23 "TermLoomModel" "left" "[I") (by decide +kernel)) (fun _ h9 => h9) rfl dX5_open_44 ?_
        refine lv_aload_n hx hb dX5_open_47 rfl (lv_at hl 0 rfl) ?_
        refine lv_iload_n hx hb dX5_open_48 rfl (lv_at hl 1 rfl) ?_
        obtain ⟨q7, hq7, h⟩ := ob h
        refine mc_i (ws' := wX5 a5 cI cZ q7.2) (wr := ([] : va_W)) [0, 1, 2, 3, 4, 5, 6, 7, 8, 9, 10, 11, 12, 13, 14, 15, 16, 17, 18, 19, 20, 21, 22] [] [0, 1, 2, 3, 4, 5, 6, 7, 8, 9, 10, 11, 12, 13, 14, 15, 16, 17, 18, 19, 20, 21, 22] (va_runV (As := [.int x1]) (rest := [.ref (a5 8)]) ⟨hx, hb, hml, hown, hts⟩ (c_X5_topType l D cI cZ a5 N q4.2 x1 q7.1 q7.2 hq7 H.size) (cwV 1 hts gX5_open_X5_topType rfl rfl rfl (by decide +kernel) ⟨Nat.le_of_ble_eq_true rfl, Nat.le_of_ble_eq_true rfl⟩) (pV [0, 1, 2, 3, 4, 5, 6, 7, 8, 9, 10, 11, 12, 13, 14, 15, 16, 17, 18, 19, 20, 21, 22] hP hD hK hN rfl rfl rfl rfl) rfl rfl hl.1 rfl (lv_room (Nat.le_of_ble_eq_true rfl)) dX5_open_49 ⟨Nat.le_of_ble_eq_true rfl, Nat.le_of_ble_eq_true rfl⟩) hP hD hS hA rfl rfl rfl (by decide) rfl rfl (fun H locs hP hD hS => ?_)
        by_cases hi : q7.1 < 0 ∨ 16000 ≤ (q7.1).toNatClampNeg
        · rw [if_pos hi] at h; exact no h
        rw [if_neg hi] at h
        refine va_iald (f := (q7.2 7)) hx hb hK hP 4 0 rfl rfl (i := q7.1) hi dX5_open_52 ?_
        refine lv_aload_n hx hb dX5_open_53 rfl (lv_at hl 0 rfl) ?_
        refine lv_iload_n hx hb dX5_open_54 rfl (lv_at hl 2 rfl) ?_
        obtain ⟨q8, hq8, h⟩ := ob h
        refine mc_i (ws' := wX5 a5 cI cZ q8.2) (wr := ([] : va_W)) [0, 1, 2, 3, 4, 5, 6, 7, 8, 9, 10, 11, 12, 13, 14, 15, 16, 17, 18, 19, 20, 21, 22] [] [0, 1, 2, 3, 4, 5, 6, 7, 8, 9, 10, 11, 12, 13, 14, 15, 16, 17, 18, 19, 20, 21, 22] (va_runV (As := [.int x2]) (rest := [.int (q7.2 7 (q7.1).toNatClampNeg)]) ⟨hx, hb, hml, hown, hts⟩ (c_X5_topType l D cI cZ a5 N q7.2 x2 q8.1 q8.2 hq8 H.size) (cwV 1 hts gX5_open_X5_topType rfl rfl rfl (by decide +kernel) ⟨Nat.le_of_ble_eq_true rfl, Nat.le_of_ble_eq_true rfl⟩) (pV [0, 1, 2, 3, 4, 5, 6, 7, 8, 9, 10, 11, 12, 13, 14, 15, 16, 17, 18, 19, 20, 21, 22] hP hD hK hN rfl rfl rfl rfl) rfl rfl hl.1 rfl (lv_room (Nat.le_of_ble_eq_true rfl)) dX5_open_55 ⟨Nat.le_of_ble_eq_true rfl, Nat.le_of_ble_eq_true rfl⟩) hP hD hS hA rfl rfl rfl (by decide) rfl rfl (fun H locs hP hD hS => ?_)
        obtain ⟨q9, hq9, h⟩ := ob h
        refine mc_i (ws' := wX5 a5 cI cZ q8.2) (wr := ((wX5o a5 cI cZ q8.2) : va_W)) [] [0, 1, 2, 3, 4, 5, 6, 7, 8, 9, 10, 11, 12, 13, 14, 15, 16, 17, 18, 19, 20, 21, 22] [0, 1, 2, 3, 4, 5, 6, 7, 8, 9, 10, 11, 12, 13, 14, 15, 16, 17, 18, 19, 20, 21, 22] (va_runS (As := [.int (q7.2 7 (q7.1).toNatClampNeg), .int q8.1]) (rest := []) ⟨hx, hb, hml, hown, hts⟩ (c_X5_areSameTypes l D cI cZ N (q7.2 7 (q7.1).toNatClampNeg) q8.1 q9.1 q9.2 hq9 H.size) (va_cwS 2 hts gX5_open_X5_areSameTypes rfl rfl rfl (by decide +kernel) ⟨Nat.le_of_ble_eq_true rfl, Nat.le_of_ble_eq_true rfl⟩) (pS [] hP hD hK hN rfl rfl) rfl rfl hl.1 rfl (lv_room (Nat.le_of_ble_eq_true rfl)) dX5_open_58 ⟨Nat.le_of_ble_eq_true rfl, Nat.le_of_ble_eq_true rfl⟩) hP hD hS hA rfl rfl rfl (by decide) rfl rfl (fun H locs hP hD hS => ?_)
        refine lv_if_ne (tgt := 70) hx hb dX5_open_61 (by decide) (fun hc10 => ?_) (fun hc10 => ?_)
        · rw [if_neg hc10] at h
          refine lv_aload_n hx hb dX5_open_70 rfl (lv_at hl 0 rfl) ?_
          refine va_get (D := D) (ci := 5) (v := .ref (a5 20)) (C := RX5) (T := TX5) (N := 30) hx hb hts in_X5_open_X5 hown hK hP 0 rfl rfl 19 (by decide) (hts (.fieldLink RX5 51 "TermLoomModel" "begin" "[I") (by decide +kernel)) (fun _ h9 => h9) rfl dX5_open_71 ?_
          refine lv_aload_n hx hb dX5_open_74 rfl (lv_at hl 0 rfl) ?_
          refine va_get (D := D) (ci := 5) (v := .int (q8.2 18 0)) (C := RX5) (T := TX5) (N := 30) hx hb hts in_X5_open_X5 hown hK hP 0 rfl rfl 18 (by decide) (hts (.fieldLink RX5 130 "TermLoomModel" "terms" "I") (by decide +kernel)) (fun _ h9 => h9) rfl dX5_open_75 ?_
          by_cases hi : (q8.2 18 0) < 0 ∨ 4201 ≤ ((q8.2 18 0)).toNatClampNeg
          · rw [if_pos hi] at h; exact no h
          rw [if_neg hi] at h
          refine va_iald (f := (q8.2 19)) hx hb hK hP 13 0 rfl rfl (i := (q8.2 18 0)) hi dX5_open_78 ?_
          refine lv_istore_n (lv' := [(3, .int (q8.2 19 ((q8.2 18 0)).toNatClampNeg)), (0, .ref (a5 0)), (1, .int x1), (2, .int x2)]) hx hb dX5_open_79 rfl hl (by decide) rfl (fun ls hl => ?_)
          refine lv_iconst (v := 0) hx hb dX5_open_80 rfl ?_
          refine lv_istore (lv' := [(4, .int 0), (3, .int (q8.2 19 ((q8.2 18 0)).toNatClampNeg)), (0, .ref (a5 0)), (1, .int x1), (2, .int x2)]) hx hb dX5_open_81 hl (by decide) rfl (fun ls hl => ?_)
          refine lv_aload_n hx hb dX5_open_83 rfl (lv_at hl 2 rfl) ?_
          refine va_get (D := D) (ci := 5) (v := .ref (a5 20)) (C := RX5) (T := TX5) (N := 30) hx hb hts in_X5_open_X5 hown hK hP 0 rfl rfl 19 (by decide) (hts (.fieldLink RX5 51 "TermLoomModel" "begin" "[I") (by decide +kernel)) (fun _ h9 => h9) rfl dX5_open_84 ?_
          refine lv_iload_n hx hb dX5_open_87 rfl (lv_at hl 3 rfl) ?_
          by_cases hi : x1 < 0 ∨ 4201 ≤ (x1).toNatClampNeg
          · rw [if_pos hi] at h; exact no h
          rw [if_neg hi] at h
          refine va_iald (f := (q8.2 19)) hx hb hK hP 13 0 rfl rfl (i := x1) hi dX5_open_88 ?_
          refine lv_iconst (v := 1) hx hb dX5_open_89 rfl ?_
          refine lv_iadd hx hb dX5_open_90 ?_
          refine lv_istore (lv' := [(5, .int ((q8.2 19 (x1).toNatClampNeg) + 1)), (4, .int 0), (3, .int (q8.2 19 ((q8.2 18 0)).toNatClampNeg)), (0, .ref (a5 0)), (1, .int x1), (2, .int x2)]) hx hb dX5_open_91 hl (by decide) rfl (fun ls hl => ?_)
          exact k_X5_open_93 C0 N N q8.2 x1 x2 (q8.2 19 ((q8.2 18 0)).toNatClampNeg) 0 ((q8.2 19 (x1).toNatClampNeg) + 1) _ _ _ hP hD hS (lv_sub hl [3, 4, 5, 2, 1, 0] rfl) h
        · rw [if_pos hc10] at h
          exact k_X5_open_64 C0 N q8.2 _ _ _ hP hD hS (lv_sub hl [0] rfl) h
    · rw [if_pos hc5] at h
      exact k_X5_open_21 C0 N q4.2 _ _ _ hP hD hS (lv_sub hl [0] rfl) h

theorem in_X5_put_X5 : ∀ w ∈ u_ws RX5 TX5 30, w ∈ wsX5_put := by decide +kernel
def f_X5_put_29 (N : Nat) (σ : St) : Option (Int32 × St) := (f_X5_fail N σ 1).bind (fun q1 => some (q1.1, q1.2))
def f_X5_put_59 (N : Nat) (σ : St) : Option (Int32 × St) := (f_X5_fail N σ 2).bind (fun q1 => some (q1.1, q1.2))
def f_X5_put_169 (N : Nat) (k97 : St → Int32 → Int32 → Int32 → Int32 → Int32 → Int32 → Option (Int32 × St)) (σ : St) (x1 x2 x3 x4 x6 s0 : Int32) : Option (Int32 × St) := k97 σ x1 x2 x3 x4 s0 (x6 + 1)
def f_X5_put_97 (N : Nat) : Nat → St → Int32 → Int32 → Int32 → Int32 → Int32 → Int32 → Option (Int32 × St)
  | 0, _, _, _, _, _, _, _ => none
  | n + 1, σ, x1, x2, x3, x4, x5, x6 => if (x1 + 1) < 0 ∨ 4201 ≤ ((x1 + 1)).toNatClampNeg then none else if (σ 19 ((x1 + 1)).toNatClampNeg) ≤ x6 then (f_X5_finish N σ x5 3).bind (fun q2 => some (q2.1, q2.2)) else (f_X5_topType N σ x2).bind (fun q3 => (f_X5_isVariable N q3.2 x6 x4 q3.1).bind (fun q4 => if q4.1 = 0 then if x6 < 0 ∨ 34100 ≤ (x6).toNatClampNeg then none else if x6 < 0 ∨ 34100 ≤ (x6).toNatClampNeg then none else (f_X5_write N q4.2 x5 (q4.2 20 (x6).toNatClampNeg) (q4.2 21 (x6).toNatClampNeg)).bind (fun q6 => f_X5_put_169 N (f_X5_put_97 N n) q6.2 x1 x2 x3 x4 x6 q6.1) else if x3 < 0 ∨ 4201 ≤ (x3).toNatClampNeg then none else if (x3 + 1) < 0 ∨ 4201 ≤ ((x3 + 1)).toNatClampNeg then none else (f_X5_copy N q4.2 x5 (q4.2 19 (x3).toNatClampNeg) (q4.2 19 ((x3 + 1)).toNatClampNeg)).bind (fun q7 => f_X5_put_169 N (f_X5_put_97 N n) q7.2 x1 x2 x3 x4 x6 q7.1)))
def f_X5_put (N : Nat) (σ : St) (x1 x2 x3 : Int32) : Option (Int32 × St) := bnd (up2 σ 0 0 0) (fun σ1 => (f_X5_isTerm N σ1 x1).bind (fun q2 => if q2.1 = 0 then f_X5_put_29 N q2.2 else (f_X5_isTerm N q2.2 x2).bind (fun q4 => if q4.1 = 0 then f_X5_put_29 N q4.2 else (f_X5_isTerm N q4.2 x3).bind (fun q6 => if q6.1 = 0 then f_X5_put_29 N q6.2 else (f_X5_isFree N q6.2 x2).bind (fun q8 => if q8.1 = 0 then f_X5_put_59 N q8.2 else (f_X5_topType N q8.2 x2).bind (fun q10 => (f_X5_topType N q10.2 x3).bind (fun q11 => (f_X5_areSameTypes N q10.1 q11.1).bind (fun q12 => if q12.1 = 0 then f_X5_put_59 N q11.2 else if x2 < 0 ∨ 4201 ≤ (x2).toNatClampNeg then none else if (q11.2 19 (x2).toNatClampNeg) < 0 ∨ 34100 ≤ ((q11.2 19 (x2).toNatClampNeg)).toNatClampNeg then none else if (q11.2 18 0) < 0 ∨ 4201 ≤ ((q11.2 18 0)).toNatClampNeg then none else if x1 < 0 ∨ 4201 ≤ (x1).toNatClampNeg then none else f_X5_put_97 N N q11.2 x1 x2 x3 (q11.2 20 ((q11.2 19 (x2).toNatClampNeg)).toNatClampNeg) (q11.2 19 ((q11.2 18 0)).toNatClampNeg) (q11.2 19 (x1).toNatClampNeg)))))))))
abbrev KP_X5_put_29 (p : Program) (l : Launch) (e : Env) (s : State) (m : MethodId) (args : Array Value) (below : List Frame) (meth : Method) (c : Code) (D : va_G) (cI cZ : ClassId) (a5 : Nat → Nat) (A : Nat → Prop) (r : Int32) (u1 : St) (K : St → Option (Int32 × St)) : Prop := ∀ (σ : St) (H : Heap) (locs : List Loc) (ls : Array Slot), va_P D vwCl (wX5 a5 cI cZ σ) H → va_D A (wX5 a5 cI cZ σ) → va_S A s.heap H locs → lv_has ls 7 [(0, .ref (a5 0))] → K σ = some (r, u1) → W p l e ({ frames := 4, cells := 0, slots := 0, locals := 93 } : Room) s m args below meth c H locs 0 0 (QI below args s D cI cZ (wX5 a5 cI cZ) A r u1) (F0 m 29 ls [])
abbrev KP_X5_put_59 (p : Program) (l : Launch) (e : Env) (s : State) (m : MethodId) (args : Array Value) (below : List Frame) (meth : Method) (c : Code) (D : va_G) (cI cZ : ClassId) (a5 : Nat → Nat) (A : Nat → Prop) (r : Int32) (u1 : St) (K : St → Option (Int32 × St)) : Prop := ∀ (σ : St) (H : Heap) (locs : List Loc) (ls : Array Slot), va_P D vwCl (wX5 a5 cI cZ σ) H → va_D A (wX5 a5 cI cZ σ) → va_S A s.heap H locs → lv_has ls 7 [(0, .ref (a5 0))] → K σ = some (r, u1) → W p l e ({ frames := 4, cells := 0, slots := 0, locals := 93 } : Room) s m args below meth c H locs 0 0 (QI below args s D cI cZ (wX5 a5 cI cZ) A r u1) (F0 m 59 ls [])
abbrev KP_X5_put_169 (p : Program) (l : Launch) (e : Env) (s : State) (m : MethodId) (args : Array Value) (below : List Frame) (meth : Method) (c : Code) (D : va_G) (cI cZ : ClassId) (a5 : Nat → Nat) (A : Nat → Prop) (r : Int32) (u1 : St) (K : St → Int32 → Int32 → Int32 → Int32 → Int32 → Int32 → Option (Int32 × St)) : Prop := ∀ (σ : St) (x1 x2 x3 x4 x6 s0 : Int32) (H : Heap) (locs : List Loc) (ls : Array Slot), va_P D vwCl (wX5 a5 cI cZ σ) H → va_D A (wX5 a5 cI cZ σ) → va_S A s.heap H locs → lv_has ls 7 [(0, .ref (a5 0)), (1, .int x1), (2, .int x2), (3, .int x3), (4, .int x4), (6, .int x6)] → K σ x1 x2 x3 x4 x6 s0 = some (r, u1) → W p l e ({ frames := 4, cells := 0, slots := 0, locals := 93 } : Room) s m args below meth c H locs 0 0 (QI below args s D cI cZ (wX5 a5 cI cZ) A r u1) (F0 m 169 ls [.int s0])
abbrev KP_X5_put_97 (p : Program) (l : Launch) (e : Env) (s : State) (m : MethodId) (args : Array Value) (below : List Frame) (meth : Method) (c : Code) (D : va_G) (cI cZ : ClassId) (a5 : Nat → Nat) (A : Nat → Prop) (r : Int32) (u1 : St) (K : St → Int32 → Int32 → Int32 → Int32 → Int32 → Int32 → Option (Int32 × St)) : Prop := ∀ (σ : St) (x1 x2 x3 x4 x5 x6 : Int32) (H : Heap) (locs : List Loc) (ls : Array Slot), va_P D vwCl (wX5 a5 cI cZ σ) H → va_D A (wX5 a5 cI cZ σ) → va_S A s.heap H locs → lv_has ls 7 [(0, .ref (a5 0)), (1, .int x1), (2, .int x2), (3, .int x3), (4, .int x4), (5, .int x5), (6, .int x6)] → K σ x1 x2 x3 x4 x5 x6 = some (r, u1) → W p l e ({ frames := 4, cells := 0, slots := 0, locals := 93 } : Room) s m args below meth c H locs 0 0 (QI below args s D cI cZ (wX5 a5 cI cZ) A r u1) (F0 m 97 ls [])
set_option maxHeartbeats 4000000 in
set_option maxRecDepth 100000 in
theorem k_X5_put_29 {p : Program} {l : Launch} {e : Env} {s : State} {m : MethodId} {args : Array Value} {below : List Frame} {meth : Method} {c : Code} {D : va_G} {cI cZ : ClassId} {a5 : Nat → Nat} {A : Nat → Prop} {r : Int32} {u1 : St} (C0 : mB p s m args meth c D cI cZ A cX5_put 7 (some .int) wsX5_put RX5) (N : Nat) : KP_X5_put_29 p l e s m args below meth c D cI cZ a5 A r u1 (f_X5_put_29 N) := by
  obtain ⟨hx, hb, hml, hr, hown, hts, hlocks, hA, hK, hN⟩ := id C0
  intro σ H locs ls hP hD hS hl h
  unfold f_X5_put_29 at h
  refine lv_aload_n hx hb dX5_put_29 rfl (lv_at hl 0 rfl) ?_
  refine lv_iconst (v := 1) hx hb dX5_put_30 rfl ?_
  obtain ⟨q1, hq1, h⟩ := ob h
  refine mc_i (ws' := wX5 a5 cI cZ q1.2) (wr := ([] : va_W)) [0, 1, 2, 3, 4, 5, 6, 7, 8, 9, 10, 11, 12, 13, 14, 15, 16, 17, 18, 19, 20, 21, 22] [] [0, 1, 2, 3, 4, 5, 6, 7, 8, 9, 10, 11, 12, 13, 14, 15, 16, 17, 18, 19, 20, 21, 22] (va_runV (As := [.int 1]) (rest := []) ⟨hx, hb, hml, hown, hts⟩ (c_X5_fail l D cI cZ a5 N σ 1 q1.1 q1.2 hq1 H.size) (cwV 1 hts gX5_put_X5_fail rfl rfl rfl (by decide +kernel) ⟨Nat.le_of_ble_eq_true rfl, Nat.le_of_ble_eq_true rfl⟩) (pV [0, 1, 2, 3, 4, 5, 6, 7, 8, 9, 10, 11, 12, 13, 14, 15, 16, 17, 18, 19, 20, 21, 22] hP hD hK hN rfl rfl rfl rfl) rfl rfl hl.1 rfl (lv_room (Nat.le_of_ble_eq_true rfl)) dX5_put_31 ⟨Nat.le_of_ble_eq_true rfl, Nat.le_of_ble_eq_true rfl⟩) hP hD hS hA rfl rfl rfl (by decide) rfl rfl (fun H locs hP hD hS => ?_)
  obtain ⟨rfl, rfl⟩ := so h
  exact ret_i C0 hP hD hS dX5_put_34
set_option maxHeartbeats 4000000 in
set_option maxRecDepth 100000 in
theorem k_X5_put_59 {p : Program} {l : Launch} {e : Env} {s : State} {m : MethodId} {args : Array Value} {below : List Frame} {meth : Method} {c : Code} {D : va_G} {cI cZ : ClassId} {a5 : Nat → Nat} {A : Nat → Prop} {r : Int32} {u1 : St} (C0 : mB p s m args meth c D cI cZ A cX5_put 7 (some .int) wsX5_put RX5) (N : Nat) : KP_X5_put_59 p l e s m args below meth c D cI cZ a5 A r u1 (f_X5_put_59 N) := by
  obtain ⟨hx, hb, hml, hr, hown, hts, hlocks, hA, hK, hN⟩ := id C0
  intro σ H locs ls hP hD hS hl h
  unfold f_X5_put_59 at h
  refine lv_aload_n hx hb dX5_put_59 rfl (lv_at hl 0 rfl) ?_
  refine lv_iconst (v := 2) hx hb dX5_put_60 rfl ?_
  obtain ⟨q1, hq1, h⟩ := ob h
  refine mc_i (ws' := wX5 a5 cI cZ q1.2) (wr := ([] : va_W)) [0, 1, 2, 3, 4, 5, 6, 7, 8, 9, 10, 11, 12, 13, 14, 15, 16, 17, 18, 19, 20, 21, 22] [] [0, 1, 2, 3, 4, 5, 6, 7, 8, 9, 10, 11, 12, 13, 14, 15, 16, 17, 18, 19, 20, 21, 22] (va_runV (As := [.int 2]) (rest := []) ⟨hx, hb, hml, hown, hts⟩ (c_X5_fail l D cI cZ a5 N σ 2 q1.1 q1.2 hq1 H.size) (cwV 1 hts gX5_put_X5_fail rfl rfl rfl (by decide +kernel) ⟨Nat.le_of_ble_eq_true rfl, Nat.le_of_ble_eq_true rfl⟩) (pV [0, 1, 2, 3, 4, 5, 6, 7, 8, 9, 10, 11, 12, 13, 14, 15, 16, 17, 18, 19, 20, 21, 22] hP hD hK hN rfl rfl rfl rfl) rfl rfl hl.1 rfl (lv_room (Nat.le_of_ble_eq_true rfl)) dX5_put_61 ⟨Nat.le_of_ble_eq_true rfl, Nat.le_of_ble_eq_true rfl⟩) hP hD hS hA rfl rfl rfl (by decide) rfl rfl (fun H locs hP hD hS => ?_)
  obtain ⟨rfl, rfl⟩ := so h
  exact ret_i C0 hP hD hS dX5_put_64
set_option maxHeartbeats 4000000 in
set_option maxRecDepth 100000 in
theorem k_X5_put_169 {p : Program} {l : Launch} {e : Env} {s : State} {m : MethodId} {args : Array Value} {below : List Frame} {meth : Method} {c : Code} {D : va_G} {cI cZ : ClassId} {a5 : Nat → Nat} {A : Nat → Prop} {r : Int32} {u1 : St} (C0 : mB p s m args meth c D cI cZ A cX5_put 7 (some .int) wsX5_put RX5) (N : Nat) (k97 : St → Int32 → Int32 → Int32 → Int32 → Int32 → Int32 → Option (Int32 × St)) (hk97 : KP_X5_put_97 p l e s m args below meth c D cI cZ a5 A r u1 k97) : KP_X5_put_169 p l e s m args below meth c D cI cZ a5 A r u1 (f_X5_put_169 N k97) := by
  obtain ⟨hx, hb, hml, hr, hown, hts, hlocks, hA, hK, hN⟩ := id C0
  intro σ x1 x2 x3 x4 x6 s0 H locs ls hP hD hS hl h
  unfold f_X5_put_169 at h
  refine lv_istore (lv' := [(5, .int s0), (0, .ref (a5 0)), (1, .int x1), (2, .int x2), (3, .int x3), (4, .int x4), (6, .int x6)]) hx hb dX5_put_169 hl (by decide) rfl (fun ls hl => ?_)
  refine lv_iinc (v := (x6 + 1)) (lv' := [(6, .int (x6 + 1)), (5, .int s0), (0, .ref (a5 0)), (1, .int x1), (2, .int x2), (3, .int x3), (4, .int x4)]) hx hb dX5_put_171 hl (k := 6) rfl rfl (by decide) rfl (fun ls hl => ?_)
  refine lv_goto (tgt := 97) hx hb dX5_put_174 (by decide) ?_
  exact hk97 σ x1 x2 x3 x4 s0 (x6 + 1) _ _ _ hP hD hS (lv_sub hl [2, 3, 4, 5, 6, 1, 0] rfl) h
set_option maxHeartbeats 4000000 in
set_option maxRecDepth 100000 in
theorem k_X5_put_97 {p : Program} {l : Launch} {e : Env} {s : State} {m : MethodId} {args : Array Value} {below : List Frame} {meth : Method} {c : Code} {D : va_G} {cI cZ : ClassId} {a5 : Nat → Nat} {A : Nat → Prop} {r : Int32} {u1 : St} (C0 : mB p s m args meth c D cI cZ A cX5_put 7 (some .int) wsX5_put RX5) (N : Nat) : ∀ n : Nat, KP_X5_put_97 p l e s m args below meth c D cI cZ a5 A r u1 (f_X5_put_97 N n) := by
  obtain ⟨hx, hb, hml, hr, hown, hts, hlocks, hA, hK, hN⟩ := id C0
  intro n
  induction n with
  | zero =>
    intro σ x1 x2 x3 x4 x5 x6 H locs ls hP hD hS hl h
    exact no (show (none : Option (Int32 × St)) = _ from h)
  | succ n ih =>
    intro σ x1 x2 x3 x4 x5 x6 H locs ls hP hD hS hl h
    rw [f_X5_put_97] at h
    refine lv_iload hx hb dX5_put_97 (lv_at hl 6 rfl) ?_
    refine lv_aload_n hx hb dX5_put_99 rfl (lv_at hl 0 rfl) ?_
    refine va_get (D := D) (ci := 5) (v := .ref (a5 20)) (C := RX5) (T := TX5) (N := 30) hx hb hts in_X5_put_X5 hown hK hP 0 rfl rfl 19 (by decide) (hts (.fieldLink RX5 51 "TermLoomModel" "begin" "[I") (by decide +kernel)) (fun _ h9 => h9) rfl dX5_put_100 ?_
    refine lv_iload_n hx hb dX5_put_103 rfl (lv_at hl 1 rfl) ?_
    refine lv_iconst (v := 1) hx hb dX5_put_104 rfl ?_
    refine lv_iadd hx hb dX5_put_105 ?_
    by_cases hi : (x1 + 1) < 0 ∨ 4201 ≤ ((x1 + 1)).toNatClampNeg
    · rw [if_pos hi] at h; exact no h
    rw [if_neg hi] at h
    refine va_iald (f := (σ 19)) hx hb hK hP 13 0 rfl rfl (i := (x1 + 1)) hi dX5_put_106 ?_
    refine lv_icmp_ge (tgt := 177) hx hb dX5_put_107 (by decide) (fun hc1 => ?_) (fun hc1 => ?_)
    · rw [if_pos hc1] at h
      refine lv_aload_n hx hb dX5_put_177 rfl (lv_at hl 0 rfl) ?_
      refine lv_iload hx hb dX5_put_178 (lv_at hl 5 rfl) ?_
      refine lv_iconst (v := 3) hx hb dX5_put_180 rfl ?_
      obtain ⟨q2, hq2, h⟩ := ob h
      refine mc_i (ws' := wX5 a5 cI cZ q2.2) (wr := ([] : va_W)) [0, 1, 2, 3, 4, 5, 6, 7, 8, 9, 10, 11, 12, 13, 14, 15, 16, 17, 18, 19, 20, 21, 22] [] [0, 1, 2, 3, 4, 5, 6, 7, 8, 9, 10, 11, 12, 13, 14, 15, 16, 17, 18, 19, 20, 21, 22] (va_runV (As := [.int x5, .int 3]) (rest := []) ⟨hx, hb, hml, hown, hts⟩ (c_X5_finish l D cI cZ a5 N σ x5 3 q2.1 q2.2 hq2 H.size) (cwV 2 hts gX5_put_X5_finish rfl rfl rfl (by decide +kernel) ⟨Nat.le_of_ble_eq_true rfl, Nat.le_of_ble_eq_true rfl⟩) (pV [0, 1, 2, 3, 4, 5, 6, 7, 8, 9, 10, 11, 12, 13, 14, 15, 16, 17, 18, 19, 20, 21, 22] hP hD hK hN rfl rfl rfl rfl) rfl rfl hl.1 rfl (lv_room (Nat.le_of_ble_eq_true rfl)) dX5_put_181 ⟨Nat.le_of_ble_eq_true rfl, Nat.le_of_ble_eq_true rfl⟩) hP hD hS hA rfl rfl rfl (by decide) rfl rfl (fun H locs hP hD hS => ?_)
      obtain ⟨rfl, rfl⟩ := so h
      exact ret_i C0 hP hD hS dX5_put_184
    · rw [if_neg hc1] at h
      refine lv_aload_n hx hb dX5_put_110 rfl (lv_at hl 0 rfl) ?_
      refine lv_iload hx hb dX5_put_111 (lv_at hl 6 rfl) ?_
      refine lv_iload hx hb dX5_put_113 (lv_at hl 4 rfl) ?_
      refine lv_aload_n hx hb dX5_put_115 rfl (lv_at hl 0 rfl) ?_
      refine lv_iload_n hx hb dX5_put_116 rfl (lv_at hl 2 rfl) ?_
      obtain ⟨q3, hq3, h⟩ := ob h
      refine mc_i (ws' := wX5 a5 cI cZ q3.2) (wr := ([] : va_W)) [0, 1, 2, 3, 4, 5, 6, 7, 8, 9, 10, 11, 12, 13, 14, 15, 16, 17, 18, 19, 20, 21, 22] [] [0, 1, 2, 3, 4, 5, 6, 7, 8, 9, 10, 11, 12, 13, 14, 15, 16, 17, 18, 19, 20, 21, 22] (va_runV (As := [.int x2]) (rest := [.int x4, .int x6, .ref (a5 0)]) ⟨hx, hb, hml, hown, hts⟩ (c_X5_topType l D cI cZ a5 N σ x2 q3.1 q3.2 hq3 H.size) (cwV 1 hts gX5_put_X5_topType rfl rfl rfl (by decide +kernel) ⟨Nat.le_of_ble_eq_true rfl, Nat.le_of_ble_eq_true rfl⟩) (pV [0, 1, 2, 3, 4, 5, 6, 7, 8, 9, 10, 11, 12, 13, 14, 15, 16, 17, 18, 19, 20, 21, 22] hP hD hK hN rfl rfl rfl rfl) rfl rfl hl.1 rfl (lv_room (Nat.le_of_ble_eq_true rfl)) dX5_put_117 ⟨Nat.le_of_ble_eq_true rfl, Nat.le_of_ble_eq_true rfl⟩) hP hD hS hA rfl rfl rfl (by decide) rfl rfl (fun H locs hP hD hS => ?_)
      obtain ⟨q4, hq4, h⟩ := ob h
      refine mc_i (ws' := wX5 a5 cI cZ q4.2) (wr := ([] : va_W)) [0, 1, 2, 3, 4, 5, 6, 7, 8, 9, 10, 11, 12, 13, 14, 15, 16, 17, 18, 19, 20, 21, 22] [] [0, 1, 2, 3, 4, 5, 6, 7, 8, 9, 10, 11, 12, 13, 14, 15, 16, 17, 18, 19, 20, 21, 22] (va_runV (As := [.int x6, .int x4, .int q3.1]) (rest := []) ⟨hx, hb, hml, hown, hts⟩ (c_X5_isVariable l D cI cZ a5 N q3.2 x6 x4 q3.1 q4.1 q4.2 hq4 H.size) (cwV 3 hts gX5_put_X5_isVariable rfl rfl rfl (by decide +kernel) ⟨Nat.le_of_ble_eq_true rfl, Nat.le_of_ble_eq_true rfl⟩) (pV [0, 1, 2, 3, 4, 5, 6, 7, 8, 9, 10, 11, 12, 13, 14, 15, 16, 17, 18, 19, 20, 21, 22] hP hD hK hN rfl rfl rfl rfl) rfl rfl hl.1 rfl (lv_room (Nat.le_of_ble_eq_true rfl)) dX5_put_120 ⟨Nat.le_of_ble_eq_true rfl, Nat.le_of_ble_eq_true rfl⟩) hP hD hS hA rfl rfl rfl (by decide) rfl rfl (fun H locs hP hD hS => ?_)
      refine lv_if_eq (tgt := 149) hx hb dX5_put_123 (by decide) (fun hc5 => ?_) (fun hc5 => ?_)
      · rw [if_pos hc5] at h
        refine lv_aload_n hx hb dX5_put_149 rfl (lv_at hl 0 rfl) ?_
        refine lv_iload hx hb dX5_put_150 (lv_at hl 5 rfl) ?_
        refine lv_aload_n hx hb dX5_put_152 rfl (lv_at hl 0 rfl) ?_
        refine va_get (D := D) (ci := 5) (v := .ref (a5 21)) (C := RX5) (T := TX5) (N := 30) hx hb hts in_X5_put_X5 hown hK hP 0 rfl rfl 20 (by decide) (hts (.fieldLink RX5 55 "TermLoomModel" "symbol" "[I") (by decide +kernel)) (fun _ h9 => h9) rfl dX5_put_153 ?_
        refine lv_iload hx hb dX5_put_156 (lv_at hl 6 rfl) ?_
        by_cases hi : x6 < 0 ∨ 34100 ≤ (x6).toNatClampNeg
        · rw [if_pos hi] at h; exact no h
        rw [if_neg hi] at h
        refine va_iald (f := (q4.2 20)) hx hb hK hP 14 0 rfl rfl (i := x6) hi dX5_put_158 ?_
        refine lv_aload_n hx hb dX5_put_159 rfl (lv_at hl 0 rfl) ?_
        refine va_get (D := D) (ci := 5) (v := .ref (a5 22)) (C := RX5) (T := TX5) (N := 30) hx hb hts in_X5_put_X5 hown hK hP 0 rfl rfl 21 (by decide) (hts (.fieldLink RX5 58 "TermLoomModel" "type" "[I") (by decide +kernel)) (fun _ h9 => h9) rfl dX5_put_160 ?_
        refine lv_iload hx hb dX5_put_163 (lv_at hl 6 rfl) ?_
        by_cases hi : x6 < 0 ∨ 34100 ≤ (x6).toNatClampNeg
        · rw [if_pos hi] at h; exact no h
        rw [if_neg hi] at h
        refine va_iald (f := (q4.2 21)) hx hb hK hP 15 0 rfl rfl (i := x6) hi dX5_put_165 ?_
        obtain ⟨q6, hq6, h⟩ := ob h
        refine mc_i (ws' := wX5 a5 cI cZ q6.2) (wr := ([] : va_W)) [0, 1, 2, 3, 4, 5, 6, 7, 8, 9, 10, 11, 12, 13, 14, 15, 16, 17, 18, 19, 20, 21, 22] [] [0, 1, 2, 3, 4, 5, 6, 7, 8, 9, 10, 11, 12, 13, 14, 15, 16, 17, 18, 19, 20, 21, 22] (va_runV (As := [.int x5, .int (q4.2 20 (x6).toNatClampNeg), .int (q4.2 21 (x6).toNatClampNeg)]) (rest := []) ⟨hx, hb, hml, hown, hts⟩ (c_X5_write l D cI cZ a5 N q4.2 x5 (q4.2 20 (x6).toNatClampNeg) (q4.2 21 (x6).toNatClampNeg) q6.1 q6.2 hq6 H.size) (cwV 3 hts gX5_put_X5_write rfl rfl rfl (by decide +kernel) ⟨Nat.le_of_ble_eq_true rfl, Nat.le_of_ble_eq_true rfl⟩) (pV [0, 1, 2, 3, 4, 5, 6, 7, 8, 9, 10, 11, 12, 13, 14, 15, 16, 17, 18, 19, 20, 21, 22] hP hD hK hN rfl rfl rfl rfl) rfl rfl hl.1 rfl (lv_room (Nat.le_of_ble_eq_true rfl)) dX5_put_166 ⟨Nat.le_of_ble_eq_true rfl, Nat.le_of_ble_eq_true rfl⟩) hP hD hS hA rfl rfl rfl (by decide) rfl rfl (fun H locs hP hD hS => ?_)
        exact k_X5_put_169 C0 N (f_X5_put_97 N n) ih q6.2 x1 x2 x3 x4 x6 q6.1 _ _ _ hP hD hS (lv_sub hl [0, 1, 2, 3, 4, 6] rfl) h
      · rw [if_neg hc5] at h
        refine lv_aload_n hx hb dX5_put_126 rfl (lv_at hl 0 rfl) ?_
        refine lv_iload hx hb dX5_put_127 (lv_at hl 5 rfl) ?_
        refine lv_aload_n hx hb dX5_put_129 rfl (lv_at hl 0 rfl) ?_
        refine va_get (D := D) (ci := 5) (v := .ref (a5 20)) (C := RX5) (T := TX5) (N := 30) hx hb hts in_X5_put_X5 hown hK hP 0 rfl rfl 19 (by decide) (hts (.fieldLink RX5 51 "TermLoomModel" "begin" "[I") (by decide +kernel)) (fun _ h9 => h9) rfl dX5_put_130 ?_
        refine lv_iload_n hx hb dX5_put_133 rfl (lv_at hl 3 rfl) ?_
        by_cases hi : x3 < 0 ∨ 4201 ≤ (x3).toNatClampNeg
        · rw [if_pos hi] at h; exact no h
        rw [if_neg hi] at h
        refine va_iald (f := (q4.2 19)) hx hb hK hP 13 0 rfl rfl (i := x3) hi dX5_put_134 ?_
        refine lv_aload_n hx hb dX5_put_135 rfl (lv_at hl 0 rfl) ?_
        refine va_get (D := D) (ci := 5) (v := .ref (a5 20)) (C := RX5) (T := TX5) (N := 30) hx hb hts in_X5_put_X5 hown hK hP 0 rfl rfl 19 (by decide) (hts (.fieldLink RX5 51 "TermLoomModel" "begin" "[I") (by decide +kernel)) (fun _ h9 => h9) rfl dX5_put_136 ?_
        refine lv_iload_n hx hb dX5_put_139 rfl (lv_at hl 3 rfl) ?_
        refine lv_iconst (v := 1) hx hb dX5_put_140 rfl ?_
        refine lv_iadd hx hb dX5_put_141 ?_
        by_cases hi : (x3 + 1) < 0 ∨ 4201 ≤ ((x3 + 1)).toNatClampNeg
        · rw [if_pos hi] at h; exact no h
        rw [if_neg hi] at h
        refine va_iald (f := (q4.2 19)) hx hb hK hP 13 0 rfl rfl (i := (x3 + 1)) hi dX5_put_142 ?_
        obtain ⟨q7, hq7, h⟩ := ob h
        refine mc_i (ws' := wX5 a5 cI cZ q7.2) (wr := ([] : va_W)) [0, 1, 2, 3, 4, 5, 6, 7, 8, 9, 10, 11, 12, 13, 14, 15, 16, 17, 18, 19, 20, 21, 22] [] [0, 1, 2, 3, 4, 5, 6, 7, 8, 9, 10, 11, 12, 13, 14, 15, 16, 17, 18, 19, 20, 21, 22] (va_runV (As := [.int x5, .int (q4.2 19 (x3).toNatClampNeg), .int (q4.2 19 ((x3 + 1)).toNatClampNeg)]) (rest := []) ⟨hx, hb, hml, hown, hts⟩ (c_X5_copy l D cI cZ a5 N q4.2 x5 (q4.2 19 (x3).toNatClampNeg) (q4.2 19 ((x3 + 1)).toNatClampNeg) q7.1 q7.2 hq7 H.size) (cwV 3 hts gX5_put_X5_copy rfl rfl rfl (by decide +kernel) ⟨Nat.le_of_ble_eq_true rfl, Nat.le_of_ble_eq_true rfl⟩) (pV [0, 1, 2, 3, 4, 5, 6, 7, 8, 9, 10, 11, 12, 13, 14, 15, 16, 17, 18, 19, 20, 21, 22] hP hD hK hN rfl rfl rfl rfl) rfl rfl hl.1 rfl (lv_room (Nat.le_of_ble_eq_true rfl)) dX5_put_143 ⟨Nat.le_of_ble_eq_true rfl, Nat.le_of_ble_eq_true rfl⟩) hP hD hS hA rfl rfl rfl (by decide) rfl rfl (fun H locs hP hD hS => ?_)
        refine lv_goto (tgt := 169) hx hb dX5_put_146 (by decide) ?_
        exact k_X5_put_169 C0 N (f_X5_put_97 N n) ih q7.2 x1 x2 x3 x4 x6 q7.1 _ _ _ hP hD hS (lv_sub hl [0, 1, 2, 3, 4, 6] rfl) h
set_option maxHeartbeats 4000000 in
set_option maxRecDepth 100000 in
theorem c_X5_put (l : Launch) (D : va_G) (cI cZ : ClassId) (a5 : Nat → Nat) (N : Nat) (σ : St) (x1 x2 x3 : Int32) : MI l yX5_put wsX5_put ({ frames := 4, cells := 0, slots := 0, locals := 93 } : Room) D cI cZ (wX5 a5 cI cZ) [.ref (a5 0), .int x1, .int x2, .int x3] σ (f_X5_put N σ x1 x2 x3) := by
  refine MI.of (cc := cX5_put) (maxL := 7) (ret := (some .int)) (own := RX5) (by decide) rfl rfl (Nat.le_of_ble_eq_true rfl) ?_
  intro r u1 h p e s m args below meth c A C0 H locs ls hP hD hS hl
  obtain ⟨hx, hb, hml, hr, hown, hts, hlocks, hA, hK, hN⟩ := id C0
  have hl : lv_has ls 7 [(0, .ref (a5 0)), (1, .int x1), (2, .int x2), (3, .int x3)] := hl
  unfold f_X5_put at h
  refine lv_aload_n hx hb dX5_put_0 rfl (lv_at hl 0 rfl) ?_
  refine lv_iconst (v := 0) hx hb dX5_put_1 rfl ?_
  refine va_put (D := D) (ci := 5) (v := .int 0) (ty := .int) (C := RX5) (T := TX5) (N := 30) hx hb hts in_X5_put_X5 tyX5 tyX5_ok nmX5 hown hK hP hD hS 0 rfl rfl 0 (by decide) (hts (.fieldLink RX5 85 "TermLoomModel" "code" "I") (by decide +kernel)) (fun _ h9 => h9) rfl (by decide +kernel) rfl rfl (Nat.le_of_ble_eq_true rfl) dX5_put_2 (fun H locs hP hD hS => ?_)
  obtain ⟨σ1, eσ1, h⟩ := bn h
  have hP : va_P D vwCl (wX5 a5 cI cZ σ1) H := by rw [eσ1]; exact hP
  have hD : va_D A (wX5 a5 cI cZ σ1) := by rw [eσ1]; exact hD
  refine lv_aload_n hx hb dX5_put_5 rfl (lv_at hl 0 rfl) ?_
  refine lv_iload_n hx hb dX5_put_6 rfl (lv_at hl 1 rfl) ?_
  obtain ⟨q2, hq2, h⟩ := ob h
  refine mc_i (ws' := wX5 a5 cI cZ q2.2) (wr := ([] : va_W)) [0, 1, 2, 3, 4, 5, 6, 7, 8, 9, 10, 11, 12, 13, 14, 15, 16, 17, 18, 19, 20, 21, 22] [] [0, 1, 2, 3, 4, 5, 6, 7, 8, 9, 10, 11, 12, 13, 14, 15, 16, 17, 18, 19, 20, 21, 22] (va_runV (As := [.int x1]) (rest := []) ⟨hx, hb, hml, hown, hts⟩ (c_X5_isTerm l D cI cZ a5 N σ1 x1 q2.1 q2.2 hq2 H.size) (cwV 1 hts gX5_put_X5_isTerm rfl rfl rfl (by decide +kernel) ⟨Nat.le_of_ble_eq_true rfl, Nat.le_of_ble_eq_true rfl⟩) (pV [0, 1, 2, 3, 4, 5, 6, 7, 8, 9, 10, 11, 12, 13, 14, 15, 16, 17, 18, 19, 20, 21, 22] hP hD hK hN rfl rfl rfl rfl) rfl rfl hl.1 rfl (lv_room (Nat.le_of_ble_eq_true rfl)) dX5_put_7 ⟨Nat.le_of_ble_eq_true rfl, Nat.le_of_ble_eq_true rfl⟩) hP hD hS hA rfl rfl rfl (by decide) rfl rfl (fun H locs hP hD hS => ?_)
  refine lv_if_eq (tgt := 29) hx hb dX5_put_10 (by decide) (fun hc3 => ?_) (fun hc3 => ?_)
  · rw [if_pos hc3] at h
    exact k_X5_put_29 C0 N q2.2 _ _ _ hP hD hS (lv_sub hl [0] rfl) h
  · rw [if_neg hc3] at h
    refine lv_aload_n hx hb dX5_put_13 rfl (lv_at hl 0 rfl) ?_
    refine lv_iload_n hx hb dX5_put_14 rfl (lv_at hl 2 rfl) ?_
    obtain ⟨q4, hq4, h⟩ := ob h
    refine mc_i (ws' := wX5 a5 cI cZ q4.2) (wr := ([] : va_W)) [0, 1, 2, 3, 4, 5, 6, 7, 8, 9, 10, 11, 12, 13, 14, 15, 16, 17, 18, 19, 20, 21, 22] [] [0, 1, 2, 3, 4, 5, 6, 7, 8, 9, 10, 11, 12, 13, 14, 15, 16, 17, 18, 19, 20, 21, 22] (va_runV (As := [.int x2]) (rest := []) ⟨hx, hb, hml, hown, hts⟩ (c_X5_isTerm l D cI cZ a5 N q2.2 x2 q4.1 q4.2 hq4 H.size) (cwV 1 hts gX5_put_X5_isTerm rfl rfl rfl (by decide +kernel) ⟨Nat.le_of_ble_eq_true rfl, Nat.le_of_ble_eq_true rfl⟩) (pV [0, 1, 2, 3, 4, 5, 6, 7, 8, 9, 10, 11, 12, 13, 14, 15, 16, 17, 18, 19, 20, 21, 22] hP hD hK hN rfl rfl rfl rfl) rfl rfl hl.1 rfl (lv_room (Nat.le_of_ble_eq_true rfl)) dX5_put_15 ⟨Nat.le_of_ble_eq_true rfl, Nat.le_of_ble_eq_true rfl⟩) hP hD hS hA rfl rfl rfl (by decide) rfl rfl (fun H locs hP hD hS => ?_)
    refine lv_if_eq (tgt := 29) hx hb dX5_put_18 (by decide) (fun hc5 => ?_) (fun hc5 => ?_)
    · rw [if_pos hc5] at h
      exact k_X5_put_29 C0 N q4.2 _ _ _ hP hD hS (lv_sub hl [0] rfl) h
    · rw [if_neg hc5] at h
      refine lv_aload_n hx hb dX5_put_21 rfl (lv_at hl 0 rfl) ?_
      refine lv_iload_n hx hb dX5_put_22 rfl (lv_at hl 3 rfl) ?_
      obtain ⟨q6, hq6, h⟩ := ob h
      refine mc_i (ws' := wX5 a5 cI cZ q6.2) (wr := ([] : va_W)) [0, 1, 2, 3, 4, 5, 6, 7, 8, 9, 10, 11, 12, 13, 14, 15, 16, 17, 18, 19, 20, 21, 22] [] [0, 1, 2, 3, 4, 5, 6, 7, 8, 9, 10, 11, 12, 13, 14, 15, 16, 17, 18, 19, 20, 21, 22] (va_runV (As := [.int x3]) (rest := []) ⟨hx, hb, hml, hown, hts⟩ (c_X5_isTerm l D cI cZ a5 N q4.2 x3 q6.1 q6.2 hq6 H.size) (cwV 1 hts gX5_put_X5_isTerm rfl rfl rfl (by decide +kernel) ⟨Nat.le_of_ble_eq_true rfl, Nat.le_of_ble_eq_true rfl⟩) (pV [0, 1, 2, 3, 4, 5, 6, 7, 8, 9, 10, 11, 12, 13, 14, 15, 16, 17, 18, 19, 20, 21, 22] hP hD hK hN rfl rfl rfl rfl) rfl rfl hl.1 rfl (lv_room (Nat.le_of_ble_eq_true rfl)) dX5_put_23 ⟨Nat.le_of_ble_eq_true rfl, Nat.le_of_ble_eq_true rfl⟩) hP hD hS hA rfl rfl rfl (by decide) rfl rfl (fun H locs hP hD hS => ?_)
      refine lv_if_ne (tgt := 35) hx hb dX5_put_26 (by decide) (fun hc7 => ?_) (fun hc7 => ?_)
      · rw [if_neg hc7] at h
        refine lv_aload_n hx hb dX5_put_35 rfl (lv_at hl 0 rfl) ?_
        refine lv_iload_n hx hb dX5_put_36 rfl (lv_at hl 2 rfl) ?_
        obtain ⟨q8, hq8, h⟩ := ob h
        refine mc_i (ws' := wX5 a5 cI cZ q8.2) (wr := ([] : va_W)) [0, 1, 2, 3, 4, 5, 6, 7, 8, 9, 10, 11, 12, 13, 14, 15, 16, 17, 18, 19, 20, 21, 22] [] [0, 1, 2, 3, 4, 5, 6, 7, 8, 9, 10, 11, 12, 13, 14, 15, 16, 17, 18, 19, 20, 21, 22] (va_runV (As := [.int x2]) (rest := []) ⟨hx, hb, hml, hown, hts⟩ (c_X5_isFree l D cI cZ a5 N q6.2 x2 q8.1 q8.2 hq8 H.size) (cwV 1 hts gX5_put_X5_isFree rfl rfl rfl (by decide +kernel) ⟨Nat.le_of_ble_eq_true rfl, Nat.le_of_ble_eq_true rfl⟩) (pV [0, 1, 2, 3, 4, 5, 6, 7, 8, 9, 10, 11, 12, 13, 14, 15, 16, 17, 18, 19, 20, 21, 22] hP hD hK hN rfl rfl rfl rfl) rfl rfl hl.1 rfl (lv_room (Nat.le_of_ble_eq_true rfl)) dX5_put_37 ⟨Nat.le_of_ble_eq_true rfl, Nat.le_of_ble_eq_true rfl⟩) hP hD hS hA rfl rfl rfl (by decide) rfl rfl (fun H locs hP hD hS => ?_)
        refine lv_if_eq (tgt := 59) hx hb dX5_put_40 (by decide) (fun hc9 => ?_) (fun hc9 => ?_)
        · rw [if_pos hc9] at h
          exact k_X5_put_59 C0 N q8.2 _ _ _ hP hD hS (lv_sub hl [0] rfl) h
        · rw [if_neg hc9] at h
          refine lv_aload_n hx hb dX5_put_43 rfl (lv_at hl 0 rfl) ?_
          refine lv_iload_n hx hb dX5_put_44 rfl (lv_at hl 2 rfl) ?_
          obtain ⟨q10, hq10, h⟩ := ob h
          refine mc_i (ws' := wX5 a5 cI cZ q10.2) (wr := ([] : va_W)) [0, 1, 2, 3, 4, 5, 6, 7, 8, 9, 10, 11, 12, 13, 14, 15, 16, 17, 18, 19, 20, 21, 22] [] [0, 1, 2, 3, 4, 5, 6, 7, 8, 9, 10, 11, 12, 13, 14, 15, 16, 17, 18, 19, 20, 21, 22] (va_runV (As := [.int x2]) (rest := []) ⟨hx, hb, hml, hown, hts⟩ (c_X5_topType l D cI cZ a5 N q8.2 x2 q10.1 q10.2 hq10 H.size) (cwV 1 hts gX5_put_X5_topType rfl rfl rfl (by decide +kernel) ⟨Nat.le_of_ble_eq_true rfl, Nat.le_of_ble_eq_true rfl⟩) (pV [0, 1, 2, 3, 4, 5, 6, 7, 8, 9, 10, 11, 12, 13, 14, 15, 16, 17, 18, 19, 20, 21, 22] hP hD hK hN rfl rfl rfl rfl) rfl rfl hl.1 rfl (lv_room (Nat.le_of_ble_eq_true rfl)) dX5_put_45 ⟨Nat.le_of_ble_eq_true rfl, Nat.le_of_ble_eq_true rfl⟩) hP hD hS hA rfl rfl rfl (by decide) rfl rfl (fun H locs hP hD hS => ?_)
          refine lv_aload_n hx hb dX5_put_48 rfl (lv_at hl 0 rfl) ?_
          refine lv_iload_n hx hb dX5_put_49 rfl (lv_at hl 3 rfl) ?_
          obtain ⟨q11, hq11, h⟩ := ob h
          refine mc_i (ws' := wX5 a5 cI cZ q11.2) (wr := ([] : va_W)) [0, 1, 2, 3, 4, 5, 6, 7, 8, 9, 10, 11, 12, 13, 14, 15, 16, 17, 18, 19, 20, 21, 22] [] [0, 1, 2, 3, 4, 5, 6, 7, 8, 9, 10, 11, 12, 13, 14, 15, 16, 17, 18, 19, 20, 21, 22] (va_runV (As := [.int x3]) (rest := [.int q10.1]) ⟨hx, hb, hml, hown, hts⟩ (c_X5_topType l D cI cZ a5 N q10.2 x3 q11.1 q11.2 hq11 H.size) (cwV 1 hts gX5_put_X5_topType rfl rfl rfl (by decide +kernel) ⟨Nat.le_of_ble_eq_true rfl, Nat.le_of_ble_eq_true rfl⟩) (pV [0, 1, 2, 3, 4, 5, 6, 7, 8, 9, 10, 11, 12, 13, 14, 15, 16, 17, 18, 19, 20, 21, 22] hP hD hK hN rfl rfl rfl rfl) rfl rfl hl.1 rfl (lv_room (Nat.le_of_ble_eq_true rfl)) dX5_put_50 ⟨Nat.le_of_ble_eq_true rfl, Nat.le_of_ble_eq_true rfl⟩) hP hD hS hA rfl rfl rfl (by decide) rfl rfl (fun H locs hP hD hS => ?_)
          obtain ⟨q12, hq12, h⟩ := ob h
          refine mc_i (ws' := wX5 a5 cI cZ q11.2) (wr := ((wX5o a5 cI cZ q11.2) : va_W)) [] [0, 1, 2, 3, 4, 5, 6, 7, 8, 9, 10, 11, 12, 13, 14, 15, 16, 17, 18, 19, 20, 21, 22] [0, 1, 2, 3, 4, 5, 6, 7, 8, 9, 10, 11, 12, 13, 14, 15, 16, 17, 18, 19, 20, 21, 22] (va_runS (As := [.int q10.1, .int q11.1]) (rest := []) ⟨hx, hb, hml, hown, hts⟩ (c_X5_areSameTypes l D cI cZ N q10.1 q11.1 q12.1 q12.2 hq12 H.size) (va_cwS 2 hts gX5_put_X5_areSameTypes rfl rfl rfl (by decide +kernel) ⟨Nat.le_of_ble_eq_true rfl, Nat.le_of_ble_eq_true rfl⟩) (pS [] hP hD hK hN rfl rfl) rfl rfl hl.1 rfl (lv_room (Nat.le_of_ble_eq_true rfl)) dX5_put_53 ⟨Nat.le_of_ble_eq_true rfl, Nat.le_of_ble_eq_true rfl⟩) hP hD hS hA rfl rfl rfl (by decide) rfl rfl (fun H locs hP hD hS => ?_)
          refine lv_if_ne (tgt := 65) hx hb dX5_put_56 (by decide) (fun hc13 => ?_) (fun hc13 => ?_)
          · rw [if_neg hc13] at h
            refine lv_aload_n hx hb dX5_put_65 rfl (lv_at hl 0 rfl) ?_
            refine va_get (D := D) (ci := 5) (v := .ref (a5 21)) (C := RX5) (T := TX5) (N := 30) hx hb hts in_X5_put_X5 hown hK hP 0 rfl rfl 20 (by decide) (hts (.fieldLink RX5 55 "TermLoomModel" "symbol" "[I") (by decide +kernel)) (fun _ h9 => h9) rfl dX5_put_66 ?_
            refine lv_aload_n hx hb dX5_put_69 rfl (lv_at hl 0 rfl) ?_
            refine va_get (D := D) (ci := 5) (v := .ref (a5 20)) (C := RX5) (T := TX5) (N := 30) hx hb hts in_X5_put_X5 hown hK hP 0 rfl rfl 19 (by decide) (hts (.fieldLink RX5 51 "TermLoomModel" "begin" "[I") (by decide +kernel)) (fun _ h9 => h9) rfl dX5_put_70 ?_
            refine lv_iload_n hx hb dX5_put_73 rfl (lv_at hl 2 rfl) ?_
            by_cases hi : x2 < 0 ∨ 4201 ≤ (x2).toNatClampNeg
            · rw [if_pos hi] at h; exact no h
            rw [if_neg hi] at h
            refine va_iald (f := (q11.2 19)) hx hb hK hP 13 0 rfl rfl (i := x2) hi dX5_put_74 ?_
            by_cases hi : (q11.2 19 (x2).toNatClampNeg) < 0 ∨ 34100 ≤ ((q11.2 19 (x2).toNatClampNeg)).toNatClampNeg
            · rw [if_pos hi] at h; exact no h
            rw [if_neg hi] at h
            refine va_iald (f := (q11.2 20)) hx hb hK hP 14 0 rfl rfl (i := (q11.2 19 (x2).toNatClampNeg)) hi dX5_put_75 ?_
            refine lv_istore (lv' := [(4, .int (q11.2 20 ((q11.2 19 (x2).toNatClampNeg)).toNatClampNeg)), (0, .ref (a5 0)), (1, .int x1), (2, .int x2), (3, .int x3)]) hx hb dX5_put_76 hl (by decide) rfl (fun ls hl => ?_)
            refine lv_aload_n hx hb dX5_put_78 rfl (lv_at hl 1 rfl) ?_
            refine va_get (D := D) (ci := 5) (v := .ref (a5 20)) (C := RX5) (T := TX5) (N := 30) hx hb hts in_X5_put_X5 hown hK hP 0 rfl rfl 19 (by decide) (hts (.fieldLink RX5 51 "TermLoomModel" "begin" "[I") (by decide +kernel)) (fun _ h9 => h9) rfl dX5_put_79 ?_
            refine lv_aload_n hx hb dX5_put_82 rfl (lv_at hl 1 rfl) ?_
            refine va_get (D := D) (ci := 5) (v := .int (q11.2 18 0)) (C := RX5) (T := TX5) (N := 30) hx hb hts in_X5_put_X5 hown hK hP 0 rfl rfl 18 (by decide) (hts (.fieldLink RX5 130 "TermLoomModel" "terms" "I") (by decide +kernel)) (fun _ h9 => h9) rfl dX5_put_83 ?_
            by_cases hi : (q11.2 18 0) < 0 ∨ 4201 ≤ ((q11.2 18 0)).toNatClampNeg
            · rw [if_pos hi] at h; exact no h
            rw [if_neg hi] at h
            refine va_iald (f := (q11.2 19)) hx hb hK hP 13 0 rfl rfl (i := (q11.2 18 0)) hi dX5_put_86 ?_
            refine lv_istore (lv' := [(5, .int (q11.2 19 ((q11.2 18 0)).toNatClampNeg)), (4, .int (q11.2 20 ((q11.2 19 (x2).toNatClampNeg)).toNatClampNeg)), (0, .ref (a5 0)), (1, .int x1), (2, .int x2), (3, .int x3)]) hx hb dX5_put_87 hl (by decide) rfl (fun ls hl => ?_)
            refine lv_aload_n hx hb dX5_put_89 rfl (lv_at hl 2 rfl) ?_
            refine va_get (D := D) (ci := 5) (v := .ref (a5 20)) (C := RX5) (T := TX5) (N := 30) hx hb hts in_X5_put_X5 hown hK hP 0 rfl rfl 19 (by decide) (hts (.fieldLink RX5 51 "TermLoomModel" "begin" "[I") (by decide +kernel)) (fun _ h9 => h9) rfl dX5_put_90 ?_
            refine lv_iload_n hx hb dX5_put_93 rfl (lv_at hl 3 rfl) ?_
            by_cases hi : x1 < 0 ∨ 4201 ≤ (x1).toNatClampNeg
            · rw [if_pos hi] at h; exact no h
            rw [if_neg hi] at h
            refine va_iald (f := (q11.2 19)) hx hb hK hP 13 0 rfl rfl (i := x1) hi dX5_put_94 ?_
            refine lv_istore (lv' := [(6, .int (q11.2 19 (x1).toNatClampNeg)), (5, .int (q11.2 19 ((q11.2 18 0)).toNatClampNeg)), (4, .int (q11.2 20 ((q11.2 19 (x2).toNatClampNeg)).toNatClampNeg)), (0, .ref (a5 0)), (1, .int x1), (2, .int x2), (3, .int x3)]) hx hb dX5_put_95 hl (by decide) rfl (fun ls hl => ?_)
            exact k_X5_put_97 C0 N N q11.2 x1 x2 x3 (q11.2 20 ((q11.2 19 (x2).toNatClampNeg)).toNatClampNeg) (q11.2 19 ((q11.2 18 0)).toNatClampNeg) (q11.2 19 (x1).toNatClampNeg) _ _ _ hP hD hS (lv_sub hl [3, 4, 5, 6, 2, 1, 0] rfl) h
          · rw [if_pos hc13] at h
            exact k_X5_put_59 C0 N q11.2 _ _ _ hP hD hS (lv_sub hl [0] rfl) h
      · rw [if_pos hc7] at h
        exact k_X5_put_29 C0 N q6.2 _ _ _ hP hD hS (lv_sub hl [0] rfl) h
